section M9
variable {p : Program} {l : Launch} {e : Env} {R : Room} {s : State} {m : MethodId} {args : Array Value} {below : List Frame} {meth : Method} {c : Code} {Q : State → Prop} {D : va_G} {cA : Nat → ClassId} {A : Nat → Prop} {ad0 : Nat → Nat} {n0 z0 nL : Nat} {cc : ByteArray} {fz : List (List Int32)} {y : MethodName} {r : Option FieldType}
variable {pc pc' len : Nat} {lv lv' : m_V} {st st' : List Value} {σ σ' : m_S} {ins : Instr} {I : m_I}
theorem m_wsr {ad : Nat → Nat} {b : Nat} {x : va_E} {z : m_E} {H : Heap} (he : x = m_te cA ad z) : va_P D vwCl ((m_w cA ad σ).set b (ad b, x)) H → va_P D vwCl ((m_w cA ad σ).set b (ad b, m_te cA ad z)) H := by subst he; exact id
theorem m_wdr {ad : Nat → Nat} {b : Nat} {x : va_E} {z : m_E} (he : x = m_te cA ad z) : va_D A ((m_w cA ad σ).set b (ad b, x)) → va_D A ((m_w cA ad σ).set b (ad b, m_te cA ad z)) := by subst he; exact id
theorem m_e0 {ad : Nat → Nat} {t k : Nat} {xs : List Int32} {x : Int32} (hk : k < xs.length) : (Sum.inl (cA t, xs.length, .inl (upd (fun j => xs.getD j 0) k x)) : va_E) = m_te cA ad (.inl (t, .inl (xs.set k x))) := by
  rw [m_upd hk]
  show _ = Sum.inl (cA t, (xs.set k x).length, _)
  rw [List.length_set]
theorem m_e1 {ad : Nat → Nat} {t k : Nat} {xs : List Int64} {x : Int64} (hk : k < xs.length) : (Sum.inl (cA t, xs.length, .inr (.inl (vp_updL (fun j => xs.getD j 0) k x))) : va_E) = m_te cA ad (.inl (t, .inr (.inl (xs.set k x)))) := by
  rw [m_updL hk]
  show _ = Sum.inl (cA t, (xs.set k x).length, _)
  rw [List.length_set]
theorem m_e2 {ad : Nat → Nat} {t k r : Nat} {xs : List (Option Nat)} (hk : k < xs.length) : (Sum.inl (cA t, xs.length, .inr (.inr (.inr (.inr (va_up (fun j => (xs.getD j none).map ad) k (some (ad r))))))) : va_E) = m_te cA ad (.inl (t, .inr (.inr (xs.set k (some r))))) := by
  rw [m_updQ hk]
  show _ = Sum.inl (cA t, (xs.set k (some r)).length, _)
  rw [List.length_set]
theorem m_e3 {ad : Nat → Nat} {t sp dp n : Nat} {xs ys : List Int32} (h : dp + n ≤ ys.length) : (Sum.inl (cA t, ys.length, .inl (va_cpy (fun j => xs.getD j 0) (fun j => ys.getD j 0) sp dp n)) : va_E) = m_te cA ad (.inl (t, .inl (m_cpy 0 xs ys sp dp n))) := by
  rw [m_cpy_eq h]
  show _ = Sum.inl (cA t, (m_cpy 0 xs ys sp dp n).length, _)
  rw [m_cpy_len]
theorem m_e4 {ad : Nat → Nat} {t sp dp n : Nat} {xs ys : List Int64} (h : dp + n ≤ ys.length) : (Sum.inl (cA t, ys.length, .inr (.inl (va_cpy (fun j => xs.getD j 0) (fun j => ys.getD j 0) sp dp n))) : va_E) = m_te cA ad (.inl (t, .inr (.inl (m_cpy 0 xs ys sp dp n)))) := by
  rw [m_cpy_eq h]
  show _ = Sum.inl (cA t, (m_cpy 0 xs ys sp dp n).length, _)
  rw [m_cpy_len]
set_option maxHeartbeats 4000000 in
theorem m_store (K : m_Cx p s m args meth c D cA A ad0 nL cc y r fz) (hcl : m_clsOk) (hd : decode cc pc = .ok (ins, len)) (ht : m_tri y nL r pc ins len = some I) (hI : I.1 = 19) (hs : m_step fz I (pc + len) lv st σ = some (.inl (pc', lv', st', σ'))) (k : m_WW p l e R s m args below meth c Q D cA A ad0 n0 z0 nL pc' lv' st' σ') : m_WW p l e R s m args below meth c Q D cA A ad0 n0 z0 nL pc lv st σ := by
  obtain ⟨hx, hb, hml, hown, hts, hr, hlocks, hnm, hK, hA, hFz, hN⟩ := K
  cases ins with
  | iastore =>
    obtain ⟨rfl, rfl⟩ := m_if ht
    obtain ⟨w, i, b, t, τ, rfl, h1, h3⟩ := m_d19 hs
    cases h3
    intro ad H locs ls he hP hD hS hl
    unfold m_ast at h1
    split at h1
    · rename_i tt xs x hxs
      split at h1
      · rename_i h5
        have h6 := m_in_lt h5
        simp only [Nat.zero_ne_one, false_and, if_false, true_and] at h1
        obtain ⟨rfl, rfl⟩ := m_if h1
        exact va_iast hx hb hK hP hD hS b 0 (m_w_at hxs) (m_tys_at cA (by decide)) (m_in_vp h5) hd (fun H1 locs1 hP1 hD1 hS1 => m_put k hxs (by simp [m_es]) he (m_wsr (m_e0 h6) hP1) (m_wdr (m_e0 h6) hD1) hS1 hl)
      · cases h1
    · rename_i tt xs x hxs
      obtain ⟨⟨h4, h7, h5⟩, rfl⟩ := m_if h1
      have h6 := m_in_lt h5
      exact absurd h4 (by decide)
    · rename_i tt xs rr hxs
      split at h1
      · rename_i ci fs hrr
        obtain ⟨⟨rfl, h4, h7, h5⟩, rfl⟩ := m_if h1
        have h6 := m_in_lt h5
        exact absurd h4 (by decide)
      · cases h1
    · cases h1
  | bastore =>
    obtain ⟨rfl, rfl⟩ := m_if ht
    obtain ⟨w, i, b, t, τ, rfl, h1, h3⟩ := m_d19 hs
    cases h3
    intro ad H locs ls he hP hD hS hl
    unfold m_ast at h1
    split at h1
    · rename_i tt xs x hxs
      split at h1
      · rename_i h5
        have h6 := m_in_lt h5
        simp only [Nat.one_ne_zero, false_and, if_false, true_and] at h1
        split at h1
        · rename_i h8
          subst h8
          cases h1
          exact va_bast hx hb hK hP hD hS b 1 (m_w_at hxs) (m_tys_at cA (by decide)) (m_in_vp h5) hd (fun H1 locs1 hP1 hD1 hS1 => m_put k hxs (by simp [m_es]) he (m_wsr (m_e0 h6) hP1) (m_wdr (m_e0 h6) hD1) hS1 hl)
        · obtain ⟨rfl, rfl⟩ := m_if h1
          exact va_zast hx hb hK hP hD hS b 2 (m_w_at hxs) (m_tys_at cA (by decide)) (m_in_vp h5) hd (fun H1 locs1 hP1 hD1 hS1 => m_put k hxs (by simp [m_es]) he (m_wsr (m_e0 h6) hP1) (m_wdr (m_e0 h6) hD1) hS1 hl)
      · cases h1
    · rename_i tt xs x hxs
      obtain ⟨⟨h4, h7, h5⟩, rfl⟩ := m_if h1
      have h6 := m_in_lt h5
      exact absurd h4 (by decide)
    · rename_i tt xs rr hxs
      split at h1
      · rename_i ci fs hrr
        obtain ⟨⟨rfl, h4, h7, h5⟩, rfl⟩ := m_if h1
        have h6 := m_in_lt h5
        exact absurd h4 (by decide)
      · cases h1
    · cases h1
  | lastore =>
    obtain ⟨rfl, rfl⟩ := m_if ht
    obtain ⟨w, i, b, t, τ, rfl, h1, h3⟩ := m_d19 hs
    cases h3
    intro ad H locs ls he hP hD hS hl
    unfold m_ast at h1
    split at h1
    · rename_i tt xs x hxs
      split at h1
      · rename_i h5
        have h6 := m_in_lt h5
        simp at h1
      · cases h1
    · rename_i tt xs x hxs
      obtain ⟨⟨h4, h7, h5⟩, rfl⟩ := m_if h1
      have h6 := m_in_lt h5
      subst h7
      exact va_last hx hb hK hP hD hS b 3 (m_w_at hxs) (m_tys_at cA (by decide)) (m_in_vp h5) hd (fun H1 locs1 hP1 hD1 hS1 => m_put k hxs (by simp [m_es]) he (m_wsr (m_e1 h6) hP1) (m_wdr (m_e1 h6) hD1) hS1 hl)
    · rename_i tt xs rr hxs
      split at h1
      · rename_i ci fs hrr
        obtain ⟨⟨rfl, h4, h7, h5⟩, rfl⟩ := m_if h1
        have h6 := m_in_lt h5
        exact absurd h4 (by decide)
      · cases h1
    · cases h1
  | aastore =>
    obtain ⟨rfl, rfl⟩ := m_if ht
    obtain ⟨w, i, b, t, τ, rfl, h1, h3⟩ := m_d19 hs
    cases h3
    intro ad H locs ls he hP hD hS hl
    unfold m_ast at h1
    split at h1
    · rename_i tt xs x hxs
      split at h1
      · rename_i h5
        have h6 := m_in_lt h5
        simp at h1
      · cases h1
    · rename_i tt xs x hxs
      obtain ⟨⟨h4, h7, h5⟩, rfl⟩ := m_if h1
      have h6 := m_in_lt h5
      exact absurd h4 (by decide)
    · rename_i tt xs rr hxs
      split at h1
      · rename_i ci fs hrr
        obtain ⟨⟨rfl, h4, h7, h5⟩, rfl⟩ := m_if h1
        have h6 := m_in_lt h5
        subst h7
        exact va_astq hx hb hK hP hD hS b 4 rr 1 (r := (RX1, TX1, 17)) (m_w_at hxs) (m_tys_at cA (by decide)) (m_w_at hrr) rfl (m_in_vp h5) hd (fun H1 locs1 hP1 hD1 hS1 => m_put k hxs (by simp [m_es]) he (m_wsr (m_e2 h6) hP1) (m_wdr (m_e2 h6) hD1) hS1 hl)
      · cases h1
    · cases h1
  | _ =>
    simp only [m_tri] at ht
    repeat' split at ht
    all_goals first | (cases ht; done) | (obtain ⟨-, rfl⟩ := m_if ht; dsimp only at hI; omega) | (cases ht; dsimp only at hI; omega)
set_option maxHeartbeats 4000000 in
theorem m_sys (K : m_Cx p s m args meth c D cA A ad0 nL cc y r fz) (hlk : m_lkAll) (hg : m_glob) (hRf : 1 ≤ R.frames) (hRl : 100 ≤ R.locals) (hd : decode cc pc = .ok (ins, len)) (ht : m_tri y nL r pc ins len = some I) (hI : I.1 = 25 ∨ I.1 = 26) (hs : m_step fz I (pc + len) lv st σ = some (.inl (pc', lv', st', σ'))) (k : m_WW p l e R s m args below meth c Q D cA A ad0 n0 z0 nL pc' lv' st' σ') : m_WW p l e R s m args below meth c Q D cA A ad0 n0 z0 nL pc lv st σ := by
  obtain ⟨hx, hb, hml, hown, hts, hr, hlocks, hnm, hK, hA, hFz, hN⟩ := K
  cases ins with
  | invokespecial i =>
    simp only [m_tri] at ht
    split at ht
    · obtain ⟨-, rfl⟩ := m_if ht
      dsimp only at hI
      omega
    · rename_i h1
      obtain ⟨rfl, rfl⟩ := m_if ht
      obtain ⟨b, t, rfl, h2, h3⟩ := m_d25 hs
      cases h3
      intro ad H locs ls he hP hD hS hl
      have h2' : ((st'.map (m_tv ad)).map fun v => v.category).sum ≤ 8 := by simpa [List.map_map, Function.comp_def, m_tv_cat] using h2
      refine W.objInit hx hb hown (hts _ (hlk _ _ _ h1)) (hts _ hg.2.1) (hts _ hg.2.2.1) rfl (hl.1.trans hml.symm) rfl hd hRf ?_ (k ad H locs ls he hP hD hS hl)
      have h4 := lv_room (m := m) (pc := pc) (ls := ls) (rest := st'.map (m_tv ad)) h2'
      have h5 : (F0 m pc ls (st'.map (m_tv ad))).monitorRoom = 0 := rfl
      show 2 * (F0 m pc ls _).monitorRoom + _ + 12 ≤ R.locals
      have h6 : (F0 m pc ls (((Value.ref b) :: st').map (m_tv ad))).monitorRoom = 0 := rfl
      rw [h6]
      omega
    · cases ht
  | invokestatic i =>
    simp only [m_tri] at ht
    split at ht
    · obtain ⟨-, rfl⟩ := m_if ht
      dsimp only at hI
      omega
    · rename_i h1
      obtain ⟨rfl, rfl⟩ := m_if ht
      obtain ⟨n, dp, b1, sp, b0, t, τ, rfl, h2, h3, h4, h5, h6, h7⟩ := m_d26 hs
      cases h7
      intro ad H locs ls he hP hD hS hl
      have h2' : ((st'.map (m_tv ad)).map fun v => v.category).sum ≤ 8 := by simpa [List.map_map, Function.comp_def, m_tv_cat] using h5
      have hlo : ((st'.map (m_tv ad)).map fun v => v.category).sum + (nativeFrameWords "java/lang/System" "arraycopy" 5 + 11) ≤ R.locals := by
        have h9 : nativeFrameWords "java/lang/System" "arraycopy" 5 ≤ 60 := by decide +kernel
        omega
      unfold m_acp at h6
      split at h6
      · rename_i t0 xs t1 ys g0 g1
        obtain ⟨⟨rfl, rfl, q1, q2⟩, rfl⟩ := m_if h6
        exact va_copyi hx hb (hml.trans hl.1.symm) hown (hts _ (hlk _ _ _ h1)) (hts _ hg.2.2.2.1) (hts _ hg.2.2.2.2.1) (hts _ hg.2.2.2.2.2) hK hP hD hS b0 b1 0 0 (m_w_at g0) (m_w_at g1) (m_tys_at cA (by decide)) (m_tys_at cA (by decide)) rfl (m_nn h4) (m_nn h3) (m_nn h2) q1 q2 (fun _ _ => rfl) hRf hlo hd (fun H1 locs1 hP1 hD1 hS1 => m_put k g1 (by simp [m_es, m_cpy_len]) he (m_wsr (m_e3 q2) hP1) (m_wdr (m_e3 q2) hD1) hS1 hl)
      · rename_i t0 xs t1 ys g0 g1
        obtain ⟨⟨rfl, rfl, q1, q2⟩, rfl⟩ := m_if h6
        exact va_copyl hx hb (hml.trans hl.1.symm) hown (hts _ (hlk _ _ _ h1)) (hts _ hg.2.2.2.1) (hts _ hg.2.2.2.2.1) (hts _ hg.2.2.2.2.2) hK hP hD hS b0 b1 3 3 (m_w_at g0) (m_w_at g1) (m_tys_at cA (by decide)) (m_tys_at cA (by decide)) rfl (m_nn h4) (m_nn h3) (m_nn h2) q1 q2 (fun _ _ => rfl) hRf hlo hd (fun H1 locs1 hP1 hD1 hS1 => m_put k g1 (by simp [m_es, m_cpy_len]) he (m_wsr (m_e4 q2) hP1) (m_wdr (m_e4 q2) hD1) hS1 hl)
      · cases h6
    · obtain ⟨-, rfl⟩ := m_if ht
      dsimp only at hI
      omega
    · cases ht
  | _ =>
    simp only [m_tri] at ht
    repeat' split at ht
    all_goals first | (cases ht; done) | (obtain ⟨-, rfl⟩ := m_if ht; dsimp only at hI; omega) | (cases ht; dsimp only at hI; omega)
end M9

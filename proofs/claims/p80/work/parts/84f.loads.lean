section M8
variable {p : Program} {l : Launch} {e : Env} {R : Room} {s : State} {m : MethodId} {args : Array Value} {below : List Frame} {meth : Method} {c : Code} {Q : State → Prop} {D : va_G} {cA : Nat → ClassId} {A : Nat → Prop} {ad0 : Nat → Nat} {n0 z0 nL : Nat} {cc : ByteArray} {fz : List (List Int32)} {y : MethodName} {r : Option FieldType}
variable {pc pc' len : Nat} {lv lv' : m_V} {st st' : List Value} {σ σ' : m_S} {ins : Instr} {I : m_I}
/-- one cell in place of another: the heap behind it -/
theorem m_put {b : Nat} {x x0 : m_E} (k : m_WW p l e R s m args below meth c Q D cA A ad0 n0 z0 nL pc lv st (σ.set b x)) (hb : σ[b]? = some x0) (hx : m_es x = m_es x0) {ad : Nat → Nat} {H : Heap} {locs : List Loc} {ls : Array Slot} (he : m_ext ad0 ad n0) (hP : va_P D vwCl ((m_w cA ad σ).set b (ad b, m_te cA ad x)) H) (hD : va_D A ((m_w cA ad σ).set b (ad b, m_te cA ad x))) (hS : va_S A s.heap H locs) (hl : lv_has ls nL (m_tl ad lv)) : W p l e R s m args below meth c H locs (σ.length - n0) (m_sz σ - z0) Q (F0 m pc ls (st.map (m_tv ad))) := by
  have h := k ad H locs ls he (by rw [← m_w_set]; exact hP) (by rw [← m_w_set]; exact hD) hS hl
  rw [List.length_set, m_sz_set hb hx] at h
  exact h
theorem m_fzX (hFz : m_Fz fz ad0 A s) {ad : Nat → Nat} (he : m_ext ad0 ad n0) {xs : List Int32} (h : fz[0]? = some xs) : va_X (ad m_fzb) xs.length (fun i => xs.getD i 0) s s.heap ∧ ad m_fzb < s.heap.size ∧ ¬ A (ad m_fzb) := by
  have h1 := hFz.1 xs h
  rw [he.2 _ (Nat.le_refl _)]
  exact h1
theorem m_fz1 (hFz : m_Fz fz ad0 A s) {xs : List Int32} (h : fz[1]? = some xs) : xs = x_z_1 ∧ va_T .int (ad0 (m_fzb + 1)) 8 (fun j => .int (x_z_1.getD j 0)) A s s.heap := by
  have h1 : (fz.drop 1)[0]? = some xs := by rw [List.getElem?_drop]; exact h
  rw [hFz.2.1] at h1
  cases h1
  exact ⟨rfl, hFz.2.2.2.2.2⟩
theorem m_fzb2 {b : Nat} (h1 : m_fzb ≤ b) (h2 : b < m_fzb + 2) : b = m_fzb ∨ b = m_fzb + 1 := by omega
set_option maxHeartbeats 4000000 in
theorem m_field (K : m_Cx p s m args meth c D cA A ad0 nL cc y r fz) (hlk : m_lkAll) (hcl : m_clsOk) (hd : decode cc pc = .ok (ins, len)) (ht : m_tri y nL r pc ins len = some I) (hI : I.1 = 15 ∨ I.1 = 16) (hs : m_step fz I (pc + len) lv st σ = some (.inl (pc', lv', st', σ'))) (k : m_WW p l e R s m args below meth c Q D cA A ad0 n0 z0 nL pc' lv' st' σ') : m_WW p l e R s m args below meth c Q D cA A ad0 n0 z0 nL pc lv st σ := by
  obtain ⟨hx, hb, hml, hown, hts, hr, hlocks, hnm, hK, hA, hFz, hN⟩ := K
  cases ins with
  | getfield i =>
    simp only [m_tri] at ht
    split at ht
    · rename_i a v w h1
      obtain ⟨rfl, rfl⟩ := m_if ht
      obtain ⟨b, t, fs, x, rfl, g1, g2, g3⟩ := m_d15 hs
      cases g3
      obtain ⟨⟨C, T, N⟩, q1, q2, q3⟩ := hlk _ _ _ h1
      obtain ⟨u1, u2, u3, u4, u5, u6⟩ := hcl _ _ _ _ q1
      exact fun ad H locs ls he hP hD hS hl => va_get hx hb hts u1 hown hK hP b (m_w_at g1) q1 v.toNat q2 (hts _ q3) (fun _ h9 => h9) (by simp [g2]) hd (k ad H locs ls he hP hD hS hl)
    · cases ht
  | putfield i =>
    simp only [m_tri] at ht
    split at ht
    · rename_i a v w h1
      obtain ⟨⟨rfl, hf⟩, rfl⟩ := m_if ht
      obtain ⟨x, b, t, fs, rfl, g1, g2, g3, g4⟩ := m_d16 hs
      cases g4
      obtain ⟨⟨C, T, N⟩, q1, q2, q3⟩ := hlk _ _ _ h1
      obtain ⟨u1, u2, u3, u4, u5, u6⟩ := hcl _ _ _ _ q1
      have hfin : m_fin a v.toNat = (T v.toNat).2.2.2 := by unfold m_fin; rw [q1]
      have hfdc : m_fdc a v.toNat = (T v.toNat).1 := by unfold m_fdc; rw [q1]
      intro ad H locs ls he hP hD hS hl
      have hset : ((fs.map (m_tv ad)).set v.toNat (m_tv ad x)) = (fs.set v.toNat x).map (m_tv ad) := by rw [List.map_set]
      by_cases hff : (T v.toNat).2.2.2 = false
      · refine va_put hx hb hts u1 (m_tyf a) u2 u3 hown hK hP hD hS b (m_w_at g1) q1 v.toNat q2 (hts _ q3) (fun _ h9 => h9) hff (u2 _ q2) (m_fit_ok g3).1 (m_fit_ok g3).2 (by simpa using g2) hd (fun H1 locs1 hP1 hD1 hS1 => ?_)
        rw [hset] at hP1 hD1
        exact m_put k g1 (by simp [m_es]) he hP1 hD1 hS1 hl
      · rw [hfin, hfdc] at hf
        have hf2 := hf.resolve_left hff
        refine va_putF hx hb hts u1 (m_tyf a) u2 u3 hown hK hP hD hS b (m_w_at g1) q1 v.toNat q2 (hts _ q3) (fun _ h9 => h9) (by simpa using hff) (hnm hf2.1) hf2.2 (u2 _ q2) (m_fit_ok g3).1 (m_fit_ok g3).2 (by simpa using g2) hd (fun H1 locs1 hP1 hD1 hS1 => ?_)
        rw [hset] at hP1 hD1
        exact m_put k g1 (by simp [m_es]) he hP1 hD1 hS1 hl
    · cases ht
  | _ =>
    simp only [m_tri] at ht
    repeat' split at ht
    all_goals first | (cases ht; done) | (obtain ⟨-, rfl⟩ := m_if ht; dsimp only at hI; omega) | (cases ht; dsimp only at hI; omega)
set_option maxHeartbeats 4000000 in
theorem m_load (K : m_Cx p s m args meth c D cA A ad0 nL cc y r fz) (hd : decode cc pc = .ok (ins, len)) (ht : m_tri y nL r pc ins len = some I) (hI : I.1 = 18 ∨ (I.1 = 20 ∧ I.2.1 = 0)) (hs : m_step fz I (pc + len) lv st σ = some (.inl (pc', lv', st', σ'))) (k : m_WW p l e R s m args below meth c Q D cA A ad0 n0 z0 nL pc' lv' st' σ') : m_WW p l e R s m args below meth c Q D cA A ad0 n0 z0 nL pc lv st σ := by
  obtain ⟨hx, hb, hml, hown, hts, hr, hlocks, hnm, hK, hA, hFz, hN⟩ := K
  cases ins with
  | iaload =>
    obtain ⟨rfl, rfl⟩ := m_if ht
    obtain ⟨i, b, t, w, rfl, h1, h3⟩ := m_d18 hs
    cases h3
    intro ad H locs ls he hP hD hS hl
    unfold m_ald at h1
    split at h1
    · rename_i hfb
      split at h1
      · rename_i xs hxs
        obtain ⟨⟨⟨h4, h5⟩, h6⟩, rfl⟩ := m_if h1
        rcases m_fzb2 hfb h6 with rfl | rfl
        · rw [Nat.sub_self] at hxs
          obtain ⟨f1, f2, f3⟩ := m_fzX hFz he hxs
          exact va_sld hx hb f1 f2 f3 hS (m_in_vp h5) hd (k ad H locs ls he hP hD hS hl)
        · rw [Nat.add_sub_cancel_left] at hxs
          obtain ⟨rfl, f1⟩ := m_fz1 hFz hxs
          have h7 := k ad H locs ls he hP hD hS hl
          have h8 : ad (m_fzb + 1) = ad0 (m_fzb + 1) := he.2 _ (by omega)
          show W p l e R s m args below meth c H locs _ _ Q (F0 m pc ls (.int i :: .ref (ad (m_fzb + 1)) :: _))
          rw [h8]
          exact va_ti hx hb f1 hS (m_in_vp h5) rfl hd h7
      · cases h1
    · split at h1
      · rename_i tt xs hxs
        obtain ⟨⟨h4, h5⟩, rfl⟩ := m_if h1
        rcases h4 with ⟨-, rfl⟩ | ⟨h4, -⟩
        · exact va_iald hx hb hK hP b 0 (m_w_at hxs) (m_tys_at cA (by decide)) (m_in_vp h5) hd (k ad H locs ls he hP hD hS hl)
        · exact absurd h4 (by decide)
      · rename_i tt xs hxs
        obtain ⟨⟨h4, h6, h5⟩, rfl⟩ := m_if h1
        exact absurd h4 (by decide)
      · rename_i tt xs hxs
        obtain ⟨⟨h4, h6, h5⟩, rfl⟩ := m_if h1
        exact absurd h4 (by decide)
      · cases h1
  | baload =>
    obtain ⟨rfl, rfl⟩ := m_if ht
    obtain ⟨i, b, t, w, rfl, h1, h3⟩ := m_d18 hs
    cases h3
    intro ad H locs ls he hP hD hS hl
    unfold m_ald at h1
    split at h1
    · rename_i hfb
      split at h1
      · rename_i xs hxs
        obtain ⟨⟨⟨h4, h5⟩, h6⟩, rfl⟩ := m_if h1
        exact absurd h4 (by decide)
      · cases h1
    · split at h1
      · rename_i tt xs hxs
        obtain ⟨⟨h4, h5⟩, rfl⟩ := m_if h1
        rcases h4 with ⟨h4, -⟩ | ⟨-, rfl | rfl⟩
        · exact absurd h4 (by decide)
        · exact va_bald hx hb hK hP b 1 (m_w_at hxs) (m_tys_at cA (by decide)) (m_in_vp h5) hd (k ad H locs ls he hP hD hS hl)
        · exact va_zald hx hb hK hP b 2 (m_w_at hxs) (m_tys_at cA (by decide)) (m_in_vp h5) hd (k ad H locs ls he hP hD hS hl)
      · rename_i tt xs hxs
        obtain ⟨⟨h4, h6, h5⟩, rfl⟩ := m_if h1
        exact absurd h4 (by decide)
      · rename_i tt xs hxs
        obtain ⟨⟨h4, h6, h5⟩, rfl⟩ := m_if h1
        exact absurd h4 (by decide)
      · cases h1
  | laload =>
    obtain ⟨rfl, rfl⟩ := m_if ht
    obtain ⟨i, b, t, w, rfl, h1, h3⟩ := m_d18 hs
    cases h3
    intro ad H locs ls he hP hD hS hl
    unfold m_ald at h1
    split at h1
    · rename_i hfb
      split at h1
      · rename_i xs hxs
        obtain ⟨⟨⟨h4, h5⟩, h6⟩, rfl⟩ := m_if h1
        exact absurd h4 (by decide)
      · cases h1
    · split at h1
      · rename_i tt xs hxs
        obtain ⟨⟨h4, h5⟩, rfl⟩ := m_if h1
        exact absurd h4 (by simp)
      · rename_i tt xs hxs
        obtain ⟨⟨h4, h6, h5⟩, rfl⟩ := m_if h1
        subst h6
        exact va_lald hx hb hK hP b 3 (m_w_at hxs) (m_tys_at cA (by decide)) (m_in_vp h5) hd (k ad H locs ls he hP hD hS hl)
      · rename_i tt xs hxs
        obtain ⟨⟨h4, h6, h5⟩, rfl⟩ := m_if h1
        exact absurd h4 (by decide)
      · cases h1
  | aaload =>
    obtain ⟨rfl, rfl⟩ := m_if ht
    obtain ⟨i, b, t, w, rfl, h1, h3⟩ := m_d18 hs
    cases h3
    intro ad H locs ls he hP hD hS hl
    unfold m_ald at h1
    split at h1
    · rename_i hfb
      split at h1
      · rename_i xs hxs
        obtain ⟨⟨⟨h4, h5⟩, h6⟩, rfl⟩ := m_if h1
        exact absurd h4 (by decide)
      · cases h1
    · split at h1
      · rename_i tt xs hxs
        obtain ⟨⟨h4, h5⟩, rfl⟩ := m_if h1
        exact absurd h4 (by simp)
      · rename_i tt xs hxs
        obtain ⟨⟨h4, h6, h5⟩, rfl⟩ := m_if h1
        exact absurd h4 (by decide)
      · rename_i tt xs hxs
        obtain ⟨⟨h4, h6, h5⟩, rfl⟩ := m_if h1
        subst h6
        have h7 := k ad H locs ls he hP hD hS hl
        refine va_aldq hx hb hK hP b 4 (m_w_at hxs) (m_tys_at cA (by decide)) (m_in_vp h5) hd ?_
        have h8 : m_tv ad (va_rf (xs.getD i.toNatClampNeg none)) = va_rf ((xs.getD i.toNatClampNeg none).map ad) := by cases xs.getD i.toNatClampNeg none <;> rfl
        rw [List.map_cons, h8] at h7
        exact h7
      · cases h1
  | arraylength =>
    obtain ⟨rfl, rfl⟩ := m_if ht
    obtain ⟨b, t, n, rfl, h0, h1, h3⟩ := m_d20 hs
    have hb2 : b < m_fzb + 2 := by
      unfold m_lok at h0
      simp only [Bool.or_eq_true, Bool.and_eq_true] at h0
      rcases h0 with h0 | h0
      · exact Nat.blt_eq.mp h0.2
      · exact absurd h0.1 (by decide)
    cases h3
    intro ad H locs ls he hP hD hS hl
    unfold m_len at h1
    split at h1
    · rename_i hfb
      obtain ⟨xs, hxs, rfl⟩ := Option.map_eq_some_iff.mp h1
      rcases m_fzb2 hfb hb2 with rfl | rfl
      · rw [Nat.sub_self] at hxs
        obtain ⟨f1, f2, f3⟩ := m_fzX hFz he hxs
        exact va_slen hx hb f1 f2 f3 hS hd (k ad H locs ls he hP hD hS hl)
      · rw [Nat.add_sub_cancel_left] at hxs
        obtain ⟨rfl, f1⟩ := m_fz1 hFz hxs
        have h7 := k ad H locs ls he hP hD hS hl
        have h8 : ad (m_fzb + 1) = ad0 (m_fzb + 1) := he.2 _ (by omega)
        show W p l e R s m args below meth c H locs _ _ Q (F0 m pc ls (.ref (ad (m_fzb + 1)) :: _))
        rw [h8]
        exact va_tlen hx hb f1 hS rfl hd h7
    · split at h1
      · rename_i tt xs hxs
        obtain ⟨h4, rfl⟩ := m_if h1
        exact va_alen hx hb hK hP b tt (m_w_at hxs) (m_tys_at cA (by omega)) rfl hd (k ad H locs ls he hP hD hS hl)
      · rename_i tt xs hxs
        obtain ⟨rfl, rfl⟩ := m_if h1
        exact va_alen hx hb hK hP b 3 (m_w_at hxs) (m_tys_at cA (by omega)) rfl hd (k ad H locs ls he hP hD hS hl)
      · rename_i tt xs hxs
        obtain ⟨rfl, rfl⟩ := m_if h1
        exact va_alen hx hb hK hP b 4 (m_w_at hxs) (m_tys_at cA (by omega)) rfl hd (k ad H locs ls he hP hD hS hl)
      · cases h1
  | _ =>
    simp only [m_tri] at ht
    repeat' split at ht
    all_goals first | (cases ht; done) | (obtain ⟨-, rfl⟩ := m_if ht; dsimp only at hI; omega) | (cases ht; dsimp only at hI; omega)
end M8

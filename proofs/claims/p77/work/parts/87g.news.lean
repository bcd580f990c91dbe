/-! the step over bounds is right: new cells, copies; the walk -/
section A23
variable {ρ : Nat → Int} {N : a_N} {B : List a_E} {S : a_S} {σ : m_S} {lv : a_L} {lv' : m_V} {st : List a_V} {st' : List Value}
variable {fz : List (List Int32)} {af : a_Z} {pc nx a : Nat} {v : Int} {l : List Nat} {L : List a_R}
theorem a_okv_ok {n : Nat} {x : a_V} {w : Value} (hx : a_gv ρ x w) (h : a_okv n x = true) : m_okv n w = true := by
  cases w with
  | ref k =>
    obtain ⟨t, b⟩ := x
    have e : t = 2 := by
      unfold a_gv at hx
      split at hx <;> first | exact hx.elim | (rename_i e1 e2; cases e2; done) | (rename_i e1 e2; exact e1)
    subst e
    have e2 : b.1 = (k : Int) := hx
    simp only [a_okv, if_true, Bool.or_eq_true, decide_eq_true_eq] at h
    have h' : b.1 < (n : Int) ∨ (m_fzb : Int) ≤ b.1 := h
    show (decide (k < n) || decide (m_fzb ≤ k)) = true
    rw [Bool.or_eq_true, decide_eq_true_eq, decide_eq_true_eq]
    rw [e2] at h'
    exact h'.imp Int.ofNat_lt.mp Int.ofNat_le.mp
  | _ => rfl
theorem a_okl_ok {n : Nat} (hl : a_all2 (a_gl ρ) lv lv') (h : a_okl n lv = true) : m_okl n lv' = true :=
  a_all2.all (fun x z hxz hx => a_okv_ok hxz.2 hx) hl h
theorem a_oks_ok {n : Nat} (ht : a_all2 (a_gv ρ) st st') (h : st.all (a_okv n) = true) : st'.all (m_okv n) = true :=
  a_all2.all (R := a_gv ρ) (f := a_okv n) (g := m_okv n) (fun x z hxz hx => a_okv_ok hxz hx) ht h
theorem a_oke_ok {n : Nat} {x : a_E} {z : m_E} (hx : a_ge ρ x z) (h : a_oke n x = true) : m_oke n z = true := by
  rcases x with ⟨t, k, u | vs⟩ | ⟨ci, fs⟩
  · rcases z with ⟨t', xs | xs | xs⟩ | ⟨ci', gs⟩
    · rfl
    · rfl
    · exact hx.elim
    · exact hx.elim
  · rcases z with ⟨t', xs | xs | xs⟩ | ⟨ci', gs⟩
    · rfl
    · rfl
    · obtain ⟨rfl, g1, g2, g3⟩ := hx
      subst g1
      simp only [a_oke, Bool.or_eq_true, decide_eq_true_eq] at h
      have h1 := h.resolve_left (by omega)
      have h2 := a_oks_ok g3 h1
      simp only [m_oke, List.all_eq_true]
      rw [List.all_eq_true] at h2
      intro r hr
      have h3 := h2 (va_rf r) (List.mem_map.mpr ⟨r, hr, rfl⟩)
      cases r with
      | none => rfl
      | some k => exact h3
    · exact hx.elim
  · obtain ⟨gs, rfl, h3⟩ := a_ge_o hx
    exact a_oks_ok h3 h
theorem a_wf_ok (hl : a_all2 (a_gl ρ) lv lv') (ht : a_all2 (a_gv ρ) st st') (hS : a_gS ρ B S σ) (h : a_wf B lv st S = true) : m_wf lv' st' σ = true := by
  simp only [a_wf, Bool.and_eq_true, decide_eq_true_eq] at h
  obtain ⟨⟨⟨h1, h2⟩, h3⟩, h4⟩ := h
  simp only [m_wf, Bool.and_eq_true, decide_eq_true_eq]
  rw [← hS.1] at h1 h2 h3 h4
  refine ⟨⟨⟨h1, a_okl_ok hl h2⟩, a_oks_ok ht h3⟩, ?_⟩
  rw [List.all_eq_true] at h4 ⊢
  intro z hz
  obtain ⟨k, hk⟩ := List.getElem?_of_mem hz
  have hlt := (List.getElem?_eq_some_iff.mp hk).1
  have h5 := h4 k (List.mem_range.mpr hlt)
  split at h5
  · rename_i x hx
    obtain ⟨z', g1, g2⟩ := hS.2 _ _ hx
    rw [hk] at g1
    cases g1
    exact a_oke_ok g2 h5
  · cases h5
theorem a_dv_ok {ty : FieldType} (h : a_dok ty = true) : a_gv ρ (a_dv ty) (defaultValue ty) := by
  cases ty <;> first | (cases h; done) | trivial | exact ⟨Int.le_refl _, Int.le_refl _⟩
theorem a_dvs_ok : ∀ {ks : List Nat}, ks.all (fun k => a_dok (m_tyf a k)) = true → a_all2 (a_gv ρ) (ks.map (fun k => a_dv (m_tyf a k))) (ks.map (fun k => defaultValue (m_tyf a k)))
  | [], _ => trivial
  | k :: ks, h => by
    rw [List.all_cons, Bool.and_eq_true] at h
    exact ⟨a_dv_ok h.1, a_dvs_ok (ks := ks) h.2⟩
theorem a_h21_ok (hN : a_gN N ρ) (hl : a_all2 (a_gl ρ) lv lv') (ht : a_all2 (a_gv ρ) st st') (hS : a_gS ρ B S σ) (h : a_h21 B N a nx lv st S = some L) : a_Post ρ B fz (21, a, v, l) pc nx lv' st' σ L := by
  unfold a_h21 at h
  obtain ⟨h1, rfl⟩ := m_if h
  refine a_P1 (st1 := .ref σ.length :: st') (σ1 := σ ++ [.inr (a, m_def a)]) hN ?_ hl ⟨?_, ht⟩ (hS.push (x := .inr (a, (List.range (m_nf a)).map (fun k => a_dv (m_tyf a k)))) (z := .inr (a, m_def a)) ⟨rfl, a_dvs_ok h1.2⟩)
  · simp only [m_step]
    rw [if_pos (a_wf_ok hl ht hS h1.1)]
  · show (S.1 : Int) = (σ.length : Int)
    rw [hS.1]
theorem a_newa_ok {t n : Nat} {x : a_E} (h : a_newa t n = some x) : ∃ z, m_new t n = some z ∧ a_ge ρ x z := by
  have z32 : ∀ y ∈ List.replicate n (0 : Int32), a_gv ρ (0, 0, 0) (.int y) := fun y hy => by
    rw [List.eq_of_mem_replicate hy]
    exact ⟨Int.le_refl _, Int.le_refl _⟩
  have z64 : ∀ y ∈ List.replicate n (0 : Int64), a_gv ρ (1, 0, 0) (.long y) := fun y hy => by
    rw [List.eq_of_mem_replicate hy]
    exact ⟨Int.le_refl _, Int.le_refl _⟩
  unfold a_newa at h
  split at h
  · cases h; exact ⟨_, rfl, rfl, by decide, List.length_replicate, z32⟩
  · cases h; exact ⟨_, rfl, rfl, by decide, List.length_replicate, z32⟩
  · cases h; exact ⟨_, rfl, rfl, by decide, List.length_replicate, z32⟩
  · cases h; exact ⟨_, rfl, rfl, rfl, List.length_replicate, z64⟩
  · cases h
    refine ⟨_, rfl, rfl, rfl, List.length_replicate, ?_⟩
    have h1 : a_all2 (a_gv ρ) (List.replicate ((List.replicate n (none : Option Nat)).map va_rf).length (3, 0, 0)) ((List.replicate n (none : Option Nat)).map va_rf) := a_all2.rep (fun b hb => by
      obtain ⟨y, h2, rfl⟩ := List.mem_map.mp hb
      rw [List.eq_of_mem_replicate h2]
      trivial)
    rw [List.length_map, List.length_replicate] at h1
    exact h1
  · cases h
theorem a_h22_ok (hN : a_gN N ρ) (hl : a_all2 (a_gl ρ) lv lv') (ht : a_all2 (a_gv ρ) st st') (hS : a_gS ρ B S σ) (h : a_h22 B N a nx lv st S = some L) : a_Post ρ B fz (22, a, v, l) pc nx lv' st' σ L := by
  unfold a_h22 at h
  split at h
  · rename_i x r
    split at h
    · rename_i q hq
      split at h
      · rename_i hc
        obtain ⟨z, h1, rfl⟩ := Option.map_eq_some_iff.mp h
        obtain ⟨w1, t, rfl, g1, ht1⟩ := a_uncons ht
        obtain ⟨X, rfl, g2⟩ := a_iv_ok hN g1 hq
        obtain ⟨y, h2, h3⟩ := a_newa_ok (ρ := ρ) h1
        have e : X.toNatClampNeg = q.1.toNat := by show X.toInt.toNat = _; congr 1; omega
        refine a_P1 (st1 := .ref σ.length :: t) (σ1 := σ ++ [y]) hN ?_ hl ⟨?_, ht1⟩ (hS.push h3)
        · simp only [m_step]
          rw [if_pos ⟨a_wf_ok hl ht1 hS hc.1, by omega, by omega⟩, e, h2]
          rfl
        · show (S.1 : Int) = (σ.length : Int)
          rw [hS.1]
      · cases h
    · cases h
  · cases h
theorem a_cats {as : List a_V} {bs : List Value} (h : a_all2 (a_gv ρ) as bs) : (as.map a_cat).sum = (bs.map fun v => v.category).sum := by
  have e : ∀ {as : List a_V} {bs : List Value}, a_all2 (a_gv ρ) as bs → as.map a_cat = bs.map fun v => v.category := by
    intro as
    induction as with
    | nil => intro bs h; rw [a_unnil h]; rfl
    | cons x r ih =>
      intro bs h
      obtain ⟨b, t, rfl, h1, h2⟩ := a_uncons h
      rw [List.map_cons, List.map_cons, a_gv_cat h1, ih h2]
  rw [e h]
theorem a_h25_ok (hN : a_gN N ρ) (hl : a_all2 (a_gl ρ) lv lv') (ht : a_all2 (a_gv ρ) st st') (hS : a_gS ρ B S σ) (h : a_h25 N nx lv st S = some L) : a_Post ρ B fz (25, a, v, l) pc nx lv' st' σ L := by
  unfold a_h25 at h
  split at h
  · rename_i b r
    obtain ⟨h1, rfl⟩ := m_if h
    obtain ⟨w1, t, rfl, g1, ht1⟩ := a_uncons ht
    cases w1 with
    | ref k =>
      refine a_P1 (st1 := t) hN ?_ hl ht1 hS
      simp only [m_step]
      rw [if_pos (by rw [← a_cats ht1]; exact h1.2)]
    | _ =>
      obtain ⟨t0, c⟩ := b
      obtain ⟨e, -⟩ := h1
      dsimp only at e
      subst e
      exact g1.elim
  · cases h
theorem a_acp_ok {n dp b1 sp b0 : Nat} {S' : a_S} (hN : a_gN N ρ) (hS : a_gS ρ B S σ) (h : a_acp B N n dp b1 sp b0 S = some S') : ∃ τ, m_acp n dp b1 sp b0 σ = some τ ∧ a_gS ρ B S' τ := by
  unfold a_acp at h
  split at h
  · rename_i t n0 u t' n1 u' h0 h1
    split at h
    · rename_i hc
      obtain ⟨rfl, ht, hs0, hs1⟩ := hc
      obtain ⟨z0, g0, k0⟩ := hS.2 _ _ h0
      obtain ⟨z1, g1, k1⟩ := hS.2 _ _ h1
      have hkb := (List.getElem?_eq_some_iff.mp g1).1
      have fin : ∀ (u2 : a_V) (S2 : a_S), (∀ W, a_gv ρ u W → a_gv ρ u2 W) → (∀ W, a_gv ρ u' W → a_gv ρ u2 W) → (∀ z, a_ge ρ (.inl (t, n1, .inl u2)) z → a_gS ρ B S2 (σ.set b1 z)) → ∃ τ, m_acp n dp b1 sp b0 σ = some τ ∧ a_gS ρ B S2 τ := by
        intro u2 S2 hu hu' hfin
        unfold m_acp
        rw [g0, g1]
        have mem : ∀ {α : Type} {d : α} {f : α → Value} {xs ys : List α}, sp + n ≤ xs.length → (∀ y ∈ xs, a_gv ρ u (f y)) → (∀ y ∈ ys, a_gv ρ u' (f y)) → ∀ y ∈ m_cpy d xs ys sp dp n, a_gv ρ u2 (f y) := by
          intro α d f xs ys hx1 hx2 hy2 y hy
          obtain ⟨k, hk, rfl⟩ := List.mem_map.mp hy
          have hkl := List.mem_range.mp hk
          by_cases hin : dp ≤ k ∧ k < dp + n
          · rw [pk_cpy_in hin.1 hin.2]
            exact hu _ (hx2 _ (List.mem_of_getElem? (a_getD (by omega))))
          · rw [pk_cpy_out (by omega)]
            exact hu' _ (hy2 _ (List.mem_of_getElem? (a_getD hkl)))
        rcases z0 with ⟨t0, xs | xs | xs⟩ | ⟨ci', gs⟩
        · obtain ⟨rfl, q1, q2, q3⟩ := k0
          rcases z1 with ⟨t1, ys | ys | ys⟩ | ⟨ci', gs⟩
          · obtain ⟨rfl, r1, r2, r3⟩ := k1
            dsimp only
            rw [if_pos ⟨by omega, by omega, by omega, by omega⟩]
            refine ⟨_, rfl, hfin _ ⟨rfl, r1, by rw [m_cpy_len]; exact r2, mem (f := Value.int) (by omega) q3 r3⟩⟩
          · obtain ⟨rfl, r1, r2, r3⟩ := k1
            omega
          · exact k1.elim
          · exact k1.elim
        · obtain ⟨rfl, q1, q2, q3⟩ := k0
          rcases z1 with ⟨t1, ys | ys | ys⟩ | ⟨ci', gs⟩
          · obtain ⟨rfl, r1, r2, r3⟩ := k1
            omega
          · obtain ⟨rfl, r1, r2, r3⟩ := k1
            dsimp only
            rw [if_pos ⟨by omega, by omega, by omega, by omega⟩]
            refine ⟨_, rfl, hfin _ ⟨rfl, r1, by rw [m_cpy_len]; exact r2, mem (f := Value.long) (by omega) q3 r3⟩⟩
          · exact k1.elim
          · exact k1.elim
        · exact k0.elim
        · exact k0.elim
      split at h
      · rename_i hle
        cases h
        refine fin u' S (fun W hW => a_le1_ok hN hle hW) (fun _ hW => hW) (fun z hz => ?_)
        refine ⟨by rw [List.length_set]; exact hS.1, fun j y hj => ?_⟩
        rw [List.getElem?_set]
        by_cases e : b1 = j
        · subst e
          rw [if_pos rfl, if_pos hkb]
          rw [h1] at hj
          cases hj
          exact ⟨z, rfl, hz⟩
        · rw [if_neg e]
          exact hS.2 j y hj
      · obtain ⟨j, h3, rfl⟩ := Option.map_eq_some_iff.mp h
        exact fin j _ (fun W hW => a_jn_ok hN h3 (Or.inr hW)) (fun W hW => a_jn_ok hN h3 (Or.inl hW)) (fun z hz => hS.set hkb hz)
    · cases h
  · cases h
theorem a_h26_ok (hN : a_gN N ρ) (hl : a_all2 (a_gl ρ) lv lv') (ht : a_all2 (a_gv ρ) st st') (hS : a_gS ρ B S σ) (h : a_h26 B N nx lv st S = some L) : a_Post ρ B fz (26, a, v, l) pc nx lv' st' σ L := by
  unfold a_h26 at h
  split at h
  · rename_i n dp b1 sp b0 r
    split at h
    · rename_i qn qd qs hn hd hs
      split at h
      · rename_i hc
        obtain ⟨c1, c2, c3, c4, c5, c6, c7, c8, c9, c10, c11⟩ := hc
        obtain ⟨τ, h1, rfl⟩ := Option.map_eq_some_iff.mp h
        obtain ⟨w1, t, rfl, g1, ht1⟩ := a_uncons ht
        obtain ⟨w2, t, rfl, g2, ht2⟩ := a_uncons ht1
        obtain ⟨w3, t, rfl, g3, ht3⟩ := a_uncons ht2
        obtain ⟨w4, t, rfl, g4, ht4⟩ := a_uncons ht3
        obtain ⟨w5, t, rfl, g5, ht5⟩ := a_uncons ht4
        rw [a_ref g3 ⟨c1, c2⟩, a_ref g5 ⟨c3, c4⟩]
        obtain ⟨X, rfl, k1⟩ := a_iv_ok hN g1 hn
        obtain ⟨Y, rfl, k2⟩ := a_iv_ok hN g2 hd
        obtain ⟨Z, rfl, k3⟩ := a_iv_ok hN g4 hs
        obtain ⟨τ', h2, h3⟩ := a_acp_ok hN hS h1
        have e1 : X.toNatClampNeg = qn.1.toNat := by show X.toInt.toNat = _; congr 1; omega
        have e2 : Y.toNatClampNeg = qd.1.toNat := by show Y.toInt.toNat = _; congr 1; omega
        have e3 : Z.toNatClampNeg = qs.1.toNat := by show Z.toInt.toNat = _; congr 1; omega
        refine a_P1 (st1 := t) (σ1 := τ') hN ?_ hl ht5 h3
        simp only [m_step]
        rw [if_pos ⟨by omega, by omega, by omega, by rw [← a_cats ht5]; exact c11⟩, e1, e2, e3, h2]
        rfl
      · cases h
    · cases h
  · cases h
end A23

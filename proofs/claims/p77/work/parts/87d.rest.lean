/-! the step over bounds is right: switches, cells -/
section A20
variable {ρ : Nat → Int} {N : a_N} {B : List a_E} {S : a_S} {σ : m_S} {lv : a_L} {lv' : m_V} {st : List a_V} {st' : List Value}
variable {fz : List (List Int32)} {af : a_Z} {pc nx a : Nat} {v : Int} {l : List Nat} {L : List a_R}
theorem a_tsw_mem {x : a_V} {q : Int × Int} {r : List a_V} : ∀ (ts : List Nat) (j k t : Nat), ts[k]? = some t → q.1 ≤ ((j + k : Nat) : Int) → ((j + k : Nat) : Int) ≤ q.2 → ((if x.1 = 4 then N.set x.2.1.toNat (((j + k : Nat) : Int), ((j + k : Nat) : Int)) else N), t, lv, r, S) ∈ a_tsw N x q lv r S j ts
  | t0 :: ts, j, 0, t, h, h1, h2 => by
    cases h
    unfold a_tsw
    refine List.mem_append_left _ ?_
    rw [if_pos ⟨h1, h2⟩]
    exact List.mem_singleton.mpr rfl
  | t0 :: ts, j, k + 1, t, h, h1, h2 => by
    unfold a_tsw
    have e : j + (k + 1) = (j + 1) + k := by omega
    rw [e] at h1 h2 ⊢
    exact List.mem_append_right _ (a_tsw_mem ts (j + 1) k t h h1 h2)
theorem a_sym {x : a_V} {X : Int32} (hN : a_gN N ρ) (hx : a_gv ρ x (.int X)) {j : Int} (hj : X.toInt = j) : a_gN (if x.1 = 4 then N.set x.2.1.toNat (j, j) else N) ρ := by
  split
  · rename_i e
    obtain ⟨t, b⟩ := x
    dsimp only at e
    subst e
    have h1 : X.toInt = ρ b.1.toNat := hx
    exact a_gN_set hN (by dsimp only; omega) (by dsimp only; omega)
  · exact hN
theorem a_h13_ok (hN : a_gN N ρ) (hl : a_all2 (a_gl ρ) lv lv') (ht : a_all2 (a_gv ρ) st st') (hS : a_gS ρ B S σ) (h : a_h13 N a v l lv st S = some L) : a_Post ρ B fz (13, a, v, l) pc nx lv' st' σ L := by
  unfold a_h13 at h
  split at h
  · rename_i x r
    split at h
    · rename_i q hq
      split at h
      · cases h
      · rename_i hv0
        split at h
        · rename_i u w hu hw
          cases h
          obtain ⟨w1, t, rfl, g1, ht1⟩ := a_uncons ht
          obtain ⟨X, rfl, g2⟩ := a_iv_ok hN g1 hq
          have fin : ∀ M, a_gN M ρ → (M, m_tsw a v l X.toInt, lv, r, S) ∈ ((u.map fun M => (M, a, lv, r, S)) ++ ((w.map fun M => (M, a, lv, r, S)) ++ a_tsw N x q lv r S v.toNat l)) → a_Post ρ B fz (13, a, v, l) pc nx lv' (.int X :: t) σ ((u.map fun M => (M, a, lv, r, S)) ++ ((w.map fun M => (M, a, lv, r, S)) ++ a_tsw N x q lv r S v.toNat l)) := fun M hM hm => ⟨_, hm, hM, Or.inr ⟨lv', t, σ, by simp only [m_step], hl, ht1, hS⟩⟩
          by_cases c1 : X.toInt < v
          · obtain ⟨X', e, k1⟩ := a_br1_ok hN g1 hu
            cases e
            obtain ⟨M, h1, h2⟩ := k1 c1
            have e : m_tsw a v l X.toInt = a := by simp [m_tsw, c1]
            refine fin M h2 ?_
            rw [e]
            exact List.mem_append_left _ (List.mem_map.mpr ⟨M, h1, rfl⟩)
          · by_cases c2 : v + l.length ≤ X.toInt
            · obtain ⟨X', e, k1⟩ := a_br1_ok hN g1 hw
              cases e
              obtain ⟨M, h1, h2⟩ := k1 c2
              have e : m_tsw a v l X.toInt = a := by
                simp only [m_tsw, c1, if_false]
                rw [List.getElem?_eq_none (by omega)]
                rfl
              refine fin M h2 ?_
              rw [e]
              exact List.mem_append_right _ (List.mem_append_left _ (List.mem_map.mpr ⟨M, h1, rfl⟩))
            · have hk : (X.toInt - v).toNat < l.length := by omega
              have e : m_tsw a v l X.toInt = l[(X.toInt - v).toNat] := by
                simp only [m_tsw, c1, if_false]
                rw [List.getElem?_eq_getElem hk]
                rfl
              have e2 : ((v.toNat + (X.toInt - v).toNat : Nat) : Int) = X.toInt := by omega
              have h1 := a_tsw_mem (N := N) (x := x) (q := q) (lv := lv) (r := r) (S := S) l v.toNat (X.toInt - v).toNat _ (List.getElem?_eq_getElem hk) (by omega) (by omega)
              rw [← e] at h1
              exact fin _ (a_sym hN g1 e2.symm) (List.mem_append_right _ (List.mem_append_right _ h1))
        · cases h
    · cases h
  · cases h
theorem a_mp_ok {f : a_N → Option (List a_N)} : ∀ {Ms : List a_N} {R : List a_N} {M : a_N}, a_mp f Ms = some R → M ∈ Ms → ∃ o, f M = some o ∧ ∀ z ∈ o, z ∈ R
  | M0 :: r, R, M, h, hm => by
    unfold a_mp at h
    split at h
    · rename_i u w hu hw
      cases h
      rcases List.mem_cons.mp hm with rfl | hm
      · exact ⟨u, hu, fun z hz => List.mem_append_left _ hz⟩
      · obtain ⟨o, h1, h2⟩ := a_mp_ok hw hm
        exact ⟨o, h1, fun z hz => List.mem_append_right _ (h2 z hz)⟩
    · cases h
theorem a_lsw_ok {x : a_V} {X : Int32} {r : List a_V} {d : Nat} (hN : a_gN N ρ) (hx : a_gv ρ x (.int X)) : ∀ (n : Nat) (l : List Nat), l.length ≤ n → ∀ (Ms : List a_N) (P : List a_R) (R : List a_N), a_eqs N x lv r S l = some P → a_nes x Ms l = some R → (∃ M ∈ Ms, a_gN M ρ) → (∃ q ∈ P, a_gN q.1 ρ ∧ q.2 = (m_lsw d l X.toInt, lv, r, S)) ∨ (m_lsw d l X.toInt = d ∧ ∃ M ∈ R, a_gN M ρ) := by
  intro n
  induction n with
  | zero =>
    intro l hn Ms P R h1 h2 h3
    have : l = [] := List.eq_nil_of_length_eq_zero (by omega)
    subst this
    cases h1
    cases h2
    exact Or.inr ⟨rfl, h3⟩
  | succ n ih =>
    intro l hn Ms P R h1 h2 h3
    match l, hn, h1, h2 with
    | [], _, h1, h2 => cases h1; cases h2; exact Or.inr ⟨rfl, h3⟩
    | [k], _, h1, h2 => cases h1; cases h2; exact Or.inr ⟨rfl, h3⟩
    | k :: t :: ts, hn, h1, h2 =>
      unfold a_eqs at h1
      split at h1
      · rename_i u P' hu hP'
        cases h1
        unfold a_nes at h2
        split at h2
        · rename_i R' hR'
          by_cases hk : X.toInt = (k : Int)
          · obtain ⟨X', e, k1⟩ := a_br1_ok hN hx hu
            cases e
            obtain ⟨M, g1, g2⟩ := k1 hk
            refine Or.inl ⟨_, List.mem_append_left _ (List.mem_map.mpr ⟨M, g1, rfl⟩), g2, ?_⟩
            unfold m_lsw
            rw [if_pos hk.symm]
          · have e : m_lsw d (k :: t :: ts) X.toInt = m_lsw d ts X.toInt := by
              rw [m_lsw, if_neg (fun h => hk h.symm)]
            obtain ⟨M, g1, g2⟩ := h3
            obtain ⟨o, g3, g4⟩ := a_mp_ok hR' g1
            obtain ⟨X', e', k1⟩ := a_br1_ok g2 hx g3
            cases e'
            obtain ⟨M', g5, g6⟩ := k1 hk
            rcases ih ts (by simp at hn; omega) R' P' R hP' h2 ⟨M', g4 _ g5, g6⟩ with ⟨q, h5, h6, h7⟩ | ⟨h5, h6⟩
            · exact Or.inl ⟨q, List.mem_append_right _ h5, h6, by rw [e]; exact h7⟩
            · exact Or.inr ⟨by rw [e]; exact h5, h6⟩
        · cases h2
      · cases h1
theorem a_h14_ok (hN : a_gN N ρ) (hl : a_all2 (a_gl ρ) lv lv') (ht : a_all2 (a_gv ρ) st st') (hS : a_gS ρ B S σ) (h : a_h14 N a l lv st S = some L) : a_Post ρ B fz (14, a, v, l) pc nx lv' st' σ L := by
  unfold a_h14 at h
  split at h
  · rename_i x r
    split at h
    rotate_left
    · cases h
    rename_i q0 hq0
    obtain ⟨w1, t, rfl, g1, ht1⟩ := a_uncons ht
    obtain ⟨X, rfl, g2⟩ := a_iv_ok hN g1 hq0
    unfold a_lsw at h
    split at h
    · rename_i P R hP hR
      cases h
      rcases a_lsw_ok (d := a) hN g1 l.length l (Nat.le_refl _) [N] P R hP hR ⟨N, List.mem_singleton.mpr rfl, hN⟩ with ⟨q, h5, h6, h7⟩ | ⟨h5, M, h6, h7⟩
      · refine ⟨q, List.mem_append_left _ h5, h6, Or.inr ⟨lv', t, σ, ?_, ?_⟩⟩
        · rw [h7]
          simp only [m_step]
        · rw [h7]
          exact ⟨hl, ht1, hS⟩
      · refine ⟨_, List.mem_append_right _ (List.mem_map.mpr ⟨M, h6, rfl⟩), h7, Or.inr ⟨lv', t, σ, ?_, hl, ht1, hS⟩⟩
        simp only [m_step]
        rw [h5]
    · cases h
  · cases h
theorem a_ref {b : a_V} {w : Value} (h : a_gv ρ b w) (hb : b.1 = 2 ∧ 0 ≤ b.2.1) : w = .ref b.2.1.toNat := by
  obtain ⟨t, c⟩ := b
  obtain ⟨h1, h2⟩ := hb
  dsimp only at h1 h2
  subst h1
  cases w with
  | ref k =>
    have h3 : c.1 = (k : Int) := h
    show Value.ref k = Value.ref c.1.toNat
    rw [h3]
    rfl
  | _ => exact h.elim
theorem a_ge_o {ci : Nat} {fs : List a_V} {z : m_E} (h : a_ge ρ (.inr (ci, fs)) z) : ∃ gs, z = .inr (ci, gs) ∧ a_all2 (a_gv ρ) fs gs := by
  rcases z with ⟨t, xs | xs | xs⟩ | ⟨ci', gs⟩
  · exact h.elim
  · exact h.elim
  · exact h.elim
  · obtain ⟨h1, h2⟩ := h
    subst h1
    exact ⟨gs, rfl, h2⟩
theorem a_h15_ok (hN : a_gN N ρ) (hl : a_all2 (a_gl ρ) lv lv') (ht : a_all2 (a_gv ρ) st st') (hS : a_gS ρ B S σ) (h : a_h15 B N a v nx lv st S = some L) : a_Post ρ B fz (15, a, v, l) pc nx lv' st' σ L := by
  unfold a_h15 at h
  split at h
  · rename_i b r
    split at h
    · rename_i hb
      split at h
      · rename_i ci fs hc
        split at h
        · rename_i w hw
          obtain ⟨rfl, rfl⟩ := m_if h
          obtain ⟨w1, t, rfl, g1, ht1⟩ := a_uncons ht
          rw [a_ref g1 hb]
          obtain ⟨z, h1, h2⟩ := hS.2 _ _ hc
          obtain ⟨gs, rfl, h3⟩ := a_ge_o h2
          obtain ⟨u, h4, h5⟩ := h3.get hw
          refine a_P1 (st1 := u :: t) hN ?_ hl ⟨h5, ht1⟩ hS
          simp only [m_step, h1, h4, if_true]
        · cases h
      · cases h
    · cases h
  · cases h
theorem a_fit_ok {ty : FieldType} {x : a_V} {w : Value} (hx : a_gv ρ x w) (h : a_fit ty x = true) : m_fit ty w = true := by
  have h1 := a_gv_knd hx
  have h2 : x.1 = 2 → ∃ k, w = .ref k := fun e => by
    obtain ⟨t, b⟩ := x
    dsimp only at e
    subst e
    cases w with
    | ref k => exact ⟨k, rfl⟩
    | _ => exact hx.elim
  cases ty <;> simp only [a_fit, decide_eq_true_eq] at h
  all_goals first | (cases h; done) | (obtain ⟨k, rfl⟩ := h2 h; rfl) | (rw [h] at h1; cases w <;> first | rfl | (simp [m_k] at h1))
theorem a_h16_ok (hN : a_gN N ρ) (hl : a_all2 (a_gl ρ) lv lv') (ht : a_all2 (a_gv ρ) st st') (hS : a_gS ρ B S σ) (h : a_h16 B N a v nx lv st S = some L) : a_Post ρ B fz (16, a, v, l) pc nx lv' st' σ L := by
  unfold a_h16 at h
  split at h
  · rename_i w b r
    split at h
    · rename_i hb
      split at h
      · rename_i ci fs hc
        obtain ⟨⟨rfl, h6, h7⟩, rfl⟩ := m_if h
        obtain ⟨w1, t, rfl, g1, ht1⟩ := a_uncons ht
        obtain ⟨w2, t, rfl, g2, ht2⟩ := a_uncons ht1
        rw [a_ref g2 hb]
        obtain ⟨z, h1, h2⟩ := hS.2 _ _ hc
        obtain ⟨gs, rfl, h3⟩ := a_ge_o h2
        have hk := (List.getElem?_eq_some_iff.mp h1).1
        refine a_P1 (st1 := t) (σ1 := σ.set b.2.1.toNat (.inr (ci, gs.set v.toNat w1))) hN ?_ hl ht2 (hS.set hk ⟨rfl, h3.set g1⟩)
        simp only [m_step, h1]
        rw [if_pos ⟨trivial, by rw [← h3.len]; exact h6, a_fit_ok g1 h7⟩]
      · cases h
    · cases h
  · cases h
end A20

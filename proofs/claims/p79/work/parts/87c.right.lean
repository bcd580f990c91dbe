/-! the step over bounds is right -/
section A19
variable {ρ : Nat → Int} {N : a_N} {B : List a_E} {S : a_S} {σ : m_S} {lv : a_L} {lv' : m_V} {st : List a_V} {st' : List Value}
theorem a_beq (a b : Nat) : Nat.beq a b = (a == b) := by
  rw [Bool.eq_iff_iff, beq_iff_eq]
  exact ⟨Nat.eq_of_beq_eq_true, fun h => by rw [h]; exact Nat.beq_refl b⟩
theorem a_c2_ok {v : a_V} {w : Value} (h : a_gv ρ v w) : a_c2 v = (w.category == 2) := by
  rw [← a_gv_cat h]
  unfold a_c2 a_cat
  rw [a_beq, a_beq]
  by_cases h1 : v.1 = 1
  · simp [h1]
  · by_cases h2 : v.1 = 5
    · simp [h2]
    · simp [h1, h2]
theorem a_ld_ok : ∀ {lv : a_L} {lv' : m_V} {i : Nat} {w : a_V}, a_all2 (a_gl ρ) lv lv' → a_ld lv i = some w → ∃ u, m_ld lv' i = some u ∧ a_gv ρ w u
  | x :: lv, z :: lv', i, w, h, e => by
    unfold a_ld at e
    rw [a_beq, h.1.1] at e
    unfold m_ld
    rw [List.find?_cons]
    by_cases hb : (z.1 == i) = true
    · rw [hb] at e ⊢
      cases e
      exact ⟨z.2, rfl, h.1.2⟩
    · simp only [Bool.not_eq_true] at hb
      rw [hb] at e ⊢
      exact a_ld_ok (lv := lv) (lv' := lv') h.2 e
theorem a_st1_ok {i : Nat} {v : a_V} {w : Value} (h : a_all2 (a_gl ρ) lv lv') (hv : a_gv ρ v w) : a_all2 (a_gl ρ) (a_st1 lv i v) (m_st1 lv' i w) := by
  refine ⟨⟨rfl, hv⟩, a_all2.filter (fun a b hab => ?_) h⟩
  rw [a_beq, a_beq, hab.1, a_c2_ok hab.2]
theorem a_st2_ok {i : Nat} {v : a_V} {w : Value} (h : a_all2 (a_gl ρ) lv lv') (hv : a_gv ρ v w) : a_all2 (a_gl ρ) (a_st2 lv i v) (m_st2 lv' i w) := by
  refine ⟨⟨rfl, hv⟩, a_all2.filter (fun a b hab => ?_) h⟩
  rw [a_beq, a_beq, a_beq, hab.1, a_c2_ok hab.2]
theorem a_uncons {α β : Type} {R : α → β → Prop} {a : α} {as : List α} {bs : List β} (h : a_all2 R (a :: as) bs) : ∃ b t, bs = b :: t ∧ R a b ∧ a_all2 R as t := by
  cases bs with
  | nil => exact h.elim
  | cons b t => exact ⟨b, t, rfl, h.1, h.2⟩
theorem a_unnil {α β : Type} {R : α → β → Prop} {bs : List β} (h : a_all2 R ([] : List α) bs) : bs = [] := by
  cases bs with
  | nil => rfl
  | cons b t => exact h.elim
theorem a_lku_filter (k j : Nat) (h : ¬ j = k) : ∀ l : List (Nat × a_E), a_lku (l.filter (fun q => !(Nat.beq q.1 k))) j = a_lku l j
  | [] => rfl
  | q :: r => by
    rw [List.filter_cons]
    by_cases hq : q.1 = k
    · have e1 : (!(Nat.beq q.1 k)) = false := by rw [hq, Nat.beq_refl]; rfl
      rw [e1, if_neg (by simp), a_lku_filter k j h r]
      show a_lku r j = bif Nat.beq q.1 j then some q.2 else a_lku r j
      have e2 : Nat.beq q.1 j = false := by rw [a_beq, hq]; simpa using fun e : k = j => h e.symm
      rw [e2]
      rfl
    · have e1 : (!(Nat.beq q.1 k)) = true := by rw [a_beq]; simpa using hq
      rw [e1, if_pos rfl]
      show (bif Nat.beq q.1 j then some q.2 else a_lku (r.filter _) j) = bif Nat.beq q.1 j then some q.2 else a_lku r j
      rw [a_lku_filter k j h r]
theorem a_at_set {k j : Nat} {x : a_E} : a_at B (a_set S k x) j = if j = k then some x else a_at B S j := by
  unfold a_at a_set
  show (match (bif Nat.beq k j then some x else a_lku (S.2.filter _) j) with
    | some x => some x
    | none => B[j]?) = _
  by_cases h : j = k
  · subst h
    rw [Nat.beq_refl, if_pos rfl]
    rfl
  · have e2 : Nat.beq k j = false := by rw [a_beq]; simpa using fun e : k = j => h e.symm
    rw [e2, if_neg h]
    show (match a_lku (S.2.filter _) j with
    | some x => some x
    | none => B[j]?) = _
    rw [a_lku_filter k j h]
    rfl
theorem a_at_push {j : Nat} {x : a_E} : a_at B (a_push S x) j = if j = S.1 then some x else a_at B S j := by
  unfold a_at a_push
  show (match (bif Nat.beq S.1 j then some x else a_lku S.2 j) with
    | some x => some x
    | none => B[j]?) = _
  by_cases h : j = S.1
  · subst h
    rw [Nat.beq_refl, if_pos rfl]
    rfl
  · have e2 : Nat.beq S.1 j = false := by rw [a_beq]; simpa using fun e : S.1 = j => h e.symm
    rw [e2, if_neg h]
    rfl
theorem a_gS.set (h : a_gS ρ B S σ) {k : Nat} {x : a_E} {z : m_E} (hk : k < σ.length) (hz : a_ge ρ x z) : a_gS ρ B (a_set S k x) (σ.set k z) := by
  refine ⟨by rw [List.length_set]; exact h.1, fun j y hj => ?_⟩
  rw [a_at_set] at hj
  rw [List.getElem?_set]
  by_cases e : j = k
  · subst e
    rw [if_pos rfl] at hj
    cases hj
    rw [if_pos rfl, if_pos hk]
    exact ⟨z, rfl, hz⟩
  · rw [if_neg e] at hj
    rw [if_neg (fun q => e q.symm)]
    exact h.2 j y hj
theorem a_gS.push (h : a_gS ρ B S σ) {x : a_E} {z : m_E} (hz : a_ge ρ x z) : a_gS ρ B (a_push S x) (σ ++ [z]) := by
  refine ⟨by rw [List.length_append, h.1]; rfl, fun j y hj => ?_⟩
  rw [a_at_push] at hj
  by_cases e : j = S.1
  · subst e
    rw [if_pos rfl] at hj
    cases hj
    rw [← h.1]
    exact ⟨z, by simp, hz⟩
  · rw [if_neg e] at hj
    obtain ⟨w, h1, h2⟩ := h.2 j y hj
    have hl : j < σ.length := (List.getElem?_eq_some_iff.mp h1).1
    exact ⟨w, by rw [List.getElem?_append_left hl]; exact h1, h2⟩
def a_ST (ρ : Nat → Int) (B : List a_E) (lv : a_L) (st : List a_V) (S : a_S) (lv' : m_V) (st' : List Value) (σ : m_S) : Prop := a_all2 (a_gl ρ) lv lv' ∧ a_all2 (a_gv ρ) st st' ∧ a_gS ρ B S σ
def a_Post (ρ : Nat → Int) (B : List a_E) (fz : List (List Int32)) (I : m_I) (pc nx : Nat) (lv' : m_V) (st' : List Value) (σ : m_S) (L : List a_R) : Prop := ∃ q ∈ L, a_gN q.1 ρ ∧ ((q.2.1 = pc ∧ a_ST ρ B q.2.2.1 q.2.2.2.1 q.2.2.2.2 lv' st' σ) ∨ ∃ lv1 st1 σ1, m_step fz I nx lv' st' σ = some (.inl (q.2.1, lv1, st1, σ1)) ∧ a_ST ρ B q.2.2.1 q.2.2.2.1 q.2.2.2.2 lv1 st1 σ1)
theorem a_P1 {fz : List (List Int32)} {I : m_I} {pc nx pc' : Nat} {M : a_N} {l1 : a_L} {s1 : List a_V} {S1 : a_S} {lv1 : m_V} {st1 : List Value} {σ1 : m_S} (hM : a_gN M ρ) (hs : m_step fz I nx lv' st' σ = some (.inl (pc', lv1, st1, σ1))) (h1 : a_all2 (a_gl ρ) l1 lv1) (h2 : a_all2 (a_gv ρ) s1 st1) (h3 : a_gS ρ B S1 σ1) : a_Post ρ B fz I pc nx lv' st' σ [(M, pc', l1, s1, S1)] :=
  ⟨_, List.mem_singleton.mpr rfl, hM, Or.inr ⟨lv1, st1, σ1, hs, h1, h2, h3⟩⟩
variable {fz : List (List Int32)} {pc nx a : Nat} {v : Int} {l : List Nat} {L : List a_R}
theorem a_h0_ok (hN : a_gN N ρ) (hl : a_all2 (a_gl ρ) lv lv') (ht : a_all2 (a_gv ρ) st st') (hS : a_gS ρ B S σ) (h : a_h0 N v nx lv st S = some L) : a_Post ρ B fz (0, a, v, l) pc nx lv' st' σ L := by
  obtain ⟨h1, rfl⟩ := m_if h
  refine a_P1 hN rfl hl ⟨?_, ht⟩ hS
  show v ≤ (Int32.ofInt v).toInt ∧ (Int32.ofInt v).toInt ≤ v
  rw [Int32.toInt_ofInt, a_bm h1.1 h1.2]
  exact ⟨Int.le_refl _, Int.le_refl _⟩
theorem a_h1_ok (hN : a_gN N ρ) (hl : a_all2 (a_gl ρ) lv lv') (ht : a_all2 (a_gv ρ) st st') (hS : a_gS ρ B S σ) (h : a_h1 N v nx lv st S = some L) : a_Post ρ B fz (1, a, v, l) pc nx lv' st' σ L := by
  obtain ⟨h1, rfl⟩ := m_if h
  refine a_P1 hN rfl hl ⟨?_, ht⟩ hS
  show v ≤ (Int64.ofInt v).toInt ∧ (Int64.ofInt v).toInt ≤ v
  have e : v.bmod (2 ^ 64) = v := by apply Int.bmod_eq_of_le <;> omega
  rw [Int64.toInt_ofInt, e]
  exact ⟨Int.le_refl _, Int.le_refl _⟩
theorem a_h2_ok (hN : a_gN N ρ) (hl : a_all2 (a_gl ρ) lv lv') (ht : a_all2 (a_gv ρ) st st') (hS : a_gS ρ B S σ) (h : a_h2 N a v nx lv st S = some L) : a_Post ρ B fz (2, a, v, l) pc nx lv' st' σ L := by
  unfold a_h2 at h
  split at h
  · rename_i w hw
    obtain ⟨h1, rfl⟩ := m_if h
    obtain ⟨u, h2, h3⟩ := a_ld_ok hl hw
    refine a_P1 (st1 := u :: st') hN ?_ hl ⟨h3, ht⟩ hS
    simp only [m_step, h2]
    rw [if_pos (by rw [← a_gv_knd h3]; exact h1)]
  · cases h
theorem a_h3_ok (hN : a_gN N ρ) (hl : a_all2 (a_gl ρ) lv lv') (ht : a_all2 (a_gv ρ) st st') (hS : a_gS ρ B S σ) (h : a_h3 N a v nx lv st S = some L) : a_Post ρ B fz (3, a, v, l) pc nx lv' st' σ L := by
  unfold a_h3 at h
  split at h
  · rename_i w r
    obtain ⟨h1, rfl⟩ := m_if h
    obtain ⟨u, t, rfl, h2, h3⟩ := a_uncons ht
    refine a_P1 (lv1 := if v = 1 then m_st2 lv' a u else m_st1 lv' a u) hN ?_ ?_ h3 hS
    · simp only [m_step]
      rw [if_pos (by rw [← a_gv_knd h2]; exact h1)]
    · split
      · exact a_st2_ok hl h2
      · exact a_st1_ok hl h2
  · cases h
theorem a_h4_ok (hN : a_gN N ρ) (hl : a_all2 (a_gl ρ) lv lv') (ht : a_all2 (a_gv ρ) st st') (hS : a_gS ρ B S σ) (h : a_h4 N a v nx lv st S = some L) : a_Post ρ B fz (4, a, v, l) pc nx lv' st' σ L := by
  unfold a_h4 at h
  split at h
  · rename_i w hw
    split at h
    · rename_i q hq
      split at h
      · rename_i hv
        obtain ⟨z, h1, rfl⟩ := Option.map_eq_some_iff.mp h
        obtain ⟨u, h2, h3⟩ := a_ld_ok hl hw
        obtain ⟨x, rfl, h4⟩ := a_iv_ok hN h3 hq
        have e : (Int32.ofInt v).toInt = v := by rw [Int32.toInt_ofInt, a_bm hv.1 hv.2]
        obtain ⟨y, h5, h6⟩ := a_ib_ok (x := x) (y := Int32.ofInt v) h4 (by rw [e]; exact ⟨Int.le_refl _, Int.le_refl _⟩) h1
        cases h5
        refine a_P1 (lv1 := m_st1 lv' a (.int (x + Int32.ofInt v))) hN ?_ (a_st1_ok hl h6) ht hS
        simp only [m_step, h2]
      · cases h
    · cases h
  · cases h
theorem a_h5_ok (hN : a_gN N ρ) (hl : a_all2 (a_gl ρ) lv lv') (ht : a_all2 (a_gv ρ) st st') (hS : a_gS ρ B S σ) (h : a_h5 N a nx lv st S = some L) : a_Post ρ B fz (5, a, v, l) pc nx lv' st' σ L := by
  unfold a_h5 at h
  split at h
  · rename_i y x r
    split at h
    · rename_i p q hp hq
      obtain ⟨z, h1, rfl⟩ := Option.map_eq_some_iff.mp h
      obtain ⟨w1, t, rfl, g1, ht1⟩ := a_uncons ht
      obtain ⟨w2, t, rfl, g2, ht2⟩ := a_uncons ht1
      obtain ⟨Y, rfl, g3⟩ := a_iv_ok hN g1 hq
      obtain ⟨X, rfl, g4⟩ := a_iv_ok hN g2 hp
      obtain ⟨Z, h5, h6⟩ := a_ib_ok g4 g3 h1
      refine a_P1 (st1 := .int Z :: t) hN ?_ hl ⟨h6, ht2⟩ hS
      simp only [m_step, h5, Option.map_some]
    · cases h
  · cases h
theorem a_h6_ok (hN : a_gN N ρ) (hl : a_all2 (a_gl ρ) lv lv') (ht : a_all2 (a_gv ρ) st st') (hS : a_gS ρ B S σ) (h : a_h6 N a nx lv st S = some L) : a_Post ρ B fz (6, a, v, l) pc nx lv' st' σ L := by
  unfold a_h6 at h
  split at h
  · rename_i y x r
    split at h
    · rename_i p q hp hq
      obtain ⟨z, h1, rfl⟩ := Option.map_eq_some_iff.mp h
      obtain ⟨w1, t, rfl, g1, ht1⟩ := a_uncons ht
      obtain ⟨w2, t, rfl, g2, ht2⟩ := a_uncons ht1
      obtain ⟨Y, rfl, g3⟩ := a_ll_ok hN g1 hq
      obtain ⟨X, rfl, g4⟩ := a_ll_ok hN g2 hp
      obtain ⟨Z, h5, h6⟩ := a_lb_ok g4 g3 h1
      refine a_P1 (st1 := .long Z :: t) hN ?_ hl ⟨h6, ht2⟩ hS
      simp only [m_step, h5, Option.map_some]
    · cases h
  · cases h
theorem a_h28_ok (hN : a_gN N ρ) (hl : a_all2 (a_gl ρ) lv lv') (ht : a_all2 (a_gv ρ) st st') (hS : a_gS ρ B S σ) (h : a_h28 N a nx lv st S = some L) : a_Post ρ B fz (28, a, v, l) pc nx lv' st' σ L := by
  unfold a_h28 at h
  split at h
  · rename_i y x r
    split at h
    · rename_i p q hp hq
      obtain ⟨z, h1, rfl⟩ := Option.map_eq_some_iff.mp h
      obtain ⟨w1, t, rfl, g1, ht1⟩ := a_uncons ht
      obtain ⟨w2, t, rfl, g2, ht2⟩ := a_uncons ht1
      obtain ⟨Y, rfl, g3⟩ := a_iv_ok hN g1 hq
      obtain ⟨X, rfl, g4⟩ := a_ll_ok hN g2 hp
      obtain ⟨Z, h5, h6⟩ := a_lsh_ok g4 g3 h1
      refine a_P1 (st1 := .long Z :: t) hN ?_ hl ⟨h6, ht2⟩ hS
      simp only [m_step, h5, Option.map_some]
    · cases h
  · cases h
theorem a_un_ok {k : Nat} {v z : a_V} {w : Value} (hN : a_gN N ρ) (hv : a_gv ρ v w) (h : a_un N k v = some z) : ∃ u, m_un k w = some u ∧ a_gv ρ z u := by
  unfold a_un at h
  split at h
  · obtain ⟨q, h1, rfl⟩ := Option.map_eq_some_iff.mp h
    obtain ⟨x, rfl, h2⟩ := a_iv_ok hN hv h1
    refine ⟨_, rfl, ?_⟩
    split
    · rename_i e
      rw [a_ex32 e h2.1 h2.2]
      exact ⟨Int.le_refl _, Int.le_refl _⟩
    · exact a_i32 _
  · split at h
    · rename_i e
      obtain ⟨t, b⟩ := v
      dsimp only at e
      subst e
      cases h
      cases w with
      | int x =>
        refine ⟨_, rfl, ?_⟩
        show x.toInt64.toInt = _
        rw [a_i2l]
        exact hv
      | _ => exact hv.elim
    · obtain ⟨q, h1, rfl⟩ := Option.map_eq_some_iff.mp h
      obtain ⟨x, rfl, h2⟩ := a_iv_ok hN hv h1
      refine ⟨_, rfl, ?_⟩
      show q.1 ≤ x.toInt64.toInt ∧ x.toInt64.toInt ≤ q.2
      rw [a_i2l]
      exact h2
  · obtain ⟨q, h1, rfl⟩ := Option.map_eq_some_iff.mp h
    obtain ⟨x, rfl, h2⟩ := a_ll_ok hN hv h1
    refine ⟨_, rfl, ?_⟩
    split
    · rename_i e
      have e2 := a_l2i (x := x) (by omega) (by omega)
      split
      · rename_i e5
        obtain ⟨t, b⟩ := v
        dsimp only at e5
        subst e5
        show x.toInt32.toInt = _
        rw [e2]
        exact hv
      · show q.1 ≤ x.toInt32.toInt ∧ x.toInt32.toInt ≤ q.2
        rw [e2]
        exact h2
    · exact a_i32 _
  · obtain ⟨q, h1, rfl⟩ := Option.map_eq_some_iff.mp h
    obtain ⟨x, rfl, h2⟩ := a_iv_ok hN hv h1
    refine ⟨_, rfl, ?_⟩
    split
    · rename_i e
      rw [a_i2b (x := x) (by omega) (by omega)]
      exact hv
    · exact a_i2bR x
  · obtain ⟨q, h1, rfl⟩ := Option.map_eq_some_iff.mp h
    obtain ⟨x, rfl, h2⟩ := a_iv_ok hN hv h1
    refine ⟨_, rfl, ?_⟩
    split
    · rename_i e
      rw [a_i2s (x := x) (by omega) (by omega)]
      exact hv
    · exact a_i2sR x
  · obtain ⟨q, h1, rfl⟩ := Option.map_eq_some_iff.mp h
    obtain ⟨x, rfl, h2⟩ := a_ll_ok hN hv h1
    refine ⟨_, rfl, ?_⟩
    split
    · rename_i e
      rw [a_ex64 e h2.1 h2.2]
      exact ⟨Int.le_refl _, Int.le_refl _⟩
    · exact a_i64 _
  · cases h
theorem a_h7_ok (hN : a_gN N ρ) (hl : a_all2 (a_gl ρ) lv lv') (ht : a_all2 (a_gv ρ) st st') (hS : a_gS ρ B S σ) (h : a_h7 N a nx lv st S = some L) : a_Post ρ B fz (7, a, v, l) pc nx lv' st' σ L := by
  unfold a_h7 at h
  split at h
  · rename_i w r
    obtain ⟨z, h1, rfl⟩ := Option.map_eq_some_iff.mp h
    obtain ⟨w1, t, rfl, g1, ht1⟩ := a_uncons ht
    obtain ⟨u, h2, h3⟩ := a_un_ok hN g1 h1
    refine a_P1 (st1 := u :: t) hN ?_ hl ⟨h3, ht1⟩ hS
    simp only [m_step, h2, Option.map_some]
  · cases h
theorem a_h8_ok (hN : a_gN N ρ) (hl : a_all2 (a_gl ρ) lv lv') (ht : a_all2 (a_gv ρ) st st') (hS : a_gS ρ B S σ) (h : a_h8 N nx lv st S = some L) : a_Post ρ B fz (8, a, v, l) pc nx lv' st' σ L := by
  unfold a_h8 at h
  split at h
  · rename_i y x r
    obtain ⟨z, h1, rfl⟩ := Option.map_eq_some_iff.mp h
    obtain ⟨w1, t, rfl, g1, ht1⟩ := a_uncons ht
    obtain ⟨w2, t, rfl, g2, ht2⟩ := a_uncons ht1
    unfold a_lcm at h1
    split at h1
    · rename_i p q hp hq
      obtain ⟨Y, rfl, g3⟩ := a_ll_ok hN g1 hq
      obtain ⟨X, rfl, g4⟩ := a_ll_ok hN g2 hp
      refine a_P1 (st1 := .int (lg_cmp X Y) :: t) hN rfl hl ⟨?_, ht2⟩ hS
      split at h1
      · rename_i e
        cases h1
        obtain ⟨t0, b⟩ := x
        obtain ⟨e1, e2⟩ := e
        dsimp only at e1
        subst e1
        show (lg_cmp X Y).toInt = a_sg (ρ b.1.toNat) q.1
        rw [a_cmpI]
        have e3 : X.toInt = ρ b.1.toNat := g2
        have e4 : Y.toInt = q.1 := by omega
        rw [e3, e4]
      · have e0 := a_cmpI X Y
        unfold a_sg at e0
        split at h1
        · cases h1
          rw [if_pos (by omega)] at e0
          show (1 : Int) ≤ (lg_cmp X Y).toInt ∧ (lg_cmp X Y).toInt ≤ 1
          omega
        · split at h1
          · cases h1
            rw [if_neg (by omega), if_neg (by omega)] at e0
            show (-1 : Int) ≤ (lg_cmp X Y).toInt ∧ (lg_cmp X Y).toInt ≤ -1
            omega
          · split at h1
            · cases h1
              rw [if_neg (by omega), if_pos (by omega)] at e0
              show (0 : Int) ≤ (lg_cmp X Y).toInt ∧ (lg_cmp X Y).toInt ≤ 0
              omega
            · cases h1
              show (-1 : Int) ≤ (lg_cmp X Y).toInt ∧ (lg_cmp X Y).toInt ≤ 1
              split at e0
              · omega
              · split at e0 <;> omega
    · cases h1
  · cases h
theorem a_h9_ok (hN : a_gN N ρ) (hl : a_all2 (a_gl ρ) lv lv') (ht : a_all2 (a_gv ρ) st st') (hS : a_gS ρ B S σ) (h : a_h9 N a nx lv st S = some L) : a_Post ρ B fz (9, a, v, l) pc nx lv' st' σ L := by
  unfold a_h9 at h
  obtain ⟨z, h1, rfl⟩ := Option.map_eq_some_iff.mp h
  have key : ∃ t, m_stk a st' = some t ∧ a_all2 (a_gv ρ) z t := by
    unfold a_stk at h1
    split at h1
    · obtain ⟨h2, rfl⟩ := m_if h1
      obtain ⟨w1, t, rfl, g1, ht1⟩ := a_uncons ht
      exact ⟨t, by simp only [m_stk]; rw [if_pos (by rw [← a_gv_cat g1]; exact h2)], ht1⟩
    · obtain ⟨h2, rfl⟩ := m_if h1
      obtain ⟨w1, t, rfl, g1, ht1⟩ := a_uncons ht
      exact ⟨t, by simp only [m_stk]; rw [if_pos (by rw [← a_gv_cat g1]; exact h2)], ht1⟩
    · obtain ⟨h2, rfl⟩ := m_if h1
      obtain ⟨w1, t, rfl, g1, ht1⟩ := a_uncons ht
      exact ⟨w1 :: w1 :: t, by simp only [m_stk]; rw [if_pos (by rw [← a_gv_cat g1]; exact h2)], g1, g1, ht1⟩
    · obtain ⟨h2, rfl⟩ := m_if h1
      obtain ⟨w1, t, rfl, g1, ht1⟩ := a_uncons ht
      obtain ⟨w2, t, rfl, g2, ht2⟩ := a_uncons ht1
      exact ⟨w1 :: w2 :: w1 :: w2 :: t, by simp only [m_stk]; rw [if_pos (by rw [← a_gv_cat g1, ← a_gv_cat g2]; exact h2)], g1, g2, g1, g2, ht2⟩
    · cases h1
  obtain ⟨t, h2, h3⟩ := key
  refine a_P1 (st1 := t) hN ?_ hl h3 hS
  simp only [m_step, h2, Option.map_some]
theorem a_h10_ok (hN : a_gN N ρ) (hl : a_all2 (a_gl ρ) lv lv') (ht : a_all2 (a_gv ρ) st st') (hS : a_gS ρ B S σ) (h : a_h10 N a lv st S = some L) : a_Post ρ B fz (10, a, v, l) pc nx lv' st' σ L := by
  cases h
  exact a_P1 hN rfl hl ht hS
theorem a_h11_ok (hN : a_gN N ρ) (hl : a_all2 (a_gl ρ) lv lv') (ht : a_all2 (a_gv ρ) st st') (hS : a_gS ρ B S σ) (h : a_h11 N a v nx lv st S = some L) : a_Post ρ B fz (11, a, v, l) pc nx lv' st' σ L := by
  unfold a_h11 at h
  split at h
  · rename_i x r
    obtain ⟨w1, t, rfl, g1, ht1⟩ := a_uncons ht
    unfold a_two at h
    split at h
    · rename_i u w hu hw
      cases h
      obtain ⟨X, rfl, k1⟩ := a_br1_ok hN g1 hu
      obtain ⟨X', e, k2⟩ := a_br1_ok hN g1 hw
      cases e
      by_cases hc : m_cd v X 0 = true
      · obtain ⟨M, h1, h2⟩ := k1 ((a_cd_rel _ _ _).mp hc)
        refine ⟨_, List.mem_append_left _ (List.mem_map.mpr ⟨M, h1, rfl⟩), h2, Or.inr ⟨lv', t, σ, ?_, hl, ht1, hS⟩⟩
        simp only [m_step]
        rw [if_pos hc]
      · obtain ⟨M, h1, h2⟩ := k2 (a_ng_rel _ _ _ (fun h9 => hc ((a_cd_rel _ _ _).mpr h9)))
        refine ⟨_, List.mem_append_right _ (List.mem_map.mpr ⟨M, h1, rfl⟩), h2, Or.inr ⟨lv', t, σ, ?_, hl, ht1, hS⟩⟩
        simp only [m_step]
        rw [if_neg hc]
    · cases h
  · cases h
theorem a_h12_ok (hN : a_gN N ρ) (hl : a_all2 (a_gl ρ) lv lv') (ht : a_all2 (a_gv ρ) st st') (hS : a_gS ρ B S σ) (h : a_h12 N a v nx lv st S = some L) : a_Post ρ B fz (12, a, v, l) pc nx lv' st' σ L := by
  unfold a_h12 at h
  split at h
  · rename_i y x r
    obtain ⟨w1, t, rfl, g1, ht1⟩ := a_uncons ht
    obtain ⟨w2, t, rfl, g2, ht2⟩ := a_uncons ht1
    unfold a_two at h
    split at h
    · rename_i u w hu hw
      cases h
      obtain ⟨X, Y, rfl, rfl, k1⟩ := a_cmp_ok hN g2 g1 hu
      obtain ⟨X', Y', e, e', k2⟩ := a_cmp_ok hN g2 g1 hw
      cases e
      cases e'
      by_cases hc : m_cd v X Y = true
      · obtain ⟨M, h1, h2⟩ := k1 ((a_cd_rel _ _ _).mp hc)
        refine ⟨_, List.mem_append_left _ (List.mem_map.mpr ⟨M, h1, rfl⟩), h2, Or.inr ⟨lv', t, σ, ?_, hl, ht2, hS⟩⟩
        simp only [m_step]
        rw [if_pos hc]
      · obtain ⟨M, h1, h2⟩ := k2 (a_ng_rel _ _ _ (fun h9 => hc ((a_cd_rel _ _ _).mpr h9)))
        refine ⟨_, List.mem_append_right _ (List.mem_map.mpr ⟨M, h1, rfl⟩), h2, Or.inr ⟨lv', t, σ, ?_, hl, ht2, hS⟩⟩
        simp only [m_step]
        rw [if_neg hc]
    · cases h
  · cases h
end A19

/-! the step over bounds is right: stores, new cells, copies -/
section A22
variable {ρ : Nat → Int} {N : a_N} {B : List a_E} {S : a_S} {σ : m_S} {lv : a_L} {lv' : m_V} {st : List a_V} {st' : List Value}
variable {fz : List (List Int32)} {af : a_Z} {pc nx a : Nat} {v : Int} {l : List Nat} {L : List a_R}
theorem a_bool (x : Int32) : vp_nar .boolean x = x &&& 1 := rfl
theorem a_bool1 {x : Int32} (h1 : 0 ≤ x.toInt) (h2 : x.toInt ≤ 1) : vp_nar .boolean x = x := by
  have h : x = 0 ∨ x = 1 := by
    have e : x.toInt = 0 ∨ x.toInt = 1 := by omega
    rcases e with e | e
    · exact Or.inl (Int32.toInt_inj.mp e)
    · exact Or.inr (Int32.toInt_inj.mp e)
  rcases h with rfl | rfl <;> rfl
theorem a_boolR (x : Int32) : 0 ≤ (vp_nar .boolean x).toInt ∧ (vp_nar .boolean x).toInt ≤ 1 := by
  rw [a_bool]
  exact a_and (x := x) (y := 1) (by decide)
/-- an array with one place put -/
theorem a_aput_ok {α : Type} {f : α → Value} {t n k : Nat} {arr r : a_V ⊕ List a_V} {q : Int × Int} {w : a_V} {xs : List α} {x : α} (hN : a_gN N ρ) (hn : xs.length = n) (hk : k < n) (hq : q.1 = q.2 → q.1.toNat = k) (hw : a_gv ρ w (f x)) (h : a_aput N t arr n q w = some r)
    (hu : ∀ u, arr = .inl u → ∀ y ∈ xs, a_gv ρ u (f y)) (hl : ∀ vs, arr = .inr vs → a_all2 (a_gv ρ) vs (xs.map f)) : (∃ u, r = .inl u ∧ (∃ u0, arr = .inl u0) ∧ ∀ y ∈ xs.set k x, a_gv ρ u (f y)) ∨ ∃ vs, r = .inr vs ∧ a_all2 (a_gv ρ) vs ((xs.set k x).map f) := by
  unfold a_aput at h
  split at h
  · rename_i u
    have h0 := hu u rfl
    split at h
    · rename_i hle
      cases h
      refine Or.inl ⟨u, rfl, ⟨u, rfl⟩, fun y hy => ?_⟩
      rcases List.mem_or_eq_of_mem_set hy with h1 | h1
      · exact h0 y h1
      · rw [h1]
        exact a_le1_ok hN hle hw
    · split at h
      · rename_i he
        cases h
        refine Or.inr ⟨_, rfl, ?_⟩
        rw [hq he.1, List.map_set]
        have h1 : a_all2 (a_gv ρ) (List.replicate (xs.map f).length u) (xs.map f) := a_all2.rep (fun b hb => by
          obtain ⟨y, h2, rfl⟩ := List.mem_map.mp hb
          exact h0 y h2)
        rw [List.length_map, hn] at h1
        exact h1.set hw
      · obtain ⟨j, h1, rfl⟩ := Option.map_eq_some_iff.mp h
        refine Or.inl ⟨j, rfl, ⟨u, rfl⟩, fun y hy => ?_⟩
        rcases List.mem_or_eq_of_mem_set hy with h2 | h2
        · exact a_jn_ok hN h1 (Or.inl (h0 y h2))
        · rw [h2]
          exact a_jn_ok hN h1 (Or.inr hw)
  · rename_i vs
    have h0 := hl vs rfl
    split at h
    · rename_i he
      cases h
      refine Or.inr ⟨_, rfl, ?_⟩
      rw [hq he, List.map_set]
      exact h0.set hw
    · split at h
      · obtain ⟨us, h1, rfl⟩ := Option.map_eq_some_iff.mp h
        refine Or.inr ⟨us, rfl, ?_⟩
        rw [List.map_set]
        exact a_mj_set hN hw k h1 h0
      · cases h
theorem a_ast_ok {X : Int32} {q : Int × Int} {b : Nat} {w : a_V} {W : Value} {S' : a_S} (hN : a_gN N ρ) (hS : a_gS ρ B S σ) (hX : q.1 ≤ X.toInt ∧ X.toInt ≤ q.2) (hw : a_gv ρ w W) (h : a_ast B N a w q b S = some S') : ∃ τ, m_ast a W X b σ = some τ ∧ a_gS ρ B S' τ := by
  unfold a_ast at h
  split at h
  · rename_i t n arr hat
    split at h
    · rename_i hq
      split at h
      · rename_i w' hnar
        obtain ⟨r, h1, rfl⟩ := Option.map_eq_some_iff.mp h
        obtain ⟨z, h2, h3⟩ := hS.2 _ _ hat
        have hkb := (List.getElem?_eq_some_iff.mp h2).1
        have hex : q.1 = q.2 → q.1.toNat = X.toNatClampNeg := fun e => by show _ = X.toInt.toNat; congr 1; omega
        unfold m_ast
        rw [h2]
        unfold a_nar at hnar
        -- an array of ints: any of its three kinds
        have ints : ∀ (y : Int32), t < 3 → a_gv ρ w' (.int y) → ∃ xs : List Int32, z = .inl (t, .inl xs) ∧ m_in X xs.length = true ∧ a_gS ρ B (a_set S b (.inl (t, n, r))) (σ.set b (.inl (t, .inl (xs.set X.toNatClampNeg y)))) := by
          intro y ht hy
          rcases arr with u | vs
          · rcases z with ⟨t', xs | xs | xs⟩ | ⟨ci', gs⟩
            · obtain ⟨rfl, g1, g2, g3⟩ := h3
              obtain ⟨k1, k2, k3⟩ := a_inb (n := xs.length) hX (by rw [g2]; exact hq)
              refine ⟨xs, rfl, k1, hS.set hkb ?_⟩
              rcases a_aput_ok (f := Value.int) hN g2 (by rw [← g2]; exact k2) hex hy h1 (fun u0 e y hy => by cases e; exact g3 y hy) (fun vs e => by cases e) with ⟨u', rfl, -, hh⟩ | ⟨vs', rfl, hh⟩
              · exact ⟨rfl, g1, by rw [List.length_set]; exact g2, hh⟩
              · exact ⟨rfl, g1, by rw [List.length_set]; exact g2, hh⟩
            · obtain ⟨rfl, g1, g2, g3⟩ := h3
              omega
            · exact h3.elim
            · exact h3.elim
          · rcases z with ⟨t', xs | xs | xs⟩ | ⟨ci', gs⟩
            · obtain ⟨rfl, g1, g2, g3⟩ := h3
              obtain ⟨k1, k2, k3⟩ := a_inb (n := xs.length) hX (by rw [g2]; exact hq)
              refine ⟨xs, rfl, k1, hS.set hkb ?_⟩
              rcases a_aput_ok (f := Value.int) hN g2 (by rw [← g2]; exact k2) hex hy h1 (fun u0 e => by cases e) (fun vs e => by cases e; exact g3) with ⟨u', rfl, ⟨u0, e⟩, hh⟩ | ⟨vs', rfl, hh⟩
              · cases e
              · exact ⟨rfl, g1, by rw [List.length_set]; exact g2, hh⟩
            · obtain ⟨rfl, g1, g2, g3⟩ := h3
              omega
            · obtain ⟨rfl, g1, g2, g3⟩ := h3
              omega
            · exact h3.elim
        split at hnar
        · rename_i hat0
          obtain ⟨rfl, rfl⟩ := hat0
          obtain ⟨p, hp, e⟩ := Option.map_eq_some_iff.mp hnar
          subst e
          obtain ⟨y, rfl, -⟩ := a_iv_ok hN hw hp
          obtain ⟨xs, rfl, k1, k2⟩ := ints y (by decide) hw
          dsimp only
          rw [if_pos k1, if_pos ⟨rfl, rfl⟩]
          exact ⟨_, rfl, k2⟩
        · split at hnar
          · rename_i hat0
            obtain ⟨rfl, rfl⟩ := hat0
            obtain ⟨p, hp, e⟩ := Option.map_eq_some_iff.mp hnar
            obtain ⟨y, rfl, hy⟩ := a_iv_ok hN hw hp
            have hg : a_gv ρ w' (.int (vp_nar .byte y)) := by
              rw [vp_nar_byte, ← e]
              split
              · rw [a_i2b (x := y) (by omega) (by omega)]
                exact hw
              · exact a_i2bR y
            obtain ⟨xs, rfl, k1, k2⟩ := ints _ (by decide) hg
            dsimp only
            rw [if_pos k1, if_neg (by omega), if_pos ⟨rfl, rfl⟩]
            exact ⟨_, rfl, k2⟩
          · split at hnar
            · rename_i hat0
              obtain ⟨rfl, rfl⟩ := hat0
              obtain ⟨p, hp, e⟩ := Option.map_eq_some_iff.mp hnar
              obtain ⟨y, rfl, hy⟩ := a_iv_ok hN hw hp
              have hg : a_gv ρ w' (.int (vp_nar .boolean y)) := by
                rw [← e]
                split
                · rw [a_bool1 (x := y) (by omega) (by omega)]
                  exact hw
                · exact a_boolR y
              obtain ⟨xs, rfl, k1, k2⟩ := ints _ (by decide) hg
              dsimp only
              rw [if_pos k1, if_neg (by omega), if_neg (by omega), if_pos ⟨rfl, rfl⟩]
              exact ⟨_, rfl, k2⟩
            · split at hnar
              · rename_i hat0
                obtain ⟨rfl, rfl⟩ := hat0
                obtain ⟨p, hp, e⟩ := Option.map_eq_some_iff.mp hnar
                subst e
                obtain ⟨y, rfl, -⟩ := a_ll_ok hN hw hp
                rcases arr with u | vs
                · rcases z with ⟨t', xs | xs | xs⟩ | ⟨ci', gs⟩
                  · obtain ⟨rfl, g1, g2, g3⟩ := h3
                    omega
                  · obtain ⟨rfl, g1, g2, g3⟩ := h3
                    obtain ⟨k1, k2, k3⟩ := a_inb (n := xs.length) hX (by rw [g2]; exact hq)
                    dsimp only
                    rw [if_pos ⟨rfl, rfl, k1⟩]
                    refine ⟨_, rfl, hS.set hkb ?_⟩
                    rcases a_aput_ok (f := Value.long) hN g2 (by rw [← g2]; exact k2) hex hw h1 (fun u0 e y hy => by cases e; exact g3 y hy) (fun vs e => by cases e) with ⟨u', rfl, -, hh⟩ | ⟨vs', rfl, hh⟩
                    · exact ⟨rfl, g1, by rw [List.length_set]; exact g2, hh⟩
                    · exact ⟨rfl, g1, by rw [List.length_set]; exact g2, hh⟩
                  · exact h3.elim
                  · exact h3.elim
                · rcases z with ⟨t', xs | xs | xs⟩ | ⟨ci', gs⟩
                  · obtain ⟨rfl, g1, g2, g3⟩ := h3
                    omega
                  · obtain ⟨rfl, g1, g2, g3⟩ := h3
                    obtain ⟨k1, k2, k3⟩ := a_inb (n := xs.length) hX (by rw [g2]; exact hq)
                    dsimp only
                    rw [if_pos ⟨rfl, rfl, k1⟩]
                    refine ⟨_, rfl, hS.set hkb ?_⟩
                    rcases a_aput_ok (f := Value.long) hN g2 (by rw [← g2]; exact k2) hex hw h1 (fun u0 e => by cases e) (fun vs e => by cases e; exact g3) with ⟨u', rfl, ⟨u0, e⟩, hh⟩ | ⟨vs', rfl, hh⟩
                    · cases e
                    · exact ⟨rfl, g1, by rw [List.length_set]; exact g2, hh⟩
                  · obtain ⟨rfl, g1, g2, g3⟩ := h3
                    omega
                  · exact h3.elim
              · split at hnar
                · rename_i hat0
                  obtain ⟨rfl, rfl, hr1, hr2⟩ := hat0
                  split at hnar
                  · rename_i fs0 hat2
                    cases hnar
                    obtain ⟨z2, m1, m2⟩ := hS.2 _ _ hat2
                    obtain ⟨gs, rfl, m3⟩ := a_ge_o m2
                    have eW := a_ref hw ⟨hr1, hr2⟩
                    rw [eW] at hw ⊢
                    rcases arr with u | vs
                    · rcases z with ⟨t', xs | xs | xs⟩ | ⟨ci', gs⟩
                      · obtain ⟨rfl, g1, g2, g3⟩ := h3
                        omega
                      · obtain ⟨rfl, g1, g2, g3⟩ := h3
                        omega
                      · exact h3.elim
                      · exact h3.elim
                    · rcases z with ⟨t', xs | xs | xs⟩ | ⟨ci', gs'⟩
                      · obtain ⟨rfl, g1, g2, g3⟩ := h3
                        omega
                      · obtain ⟨rfl, g1, g2, g3⟩ := h3
                        omega
                      · obtain ⟨rfl, g1, g2, g3⟩ := h3
                        obtain ⟨k1, k2, k3⟩ := a_inb (n := xs.length) hX (by rw [g2]; exact hq)
                        dsimp only
                        rw [m1]
                        dsimp only
                        rw [if_pos ⟨rfl, rfl, rfl, k1⟩]
                        refine ⟨_, rfl, hS.set hkb ?_⟩
                        rcases a_aput_ok (f := va_rf) (x := some w.2.1.toNat) hN g2 (by rw [← g2]; exact k2) hex hw h1 (fun u0 e => by cases e) (fun vs e => by cases e; exact g3) with ⟨u', rfl, ⟨u0, e⟩, hh⟩ | ⟨vs', rfl, hh⟩
                        · cases e
                        · exact ⟨rfl, g1, by rw [List.length_set]; exact g2, hh⟩
                      · exact h3.elim
                  · cases hnar
                · cases hnar
      · cases h
    · cases h
  · cases h
theorem a_h19_ok (hN : a_gN N ρ) (hl : a_all2 (a_gl ρ) lv lv') (ht : a_all2 (a_gv ρ) st st') (hS : a_gS ρ B S σ) (h : a_h19 B N a nx lv st S = some L) : a_Post ρ B fz (19, a, v, l) pc nx lv' st' σ L := by
  unfold a_h19 at h
  split at h
  · rename_i w i b r
    split at h
    · rename_i hb
      split at h
      · rename_i q hq
        obtain ⟨τ, h1, rfl⟩ := Option.map_eq_some_iff.mp h
        obtain ⟨w1, t, rfl, g1, ht1⟩ := a_uncons ht
        obtain ⟨w2, t, rfl, g2, ht2⟩ := a_uncons ht1
        obtain ⟨w3, t, rfl, g3, ht3⟩ := a_uncons ht2
        rw [a_ref g3 hb]
        obtain ⟨X, rfl, g4⟩ := a_iv_ok hN g2 hq
        obtain ⟨τ', h2, h3⟩ := a_ast_ok hN hS g4 g1 h1
        refine a_P1 (st1 := t) (σ1 := τ') hN ?_ hl ht3 h3
        simp only [m_step, h2, Option.map_some]
      · cases h
    · cases h
  · cases h
end A22

/-! what a written place leaves -/
section B65
variable {ρ ρ' : Nat → Int} {W W' : b_NF} {G : b_G} {fz : List (List Int32)} {σ σ' : m_S} {M : b_M} {n : Nat} {T : Nat → Option b_C} {dep Wr : Nat → Nat → Bool}
theorem b_tys_ok {c : b_C} {x : b_L} {i : Nat} {t : b_T} (hm : 0 < c.2.2.2.1) (hx : b_ev ρ x = (i : Int)) (h : c.2.2.2.2[i % c.2.2.2.1]? = some t) : t ∈ b_tys c x := by
  unfold b_tys
  split
  · rename_i t' e
    rw [e] at h
    exact List.mem_of_getElem? h
  · split
    · rename_i r hr
      rw [b_res_ok hm hx hr, h]
      exact List.mem_singleton.mpr rfl
    · exact List.mem_of_getElem? h
theorem b_kill_ok (hG : b_GOk G dep) (hD : b_DepOk dep) (hM : b_gM G fz n ρ σ M) {cell i : Nat} {x : b_L} {w : Value} (hc : cell < 139) (hx : b_ev ρ x = (i : Int)) (hu : b_upd σ cell i w σ') : b_gM G fz n ρ σ' (b_kill dep cell x M) := by
  intro q hq
  obtain ⟨h1, h2⟩ := List.mem_filter.mp hq
  obtain ⟨a, g1, g2⟩ := hM q h1
  refine ⟨a, g1, ?_⟩
  cases e : Nat.beq q.1 cell with
  | true =>
    rw [e] at h2
    have e := Nat.eq_of_beq_eq_true e
    rw [e, if_pos hc] at g2 ⊢
    obtain ⟨j, e1, w', g3, g4⟩ := g2
    refine ⟨j, e1, w', ?_, g4⟩
    rw [hu.2.1, if_neg, g3]
    rintro ⟨-, rfl⟩
    simp only [cond_true] at h2
    split at h2
    · rename_i e2
      have h3 : b_ev ρ (b_add q.2.1 (-1) x) = 0 := by rw [b_add_ev, g1.1, hx, e1]; omega
      unfold b_ev at h3
      rw [e2] at h3
      simp only [b_evs, Int.add_zero] at h3
      rw [h3] at h2
      simp at h2
    · cases h2
  | false =>
    rw [e] at h2
    have hne : q.1 ≠ cell := fun h9 => by rw [h9] at e; simp at e
    simp only [cond_false, Bool.not_eq_true'] at h2
    split at g2
    · rename_i h3
      obtain ⟨j, e1, w', g3, g4⟩ := g2
      rw [if_pos h3]
      exact ⟨j, e1, w', by rw [hu.2.1, if_neg (fun h9 => hne h9.1)]; exact g3, g4⟩
    · rename_i h3
      rw [if_neg h3]
      split at g2
      · rename_i h4
        rw [if_pos h4, hG q.1 σ σ' (fun c hc2 i' => ?_) a]
        · exact g2
        · rw [hu.2.1, if_neg]
          rintro ⟨rfl, -⟩
          rw [h2] at hc2
          cases hc2
      · rename_i h4
        rw [if_neg h4]
        exact g2
theorem b_put_ok (hG : b_GOk G dep) (hD : b_DepOk dep) (hWr : b_WrOk T Wr) (hW : b_gW W ρ) (hH : b_gH T σ) (hM : b_gM G fz W.1.1 ρ σ M) {cell i tag : Nat} {x y : b_L} {w : Value} {c : b_C} (hc : cell < 139) (hT : T cell = some c) (hi : i < c.2.2.1) (hx : b_gx W.1.1 ρ x (i : Int)) (hy : b_gv W.1.1 ρ (tag, y) w) (ht : tag < 2) (hu : b_upd σ cell i w σ') {M' : b_M} (h : b_put T dep Wr W M cell x tag y = some M') :
    b_gH T σ' ∧ b_gM G fz W.1.1 ρ σ' M' ∧ b_frame Wr σ σ' := by
  unfold b_put at h
  rw [hT] at h
  dsimp only at h
  cases h1 : (b_tys c x).all (fun t => Nat.beq t.1 tag && b_inB W y t.2) && b_wok Wr c cell x with
  | false => rw [h1] at h; cases h
  | true =>
    rw [h1] at h
    simp only [cond_true, Option.some.injEq] at h
    rw [Bool.and_eq_true] at h1
    obtain ⟨h1, h2⟩ := h1
    have hwr : Wr cell i = true := by
      unfold b_wok at h2
      cases e : Nat.beq c.1 0 with
      | true =>
        rw [e] at h2
        simp only [cond_true] at h2
        split at h2
        · rename_i e2
          have h3 := hx.1
          unfold b_ev at h3
          rw [e2] at h3
          simp only [b_evs, Int.add_zero] at h3
          rw [h3] at h2
          exact h2
        · cases h2
      | false =>
        rw [e] at h2
        obtain ⟨c', g1, z, g2, g3, -⟩ := hH.2 cell hc
        rw [hT] at g1
        cases g1
        have hc1 : c.1 = 1 := by
          unfold b_sh at g3
          split at g3
          · exfalso; rw [g3.1] at e; cases e
          · exact g3.1
          · exact g3.1
          · exact g3.1
        rw [hWr cell c hT hc1 i]
        exact h2
    have hty : ∀ t, t ∈ b_tys c x → b_gt t w := by
      intro t hm
      have h3 := List.all_eq_true.mp h1 t hm
      rw [Bool.and_eq_true] at h3
      have e := Nat.eq_of_beq_eq_true h3.1
      have h4 := b_inB_ok hW h3.2
      obtain ⟨t1, tq⟩ := t
      dsimp only at e h4
      subst e
      have hv := hy
      unfold b_gv at hv
      unfold b_gt
      dsimp only at hv ⊢
      split at hv
      · rw [hv.1] at h4; exact h4
      · rw [hv.1] at h4; exact h4
      · omega
      · omega
      · exact hv.elim
    refine ⟨⟨hu.1.trans hH.1, fun k hk => ?_⟩, ?_, ?_⟩
    · obtain ⟨d, g1, z, g2, g3, g4, g5⟩ := hH.2 k hk
      obtain ⟨z', g6, g7⟩ := hu.2.2 k z g2
      refine ⟨d, g1, z', g6, g7 d g3, g4, fun j hj => ?_⟩
      obtain ⟨t, w', q1, q2, q3⟩ := g5 j hj
      rw [hu.2.1]
      by_cases h9 : k = cell ∧ j = i
      · obtain ⟨rfl, rfl⟩ := h9
        rw [hT] at g1
        cases g1
        exact ⟨t, w, q1, if_pos ⟨rfl, rfl⟩, hty t (b_tys_ok g4 hx.1 q1)⟩
      · rw [if_neg h9]
        exact ⟨t, w', q1, q2, q3⟩
    · rw [← h]
      intro q hq
      rcases List.mem_cons.mp hq with rfl | hq
      · refine ⟨(i : Int), hx, ?_⟩
        dsimp only
        rw [if_pos hc]
        exact ⟨i, rfl, w, by rw [hu.2.1, if_pos ⟨rfl, rfl⟩], hy⟩
      · exact b_kill_ok hG hD hM hc hx.1 hu q hq
    · intro k j hk
      rw [hu.2.1, if_neg]
      rintro ⟨rfl, rfl⟩
      rw [hwr] at hk
      cases hk
theorem b_upd_field {b a k : Nat} {fs : List Value} {w : Value} (h : σ[b]? = some (.inr (a, fs))) (hk : k < fs.length) : b_upd σ b k w (σ.set b (.inr (a, fs.set k w))) := by
  have hb := (List.getElem?_eq_some_iff.mp h).1
  refine ⟨by simp, fun k' i' => ?_, fun k' z hz => ?_⟩
  · unfold b_rd
    by_cases e : k' = b
    · subst e
      rw [List.getElem?_set_self hb, h]
      dsimp only
      by_cases e2 : i' = k
      · subst e2; rw [if_pos ⟨rfl, rfl⟩, List.getElem?_set_self hk]
      · rw [if_neg (fun h9 => e2 h9.2), List.getElem?_set_ne (fun h9 => e2 h9.symm)]
    · rw [List.getElem?_set_ne (fun h9 => e h9.symm), if_neg (fun h9 => e h9.1)]
  · by_cases e : k' = b
    · subst e
      rw [h] at hz
      cases hz
      exact ⟨_, List.getElem?_set_self hb, fun c hc => by
        unfold b_sh at hc ⊢
        dsimp only at hc ⊢
        rw [List.length_set]
        exact hc⟩
    · exact ⟨z, by rw [List.getElem?_set_ne (fun h9 => e h9.symm)]; exact hz, fun c hc => hc⟩
theorem b_upd_int {b t k : Nat} {xs : List Int32} {w : Int32} (h : σ[b]? = some (.inl (t, .inl xs))) (hk : k < xs.length) : b_upd σ b k (.int w) (σ.set b (.inl (t, .inl (xs.set k w)))) := by
  have hb := (List.getElem?_eq_some_iff.mp h).1
  refine ⟨by simp, fun k' i' => ?_, fun k' z hz => ?_⟩
  · unfold b_rd
    by_cases e : k' = b
    · subst e
      rw [List.getElem?_set_self hb, h]
      dsimp only
      by_cases e2 : i' = k
      · subst e2; rw [if_pos ⟨rfl, rfl⟩, List.getElem?_set_self hk]; rfl
      · rw [if_neg (fun h9 => e2 h9.2), List.getElem?_set_ne (fun h9 => e2 h9.symm)]
    · rw [List.getElem?_set_ne (fun h9 => e h9.symm), if_neg (fun h9 => e h9.1)]
  · by_cases e : k' = b
    · subst e
      rw [h] at hz
      cases hz
      exact ⟨_, List.getElem?_set_self hb, fun c hc => by
        unfold b_sh at hc ⊢
        dsimp only at hc ⊢
        rw [List.length_set]
        exact hc⟩
    · exact ⟨z, by rw [List.getElem?_set_ne (fun h9 => e h9.symm)]; exact hz, fun c hc => hc⟩
theorem b_upd_long {b t k : Nat} {xs : List Int64} {w : Int64} (h : σ[b]? = some (.inl (t, .inr (.inl xs)))) (hk : k < xs.length) : b_upd σ b k (.long w) (σ.set b (.inl (t, .inr (.inl (xs.set k w))))) := by
  have hb := (List.getElem?_eq_some_iff.mp h).1
  refine ⟨by simp, fun k' i' => ?_, fun k' z hz => ?_⟩
  · unfold b_rd
    by_cases e : k' = b
    · subst e
      rw [List.getElem?_set_self hb, h]
      dsimp only
      by_cases e2 : i' = k
      · subst e2; rw [if_pos ⟨rfl, rfl⟩, List.getElem?_set_self hk]; rfl
      · rw [if_neg (fun h9 => e2 h9.2), List.getElem?_set_ne (fun h9 => e2 h9.symm)]
    · rw [List.getElem?_set_ne (fun h9 => e h9.symm), if_neg (fun h9 => e h9.1)]
  · by_cases e : k' = b
    · subst e
      rw [h] at hz
      cases hz
      exact ⟨_, List.getElem?_set_self hb, fun c hc => by
        unfold b_sh at hc ⊢
        dsimp only at hc ⊢
        rw [List.length_set]
        exact hc⟩
    · exact ⟨z, by rw [List.getElem?_set_ne (fun h9 => e h9.symm)]; exact hz, fun c hc => hc⟩
end B65

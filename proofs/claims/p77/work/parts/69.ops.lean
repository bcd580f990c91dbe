/-! switches, shifts, Math -/
section B69
variable {T : Nat → Option b_C} {G : b_G} {fz : List (List Int32)} {Wr : Nat → Nat → Bool} {ρ : Nat → Int} {W : b_NF} {M : b_M} {cl : m_V} {cs : List Value} {σ : m_S} {lv : b_Lv} {st : List b_V} {L : List b_R} {nx : Nat}
theorem b_same {W' : b_NF} {ρ' : Nat → Int} {U : b_NF} (h1 : b_gW U ρ') (h2 : U.1.1 = W'.1.1) : b_ext W' ρ' U ρ' := ⟨by rw [h2]; exact Nat.le_refl _, fun _ _ => rfl, h1⟩
theorem b_tsw_ok {x : b_L} {r : List b_V} {a : Int} (hW : b_gW W ρ) (hx : b_gx W.1.1 ρ x a) : ∀ (l : List Nat) (j : Int) (t : Nat), j ≤ a → l[(a - j).toNat]? = some t → ∃ U, (U, M, t, lv, r) ∈ b_tsw W M x lv r j l ∧ b_gW U ρ ∧ U.1.1 = W.1.1
  | [], _, _, _, h => by simp at h
  | u :: l, j, t, hj, h => by
    unfold b_tsw
    by_cases e : a = j
    · have : (a - j).toNat = 0 := by omega
      rw [this] at h
      cases h
      obtain ⟨U, g1, g2, g3⟩ := b_learn_ok hW (k := 0) (hx.adc (-j)) (by show a + -j = 0; omega)
      exact ⟨U, List.mem_append_left _ (List.mem_map.mpr ⟨U, g1, rfl⟩), g2, g3⟩
    · have : (a - j).toNat = (a - (j + 1)).toNat + 1 := by omega
      rw [this, List.getElem?_cons_succ] at h
      obtain ⟨U, g1, g2⟩ := b_tsw_ok hW hx l (j + 1) t (by omega) h
      exact ⟨U, List.mem_append_right _ g1, g2⟩
theorem b_h13_ok {a : Nat} {v : Int} {q : List Nat} (hW : b_gW W ρ) (hH : b_gH T σ) (hM : b_gM G fz W.1.1 ρ σ M) (hf : b_gf W.1.1 ρ lv st cl cs) (h : b_h13 W M a v q lv st = some L) : b_Step T G fz Wr (13, a, v, q) nx W ρ cl cs σ L := by
  unfold b_h13 at h
  split at h
  · rename_i y r
    split at h
    · rename_i W1 x hn
      simp only [Option.some.injEq] at h
      obtain ⟨h1, h2, h3, h4⟩ := hf
      obtain ⟨w, t, rfl, g1, g2⟩ := b_cons h2
      obtain ⟨z, rfl, ρ1, q1, q2⟩ := b_num_ok hW g1 hn
      have hf1 : b_gf W1.1.1 ρ1 lv r cl t := ⟨h1.up q1, b_all2.up q1 g2, h3, (b_okc h4).2⟩
      have go : ∀ {U : b_NF} {pc : Nat}, (U, M, pc, lv, r) ∈ L → b_gW U ρ1 → U.1.1 = W1.1.1 → m_tsw a v q z.toInt = pc → b_Step T G fz Wr (13, a, v, q) nx W ρ cl (.int z :: t) σ L := by
        intro U pc k1 k2 k3 k4
        refine b_pure hH hM (pc' := pc) (cl' := cl) (cs' := t) ?_ (q1.tr (b_same k2 k3)) k1 (hf1.up (b_same k2 k3))
        simp only [m_step, k4]
      by_cases c1 : z.toInt < v
      · obtain ⟨U, k1, k2, k3⟩ := b_learn_ok q1.2.2 (k := 2) (q2.adc (-v)) (by show z.toInt + -v < 0; omega)
        refine go (U := U) (pc := a) ?_ k2 k3 (by unfold m_tsw; rw [if_pos c1])
        rw [← h]
        exact List.mem_append_left _ (List.mem_map.mpr ⟨U, k1, rfl⟩)
      · cases hq : q[(z.toInt - v).toNat]? with
        | none =>
          have hlen : q.length ≤ (z.toInt - v).toNat := List.getElem?_eq_none_iff.mp hq
          obtain ⟨U, k1, k2, k3⟩ := b_learn_ok q1.2.2 (k := 3) (q2.adc (-(v + q.length))) (by show 0 ≤ z.toInt + -(v + q.length); omega)
          refine go (U := U) (pc := a) ?_ k2 k3 (by unfold m_tsw; rw [if_neg c1, hq]; rfl)
          rw [← h]
          exact List.mem_append_right _ (List.mem_append_left _ (List.mem_map.mpr ⟨U, k1, rfl⟩))
        | some pc =>
          obtain ⟨U, k1, k2, k3⟩ := b_tsw_ok (M := M) (lv := lv) (r := r) q1.2.2 q2 q v pc (by omega) hq
          refine go (U := U) (pc := pc) ?_ k2 k3 (by unfold m_tsw; rw [if_neg c1, hq]; rfl)
          rw [← h]
          exact List.mem_append_right _ (List.mem_append_right _ k1)
    · cases h
  · cases h
theorem b_lsw_ok {x : b_L} {r : List b_V} {a : Int} {d : Nat} (hW : b_gW W ρ) (hx : b_gx W.1.1 ρ x a) : ∀ (l : List Nat), m_lsw d l a = d ∨ ∃ U, (U, M, m_lsw d l a, lv, r) ∈ b_lsw W M x lv r l ∧ b_gW U ρ ∧ U.1.1 = W.1.1
  | [] => Or.inl rfl
  | [_] => Or.inl rfl
  | k :: t :: ts => by
    unfold m_lsw b_lsw
    by_cases e : (k : Int) = a
    · rw [if_pos e]
      obtain ⟨U, g1, g2, g3⟩ := b_learn_ok hW (k := 0) (hx.adc (-(k : Int))) (by show a + -(k : Int) = 0; omega)
      exact Or.inr ⟨U, List.mem_append_left _ (List.mem_map.mpr ⟨U, g1, rfl⟩), g2, g3⟩
    · rw [if_neg e]
      rcases b_lsw_ok (d := d) hW hx ts with h | ⟨U, g1, g2⟩
      · exact Or.inl h
      · exact Or.inr ⟨U, List.mem_append_right _ g1, g2⟩
theorem b_h14_ok {a : Nat} {v : Int} {q : List Nat} (hW : b_gW W ρ) (hH : b_gH T σ) (hM : b_gM G fz W.1.1 ρ σ M) (hf : b_gf W.1.1 ρ lv st cl cs) (h : b_h14 W M a q lv st = some L) : b_Step T G fz Wr (14, a, v, q) nx W ρ cl cs σ L := by
  unfold b_h14 at h
  split at h
  · rename_i y r
    split at h
    · rename_i W1 x hn
      simp only [Option.some.injEq] at h
      obtain ⟨h1, h2, h3, h4⟩ := hf
      obtain ⟨w, t, rfl, g1, g2⟩ := b_cons h2
      obtain ⟨z, rfl, ρ1, q1, q2⟩ := b_num_ok hW g1 hn
      have hf1 : b_gf W1.1.1 ρ1 lv r cl t := ⟨h1.up q1, b_all2.up q1 g2, h3, (b_okc h4).2⟩
      rcases b_lsw_ok (d := a) (M := M) (lv := lv) (r := r) q1.2.2 q2 q with k | ⟨U, k1, k2, k3⟩
      · refine b_pure hH hM (pc' := a) (cl' := cl) (cs' := t) ?_ q1 (lv' := lv) (st' := r) (by rw [← h]; exact List.mem_cons_self) hf1
        simp only [m_step, k]
      · refine b_pure hH hM (pc' := m_lsw a q z.toInt) (cl' := cl) (cs' := t) (by rfl) (q1.tr (b_same k2 k3)) (lv' := lv) (st' := r) (by rw [← h]; exact List.mem_cons_of_mem _ k1) (hf1.up (b_same k2 k3))
    · cases h
  · cases h
theorem b_h28_ok {a : Nat} {v : Int} {q : List Nat} (hW : b_gW W ρ) (hH : b_gH T σ) (hM : b_gM G fz W.1.1 ρ σ M) (hf : b_gf W.1.1 ρ lv st cl cs) (h : b_h28 W M a nx lv st = some L) : b_Step T G fz Wr (28, a, v, q) nx W ρ cl cs σ L := by
  unfold b_h28 at h
  split at h
  · rename_i y x r
    cases e : Nat.beq x.1 1 && Nat.ble a 1 with
    | true =>
      rw [e] at h
      rw [Bool.and_eq_true] at e
      simp only [cond_true] at h
      split at h
      · rename_i W1 y1 hn
        cases h
        obtain ⟨h1, h2, h3, h4⟩ := hf
        obtain ⟨wy, t1, rfl, g1, g2⟩ := b_cons h2
        obtain ⟨wx, t, rfl, g3, g4⟩ := b_cons g2
        obtain ⟨zx, rfl, q2⟩ := b_lg e.1 g3
        obtain ⟨zy, rfl, ρ1, q3, q4⟩ := b_num_ok hW g1 hn
        have hz : ∃ z, m_lsh a zx zy = some z := by
          have ha : a ≤ 1 := Nat.le_of_ble_eq_true e.2
          match a, ha with
          | 0, _ => exact ⟨_, rfl⟩
          | 1, _ => exact ⟨_, rfl⟩
        obtain ⟨z, hz⟩ := hz
        obtain ⟨ρ2, k1, k2⟩ := b_f64_ok q3.2.2 z
        have he := q3.tr k1
        refine b_pure hH hM (pc' := nx) (cl' := cl) (cs' := .long z :: t) ?_ he (List.mem_singleton.mpr rfl) ⟨h1.up he, ⟨k2, b_all2.up he g4⟩, h3, b_okm rfl (b_okc (b_okc h4).2).2⟩
        simp only [m_step, hz, Option.map_some]
      · cases h
    | false => rw [e] at h; cases h
  · cases h
theorem b_max_ok {k : Nat} {x y : b_L} {u w z : Int} (hW : b_gW W ρ) (hx : b_gx W.1.1 ρ x u) (hy : b_gx W.1.1 ρ y w) {U : b_NF × b_L} (h : b_max W k x y = some U) (hz : if k = 0 then z = max u w else z = min u w) : b_yl W ρ U z := by
  unfold b_max at h
  split at h
  · rename_i a b c d ha hb hc hd
    have h1 := b_lo_ok hW.1 ha
    have h2 := b_hi_ok hW.1 hb
    have h3 := b_lo_ok hW.1 hc
    have h4 := b_hi_ok hW.1 hd
    rw [hx.1] at h1 h2
    rw [hy.1] at h3 h4
    cases h
    unfold b_max1
    split
    · rw [if_pos rfl] at hz
      cases e1 : decide (b ≤ c) with
      | true =>
        have e1 := of_decide_eq_true e1
        have : z = w := by omega
        rw [this]
        exact b_yl.same hW hy
      | false =>
        cases e2 : decide (d ≤ a) with
        | true =>
          have e2 := of_decide_eq_true e2
          have : z = u := by omega
          rw [this]
          exact b_yl.same hW hx
        | false => exact b_fresh_ok hW (by omega) (by omega) (b_mk0 _)
    · rename_i hk
      rw [if_neg hk] at hz
      cases e1 : decide (d ≤ a) with
      | true =>
        have e1 := of_decide_eq_true e1
        have : z = w := by omega
        rw [this]
        exact b_yl.same hW hy
      | false =>
        cases e2 : decide (b ≤ c) with
        | true =>
          have e2 := of_decide_eq_true e2
          have : z = u := by omega
          rw [this]
          exact b_yl.same hW hx
        | false => exact b_fresh_ok hW (by omega) (by omega) (b_mk0 _)
  · cases h
theorem b_h40_ok {a : Nat} {v : Int} {q : List Nat} (hW : b_gW W ρ) (hH : b_gH T σ) (hM : b_gM G fz W.1.1 ρ σ M) (hf : b_gf W.1.1 ρ lv st cl cs) (hc : (cs.map fun v => v.category).sum ≤ 12) (h : b_h40 W M a nx lv st = some L) : b_Step T G fz Wr (40, a, v, q) nx W ρ cl cs σ L := by
  unfold b_h40 at h
  split at h
  · rename_i y r
    obtain ⟨h1, h2, h3, h4⟩ := hf
    obtain ⟨wy, t1, rfl, g1, g2⟩ := b_cons h2
    cases e : Nat.beq a 6 with
    | true =>
      rw [e] at h
      have e := Nat.eq_of_beq_eq_true e
      subst e
      simp only [cond_true] at h
      cases e2 : Nat.beq y.1 1 with
      | true =>
        rw [e2] at h
        cases h
        obtain ⟨zy, rfl, q4⟩ := b_lg e2 g1
        obtain ⟨ρ2, k1, k2⟩ := b_f64_ok hW (if 0 < zy then zy else -zy)
        refine b_pure hH hM (pc' := nx) (cl' := cl) (cs' := .long (if 0 < zy then zy else -zy) :: t1) ?_ k1 (List.mem_singleton.mpr rfl) ⟨h1.up k1, ⟨k2, b_all2.up k1 g2⟩, h3, b_okm rfl (b_okc h4).2⟩
        simp only [m_step]
        rw [if_pos hc]
        rfl
      | false => rw [e2] at h; cases h
    | false =>
      rw [e] at h
      have hne : a ≠ 6 := fun h9 => by subst h9; cases e
      simp only [cond_false] at h
      split at h
      · rename_i x t
        obtain ⟨wx, t2, rfl, g3, g4⟩ := b_cons g2
        cases e2 : Nat.beq a 4 with
        | true =>
          rw [e2] at h
          have e2 := Nat.eq_of_beq_eq_true e2
          subst e2
          simp only [cond_true] at h
          cases e3 : Nat.beq x.1 1 && Nat.beq y.1 1 with
          | true =>
            rw [e3] at h
            rw [Bool.and_eq_true] at e3
            simp only [cond_true] at h
            split at h
            · rename_i U hU
              cases h
              obtain ⟨zx, rfl, q2⟩ := b_lg e3.1 g3
              obtain ⟨zy, rfl, q4⟩ := b_lg e3.2 g1
              obtain ⟨ρ2, k1, k2⟩ := b_max_ok (z := (if zy < zx then zx else zy).toInt) hW q2 q4 hU (by
                rw [if_pos rfl]
                by_cases hcc : zy < zx
                · rw [if_pos hcc]
                  have := Int64.lt_iff_toInt_lt.mp hcc
                  omega
                · rw [if_neg hcc]
                  have : ¬ zy.toInt < zx.toInt := fun h9 => hcc (Int64.lt_iff_toInt_lt.mpr h9)
                  omega)
              refine b_pure hH hM (pc' := nx) (cl' := cl) (cs' := .long (if zy < zx then zx else zy) :: t2) ?_ k1 (List.mem_singleton.mpr rfl) ⟨h1.up k1, ⟨k2, b_all2.up k1 g4⟩, h3, b_okm rfl (b_okc (b_okc h4).2).2⟩
              simp only [m_step]
              rw [if_pos hc]
              rfl
            · cases h
          | false => rw [e3] at h; cases h
        | false =>
          rw [e2] at h
          simp only [cond_false] at h
          cases e3 : Nat.ble a 1 with
          | true =>
            rw [e3] at h
            have ha : a ≤ 1 := Nat.le_of_ble_eq_true e3
            simp only [cond_true] at h
            split at h
            · rename_i W1 x1 hx
              split at h
              · rename_i W2 y1 hy
                split at h
                · rename_i U hU
                  cases h
                  obtain ⟨zx, rfl, ρ1, q1, q2⟩ := b_num_ok hW g3 hx
                  obtain ⟨zy, rfl, ρ2, q3, q4⟩ := b_num_ok q1.2.2 (g1.up q1) hy
                  have hlt : ∀ {p r : Int32}, p < r ↔ p.toInt < r.toInt := Int32.lt_iff_toInt_lt
                  match a, ha, hU with
                  | 0, _, hU =>
                    obtain ⟨ρ3, k1, k2⟩ := b_max_ok (z := (if zx < zy then zy else zx).toInt) q3.2.2 (q2.up q3) q4 hU (by
                      rw [if_pos rfl]
                      by_cases hcc : zx < zy
                      · rw [if_pos hcc]; have := hlt.mp hcc; omega
                      · rw [if_neg hcc]; have : ¬ zx.toInt < zy.toInt := fun h9 => hcc (hlt.mpr h9); omega)
                    have he := (q1.tr q3).tr k1
                    refine b_pure hH hM (pc' := nx) (cl' := cl) (cs' := .int (if zx < zy then zy else zx) :: t2) ?_ he (List.mem_singleton.mpr rfl) ⟨h1.up he, ⟨k2, b_all2.up he g4⟩, h3, b_okm rfl (b_okc (b_okc h4).2).2⟩
                    simp only [m_step]
                    rw [if_pos hc]
                    rfl
                  | 1, _, hU =>
                    obtain ⟨ρ3, k1, k2⟩ := b_max_ok (z := (if zy < zx then zy else zx).toInt) q3.2.2 (q2.up q3) q4 hU (by
                      rw [if_neg (by decide)]
                      by_cases hcc : zy < zx
                      · rw [if_pos hcc]; have := hlt.mp hcc; omega
                      · rw [if_neg hcc]; have : ¬ zy.toInt < zx.toInt := fun h9 => hcc (hlt.mpr h9); omega)
                    have he := (q1.tr q3).tr k1
                    refine b_pure hH hM (pc' := nx) (cl' := cl) (cs' := .int (if zy < zx then zy else zx) :: t2) ?_ he (List.mem_singleton.mpr rfl) ⟨h1.up he, ⟨k2, b_all2.up he g4⟩, h3, b_okm rfl (b_okc (b_okc h4).2).2⟩
                    simp only [m_step]
                    rw [if_pos hc]
                    rfl
                · cases h
              · cases h
            · cases h
          | false => rw [e3] at h; cases h
      · cases h
  · cases h
end B69

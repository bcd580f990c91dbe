/-! numbers within bounds -/
theorem a_i32 (x : Int32) : (-2147483648) ≤ x.toInt ∧ x.toInt ≤ 2147483647 := by
  have h1 := Int32.le_toInt x
  have h2 := Int32.toInt_lt x
  constructor <;> omega
theorem a_i64 (x : Int64) : (-9223372036854775808) ≤ x.toInt ∧ x.toInt ≤ 9223372036854775807 := by
  have h1 := Int64.le_toInt x
  have h2 := Int64.toInt_lt x
  constructor <;> omega
theorem a_ex32 {x : Int32} {a b : Int} (h : a = b) (h1 : a ≤ x.toInt) (h2 : x.toInt ≤ b) : Int32.ofInt a = x := by
  have : a = x.toInt := by omega
  rw [this, Int32.ofInt_toInt]
theorem a_ex64 {x : Int64} {a b : Int} (h : a = b) (h1 : a ≤ x.toInt) (h2 : x.toInt ≤ b) : Int64.ofInt a = x := by
  have : a = x.toInt := by omega
  rw [this, Int64.ofInt_toInt]
theorem a_bm {a : Int} (h1 : (-2147483648) ≤ a) (h2 : a ≤ 2147483647) : a.bmod (2 ^ 32) = a := by
  apply Int.bmod_eq_of_le <;> omega
theorem a_and {x y : Int32} (h : 0 ≤ y.toInt) : 0 ≤ (x &&& y).toInt ∧ (x &&& y).toInt ≤ y.toInt := by
  have e1 : ∀ z : Int32, z.toInt = if 2 * z.toBitVec.toNat < 2 ^ 32 then (z.toBitVec.toNat : Int) else (z.toBitVec.toNat : Int) - (2 ^ 32 : Nat) := fun z => BitVec.toInt_eq_toNat_cond z.toBitVec
  have e2 : (x &&& y).toBitVec.toNat = x.toBitVec.toNat &&& y.toBitVec.toNat := by rw [Int32.toBitVec_and, BitVec.toNat_and]
  have e3 : (x &&& y).toBitVec.toNat ≤ y.toBitVec.toNat := by rw [e2]; exact Nat.and_le_right
  have e4 := y.toBitVec.isLt
  rw [e1 y] at h ⊢
  rw [e1 (x &&& y)]
  split at h
  · rename_i h5
    rw [if_pos h5, if_pos (by omega)]
    omega
  · omega
theorem a_shr {x y : Int32} (h : 0 ≤ x.toInt) : 0 ≤ (x >>> (y &&& 31)).toInt ∧ (x >>> (y &&& 31)).toInt ≤ x.toInt := by
  rw [pk_shr x (y &&& 31) _ rfl]
  generalize ((y &&& 31).toBitVec.smod 32).toNat = k
  rw [Int.shiftRight_eq_div_pow]
  constructor
  · exact Int.ediv_nonneg h (by exact_mod_cast Nat.zero_le _)
  · exact Int.ediv_le_self _ h
theorem a_mul {a b c : Int} (h : a ≤ b) (hc : 0 ≤ c) : a * c ≤ b * c := Int.mul_le_mul_of_nonneg_right h hc
theorem a_ib0_ok {k : Nat} {p q r : Int × Int} {x y : Int32} (hp : p.1 ≤ x.toInt ∧ x.toInt ≤ p.2) (hq : q.1 ≤ y.toInt ∧ y.toInt ≤ q.2) (h : a_ib0 k p q = some r) : ∃ z, m_ib k x y = some z ∧ r.1 ≤ z.toInt ∧ z.toInt ≤ r.2 := by
  have hx := a_i32 x
  have hy := a_i32 y
  unfold a_ib0 at h
  split at h
  · rename_i he
    rw [a_ex32 he.1 hp.1 hp.2, a_ex32 he.2 hq.1 hq.2] at h
    obtain ⟨z, h1, h2⟩ := Option.map_eq_some_iff.mp h
    subst h2
    exact ⟨z, h1, Int.le_refl _, Int.le_refl _⟩
  · split at h
    · cases h
      refine ⟨x + y, rfl, ?_⟩
      split
      · rw [Int32.toInt_add, a_bm (by omega) (by omega)]; dsimp only; omega
      · exact a_i32 _
    · cases h
      refine ⟨x - y, rfl, ?_⟩
      split
      · rw [Int32.toInt_sub, a_bm (by omega) (by omega)]; dsimp only; omega
      · exact a_i32 _
    · cases h
      refine ⟨x * y, rfl, ?_⟩
      split
      · rename_i he
        have e1 : y.toInt = q.1 := by omega
        have e2 := a_mul hp.1 he.2.1
        have e3 := a_mul hp.2 he.2.1
        rw [Int32.toInt_mul, e1, a_bm (by omega) (by omega)]; dsimp only; omega
      · split
        · rename_i he
          have e1 : x.toInt = p.1 := by omega
          have e2 := a_mul hq.1 he.2.1
          have e3 := a_mul hq.2 he.2.1
          rw [Int32.toInt_mul, e1, Int.mul_comm p.1 y.toInt, a_bm (by omega) (by omega)]; dsimp only; omega
        · exact a_i32 _
    · cases h
      refine ⟨x &&& y, rfl, ?_⟩
      split
      · have := a_and (x := x) (y := y) (by omega)
        dsimp only
        omega
      · split
        · have := a_and (x := y) (y := x) (by omega)
          rw [Int32.and_comm]
          dsimp only
          omega
        · exact a_i32 _
    · cases h
      refine ⟨x >>> (y &&& 31), rfl, ?_⟩
      split
      · have := a_shr (x := x) (y := y) (by omega)
        dsimp only
        omega
      · exact a_i32 _
    · cases h
    · cases h
    · rename_i h0 h1 h2 h3 h7 h9 h10
      split at h
      · cases h
        rename_i hk8
        have g0 : ¬ k = 0 := h0
        have g1 : ¬ k = 1 := h1
        have g2 : ¬ k = 2 := h2
        have g3 : ¬ k = 3 := h3
        have hk : k = 4 ∨ k = 5 ∨ k = 6 ∨ k = 7 ∨ k = 8 := by omega
        rcases hk with rfl | rfl | rfl | rfl | rfl
        all_goals exact ⟨_, rfl, a_i32 _⟩
      · cases h
theorem a_ib_ok {k : Nat} {p q r : Int × Int} {x y : Int32} (hp : p.1 ≤ x.toInt ∧ x.toInt ≤ p.2) (hq : q.1 ≤ y.toInt ∧ y.toInt ≤ q.2) (h : a_ib k p q = some r) : ∃ z, m_ib k x y = some z ∧ r.1 ≤ z.toInt ∧ z.toInt ≤ r.2 := by
  unfold a_ib at h
  by_cases hc : (Nat.beq k 0 && decide (-2147483648 ≤ p.1 + q.1) && decide (p.2 + q.2 ≤ 2147483647)) = true
  · rw [hc] at h
    simp only [Bool.and_eq_true, decide_eq_true_eq] at hc
    have hk : k = 0 := Nat.eq_of_beq_eq_true hc.1.1
    subst hk
    cases h
    refine ⟨x + y, rfl, ?_⟩
    rw [Int32.toInt_add, a_bm (by omega) (by omega)]
    dsimp only
    omega
  · simp only [Bool.not_eq_true] at hc
    rw [hc] at h
    exact a_ib0_ok hp hq h
theorem a_lb_ok {k : Nat} {p q r : Int × Int} {x y : Int64} (hp : p.1 ≤ x.toInt ∧ x.toInt ≤ p.2) (hq : q.1 ≤ y.toInt ∧ y.toInt ≤ q.2) (h : a_lb k p q = some r) : ∃ z, m_lb k x y = some z ∧ r.1 ≤ z.toInt ∧ z.toInt ≤ r.2 := by
  unfold a_lb at h
  split at h
  · rename_i he
    rw [a_ex64 he.1 hp.1 hp.2, a_ex64 he.2 hq.1 hq.2] at h
    obtain ⟨z, h1, h2⟩ := Option.map_eq_some_iff.mp h
    subst h2
    exact ⟨z, h1, Int.le_refl _, Int.le_refl _⟩
  · split at h
    · rename_i hk
      cases h
      have hk : k = 0 ∨ k = 1 ∨ k = 2 ∨ k = 3 ∨ k = 4 := by omega
      rcases hk with rfl | rfl | rfl | rfl | rfl
      all_goals exact ⟨_, rfl, a_i64 _⟩
    · cases h
theorem a_lsh_ok {k : Nat} {p q r : Int × Int} {x : Int64} {y : Int32} (hp : p.1 ≤ x.toInt ∧ x.toInt ≤ p.2) (hq : q.1 ≤ y.toInt ∧ y.toInt ≤ q.2) (h : a_lsh k p q = some r) : ∃ z, m_lsh k x y = some z ∧ r.1 ≤ z.toInt ∧ z.toInt ≤ r.2 := by
  unfold a_lsh at h
  split at h
  · rename_i he
    rw [a_ex64 he.1 hp.1 hp.2, a_ex32 he.2 hq.1 hq.2] at h
    obtain ⟨z, h1, h2⟩ := Option.map_eq_some_iff.mp h
    subst h2
    exact ⟨z, h1, Int.le_refl _, Int.le_refl _⟩
  · split at h
    · rename_i hk
      cases h
      have hk : k = 0 ∨ k = 1 := by omega
      rcases hk with rfl | rfl
      all_goals exact ⟨_, rfl, a_i64 _⟩
    · cases h
theorem a_rf_ok {k c a : Int} {q : Int × Int} (h1 : q.1 ≤ a) (h2 : a ≤ q.2) (hr : a_rel k a c) : ∃ q' ∈ a_rf k c q, q'.1 ≤ a ∧ a ≤ q'.2 := by
  obtain ⟨lo, hi⟩ := q
  dsimp only at h1 h2
  unfold a_rel at hr
  unfold a_rf
  split at hr
  · rw [if_pos (by dsimp only; omega)]
    exact ⟨_, List.mem_singleton.mpr rfl, by dsimp only; omega, by dsimp only; omega⟩
  · dsimp only
    split
    · by_cases h : a < c
      · exact ⟨_, List.mem_cons_self, by dsimp only; omega, by dsimp only; omega⟩
      · exact ⟨_, List.mem_cons_of_mem _ List.mem_cons_self, by dsimp only; omega, by dsimp only; omega⟩
    · split
      · exfalso; omega
      · split
        · exact ⟨_, List.mem_singleton.mpr rfl, by dsimp only; omega, by dsimp only; omega⟩
        · split
          · exact ⟨_, List.mem_singleton.mpr rfl, by dsimp only; omega, by dsimp only; omega⟩
          · exact ⟨_, List.mem_singleton.mpr rfl, by dsimp only; omega, by dsimp only; omega⟩
  · rw [if_pos (by dsimp only; omega)]
    exact ⟨_, List.mem_singleton.mpr rfl, by dsimp only; omega, by dsimp only; split <;> omega⟩
  · rw [if_pos (by dsimp only; omega)]
    exact ⟨_, List.mem_singleton.mpr rfl, by dsimp only; split <;> omega, by dsimp only; omega⟩
  · rw [if_pos (by dsimp only; omega)]
    exact ⟨_, List.mem_singleton.mpr rfl, by dsimp only; split <;> omega, by dsimp only; omega⟩
  · dsimp only
    rw [if_pos (show lo ≤ c by omega)]
    exact ⟨_, List.mem_singleton.mpr rfl, by dsimp only; omega, by dsimp only; split <;> omega⟩
theorem a_i2l {x : Int32} : x.toInt64.toInt = x.toInt := Int32.toInt_toInt64 x
theorem a_l2i {x : Int64} (h1 : (-2147483648) ≤ x.toInt) (h2 : x.toInt ≤ 2147483647) : x.toInt32.toInt = x.toInt := by
  rw [Int64.toInt_toInt32]
  exact a_bm h1 h2
theorem a_i2b {x : Int32} (h1 : -128 ≤ x.toInt) (h2 : x.toInt ≤ 127) : x.toInt8.toInt32 = x := by
  apply Int32.toInt_inj.mp
  rw [Int8.toInt_toInt32, Int32.toInt_toInt8]
  apply Int.bmod_eq_of_le <;> omega
theorem a_i2bR (x : Int32) : -128 ≤ x.toInt8.toInt32.toInt ∧ x.toInt8.toInt32.toInt ≤ 127 := by
  rw [Int8.toInt_toInt32]
  have h1 := Int8.le_toInt x.toInt8
  have h2 := Int8.toInt_lt x.toInt8
  omega
theorem a_i2s {x : Int32} (h1 : -32768 ≤ x.toInt) (h2 : x.toInt ≤ 32767) : x.toInt16.toInt32 = x := by
  apply Int32.toInt_inj.mp
  rw [Int16.toInt_toInt32, Int32.toInt_toInt16]
  apply Int.bmod_eq_of_le <;> omega
theorem a_i2sR (x : Int32) : -32768 ≤ x.toInt16.toInt32.toInt ∧ x.toInt16.toInt32.toInt ≤ 32767 := by
  rw [Int16.toInt_toInt32]
  have h1 := Int16.le_toInt x.toInt16
  have h2 := Int16.toInt_lt x.toInt16
  omega
theorem a_cmpI (x y : Int64) : (lg_cmp x y).toInt = a_sg x.toInt y.toInt := by
  unfold lg_cmp a_sg
  have e1 : (x > y) ↔ y.toInt < x.toInt := Int64.lt_iff_toInt_lt
  have e2 : (x = y) ↔ x.toInt = y.toInt := Int64.toInt_inj.symm
  by_cases h1 : y.toInt < x.toInt
  · rw [if_pos (e1.mpr h1), if_pos h1]; rfl
  · rw [if_neg (fun h => h1 (e1.mp h)), if_neg h1]
    by_cases h2 : x.toInt = y.toInt
    · rw [if_pos (e2.mpr h2), if_pos h2]; rfl
    · rw [if_neg (fun h => h2 (e2.mp h)), if_neg h2]; rfl
theorem a_cd_rel (k : Int) (x y : Int32) : m_cd k x y = true ↔ a_rel k x.toInt y.toInt := by
  unfold m_cd a_rel
  split <;> simp [Int32.lt_iff_toInt_lt, Int32.le_iff_toInt_le, ← Int32.toInt_inj]
theorem a_ng_rel (k : Int) (x y : Int) (h : ¬ a_rel k x y) : a_rel (a_ng k) x y := by
  unfold a_rel at h
  split at h
  · exact h
  · exact Classical.not_not.mp h
  · show y ≤ x; omega
  · show x < y; omega
  · show x ≤ y; omega
  · rename_i h0 h1 h2 h3 h4
    have hk : a_ng k = 4 := by
      unfold a_ng
      split <;> first | rfl | contradiction
    rw [hk]
    show y < x
    omega
theorem a_fl_rel (k : Int) (x y : Int) (h : a_rel k x y) : a_rel (a_fl k) y x := by
  unfold a_rel at h
  split at h
  · exact h.symm
  · exact fun e => h e.symm
  · exact h
  · exact h
  · exact h
  · rename_i h0 h1 h2 h3 h4
    have hk : a_fl k = 3 := by
      unfold a_fl
      split <;> first | rfl | contradiction
    rw [hk]
    exact h
theorem a_gN_set {N : a_N} {ρ : Nat → Int} (hN : a_gN N ρ) {i : Nat} {q : Int × Int} (h1 : q.1 ≤ ρ i) (h2 : ρ i ≤ q.2) : a_gN (N.set i q) ρ := by
  intro j r hj
  rw [List.getElem?_set] at hj
  split at hj
  · rename_i e
    subst e
    split at hj
    · cases hj; exact ⟨h1, h2⟩
    · cases hj
  · exact hN j r hj
theorem a_sg_rel {k a b : Int} (h : a_rel k (a_sg a b) 0) : a_rel k a b := by
  have h3 : (b < a ∧ a_sg a b = 1) ∨ (a = b ∧ a_sg a b = 0) ∨ (a < b ∧ a_sg a b = -1) := by
    unfold a_sg
    by_cases h1 : b < a
    · rw [if_pos h1]; exact Or.inl ⟨h1, rfl⟩
    · rw [if_neg h1]
      by_cases h2 : a = b
      · rw [if_pos h2]; exact Or.inr (Or.inl ⟨h2, rfl⟩)
      · rw [if_neg h2]; exact Or.inr (Or.inr ⟨by omega, rfl⟩)
  unfold a_rel at h
  split at h
  · show a = b; omega
  · show ¬ a = b; omega
  · show a < b; omega
  · show b ≤ a; omega
  · show b < a; omega
  · rename_i h0 h1 h2 h4 h5
    have : a_rel k a b = (a ≤ b) := by
      unfold a_rel
      split <;> first | rfl | contradiction
    rw [this]
    omega
theorem a_br1_ok {N : a_N} {ρ : Nat → Int} {v : a_V} {w : Value} {k c : Int} {o : List a_N} (hN : a_gN N ρ) (hv : a_gv ρ v w) (h : a_br1 N k v c = some o) : ∃ x, w = .int x ∧ (a_rel k x.toInt c → ∃ N' ∈ o, a_gN N' ρ) := by
  obtain ⟨t, a, b⟩ := v
  unfold a_br1 at h
  dsimp only at h
  split at h
  · rename_i ht
    subst ht
    split at h
    · rename_i q hq
      cases h
      cases w with
      | int x =>
        refine ⟨x, rfl, fun hr => ?_⟩
        have hv : x.toInt = ρ a.toNat := hv
        rw [hv] at hr
        obtain ⟨q', e1, e2, e3⟩ := a_rf_ok (hN _ _ hq).1 (hN _ _ hq).2 hr
        exact ⟨_, List.mem_map.mpr ⟨q', e1, rfl⟩, a_gN_set hN e2 e3⟩
      | _ => exact hv.elim
    · cases h
  · split at h
    · rename_i ht
      obtain ⟨rfl, rfl⟩ := ht
      split at h
      · rename_i q hq
        cases h
        cases w with
        | int x =>
          refine ⟨x, rfl, fun hr => ?_⟩
          have hv : x.toInt = a_sg (ρ a.toNat) b := hv
          rw [hv] at hr
          have hr2 : a_rel k (ρ a.toNat) b := a_sg_rel hr
          obtain ⟨q', e1, e2, e3⟩ := a_rf_ok (hN _ _ hq).1 (hN _ _ hq).2 hr2
          exact ⟨_, List.mem_map.mpr ⟨q', e1, rfl⟩, a_gN_set hN e2 e3⟩
        | _ => exact hv.elim
      · cases h
    · split at h
      · rename_i q hq
        cases h
        obtain ⟨x, rfl, h1, h2⟩ := a_iv_ok hN hv hq
        refine ⟨x, rfl, fun hr => ?_⟩
        obtain ⟨q', e1, e2, e3⟩ := a_rf_ok h1 h2 hr
        rw [if_neg (by intro h9; rw [List.isEmpty_iff] at h9; rw [h9] at e1; cases e1)]
        exact ⟨_, List.mem_singleton.mpr rfl, hN⟩
      · cases h
theorem a_cmp_ok {N : a_N} {ρ : Nat → Int} {v v' : a_V} {w w' : Value} {k : Int} {o : List a_N} (hN : a_gN N ρ) (hv : a_gv ρ v w) (hv' : a_gv ρ v' w') (h : a_cmp N k v v' = some o) : ∃ x y, w = .int x ∧ w' = .int y ∧ (a_rel k x.toInt y.toInt → ∃ N' ∈ o, a_gN N' ρ) := by
  unfold a_cmp at h
  split at h
  · rename_i p q hp hq
    obtain ⟨x, rfl, h1, h2⟩ := a_iv_ok hN hv hp
    obtain ⟨y, rfl, h3, h4⟩ := a_iv_ok hN hv' hq
    refine ⟨x, y, rfl, rfl, fun hr => ?_⟩
    split at h
    · have e : y.toInt = q.1 := by omega
      obtain ⟨x', hx, hh⟩ := a_br1_ok hN hv h
      cases hx
      exact hh (by rw [← e]; exact hr)
    · split at h
      · have e : x.toInt = p.1 := by omega
        obtain ⟨x', hx, hh⟩ := a_br1_ok hN hv' h
        cases hx
        exact hh (by rw [← e]; exact a_fl_rel _ _ _ hr)
      · cases h
        exact ⟨_, List.mem_singleton.mpr rfl, hN⟩
  · cases h

/-! VALUES, and what the operations make of them -/
abbrev b_V : Type := Nat × b_L
def b_gv (n : Nat) (ρ : Nat → Int) (v : b_V) (w : Value) : Prop := match v.1, w with
  | 0, .int z => b_gx n ρ v.2 z.toInt
  | 1, .long z => b_gx n ρ v.2 z.toInt
  | 2, .ref k => v.2 = ((k : Int), [])
  | 6, .int z => ∃ a, b_gx n ρ v.2 a ∧ z.toInt = a_sg a 0
  | _, _ => False
def b_ext (W : b_NF) (ρ : Nat → Int) (W' : b_NF) (ρ' : Nat → Int) : Prop := W.1.1 ≤ W'.1.1 ∧ b_agr W.1.1 ρ ρ' ∧ b_gW W' ρ'
/-- a number is found, in a state that knows no less -/
def b_yl (W : b_NF) (ρ : Nat → Int) (U : b_NF × b_L) (a : Int) : Prop := ∃ ρ', b_ext W ρ U.1 ρ' ∧ b_gx U.1.1.1 ρ' U.2 a
def b_fresh (W : b_NF) (lo hi : Int) (mk : Nat) : b_NF × b_L := bif decide (lo = hi) then (W, b_con lo) else ((b_push W.1 (lo, hi, mk), W.2), b_sym W.1.1)
noncomputable def b_fit (W : b_NF) (x : b_L) (lo hi : Int) : b_NF × b_L := bif b_le W x hi && b_ge W x lo then (W, x) else b_fresh W lo hi 0
def b_f32 (W : b_NF) : b_NF × b_L := b_fresh W (-2147483648) 2147483647 0
def b_f64 (W : b_NF) : b_NF × b_L := b_fresh W (-9223372036854775808) 9223372036854775807 0
noncomputable def b_t32 (W : b_NF) (x : b_L) : b_NF × b_L := b_fit W x (-2147483648) 2147483647
noncomputable def b_t64 (W : b_NF) (x : b_L) : b_NF × b_L := b_fit W x (-9223372036854775808) 9223372036854775807
def b_num6 (W : b_NF) (x : b_L) : Option (b_NF × b_L) := match b_lo W.1 x, b_hi W.1 x with
    | some l, some h => some (bif decide (0 < l) then (W, b_con 1) else bif decide (h < 0) then (W, b_con (-1)) else bif decide (l = 0) && decide (h = 0) then (W, b_con 0) else b_fresh W (-1) 1 0)
    | _, _ => none
def b_num (W : b_NF) (v : b_V) : Option (b_NF × b_L) := match v.1 with
  | 0 => some (W, v.2)
  | 6 => b_num6 W v.2
  | _ => none
def b_lng (v : b_V) : Option b_L := match v.1 with
  | 1 => some v.2
  | _ => none
noncomputable def b_ibin1 (W : b_NF) (k : Nat) (x y : b_L) (a b c d : Int) : Option (b_NF × b_L) := match k with
  | 0 => some (b_t32 W (b_add x 1 y))
  | 1 => some (b_t32 W (b_add x (-1) y))
  | 2 => some (bif decide (c = d) then b_t32 W (b_sca c x) else bif decide (a = b) then b_t32 W (b_sca a y) else bif decide (0 ≤ a) && (decide (0 ≤ c) && decide (b * d ≤ 2147483647)) then b_fresh W (a * c) (b * d) 0 else b_f32 W)
  | 3 => some (bif decide (0 ≤ c) then b_fresh W 0 d 0 else bif decide (0 ≤ a) then b_fresh W 0 b 0 else b_f32 W)
  | 6 => some (bif decide (a = 1) && (decide (b = 1) && (decide (0 ≤ c) && decide (d ≤ 30))) then b_fresh W (2 ^ c.toNat) (2 ^ d.toNat) 0 else b_f32 W)
  | 7 => some (bif decide (0 ≤ a) then b_fresh W 0 b 0 else b_f32 W)
  | 9 => bif decide (0 < c) || decide (d < 0) then some (b_f32 W) else none
  | 10 => bif decide (0 < c) || decide (d < 0) then some (b_f32 W) else none
  | _ => bif Nat.ble k 8 then some (b_f32 W) else none
noncomputable def b_ibin (W : b_NF) (k : Nat) (x y : b_L) : Option (b_NF × b_L) := match b_lo W.1 x, b_hi W.1 x, b_lo W.1 y, b_hi W.1 y with
  | some a, some b, some c, some d => bif decide (a = b) && decide (c = d) then (match m_ib k (Int32.ofInt a) (Int32.ofInt c) with
      | some z => some (W, b_con z.toInt)
      | none => none) else b_ibin1 W k x y a b c d
  | _, _, _, _ => none
noncomputable def b_lbin1 (W : b_NF) (k : Nat) (x y : b_L) (a b c d : Int) : Option (b_NF × b_L) := match k with
  | 0 => some (b_t64 W (b_add x 1 y))
  | 1 => some (b_t64 W (b_add x (-1) y))
  | 2 => some (bif decide (c = d) then b_t64 W (b_sca c x) else bif decide (a = b) then b_t64 W (b_sca a y) else b_f64 W)
  | 5 => bif decide (0 < c) || decide (d < 0) then some (b_f64 W) else none
  | 6 => bif decide (0 < c) || decide (d < 0) then some (b_f64 W) else none
  | _ => bif Nat.ble k 4 then some (b_f64 W) else none
noncomputable def b_lbin (W : b_NF) (k : Nat) (x y : b_L) : Option (b_NF × b_L) := match b_lo W.1 x, b_hi W.1 x, b_lo W.1 y, b_hi W.1 y with
  | some a, some b, some c, some d => bif decide (a = b) && decide (c = d) then (match m_lb k (Int64.ofInt a) (Int64.ofInt c) with
      | some z => some (W, b_con z.toInt)
      | none => none) else b_lbin1 W k x y a b c d
  | _, _, _, _ => none
section B62
variable {ρ : Nat → Int} {W : b_NF}
theorem b_ext.rf (hW : b_gW W ρ) : b_ext W ρ W ρ := ⟨Nat.le_refl _, fun _ _ => rfl, hW⟩
theorem b_ext.tr {W1 W2 W3 : b_NF} {ρ1 ρ2 ρ3 : Nat → Int} (h : b_ext W1 ρ1 W2 ρ2) (g : b_ext W2 ρ2 W3 ρ3) : b_ext W1 ρ1 W3 ρ3 :=
  ⟨Nat.le_trans h.1 g.1, fun s hs => (g.2.1 s (Nat.lt_of_lt_of_le hs h.1)).trans (h.2.1 s hs), g.2.2⟩
theorem b_gx.up {W' : b_NF} {ρ' : Nat → Int} {x : b_L} {a : Int} (he : b_ext W ρ W' ρ') (hx : b_gx W.1.1 ρ x a) : b_gx W'.1.1 ρ' x a := hx.ext he.1 he.2.1
theorem b_gv.up {W' : b_NF} {ρ' : Nat → Int} {v : b_V} {w : Value} (he : b_ext W ρ W' ρ') (hv : b_gv W.1.1 ρ v w) : b_gv W'.1.1 ρ' v w := by
  obtain ⟨t, x⟩ := v
  unfold b_gv at hv ⊢
  split at hv
  · exact hv.up he
  · exact hv.up he
  · exact hv
  · obtain ⟨a, h1, h2⟩ := hv; exact ⟨a, h1.up he, h2⟩
  · exact hv.elim
theorem b_yl.same {x : b_L} {a : Int} (hW : b_gW W ρ) (hx : b_gx W.1.1 ρ x a) : b_yl W ρ (W, x) a := ⟨ρ, b_ext.rf hW, hx⟩
theorem b_fresh_ok (hW : b_gW W ρ) {lo hi a : Int} {mk : Nat} (h1 : lo ≤ a) (h2 : a ≤ hi) (hm : b_mk mk a) : b_yl W ρ (b_fresh W lo hi mk) a := by
  unfold b_fresh
  cases h : decide (lo = hi) with
  | true =>
    have e := of_decide_eq_true h
    have : a = lo := by omega
    subst this
    exact b_yl.same hW (b_gx.con _)
  | false =>
    refine ⟨fun s => if s = W.1.1 then a else ρ s, ⟨Nat.le_succ _, b_push_agr W.1 ρ a, b_push_ok hW.1 ⟨h1, h2, hm⟩, fun f hf => ?_⟩, ?_⟩
    · obtain ⟨g1, g2⟩ := hW.2 f hf
      have g3 : b_gx W.1.1 ρ f (b_ev ρ f) := ⟨rfl, g2⟩
      have g4 := g3.ext (Nat.le_succ _) (b_push_agr W.1 ρ a)
      exact ⟨by rw [g4.1]; exact g1, g4.2⟩
    · have := b_gx.sym (ρ := fun s => if s = W.1.1 then a else ρ s) (Nat.lt_succ_self W.1.1)
      have h9 : b_gx (W.1.1 + 1) (fun s => if s = W.1.1 then a else ρ s) (b_sym W.1.1) a := by simpa using this
      exact h9
theorem b_mk0 (a : Int) : b_mk 0 a := fun h => absurd rfl h
theorem b_fit_ok (hW : b_gW W ρ) {lo hi a z : Int} {x : b_L} (hx : b_gx W.1.1 ρ x a) (h1 : lo ≤ z) (h2 : z ≤ hi) (h3 : lo ≤ a → a ≤ hi → z = a) : b_yl W ρ (b_fit W x lo hi) z := by
  unfold b_fit
  cases h : b_le W x hi && b_ge W x lo with
  | true =>
    rw [Bool.and_eq_true] at h
    have g1 := b_le_ok hW h.1
    have g2 := b_ge_ok hW h.2
    rw [hx.1] at g1 g2
    rw [h3 g2 g1]
    exact b_yl.same hW hx
  | false => exact b_fresh_ok hW h1 h2 (b_mk0 _)
theorem b_f32_ok (hW : b_gW W ρ) (z : Int32) : b_yl W ρ (b_f32 W) z.toInt := b_fresh_ok hW (a_i32 z).1 (a_i32 z).2 (b_mk0 _)
theorem b_f64_ok (hW : b_gW W ρ) (z : Int64) : b_yl W ρ (b_f64 W) z.toInt := b_fresh_ok hW (a_i64 z).1 (a_i64 z).2 (b_mk0 _)
theorem b_t32_ok (hW : b_gW W ρ) {x : b_L} {a : Int} (z : Int32) (hx : b_gx W.1.1 ρ x a) (h : z.toInt = a.bmod (2 ^ 32)) : b_yl W ρ (b_t32 W x) z.toInt :=
  b_fit_ok hW hx (a_i32 z).1 (a_i32 z).2 (fun h1 h2 => by rw [h]; exact a_bm h1 h2)
theorem b_bm64 {a : Int} (h1 : (-9223372036854775808) ≤ a) (h2 : a ≤ 9223372036854775807) : a.bmod (2 ^ 64) = a := by
  apply Int.bmod_eq_of_le <;> omega
theorem b_t64_ok (hW : b_gW W ρ) {x : b_L} {a : Int} (z : Int64) (hx : b_gx W.1.1 ρ x a) (h : z.toInt = a.bmod (2 ^ 64)) : b_yl W ρ (b_t64 W x) z.toInt :=
  b_fit_ok hW hx (a_i64 z).1 (a_i64 z).2 (fun h1 h2 => by rw [h]; exact b_bm64 h1 h2)
theorem b_num_ok (hW : b_gW W ρ) {v : b_V} {w : Value} (hv : b_gv W.1.1 ρ v w) {U : b_NF × b_L} (h : b_num W v = some U) : ∃ z : Int32, w = .int z ∧ b_yl W ρ U z.toInt := by
  obtain ⟨t, x⟩ := v
  unfold b_gv at hv
  split at hv
  · rename_i z e
    dsimp only at e; subst e
    cases h
    exact ⟨z, rfl, b_yl.same hW hv⟩
  · rename_i e; dsimp only at e; subst e; cases h
  · rename_i e; dsimp only at e; subst e; cases h
  · rename_i z e
    dsimp only at e; subst e
    obtain ⟨a, h1, h2⟩ := hv
    refine ⟨z, rfl, ?_⟩
    have h : b_num6 W x = some U := h
    unfold b_num6 at h
    split at h
    · rename_i l hh hl hu
      have g1 := b_lo_ok hW.1 hl
      have g2 := b_hi_ok hW.1 hu
      rw [h1.1] at g1 g2
      cases h
      rw [h2]
      unfold a_sg
      cases e1 : decide (0 < l) with
      | true =>
        have := of_decide_eq_true e1
        rw [if_pos (by omega)]
        exact b_yl.same hW (b_gx.con _)
      | false =>
        cases e2 : decide (hh < 0) with
        | true =>
          have := of_decide_eq_true e2
          rw [if_neg (by omega), if_neg (by omega)]
          exact b_yl.same hW (b_gx.con _)
        | false =>
          cases e3 : decide (l = 0) && decide (hh = 0) with
          | true =>
            simp only [Bool.and_eq_true, decide_eq_true_eq] at e3
            rw [if_neg (by omega), if_pos (by omega)]
            exact b_yl.same hW (b_gx.con _)
          | false =>
            simp only [cond_false]
            refine b_fresh_ok hW ?_ ?_ (b_mk0 _)
            · repeat' split
              all_goals omega
            · repeat' split
              all_goals omega
    · cases h
  · exact hv.elim
theorem b_and2 {x y : Int32} (h : 0 ≤ x.toInt) : 0 ≤ (x &&& y).toInt ∧ (x &&& y).toInt ≤ x.toInt := by
  rw [Int32.and_comm]; exact a_and h
theorem b_shl1 {y : Int32} (h1 : 0 ≤ y.toInt) (h2 : y.toInt ≤ 30) : ((1 : Int32) <<< (y &&& 31)).toInt = 2 ^ y.toInt.toNat := by
  have : ∀ n : Nat, n ≤ 30 → ((1 : Int32) <<< (Int32.ofNat n &&& 31)).toInt = 2 ^ n := by decide +kernel
  have e : y = Int32.ofNat y.toInt.toNat := by
    have := a_ex32 (x := y) (a := y.toInt) (b := y.toInt) rfl (Int.le_refl _) (Int.le_refl _)
    rw [← this]
    have h3 : (y.toInt.toNat : Int) = y.toInt := Int.toNat_of_nonneg h1
    rw [this]
    conv => lhs; rw [← this, ← h3]
    rfl
  have h4 := this y.toInt.toNat (by omega)
  rw [← e] at h4
  exact h4
theorem b_ibin_ok (hW : b_gW W ρ) {k : Nat} {x y : b_L} {u w : Int32} (hx : b_gx W.1.1 ρ x u.toInt) (hy : b_gx W.1.1 ρ y w.toInt) {U : b_NF × b_L} (h : b_ibin W k x y = some U) : ∃ z, m_ib k u w = some z ∧ b_yl W ρ U z.toInt := by
  unfold b_ibin at h
  split at h
  · rename_i a b c d ha hb hc hd
    have h1 := b_lo_ok hW.1 ha
    have h2 := b_hi_ok hW.1 hb
    have h3 := b_lo_ok hW.1 hc
    have h4 := b_hi_ok hW.1 hd
    rw [hx.1] at h1 h2
    rw [hy.1] at h3 h4
    cases e0 : decide (a = b) && decide (c = d) with
    | true =>
      rw [e0] at h
      simp only [Bool.and_eq_true, decide_eq_true_eq] at e0
      rw [a_ex32 e0.1 h1 h2, a_ex32 e0.2 h3 h4] at h
      simp only [cond_true] at h
      split at h
      · rename_i z hz
        cases h
        exact ⟨z, hz, b_yl.same hW (b_gx.con _)⟩
      · cases h
    | false =>
      rw [e0] at h
      simp only [cond_false] at h
      unfold b_ibin1 at h
      split at h
      · cases h
        exact ⟨u + w, rfl, b_t32_ok hW _ (hx.add 1 hy) (by rw [Int32.toInt_add, Int.one_mul])⟩
      · cases h
        exact ⟨u - w, rfl, b_t32_ok hW _ (hx.add (-1) hy) (by rw [Int32.toInt_sub]; congr 1; omega)⟩
      · cases h
        refine ⟨u * w, rfl, ?_⟩
        cases e1 : decide (c = d) with
        | true =>
          have e1 := of_decide_eq_true e1
          have e2 : w.toInt = c := by omega
          exact b_t32_ok hW _ (hx.sca c) (by rw [Int32.toInt_mul, e2, Int.mul_comm])
        | false =>
          cases e2 : decide (a = b) with
          | true =>
            have e2 := of_decide_eq_true e2
            have e3 : u.toInt = a := by omega
            exact b_t32_ok hW _ (hy.sca a) (by rw [Int32.toInt_mul, e3])
          | false =>
            cases e3 : decide (0 ≤ a) && (decide (0 ≤ c) && decide (b * d ≤ 2147483647)) with
            | true =>
              simp only [Bool.and_eq_true, decide_eq_true_eq] at e3
              obtain ⟨g1, g2, g3⟩ := e3
              have g4 : a * c ≤ u.toInt * w.toInt := Int.mul_le_mul h1 h3 g2 (by omega)
              have g5 : u.toInt * w.toInt ≤ b * d := Int.mul_le_mul h2 h4 (by omega) (by omega)
              have g6 : 0 ≤ a * c := Int.mul_nonneg g1 g2
              have g7 : (u * w).toInt = u.toInt * w.toInt := by rw [Int32.toInt_mul, a_bm (by omega) (by omega)]
              rw [g7]
              exact b_fresh_ok hW g4 g5 (b_mk0 _)
            | false => exact b_f32_ok hW _
      · cases h
        refine ⟨u &&& w, rfl, ?_⟩
        cases e1 : decide (0 ≤ c) with
        | true =>
          have e1 := of_decide_eq_true e1
          have := a_and (x := u) (y := w) (by omega)
          exact b_fresh_ok hW this.1 (by omega) (b_mk0 _)
        | false =>
          cases e2 : decide (0 ≤ a) with
          | true =>
            have e2 := of_decide_eq_true e2
            have := b_and2 (x := u) (y := w) (by omega)
            exact b_fresh_ok hW this.1 (by omega) (b_mk0 _)
          | false => exact b_f32_ok hW _
      · cases h
        refine ⟨u <<< (w &&& 31), rfl, ?_⟩
        cases e1 : decide (a = 1) && (decide (b = 1) && (decide (0 ≤ c) && decide (d ≤ 30))) with
        | true =>
          simp only [Bool.and_eq_true, decide_eq_true_eq] at e1
          obtain ⟨g1, g2, g3, g4⟩ := e1
          have e2 : u = 1 := by
            have := a_ex32 (x := u) (a := 1) (b := 1) rfl (by omega) (by omega)
            rw [← this]; rfl
          subst e2
          rw [b_shl1 (by omega) (by omega)]
          refine b_fresh_ok hW ?_ ?_ (b_mk0 _)
          · have : c.toNat ≤ w.toInt.toNat := by omega
            exact_mod_cast Nat.pow_le_pow_right (by decide) this
          · have : w.toInt.toNat ≤ d.toNat := by omega
            exact_mod_cast Nat.pow_le_pow_right (by decide) this
        | false => exact b_f32_ok hW _
      · cases h
        refine ⟨u >>> (w &&& 31), rfl, ?_⟩
        cases e1 : decide (0 ≤ a) with
        | true =>
          have e1 := of_decide_eq_true e1
          have := a_shr (x := u) (y := w) (by omega)
          exact b_fresh_ok hW this.1 (by omega) (b_mk0 _)
        | false => exact b_f32_ok hW _
      · cases e1 : decide (0 < c) || decide (d < 0) with
        | true =>
          rw [e1] at h
          simp only [Bool.or_eq_true, decide_eq_true_eq] at e1
          cases h
          have hne : ¬ w = 0 := fun e => by
            subst e
            have : (0 : Int32).toInt = 0 := rfl
            omega
          exact ⟨u / w, by simp only [m_ib, if_neg hne], b_f32_ok hW _⟩
        | false => rw [e1] at h; cases h
      · cases e1 : decide (0 < c) || decide (d < 0) with
        | true =>
          rw [e1] at h
          simp only [Bool.or_eq_true, decide_eq_true_eq] at e1
          cases h
          have hne : ¬ w = 0 := fun e => by
            subst e
            have : (0 : Int32).toInt = 0 := rfl
            omega
          exact ⟨u - u / w * w, by simp only [m_ib, if_neg hne], b_f32_ok hW _⟩
        | false => rw [e1] at h; cases h
      · rename_i n0 n1 n2 n3 n6 n7 n9 n10
        cases e1 : Nat.ble k 8 with
        | true =>
          rw [e1] at h
          cases h
          have hk : k ≤ 8 := Nat.le_of_ble_eq_true e1
          have a0 : k ≠ 0 := n0
          have a1 : k ≠ 1 := n1
          have a2 : k ≠ 2 := n2
          have a3 : k ≠ 3 := n3
          have a6 : k ≠ 6 := n6
          have a7 : k ≠ 7 := n7
          have hk2 : k = 4 ∨ k = 5 ∨ k = 8 := by omega
          rcases hk2 with rfl | rfl | rfl
          · exact ⟨u ||| w, rfl, b_f32_ok hW _⟩
          · exact ⟨u ^^^ w, rfl, b_f32_ok hW _⟩
          · exact ⟨_, rfl, b_f32_ok hW _⟩
        | false => rw [e1] at h; cases h
  · cases h
theorem b_lbin_ok (hW : b_gW W ρ) {k : Nat} {x y : b_L} {u w : Int64} (hx : b_gx W.1.1 ρ x u.toInt) (hy : b_gx W.1.1 ρ y w.toInt) {U : b_NF × b_L} (h : b_lbin W k x y = some U) : ∃ z, m_lb k u w = some z ∧ b_yl W ρ U z.toInt := by
  unfold b_lbin at h
  split at h
  · rename_i a b c d ha hb hc hd
    have h1 := b_lo_ok hW.1 ha
    have h2 := b_hi_ok hW.1 hb
    have h3 := b_lo_ok hW.1 hc
    have h4 := b_hi_ok hW.1 hd
    rw [hx.1] at h1 h2
    rw [hy.1] at h3 h4
    cases e0 : decide (a = b) && decide (c = d) with
    | true =>
      rw [e0] at h
      simp only [Bool.and_eq_true, decide_eq_true_eq] at e0
      rw [a_ex64 e0.1 h1 h2, a_ex64 e0.2 h3 h4] at h
      simp only [cond_true] at h
      split at h
      · rename_i z hz
        cases h
        exact ⟨z, hz, b_yl.same hW (b_gx.con _)⟩
      · cases h
    | false =>
      rw [e0] at h
      simp only [cond_false] at h
      unfold b_lbin1 at h
      split at h
      · cases h
        exact ⟨u + w, rfl, b_t64_ok hW _ (hx.add 1 hy) (by rw [Int64.toInt_add, Int.one_mul])⟩
      · cases h
        exact ⟨u - w, rfl, b_t64_ok hW _ (hx.add (-1) hy) (by rw [Int64.toInt_sub]; congr 1; omega)⟩
      · cases h
        refine ⟨u * w, rfl, ?_⟩
        cases e1 : decide (c = d) with
        | true =>
          have e1 := of_decide_eq_true e1
          have e2 : w.toInt = c := by omega
          exact b_t64_ok hW _ (hx.sca c) (by rw [Int64.toInt_mul, e2, Int.mul_comm])
        | false =>
          cases e2 : decide (a = b) with
          | true =>
            have e2 := of_decide_eq_true e2
            have e3 : u.toInt = a := by omega
            exact b_t64_ok hW _ (hy.sca a) (by rw [Int64.toInt_mul, e3])
          | false => exact b_f64_ok hW _
      · cases e1 : decide (0 < c) || decide (d < 0) with
        | true =>
          rw [e1] at h
          simp only [Bool.or_eq_true, decide_eq_true_eq] at e1
          cases h
          have hne : ¬ w = 0 := fun e => by
            subst e
            have : (0 : Int64).toInt = 0 := rfl
            omega
          exact ⟨u / w, by simp only [m_lb, if_neg hne], b_f64_ok hW _⟩
        | false => rw [e1] at h; cases h
      · cases e1 : decide (0 < c) || decide (d < 0) with
        | true =>
          rw [e1] at h
          simp only [Bool.or_eq_true, decide_eq_true_eq] at e1
          cases h
          have hne : ¬ w = 0 := fun e => by
            subst e
            have : (0 : Int64).toInt = 0 := rfl
            omega
          exact ⟨u - u / w * w, by simp only [m_lb, if_neg hne], b_f64_ok hW _⟩
        | false => rw [e1] at h; cases h
      · rename_i n0 n1 n2 n5 n6
        cases e1 : Nat.ble k 4 with
        | true =>
          rw [e1] at h
          cases h
          have hk : k ≤ 4 := Nat.le_of_ble_eq_true e1
          have a0 : k ≠ 0 := n0
          have a1 : k ≠ 1 := n1
          have a2 : k ≠ 2 := n2
          have hk2 : k = 3 ∨ k = 4 := by omega
          rcases hk2 with rfl | rfl
          · exact ⟨u &&& w, rfl, b_f64_ok hW _⟩
          · exact ⟨u ||| w, rfl, b_f64_ok hW _⟩
        | false => rw [e1] at h; cases h
  · cases h
end B62

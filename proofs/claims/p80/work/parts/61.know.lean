/-! WHAT IS KNOWN OF THE SYMBOLS: bounds and facts 'x ≤ 0' -/
abbrev b_F : Type := List b_L
abbrev b_NF : Type := b_N × b_F
def b_gF (n : Nat) (F : b_F) (ρ : Nat → Int) : Prop := ∀ f ∈ F, b_ev ρ f ≤ 0 ∧ b_u n f
def b_le0 (N : b_N) (x : b_L) (k : Int) : Bool := match b_hi N x with
  | some a => decide (a ≤ k)
  | none => false
/-- how often the fact f takes the term q away (0: not at all) -/
def b_rat (q : Nat × Int) : List (Nat × Int) → Int
  | [] => 0
  | r :: t => bif Nat.beq r.1 q.1 then (bif decide (q.2 / r.2 * r.2 = q.2) then q.2 / r.2 else 0) else b_rat q t
noncomputable def b_leN (N : b_N) (F : b_F) (k : Int) (d : Nat) : b_L → Bool :=
  Nat.rec (motive := fun _ => b_L → Bool) (fun x => b_le0 N x k) (fun _ ih x => b_le0 N x k || x.2.reverse.any (fun q => F.any (fun f => decide (0 < b_rat q f.2) && ih (b_add x (-(b_rat q f.2)) f)))) d
noncomputable def b_le (W : b_NF) (x : b_L) (k : Int) : Bool := b_leN W.1 W.2 k 8 x
noncomputable def b_ge (W : b_NF) (x : b_L) (k : Int) : Bool := b_leN W.1 W.2 (-k) 8 (b_sca (-1) x)
def b_tight1 (N : b_N) (x : b_L) (q : Nat × Int) : b_N := match b_at N q.1, b_lo N (b_add x (-1) (0, [q])) with
  | some b, some l => bif decide (0 < q.2) then (bif decide ((-l) / q.2 < b.2.1) then b_sb N q.1 (b.1, (-l) / q.2, b.2.2) else N)
    else bif decide (q.2 < 0) then (bif decide (b.1 < -((-l) / (-q.2))) then b_sb N q.1 (-((-l) / (-q.2)), b.2.1, b.2.2) else N) else N
  | _, _ => N
def b_tightL (x : b_L) : b_N → List (Nat × Int) → b_N
  | N, [] => N
  | N, q :: r => b_tightL x (b_tight1 N x q) r
def b_cross (N : b_N) (l : List (Nat × Int)) : Bool := l.any fun q => match b_at N q.1 with
  | some b => decide (b.2.1 < b.1)
  | none => false
def b_prop : b_N → b_F → Option b_N
  | N, [] => some N
  | N, f :: r => bif b_cross (b_tightL f N f.2) f.2 then none else b_prop (b_tightL f N f.2) r
def b_two (l : List (Nat × Int)) : Bool := match l with
  | _ :: _ :: _ => true
  | _ => false
/-- 'y ≤ 0' is learned; nothing where it can't be -/
noncomputable def b_lrn (W : b_NF) (y : b_L) : List b_NF :=
  bif b_ge W y 1 then [] else bif b_cross (b_tightL y W.1 y.2) y.2 then [] else match b_prop (b_tightL y W.1 y.2) W.2 with
    | none => []
    | some N => [(N, bif b_two y.2 && !(b_le0 (b_tightL y W.1 y.2) y 0) && !(W.2.any fun f => decide (f = y)) then y :: W.2 else W.2)]
def b_neg (x : b_L) : b_L := b_sca (-1) x
def b_one (l : List (Nat × Int)) : Bool := match l with
  | [q] => decide (q.2 = 1) || decide (q.2 = -1)
  | _ => false
noncomputable def b_learn (W : b_NF) (k : Int) (x : b_L) : List b_NF := match k with
  | 0 => (b_lrn W x).flatMap fun U => b_lrn U (b_neg x)
  | 1 => bif b_le W x 0 then b_lrn W (b_adc x 1) else bif b_ge W x 0 then b_lrn W (b_adc (b_neg x) 1) else bif b_one x.2 then b_lrn W (b_adc (b_neg x) 1) ++ b_lrn W (b_adc x 1) else [W]
  | 2 => b_lrn W (b_adc x 1)
  | 3 => b_lrn W (b_neg x)
  | 4 => b_lrn W (b_adc (b_neg x) 1)
  | _ => b_lrn W x
def b_gW (W : b_NF) (ρ : Nat → Int) : Prop := b_gN W.1 ρ ∧ b_gF W.1.1 W.2 ρ
section B61
variable {ρ : Nat → Int} {N : b_N} {F : b_F} {W : b_NF}
theorem b_le0_ok (hN : b_gN N ρ) {x : b_L} {k : Int} (h : b_le0 N x k = true) : b_ev ρ x ≤ k := by
  unfold b_le0 at h
  split at h
  · rename_i a ha
    have := b_hi_ok hN ha
    have h1 := of_decide_eq_true h
    omega
  · cases h
theorem b_leN_ok {n : Nat} (hN : b_gN N ρ) (hF : b_gF n F ρ) {k : Int} : ∀ (d : Nat) (x : b_L), b_leN N F k d x = true → b_ev ρ x ≤ k := by
  intro d
  induction d with
  | zero => intro x h; exact b_le0_ok hN h
  | succ d ih =>
    intro x h
    have h : (b_le0 N x k || x.2.reverse.any (fun q => F.any (fun f => decide (0 < b_rat q f.2) && b_leN N F k d (b_add x (-(b_rat q f.2)) f)))) = true := h
    rw [Bool.or_eq_true] at h
    rcases h with h | h
    · exact b_le0_ok hN h
    · obtain ⟨q, -, h1⟩ := List.any_eq_true.mp h
      obtain ⟨f, hf, h2⟩ := List.any_eq_true.mp h1
      rw [Bool.and_eq_true] at h2
      have h3 := ih _ h2.2
      rw [b_add_ev] at h3
      have h4 := (hF f hf).1
      have h5 := of_decide_eq_true h2.1
      have h6 : b_rat q f.2 * b_ev ρ f ≤ 0 := Int.mul_nonpos_of_nonneg_of_nonpos (by omega) h4
      rw [Int.neg_mul] at h3
      omega
theorem b_le_ok (hW : b_gW W ρ) {x : b_L} {k : Int} (h : b_le W x k = true) : b_ev ρ x ≤ k := b_leN_ok hW.1 hW.2 8 x h
theorem b_ge_ok (hW : b_gW W ρ) {x : b_L} {k : Int} (h : b_ge W x k = true) : k ≤ b_ev ρ x := by
  have := b_leN_ok hW.1 hW.2 8 _ h
  rw [b_sca_ev] at this
  omega
theorem b_tight1_ok (hN : b_gN N ρ) {x : b_L} (hx : b_ev ρ x ≤ 0) (q : Nat × Int) : b_gN (b_tight1 N x q) ρ ∧ (b_tight1 N x q).1 = N.1 := by
  unfold b_tight1
  split
  · rename_i b l hb hl
    have hs := b_at_lt hb
    obtain ⟨g1, g2, g3⟩ := hN.2 _ _ hb
    have h1 := b_lo_ok hN hl
    rw [b_add_ev] at h1
    have h2 : b_ev ρ (0, [q]) = q.2 * ρ q.1 := by simp [b_ev, b_evs]
    rw [h2] at h1
    have h3 : q.2 * ρ q.1 ≤ -l := by omega
    cases hk : decide (0 < q.2) with
    | true =>
      have hk := of_decide_eq_true hk
      simp only [cond_true]
      refine b_bif (P := fun N' : b_N => b_gN N' ρ ∧ N'.1 = N.1) (fun _ => ?_) (fun _ => ⟨hN, rfl⟩)
      refine ⟨b_sb_ok hN hs ⟨g1, ?_, g3⟩, rfl⟩
      exact (Int.le_ediv_iff_mul_le hk).mpr (by rw [Int.mul_comm]; exact h3)
    | false =>
      simp only [cond_false]
      cases hk2 : decide (q.2 < 0) with
      | true =>
        have hk2 := of_decide_eq_true hk2
        simp only [cond_true]
        refine b_bif (P := fun N' : b_N => b_gN N' ρ ∧ N'.1 = N.1) (fun _ => ?_) (fun _ => ⟨hN, rfl⟩)
        refine ⟨b_sb_ok hN hs ⟨?_, g2, g3⟩, rfl⟩
        have h4 : -(ρ q.1) ≤ (-l) / (-q.2) := (Int.le_ediv_iff_mul_le (by omega)).mpr (by
          rw [Int.neg_mul_neg, Int.mul_comm]; exact h3)
        dsimp only
        omega
      | false => exact ⟨hN, rfl⟩
  · exact ⟨hN, rfl⟩
theorem b_tightL_ok {x : b_L} (hx : b_ev ρ x ≤ 0) : ∀ (l : List (Nat × Int)) {N : b_N}, b_gN N ρ → b_gN (b_tightL x N l) ρ ∧ (b_tightL x N l).1 = N.1
  | [], N, hN => ⟨hN, rfl⟩
  | q :: r, N, hN => by
    obtain ⟨h1, h2⟩ := b_tight1_ok hN hx q
    obtain ⟨h3, h4⟩ := b_tightL_ok hx r h1
    exact ⟨h3, h4.trans h2⟩
theorem b_cross_no (hN : b_gN N ρ) {l : List (Nat × Int)} : b_cross N l = false := by
  cases h : b_cross N l with
  | false => rfl
  | true =>
    obtain ⟨q, -, h1⟩ := List.any_eq_true.mp h
    split at h1
    · rename_i b hb
      obtain ⟨g1, g2, -⟩ := hN.2 _ _ hb
      have := of_decide_eq_true h1
      omega
    · cases h1
theorem b_prop_ok {n : Nat} : ∀ (F : b_F) {N : b_N}, b_gN N ρ → b_gF n F ρ → ∃ N', b_prop N F = some N' ∧ b_gN N' ρ ∧ N'.1 = N.1
  | [], N, hN, _ => ⟨N, rfl, hN, rfl⟩
  | f :: r, N, hN, hF => by
    obtain ⟨h1, h2⟩ := b_tightL_ok (hF f List.mem_cons_self).1 f.2 hN
    obtain ⟨N', h3, h4, h5⟩ := b_prop_ok r h1 (fun g hg => hF g (List.mem_cons_of_mem _ hg))
    exact ⟨N', by simp only [b_prop, b_cross_no h1, cond_false]; exact h3, h4, h5.trans h2⟩
/-- where 'y ≤ 0' holds there is one state, and it holds there -/
theorem b_lrn_ok (hW : b_gW W ρ) {y : b_L} {a : Int} (hg : b_gx W.1.1 ρ y a) (ha : a ≤ 0) : ∃ U ∈ b_lrn W y, b_gW U ρ ∧ U.1.1 = W.1.1 := by
  have hy : b_ev ρ y ≤ 0 := by rw [hg.1]; exact ha
  unfold b_lrn
  cases h0 : b_ge W y 1 with
  | true => have := b_ge_ok hW h0; omega
  | false =>
    obtain ⟨h1, h2⟩ := b_tightL_ok hy y.2 hW.1
    obtain ⟨N', h3, h4, h5⟩ := b_prop_ok W.2 h1 hW.2
    simp only [cond_false, b_cross_no h1, h3]
    refine ⟨_, List.mem_singleton.mpr rfl, ⟨h4, ?_⟩, h5.trans h2⟩
    dsimp only
    rw [h5, h2]
    refine b_bif (P := fun F' : b_F => b_gF W.1.1 F' ρ) (fun _ => fun f hf => ?_) (fun _ => hW.2)
    rcases List.mem_cons.mp hf with rfl | hf
    · exact ⟨hy, hg.2⟩
    · exact hW.2 f hf
def b_rel (k : Int) (x : Int) : Prop := match k with
  | 0 => x = 0
  | 1 => x ≠ 0
  | 2 => x < 0
  | 3 => 0 ≤ x
  | 4 => 0 < x
  | _ => x ≤ 0
theorem b_neg_ev (x : b_L) : b_ev ρ (b_neg x) = - b_ev ρ x := by
  unfold b_neg; rw [b_sca_ev]; omega
theorem b_gx.neg {n : Nat} {x : b_L} {a : Int} (hx : b_gx n ρ x a) : b_gx n ρ (b_neg x) (-a) := by
  have := hx.sca (-1)
  rw [Int.neg_one_mul] at this
  exact this
theorem b_learn_ok (hW : b_gW W ρ) {k : Int} {x : b_L} {a : Int} (hx : b_gx W.1.1 ρ x a) (h : b_rel k a) : ∃ U ∈ b_learn W k x, b_gW U ρ ∧ U.1.1 = W.1.1 := by
  have hx1 := hx.1
  unfold b_learn
  unfold b_rel at h
  split at h
  · obtain ⟨U, h1, h2, h3⟩ := b_lrn_ok hW hx (by omega)
    obtain ⟨V, h4, h5, h6⟩ := b_lrn_ok h2 (y := b_neg x) (by rw [h3]; exact hx.neg) (by omega)
    exact ⟨V, List.mem_flatMap.mpr ⟨U, h1, h4⟩, h5, h6.trans h3⟩
  · cases h1 : b_le W x 0 with
    | true =>
      have := b_le_ok hW h1
      simp only [cond_true]
      exact b_lrn_ok hW (hx.adc 1) (by omega)
    | false =>
      cases h2 : b_ge W x 0 with
      | true =>
        have := b_ge_ok hW h2
        simp only [cond_true, cond_false]
        exact b_lrn_ok hW (hx.neg.adc 1) (by omega)
      | false =>
        cases h3 : b_one x.2 with
        | true =>
          simp only [cond_true, cond_false]
          by_cases hp : 0 < a
          · obtain ⟨U, g1, g2⟩ := b_lrn_ok hW (hx.neg.adc 1) (by omega)
            exact ⟨U, List.mem_append_left _ g1, g2⟩
          · obtain ⟨U, g1, g2⟩ := b_lrn_ok hW (hx.adc 1) (by omega)
            exact ⟨U, List.mem_append_right _ g1, g2⟩
        | false => exact ⟨W, List.mem_singleton.mpr rfl, hW, rfl⟩
  · exact b_lrn_ok hW (hx.adc 1) (by omega)
  · exact b_lrn_ok hW hx.neg (by omega)
  · exact b_lrn_ok hW (hx.neg.adc 1) (by omega)
  · exact b_lrn_ok hW hx h
end B61

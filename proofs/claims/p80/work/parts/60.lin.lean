/-! LINEAR EXPRESSIONS over symbols: a number, and symbols with their factors -/
abbrev b_L : Type := Int × List (Nat × Int)
abbrev b_B : Type := Int × Int × Nat
abbrev b_N : Type := Nat × List b_B
def b_evs (ρ : Nat → Int) : List (Nat × Int) → Int
  | [] => 0
  | q :: r => q.2 * ρ q.1 + b_evs ρ r
def b_ev (ρ : Nat → Int) (x : b_L) : Int := x.1 + b_evs ρ x.2
def b_ins (s : Nat) (k : Int) : List (Nat × Int) → List (Nat × Int)
  | [] => [(s, k)]
  | q :: r => bif Nat.beq s q.1 then (bif decide (q.2 + k = 0) then r else (q.1, q.2 + k) :: r) else bif Nat.blt s q.1 then (s, k) :: q :: r else q :: b_ins s k r
def b_adds (k : Int) (x : List (Nat × Int)) : List (Nat × Int) → List (Nat × Int)
  | [] => x
  | q :: r => b_ins q.1 (k * q.2) (b_adds k x r)
/-- x + k y -/
def b_add (x : b_L) (k : Int) (y : b_L) : b_L := (x.1 + k * y.1, b_adds k x.2 y.2)
def b_con (c : Int) : b_L := (c, [])
def b_sym (s : Nat) : b_L := (0, [(s, 1)])
def b_sca (k : Int) (x : b_L) : b_L := b_add (b_con 0) k x
def b_adc (x : b_L) (c : Int) : b_L := (x.1 + c, x.2)
def b_at (N : b_N) (s : Nat) : Option b_B := bif Nat.blt s N.1 then N.2[N.1 - 1 - s]? else none
def b_sb (N : b_N) (s : Nat) (q : b_B) : b_N := (N.1, N.2.set (N.1 - 1 - s) q)
def b_push (N : b_N) (q : b_B) : b_N := (N.1 + 1, q :: N.2)
def b_ub (N : b_N) (q : Nat × Int) : Option Int := match b_at N q.1 with
  | some b => some (q.2 * (bif decide (0 < q.2) then b.2.1 else b.1))
  | none => none
def b_his (N : b_N) : List (Nat × Int) → Option Int
  | [] => some 0
  | q :: r => match b_ub N q, b_his N r with
    | some a, some b => some (a + b)
    | _, _ => none
/-- an upper bound, by the symbols' bounds -/
def b_hi (N : b_N) (x : b_L) : Option Int := match b_his N x.2 with
  | some a => some (x.1 + a)
  | none => none
def b_lo (N : b_N) (x : b_L) : Option Int := match b_hi N (b_sca (-1) x) with
  | some a => some (-a)
  | none => none
def b_mk (m : Nat) (a : Int) : Prop := m ≠ 0 → ∃ j : Nat, Nat.testBit m j = true ∧ a = (j : Int) - 1
def b_gB (q : b_B) (a : Int) : Prop := q.1 ≤ a ∧ a ≤ q.2.1 ∧ b_mk q.2.2 a
def b_gN (N : b_N) (ρ : Nat → Int) : Prop := N.2.length = N.1 ∧ ∀ s q, b_at N s = some q → b_gB q (ρ s)
def b_agr (n : Nat) (ρ ρ' : Nat → Int) : Prop := ∀ s, s < n → ρ' s = ρ s
def b_u (n : Nat) (x : b_L) : Prop := ∀ q ∈ x.2, q.1 < n
/-- x stands for the number a -/
def b_gx (n : Nat) (ρ : Nat → Int) (x : b_L) (a : Int) : Prop := b_ev ρ x = a ∧ b_u n x
theorem b_bif {α : Type} {P : α → Prop} {c : Bool} {x y : α} (h1 : c = true → P x) (h2 : c = false → P y) : P (bif c then x else y) := by
  cases c with
  | true => exact h1 rfl
  | false => exact h2 rfl
section B60
variable {ρ ρ' : Nat → Int} {N : b_N}
theorem b_ins_ev (s : Nat) (k : Int) : ∀ l : List (Nat × Int), b_evs ρ (b_ins s k l) = k * ρ s + b_evs ρ l
  | [] => by simp [b_ins, b_evs]
  | q :: r => by
    unfold b_ins
    cases h1 : Nat.beq s q.1 with
    | true =>
      have e := Nat.eq_of_beq_eq_true h1
      cases h2 : decide (q.2 + k = 0) with
      | true =>
        have h3 := of_decide_eq_true h2
        have h4 : k = -q.2 := by omega
        simp only [cond_true, b_evs, ← e, h4]
        rw [Int.neg_mul]; omega
      | false => simp only [cond_true, cond_false, b_evs, ← e, Int.add_mul]; omega
    | false =>
      cases h2 : Nat.blt s q.1 with
      | true => simp [b_evs]
      | false => simp only [cond_false, b_evs, b_ins_ev s k r]; omega
theorem b_adds_ev (k : Int) (x : List (Nat × Int)) : ∀ l : List (Nat × Int), b_evs ρ (b_adds k x l) = b_evs ρ x + k * b_evs ρ l
  | [] => by simp [b_adds, b_evs]
  | q :: r => by
    simp only [b_adds, b_ins_ev, b_adds_ev k x r, b_evs, Int.mul_add, Int.mul_assoc]; omega
theorem b_add_ev (x : b_L) (k : Int) (y : b_L) : b_ev ρ (b_add x k y) = b_ev ρ x + k * b_ev ρ y := by
  simp only [b_ev, b_add, b_adds_ev, Int.mul_add]; omega
theorem b_con_ev (c : Int) : b_ev ρ (b_con c) = c := by simp [b_ev, b_con, b_evs]
theorem b_sym_ev (s : Nat) : b_ev ρ (b_sym s) = ρ s := by simp [b_ev, b_sym, b_evs]
theorem b_sca_ev (k : Int) (x : b_L) : b_ev ρ (b_sca k x) = k * b_ev ρ x := by
  simp [b_sca, b_add_ev, b_con_ev]
theorem b_adc_ev (x : b_L) (c : Int) : b_ev ρ (b_adc x c) = b_ev ρ x + c := by
  simp only [b_ev, b_adc]; omega
theorem b_ub_ok (hN : b_gN N ρ) {q : Nat × Int} {a : Int} (h : b_ub N q = some a) : q.2 * ρ q.1 ≤ a := by
  unfold b_ub at h
  split at h
  · rename_i b hb
    obtain ⟨h1, h2, -⟩ := hN.2 _ _ hb
    cases h
    cases h3 : decide (0 < q.2) with
    | true =>
      have h4 := of_decide_eq_true h3
      exact Int.mul_le_mul_of_nonneg_left h2 (by omega)
    | false =>
      have h4 := of_decide_eq_false h3
      exact Int.mul_le_mul_of_nonpos_left (by omega) h1
  · cases h
theorem b_his_ok (hN : b_gN N ρ) : ∀ {l : List (Nat × Int)} {a : Int}, b_his N l = some a → b_evs ρ l ≤ a
  | [], a, h => by cases h; exact Int.le_refl _
  | q :: r, a, h => by
    unfold b_his at h
    split at h
    · rename_i u w h1 h2
      cases h
      have h3 := b_ub_ok hN h1
      have h4 := b_his_ok hN h2
      simp only [b_evs]; omega
    · cases h
theorem b_hi_ok (hN : b_gN N ρ) {x : b_L} {a : Int} (h : b_hi N x = some a) : b_ev ρ x ≤ a := by
  unfold b_hi at h
  split at h
  · rename_i u h1
    cases h
    have := b_his_ok hN h1
    simp only [b_ev]; omega
  · cases h
theorem b_lo_ok (hN : b_gN N ρ) {x : b_L} {a : Int} (h : b_lo N x = some a) : a ≤ b_ev ρ x := by
  unfold b_lo at h
  split at h
  · rename_i u h1
    cases h
    have := b_hi_ok hN h1
    rw [b_sca_ev] at this; omega
  · cases h
theorem b_evs_agr {n : Nat} (ha : b_agr n ρ ρ') : ∀ {l : List (Nat × Int)}, (∀ q ∈ l, q.1 < n) → b_evs ρ' l = b_evs ρ l
  | [], _ => rfl
  | q :: r, h => by
    simp only [b_evs, ha _ (h q List.mem_cons_self), b_evs_agr ha (l := r) (fun q hq => h q (List.mem_cons_of_mem _ hq))]
theorem b_ins_u {n s : Nat} {k : Int} (hs : s < n) : ∀ {l : List (Nat × Int)}, (∀ q ∈ l, q.1 < n) → ∀ q ∈ b_ins s k l, q.1 < n
  | [], _, q, hq => by simp only [b_ins, List.mem_singleton] at hq; subst hq; exact hs
  | p :: r, h, q, hq => by
    have hr : ∀ q ∈ r, q.1 < n := fun q hq => h q (List.mem_cons_of_mem _ hq)
    have hp := h p List.mem_cons_self
    unfold b_ins at hq
    cases h1 : Nat.beq s p.1 with
    | true =>
      rw [h1] at hq
      cases h2 : decide (p.2 + k = 0) with
      | true => rw [h2] at hq; exact hr q hq
      | false =>
        rw [h2] at hq
        rcases List.mem_cons.mp hq with rfl | hq
        · exact hp
        · exact hr q hq
    | false =>
      rw [h1] at hq
      cases h2 : Nat.blt s p.1 with
      | true =>
        rw [h2] at hq
        rcases List.mem_cons.mp hq with rfl | hq
        · exact hs
        · exact h q hq
      | false =>
        rw [h2] at hq
        rcases List.mem_cons.mp hq with rfl | hq
        · exact hp
        · exact b_ins_u hs hr q hq
theorem b_adds_u {n : Nat} {k : Int} {x : List (Nat × Int)} (hx : ∀ q ∈ x, q.1 < n) : ∀ {l : List (Nat × Int)}, (∀ q ∈ l, q.1 < n) → ∀ q ∈ b_adds k x l, q.1 < n
  | [], _ => hx
  | p :: r, h => b_ins_u (h p List.mem_cons_self) (b_adds_u hx (l := r) (fun q hq => h q (List.mem_cons_of_mem _ hq)))
theorem b_gx.add {n : Nat} {x y : b_L} {a b : Int} (k : Int) (hx : b_gx n ρ x a) (hy : b_gx n ρ y b) : b_gx n ρ (b_add x k y) (a + k * b) :=
  ⟨by rw [b_add_ev, hx.1, hy.1], b_adds_u hx.2 hy.2⟩
theorem b_gx.con {n : Nat} (c : Int) : b_gx n ρ (b_con c) c := ⟨b_con_ev c, fun q h => by cases h⟩
theorem b_gx.sym {n s : Nat} (h : s < n) : b_gx n ρ (b_sym s) (ρ s) := ⟨b_sym_ev s, fun q hq => by
  simp only [b_sym, List.mem_singleton] at hq; subst hq; exact h⟩
theorem b_gx.sca {n : Nat} {x : b_L} {a : Int} (k : Int) (hx : b_gx n ρ x a) : b_gx n ρ (b_sca k x) (k * a) := by
  have := b_gx.add (ρ := ρ) (n := n) k (b_gx.con 0) hx
  rw [Int.zero_add] at this
  exact this
theorem b_gx.adc {n : Nat} {x : b_L} {a : Int} (c : Int) (hx : b_gx n ρ x a) : b_gx n ρ (b_adc x c) (a + c) := ⟨by rw [b_adc_ev, hx.1], hx.2⟩
theorem b_gx.ext {n n' : Nat} {x : b_L} {a : Int} (hn : n ≤ n') (ha : b_agr n ρ ρ') (hx : b_gx n ρ x a) : b_gx n' ρ' x a :=
  ⟨by rw [← hx.1]; simp only [b_ev, b_evs_agr ha hx.2], fun q hq => Nat.lt_of_lt_of_le (hx.2 q hq) hn⟩
theorem b_at_lt {s : Nat} {q : b_B} (h : b_at N s = some q) : s < N.1 := by
  unfold b_at at h
  cases h1 : Nat.blt s N.1 with
  | true => exact Nat.blt_eq.mp h1
  | false => rw [h1] at h; cases h
theorem b_push_ok (hN : b_gN N ρ) {q : b_B} {a : Int} (hq : b_gB q a) : b_gN (b_push N q) (fun s => if s = N.1 then a else ρ s) := by
  refine ⟨by simp [b_push, hN.1], fun s r h => ?_⟩
  have hs := b_at_lt h
  simp only [b_push] at hs
  unfold b_at at h
  have h0 : Nat.blt s (N.1 + 1) = true := Nat.blt_eq.mpr hs
  simp only [b_push, h0, cond_true] at h
  by_cases he : s = N.1
  · subst he
    have : N.1 + 1 - 1 - N.1 = 0 := by omega
    rw [this] at h
    cases h
    simpa using hq
  · have h1 : N.1 + 1 - 1 - s = (N.1 - 1 - s) + 1 := by omega
    rw [h1, List.getElem?_cons_succ] at h
    dsimp only
    rw [if_neg he]
    refine hN.2 s r ?_
    unfold b_at
    rw [Nat.blt_eq.mpr (by omega : s < N.1)]
    exact h
theorem b_push_agr (N : b_N) (ρ : Nat → Int) (a : Int) : b_agr N.1 ρ (fun s => if s = N.1 then a else ρ s) := fun s hs => by
  dsimp only
  rw [if_neg (by omega)]
theorem b_sb_ok (hN : b_gN N ρ) {s : Nat} {q : b_B} (hs : s < N.1) (hq : b_gB q (ρ s)) : b_gN (b_sb N s q) ρ := by
  refine ⟨by simp [b_sb, hN.1], fun t r h => ?_⟩
  have ht := b_at_lt h
  simp only [b_sb] at ht
  unfold b_at at h
  simp only [b_sb, Nat.blt_eq.mpr ht, cond_true] at h
  rw [List.getElem?_set] at h
  split at h
  · rename_i e
    split at h
    · cases h
      have : t = s := by omega
      subst this
      exact hq
    · cases h
  · exact hN.2 t r (by unfold b_at; rw [Nat.blt_eq.mpr ht]; exact h)
end B60

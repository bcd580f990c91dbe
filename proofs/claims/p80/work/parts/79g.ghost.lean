/-! GHOSTS: numbers told of the cells: P events ahead of a place, Q and R rows whose causes are such -/
def x_iv (o : Option Value) : Int := match o with
  | some (.int z) => z.toInt
  | _ => 0
def x_evs : List (Nat × Nat × Int) := (List.range 8).map (fun (c : Nat) => (129, c, (c : Int))) ++ (List.range 20).map (fun (k : Nat) => (124, 3 * k + 2, (k : Int) + 8))
def x_key (σ : m_S) (e : Nat × Nat × Int) : Int := 32 * x_iv (b_rd σ e.1 e.2.1) + e.2.2
def x_P (σ : m_S) (a : Int) : Int := ((x_evs.countP fun e => decide (0 ≤ x_key σ e) && decide (x_key σ e < a) : Nat) : Int)
def x_ok (σ : m_S) (v i : Nat) : Bool := match b_rd σ v i with
  | some (.long z) => decide (0 ≤ z.toInt) && decide (z.toInt ≤ 7)
  | _ => false
def x_Q (v : Nat) (σ : m_S) (a : Int) : Int := if (List.range (a % 32).toNat).all (fun u => x_ok σ v (60 * (a / 32).toNat + 2 * u)) = true then 1 else 0
def x_R (v l : Nat) (e : Int) (σ : m_S) (a : Int) : Int := if (List.range 30).all (fun t => decide (x_iv (b_rd σ l a.toNat) ≤ 2 * (t : Int) + 1 - e) || x_ok σ v (60 * a.toNat + 2 * t)) = true then 1 else 0
def x_G (n : Int) : b_G := fun g σ a => bif Nat.beq g 139 then x_P σ a else bif Nat.beq g 140 then x_Q 74 σ a else bif Nat.beq g 141 then x_R 74 76 0 σ a else bif Nat.beq g 142 then x_Q 116 σ a else bif Nat.beq g 143 then x_R 116 115 1 σ a else bif Nat.beq g 500 then n else 0
def x_dep (g c : Nat) : Bool := bif Nat.blt g 139 then false else bif Nat.beq g 139 then Nat.beq c 129 || Nat.beq c 124 else bif Nat.beq g 140 then Nat.beq c 74 else bif Nat.beq g 141 then Nat.beq c 74 || Nat.beq c 76 else bif Nat.beq g 142 then Nat.beq c 116 else bif Nat.beq g 143 then Nat.beq c 116 || Nat.beq c 115 else false
theorem x_depOk : b_DepOk x_dep := by
  intro g c h
  unfold x_dep
  rw [Nat.blt_eq.mpr h]
  rfl
theorem x_P_congr {σ σ' : m_S} (h1 : ∀ i, b_rd σ' 129 i = b_rd σ 129 i) (h2 : ∀ i, b_rd σ' 124 i = b_rd σ 124 i) (a : Int) : x_P σ' a = x_P σ a := by
  unfold x_P
  congr 1
  apply List.countP_congr
  intro e he
  have hk : x_key σ' e = x_key σ e := by
    unfold x_key
    unfold x_evs at he
    rcases List.mem_append.mp he with h | h
    · obtain ⟨c, -, rfl⟩ := List.mem_map.mp h
      dsimp only
      rw [h1]
    · obtain ⟨c, -, rfl⟩ := List.mem_map.mp h
      dsimp only
      rw [h2]
  rw [hk]
theorem x_ok_congr {σ σ' : m_S} {v : Nat} (h : ∀ i, b_rd σ' v i = b_rd σ v i) (i : Nat) : x_ok σ' v i = x_ok σ v i := by
  unfold x_ok
  rw [h]
theorem x_Q_congr {σ σ' : m_S} {v : Nat} (h : ∀ i, b_rd σ' v i = b_rd σ v i) (a : Int) : x_Q v σ' a = x_Q v σ a := by
  unfold x_Q
  simp only [x_ok_congr h]
theorem x_R_congr {σ σ' : m_S} {v l : Nat} {e : Int} (h : ∀ i, b_rd σ' v i = b_rd σ v i) (h2 : ∀ i, b_rd σ' l i = b_rd σ l i) (a : Int) : x_R v l e σ' a = x_R v l e σ a := by
  unfold x_R
  simp only [x_ok_congr h, h2]
theorem x_gOk (n : Int) : b_GOk (x_G n) x_dep := by
  intro g σ σ' h a
  unfold x_G
  by_cases g0 : g = 139
  · subst g0
    exact x_P_congr (h 129 rfl) (h 124 rfl) a
  by_cases g1 : g = 140
  · subst g1
    exact x_Q_congr (h 74 rfl) a
  by_cases g2 : g = 141
  · subst g2
    exact x_R_congr (h 74 rfl) (h 76 rfl) a
  by_cases g3 : g = 142
  · subst g3
    exact x_Q_congr (h 116 rfl) a
  by_cases g4 : g = 143
  · subst g4
    exact x_R_congr (h 116 rfl) (h 115 rfl) a
  have n0 : ∀ k, g ≠ k → Nat.beq g k = false := fun k hk => by
    cases e : Nat.beq g k with
    | true => exact absurd (Nat.eq_of_beq_eq_true e) hk
    | false => rfl
  rw [n0 _ g0, n0 _ g1, n0 _ g2, n0 _ g3, n0 _ g4]
  rfl
theorem x_P_mono {σ : m_S} {a b : Int} (h : a ≤ b) : x_P σ a ≤ x_P σ b := by
  unfold x_P
  have := List.countP_mono_left (l := x_evs) (p := fun e => decide (0 ≤ x_key σ e) && decide (x_key σ e < a)) (q := fun e => decide (0 ≤ x_key σ e) && decide (x_key σ e < b)) (fun e _ he => by
    simp only [Bool.and_eq_true, decide_eq_true_eq] at he ⊢
    omega)
  omega
theorem x_P_bd {σ : m_S} {a : Int} : 0 ≤ x_P σ a ∧ x_P σ a ≤ 28 := by
  unfold x_P
  have := List.countP_le_length (l := x_evs) (p := fun e => decide (0 ≤ x_key σ e) && decide (x_key σ e < a))
  have h2 : x_evs.length = 28 := by decide +kernel
  omega
theorem x_P_zero {σ : m_S} : x_P σ 0 = 0 := by
  unfold x_P
  have : (x_evs.countP fun e => decide (0 ≤ x_key σ e) && decide (x_key σ e < 0)) = 0 := by
    rw [List.countP_eq_zero]
    intro e _
    simp only [Bool.and_eq_true, decide_eq_true_eq]
    omega
  rw [this]
  rfl
theorem x_count {α : Type} {p q : α → Bool} {e : α} : ∀ {l : List α}, (∀ x ∈ l, p x = true → q x = true) → e ∈ l → p e = false → q e = true → l.countP p + 1 ≤ l.countP q
  | [], _, he, _, _ => by cases he
  | x :: r, h, he, h1, h2 => by
    have hr : ∀ x ∈ r, p x = true → q x = true := fun x hx => h x (List.mem_cons_of_mem _ hx)
    have hm := List.countP_mono_left (l := r) hr
    rw [List.countP_cons, List.countP_cons]
    rcases List.mem_cons.mp he with rfl | he
    · rw [h1, h2]
      simp only [Bool.false_eq_true, if_false, if_true]
      omega
    · have := x_count hr he h1 h2
      have h3 := h x List.mem_cons_self
      cases e1 : p x with
      | true => rw [h3 e1]; omega
      | false =>
        cases e2 : q x with
        | true => simp only [Bool.false_eq_true, if_false, if_true]; omega
        | false => simpa using this
theorem x_P_up {σ : m_S} {a : Int} {e : Nat × Nat × Int} (he : e ∈ x_evs) (h0 : 0 ≤ a) (h : x_key σ e = a) : x_P σ a + 1 ≤ x_P σ (a + 1) := by
  unfold x_P
  have := x_count (l := x_evs) (e := e) (p := fun e => decide (0 ≤ x_key σ e) && decide (x_key σ e < a)) (q := fun e => decide (0 ≤ x_key σ e) && decide (x_key σ e < a + 1)) (fun x _ hx => by
    simp only [Bool.and_eq_true, decide_eq_true_eq] at hx ⊢
    omega) he (by simp only [h, Bool.and_eq_false_iff, decide_eq_false_iff_not]; omega) (by simp only [h, Bool.and_eq_true, decide_eq_true_eq]; omega)
  omega
theorem x_Q_zero {σ : m_S} {v : Nat} (s : Int) : x_Q v σ (32 * s) = 1 := by
  unfold x_Q
  have : (32 * s % 32).toNat = 0 := by omega
  rw [this]
  rfl
theorem x_Q_at {σ : m_S} {v : Nat} {s t : Int} (h0 : 0 ≤ t) (h1 : t < 32) : x_Q v σ (t + 32 * s) = 1 ↔ ∀ u : Nat, (u : Int) < t → x_ok σ v (60 * s.toNat + 2 * u) = true := by
  unfold x_Q
  have e1 : ((t + 32 * s) % 32).toNat = t.toNat := by omega
  have e2 : (t + 32 * s) / 32 = s := by omega
  rw [e1, e2]
  constructor
  · intro h u hu
    split at h
    · rename_i hh
      exact List.all_eq_true.mp hh u (List.mem_range.mpr (by omega))
    · cases h
  · intro h
    rw [if_pos]
    exact List.all_eq_true.mpr fun u hu => h u (by have := List.mem_range.mp hu; omega)
theorem x_R_at {σ : m_S} {v l : Nat} {e s : Int} : x_R v l e σ s = 1 ↔ ∀ t : Nat, t < 30 → 2 * (t : Int) + 1 - e < x_iv (b_rd σ l s.toNat) → x_ok σ v (60 * s.toNat + 2 * t) = true := by
  unfold x_R
  constructor
  · intro h t ht hl
    split at h
    · rename_i hh
      have := List.all_eq_true.mp hh t (List.mem_range.mpr ht)
      rw [Bool.or_eq_true] at this
      rcases this with h | h
      · have := of_decide_eq_true h
        omega
      · exact h
    · cases h
  · intro h
    rw [if_pos]
    refine List.all_eq_true.mpr fun t ht => ?_
    rw [Bool.or_eq_true]
    by_cases hl : x_iv (b_rd σ l s.toNat) ≤ 2 * (t : Int) + 1 - e
    · left; simpa using hl
    · right; exact h t (List.mem_range.mp ht) (by omega)

/-! THE TYPED HEAP: for each cell its kind, its length, and by residue what its places may hold -/
abbrev b_T : Type := Nat × Int × Int × Nat
abbrev b_C : Type := Nat × Nat × Nat × Nat × List b_T
abbrev b_M : Type := List (Nat × b_L × b_V)
/-- the value at a place, of a field or of an element -/
def b_rd (σ : m_S) (k i : Nat) : Option Value := match σ[k]? with
  | some (.inr (_, fs)) => fs[i]?
  | some (.inl (_, .inl xs)) => (xs[i]?).map Value.int
  | some (.inl (_, .inr (.inl xs))) => (xs[i]?).map Value.long
  | some (.inl (_, .inr (.inr xs))) => (xs[i]?).map va_rf
  | none => none
def b_gt (t : b_T) (w : Value) : Prop := match t.1, w with
  | 0, .int z => b_gB t.2 z.toInt
  | 1, .long z => b_gB t.2 z.toInt
  | 2, .ref k => t.2.1 = (k : Int) ∧ k < 139
  | _, _ => False
/-- the cell's kind and length: c = (0 an object | 1 a row, class or kind, length, modulus, types) -/
def b_sh (c : b_C) (z : m_E) : Prop := match z with
  | .inr (a, fs) => c.1 = 0 ∧ c.2.1 = a ∧ fs.length = c.2.2.1
  | .inl (t, .inl xs) => c.1 = 1 ∧ c.2.1 = t ∧ t < 3 ∧ xs.length = c.2.2.1
  | .inl (t, .inr (.inl xs)) => c.1 = 1 ∧ c.2.1 = t ∧ t = 3 ∧ xs.length = c.2.2.1
  | .inl (t, .inr (.inr xs)) => c.1 = 1 ∧ c.2.1 = t ∧ t = 4 ∧ xs.length = c.2.2.1
def b_gE (c : b_C) (σ : m_S) (k : Nat) : Prop := ∃ z, σ[k]? = some z ∧ b_sh c z ∧ 0 < c.2.2.2.1 ∧ ∀ i, i < c.2.2.1 → ∃ t w, c.2.2.2.2[i % c.2.2.2.1]? = some t ∧ b_rd σ k i = some w ∧ b_gt t w
def b_gH (T : Nat → Option b_C) (σ : m_S) : Prop := σ.length = 139 ∧ ∀ k, k < 139 → ∃ c, T k = some c ∧ b_gE c σ k
/-- ghosts: numbers that are told of the cells 'dep' alone -/
abbrev b_G : Type := Nat → m_S → Int → Int
def b_frame (Wr : Nat → Nat → Bool) (σ σ' : m_S) : Prop := ∀ k i, Wr k i = false → b_rd σ' k i = b_rd σ k i
def b_gM1 (G : b_G) (fz : List (List Int32)) (n : Nat) (ρ : Nat → Int) (σ : m_S) (q : Nat × b_L × b_V) : Prop :=
  ∃ a, b_gx n ρ q.2.1 a ∧ (if q.1 < 139 then ∃ i : Nat, a = (i : Int) ∧ ∃ w, b_rd σ q.1 i = some w ∧ b_gv n ρ q.2.2 w
    else if q.1 < m_fzb then q.2.2.1 = 0 ∧ b_gx n ρ q.2.2.2 (G q.1 σ a)
    else ∃ i : Nat, a = (i : Int) ∧ ∃ zs z, fz[q.1 - m_fzb]? = some zs ∧ zs[i]? = some z ∧ b_gv n ρ q.2.2 (.int z))
def b_gM (G : b_G) (fz : List (List Int32)) (n : Nat) (ρ : Nat → Int) (σ : m_S) (M : b_M) : Prop := ∀ q ∈ M, b_gM1 G fz n ρ σ q
def b_look (cell : Nat) (x : b_L) : b_M → Option b_V
  | [] => none
  | q :: r => bif Nat.beq q.1 cell && decide (q.2.1 = x) then some q.2.2 else b_look cell x r
def b_res (m : Nat) (x : b_L) : Option Nat := bif x.2.all (fun q => decide (q.2 % (m : Int) = 0)) then some ((x.1 % (m : Int)).toNat) else none
/-- the type of a place; of several residues the hull -/
def b_hull : List b_T → Option b_T
  | [] => none
  | [t] => bif Nat.beq t.1 2 then none else some t
  | t :: r => match b_hull r with
    | some u => bif Nat.beq t.1 u.1 && !(Nat.beq t.1 2) then some (t.1, min t.2.1 u.2.1, max t.2.2.1 u.2.2.1, 0) else none
    | none => none
def b_tyat (c : b_C) (x : b_L) : Option b_T := match c.2.2.2.2 with
  | [t] => some t
  | l => match b_res c.2.2.2.1 x with
    | some r => l[r]?
    | none => b_hull l
section B63
variable {ρ ρ' : Nat → Int} {W W' : b_NF} {G : b_G} {fz : List (List Int32)} {σ σ' : m_S} {M : b_M} {n : Nat}
theorem b_gM1.up {q : Nat × b_L × b_V} (he : b_ext W ρ W' ρ') (h : b_gM1 G fz W.1.1 ρ σ q) : b_gM1 G fz W'.1.1 ρ' σ q := by
  obtain ⟨a, h1, h2⟩ := h
  refine ⟨a, h1.up he, ?_⟩
  by_cases c1 : q.1 < 139
  · rw [if_pos c1] at h2 ⊢
    obtain ⟨i, e, w, h3, h4⟩ := h2
    exact ⟨i, e, w, h3, h4.up he⟩
  · rw [if_neg c1] at h2 ⊢
    by_cases c2 : q.1 < m_fzb
    · rw [if_pos c2] at h2 ⊢
      exact ⟨h2.1, h2.2.up he⟩
    · rw [if_neg c2] at h2 ⊢
      obtain ⟨i, e, zs, z, h3, h4, h5⟩ := h2
      exact ⟨i, e, zs, z, h3, h4, h5.up he⟩
theorem b_gM.up (he : b_ext W ρ W' ρ') (h : b_gM G fz W.1.1 ρ σ M) : b_gM G fz W'.1.1 ρ' σ M := fun q hq => (h q hq).up he
theorem b_look_mem {cell : Nat} {x : b_L} {v : b_V} : ∀ {M : b_M}, b_look cell x M = some v → (cell, x, v) ∈ M
  | [], h => by cases h
  | q :: r, h => by
    unfold b_look at h
    cases h1 : Nat.beq q.1 cell && decide (q.2.1 = x) with
    | true =>
      rw [h1] at h
      simp only [cond_true, Option.some.injEq] at h
      simp only [Bool.and_eq_true, decide_eq_true_eq] at h1
      obtain ⟨a, b, c⟩ := q
      have e := Nat.eq_of_beq_eq_true h1.1
      dsimp only at e h h1
      subst e
      rw [← h1.2, ← h]
      exact List.mem_cons_self
    | false =>
      rw [h1] at h
      exact List.mem_cons_of_mem _ (b_look_mem h)
theorem b_res_ok {m : Nat} {x : b_L} {r i : Nat} (hm : 0 < m) (hx : b_ev ρ x = (i : Int)) (h : b_res m x = some r) : r = i % m := by
  unfold b_res at h
  cases h1 : x.2.all (fun q => decide (q.2 % (m : Int) = 0)) with
  | true =>
    rw [h1] at h
    simp only [cond_true, Option.some.injEq] at h
    have h2 : ∀ l : List (Nat × Int), (∀ q ∈ l, q.2 % (m : Int) = 0) → b_evs ρ l % (m : Int) = 0 := by
      intro l
      induction l with
      | nil => intro _; rfl
      | cons q l ih =>
        intro h
        simp only [b_evs]
        rw [Int.add_emod, Int.mul_emod, h q List.mem_cons_self, ih (fun p hp => h p (List.mem_cons_of_mem _ hp))]
        simp
    have h3 := h2 x.2 (fun q hq => of_decide_eq_true (List.all_eq_true.mp h1 q hq))
    have h4 : (i : Int) % (m : Int) = x.1 % (m : Int) := by
      rw [← hx]
      unfold b_ev
      rw [Int.add_emod, h3]
      simp
    rw [← h, ← h4]
    omega
  | false => rw [h1] at h; cases h
theorem b_hull_ok : ∀ {l : List b_T} {u t : b_T} {w : Value}, b_hull l = some u → t ∈ l → b_gt t w → b_gt u w
  | [], _, _, _, h, _, _ => by cases h
  | [t], u, t', w, h, ht, hw => by
    unfold b_hull at h
    rcases List.mem_singleton.mp ht with rfl
    cases h1 : Nat.beq t'.1 2 with
    | true => rw [h1] at h; cases h
    | false => rw [h1] at h; cases h; exact hw
  | t :: t2 :: r, u, t', w, h, ht, hw => by
    unfold b_hull at h
    split at h
    · rename_i v hv
      cases h1 : Nat.beq t.1 v.1 && !(Nat.beq t.1 2) with
      | true =>
        rw [h1] at h
        simp only [cond_true, Option.some.injEq] at h
        simp only [Bool.and_eq_true, Bool.not_eq_true'] at h1
        have e := Nat.eq_of_beq_eq_true h1.1
        have e2 : t.1 ≠ 2 := fun h9 => by rw [h9] at h1; simp at h1
        subst h
        rcases List.mem_cons.mp ht with rfl | ht
        · obtain ⟨a, lo, hi, mk⟩ := t'
          unfold b_gt at hw ⊢
          dsimp only at hw e e2 ⊢
          split at hw
          · exact ⟨by have := hw.1; dsimp only at this ⊢; omega, by have := hw.2.1; dsimp only at this ⊢; omega, b_mk0 _⟩
          · exact ⟨by have := hw.1; dsimp only at this ⊢; omega, by have := hw.2.1; dsimp only at this ⊢; omega, b_mk0 _⟩
          · exact absurd rfl e2
          · exact hw.elim
        · have h2 := b_hull_ok hv ht hw
          obtain ⟨a, lo, hi, mk⟩ := v
          unfold b_gt at h2 ⊢
          dsimp only at h2 e ⊢
          rw [e]
          split at h2
          · exact ⟨by have := h2.1; dsimp only at this ⊢; omega, by have := h2.2.1; dsimp only at this ⊢; omega, b_mk0 _⟩
          · exact ⟨by have := h2.1; dsimp only at this ⊢; omega, by have := h2.2.1; dsimp only at this ⊢; omega, b_mk0 _⟩
          · rename_i e3; exact absurd e e2
          · exact h2.elim
      | false => rw [h1] at h; cases h
    · cases h
theorem b_tyat_ok {c : b_C} {k i : Nat} {x : b_L} {t : b_T} (hc : b_gE c σ k) (hi : i < c.2.2.1) (hx : b_ev ρ x = (i : Int)) (h : b_tyat c x = some t) : ∃ w, b_rd σ k i = some w ∧ b_gt t w := by
  obtain ⟨z, h1, h2, h3, h4⟩ := hc
  obtain ⟨u, w, g1, g2, g3⟩ := h4 i hi
  refine ⟨w, g2, ?_⟩
  unfold b_tyat at h
  split at h
  · rename_i t' e
    cases h
    rw [e] at g1
    have : u = t := by
      have h5 := List.mem_of_getElem? g1
      exact List.mem_singleton.mp h5
    rw [← this]; exact g3
  · split at h
    · rename_i r hr
      rw [b_res_ok h3 hx hr] at h
      rw [h] at g1
      cases g1
      exact g3
    · exact b_hull_ok h (List.mem_of_getElem? g1) g3
end B63

/-! ONE STEP INSIDE A FRAME -/
abbrev b_Lv : Type := List (Nat × b_V)
abbrev b_R : Type := b_NF × b_M × Nat × b_Lv × List b_V
def b_ld (lv : b_Lv) (i : Nat) : Option b_V := match lv with
  | [] => none
  | q :: r => bif Nat.beq q.1 i then some q.2 else b_ld r i
def b_cat (v : b_V) : Nat := bif Nat.beq v.1 1 then 2 else 1
def b_cats (r : List b_V) : Nat := match r with
  | [] => 0
  | v :: t => b_cat v + b_cats t
def b_knd (v : b_V) : Int := match v.1 with
  | 0 => 0
  | 1 => 1
  | 2 => 2
  | 6 => 0
  | _ => 3
def b_c2 (lv : b_Lv) (i : Nat) : Bool := match b_ld lv i with
  | some v => Nat.beq v.1 1
  | none => true
/-- local i becomes v (of one place) -/
def b_st1 (lv : b_Lv) (i : Nat) (v : b_V) : b_Lv := (i, v) :: lv.filter fun q => !(Nat.beq q.1 i) && !(Nat.beq (q.1 + 1) i && b_c2 lv q.1)
def b_st2 (lv : b_Lv) (i : Nat) (v : b_V) : b_Lv := (i, v) :: lv.filter fun q => !(Nat.beq q.1 i) && (!(Nat.beq q.1 (i + 1)) && !(Nat.beq (q.1 + 1) i && b_c2 lv q.1))
def b_gl (n : Nat) (ρ : Nat → Int) (lv : b_Lv) (cl : m_V) : Prop := ∀ i v, b_ld lv i = some v → ∃ w, m_ld cl i = some w ∧ b_gv n ρ v w
/-- a frame's locals and stack -/
def b_gf (n : Nat) (ρ : Nat → Int) (lv : b_Lv) (st : List b_V) (cl : m_V) (cs : List Value) : Prop := b_gl n ρ lv cl ∧ a_all2 (b_gv n ρ) st cs ∧ m_okl 139 cl = true ∧ cs.all (m_okv 139) = true
def b_gA (T : Nat → Option b_C) (G : b_G) (fz : List (List Int32)) (W : b_NF) (M : b_M) (ρ : Nat → Int) (σ : m_S) : Prop := b_gW W ρ ∧ b_gH T σ ∧ b_gM G fz W.1.1 ρ σ M
section B66
variable {ρ ρ' : Nat → Int} {W W' : b_NF} {n : Nat} {v : b_V} {w : Value}
theorem b_gv_cat (h : b_gv n ρ v w) : b_cat v = w.category := by
  obtain ⟨t, x⟩ := v
  unfold b_gv at h
  split at h <;> first | exact h.elim | (rename_i e; dsimp only at e; subst e; rfl)
theorem b_cats_ok {n : Nat} : ∀ {r : List b_V} {t : List Value}, a_all2 (b_gv n ρ) r t → b_cats r = (t.map fun v => v.category).sum
  | [], [], _ => rfl
  | v :: r, w :: t, h => by
    simp only [b_cats, List.map_cons, List.sum_cons, b_gv_cat h.1, b_cats_ok h.2]
theorem b_gv_knd (h : b_gv n ρ v w) : b_knd v = m_k w := by
  obtain ⟨t, x⟩ := v
  unfold b_gv at h
  split at h <;> first | exact h.elim | (rename_i e; dsimp only at e; subst e; rfl)
theorem b_gl.up {lv : b_Lv} {cl : m_V} (he : b_ext W ρ W' ρ') (h : b_gl W.1.1 ρ lv cl) : b_gl W'.1.1 ρ' lv cl := fun i v hv => by
  obtain ⟨w, h1, h2⟩ := h i v hv
  exact ⟨w, h1, h2.up he⟩
theorem b_all2.up {st : List b_V} {cs : List Value} (he : b_ext W ρ W' ρ') (h : a_all2 (b_gv W.1.1 ρ) st cs) : a_all2 (b_gv W'.1.1 ρ') st cs := h.imp fun _ _ h => h.up he
theorem b_gf.up {lv : b_Lv} {st : List b_V} {cl : m_V} {cs : List Value} (he : b_ext W ρ W' ρ') (h : b_gf W.1.1 ρ lv st cl cs) : b_gf W'.1.1 ρ' lv st cl cs := ⟨h.1.up he, b_all2.up he h.2.1, h.2.2⟩
theorem b_ld_filter {f : Nat × b_V → Bool} {i : Nat} {v : b_V} : ∀ {lv : b_Lv}, (∀ q, q.1 = i → f q = true) → b_ld (lv.filter f) i = some v → b_ld lv i = some v
  | [], _, h => h
  | q :: r, hf, h => by
    rw [List.filter_cons] at h
    unfold b_ld
    cases e : Nat.beq q.1 i with
    | true =>
      have e1 := Nat.eq_of_beq_eq_true e
      rw [if_pos (hf q e1)] at h
      unfold b_ld at h
      rw [e] at h
      exact h
    | false =>
      simp only [cond_false]
      split at h
      · unfold b_ld at h
        rw [e] at h
        exact b_ld_filter hf h
      · exact b_ld_filter hf h
theorem b_ld_gone {f : Nat × b_V → Bool} {i : Nat} : ∀ {lv : b_Lv}, (∀ q, q.1 = i → f q = false) → b_ld (lv.filter f) i = none
  | [], _ => rfl
  | q :: r, hf => by
    rw [List.filter_cons]
    split
    · rename_i h
      unfold b_ld
      cases e : Nat.beq q.1 i with
      | true => rw [hf q (Nat.eq_of_beq_eq_true e)] at h; cases h
      | false => exact b_ld_gone hf
    · exact b_ld_gone hf
theorem m_ld_filter {f : Nat × Value → Bool} {i : Nat} {w : Value} : ∀ {lv : m_V}, m_ld lv i = some w → f (i, w) = true → m_ld (lv.filter f) i = some w
  | [], h, _ => h
  | q :: r, h, hf => by
    unfold m_ld at h ⊢
    rw [List.find?_cons] at h
    rw [List.filter_cons]
    cases e : (q.1 == i) with
    | true =>
      rw [e] at h
      simp only [Option.map_some, Option.some.injEq] at h
      have e1 : q.1 = i := by simpa using e
      have e2 : q = (i, w) := by rw [← e1, ← h]
      rw [e2, if_pos hf, List.find?_cons]
      simp
    | false =>
      rw [e] at h
      have h2 := m_ld_filter (lv := r) h hf
      split
      · rw [List.find?_cons, e]; exact h2
      · exact h2
theorem m_ld_cons (lv : m_V) (i j : Nat) (w : Value) : m_ld ((i, w) :: lv) j = if i = j then some w else m_ld lv j := by
  unfold m_ld
  rw [List.find?_cons]
  by_cases e : i = j
  · subst e; simp
  · rw [if_neg e]
    have : (i == j) = false := by simpa using e
    rw [this]
theorem m_okl_filter {f : Nat × Value → Bool} {lv : m_V} {k : Nat} (h : m_okl k lv = true) : m_okl k (lv.filter f) = true := by
  unfold m_okl at h ⊢
  rw [List.all_eq_true] at h ⊢
  exact fun q hq => h q (List.mem_filter.mp hq).1
theorem b_st1_ok {lv : b_Lv} {cl : m_V} (i : Nat) (hl : b_gl n ρ lv cl) (hv : b_gv n ρ v w) : b_gl n ρ (b_st1 lv i v) (m_st1 cl i w) := by
  intro j u hu
  unfold b_st1 at hu
  unfold m_st1
  rw [m_ld_cons]
  unfold b_ld at hu
  dsimp only at hu
  cases e : Nat.beq i j with
  | true =>
    rw [e] at hu
    cases hu
    rw [if_pos (Nat.eq_of_beq_eq_true e)]
    exact ⟨w, rfl, hv⟩
  | false =>
    rw [e] at hu
    simp only [cond_false] at hu
    have hne : i ≠ j := fun h9 => by rw [h9] at e; simp at e
    rw [if_neg hne]
    cases e2 : Nat.beq (j + 1) i && b_c2 lv j with
    | true =>
      rw [b_ld_gone (fun q hq => by rw [hq, e2]; simp)] at hu
      cases hu
    | false =>
      have h1 := b_ld_filter (fun q hq => by
        rw [hq, e2]
        have : Nat.beq j i = false := by
          cases h9 : Nat.beq j i with
          | true => exact absurd (Nat.eq_of_beq_eq_true h9).symm hne
          | false => rfl
        rw [this]; rfl) hu
      obtain ⟨w', h2, h3⟩ := hl j u h1
      refine ⟨w', m_ld_filter h2 ?_, h3⟩
      have h4 : (j == i) = false := by simpa using fun h9 => hne h9.symm
      have h5 := b_gv_cat h3
      dsimp only
      rw [h4]
      simp only [Bool.not_false, Bool.true_and, Bool.not_eq_true', Bool.and_eq_false_iff]
      by_cases h6 : j + 1 = i
      · right
        rw [← h5]
        rw [h6] at e2
        rw [show Nat.beq i i = true from Nat.beq_refl i, Bool.true_and] at e2
        unfold b_c2 at e2
        rw [h1] at e2
        dsimp only at e2
        unfold b_cat
        rw [e2]
        rfl
      · left; simpa using h6
theorem b_st2_ok {lv : b_Lv} {cl : m_V} (i : Nat) (hl : b_gl n ρ lv cl) (hv : b_gv n ρ v w) : b_gl n ρ (b_st2 lv i v) (m_st2 cl i w) := by
  intro j u hu
  unfold b_st2 at hu
  unfold m_st2
  rw [m_ld_cons]
  unfold b_ld at hu
  dsimp only at hu
  cases e : Nat.beq i j with
  | true =>
    rw [e] at hu
    cases hu
    rw [if_pos (Nat.eq_of_beq_eq_true e)]
    exact ⟨w, rfl, hv⟩
  | false =>
    rw [e] at hu
    simp only [cond_false] at hu
    have hne : i ≠ j := fun h9 => by rw [h9] at e; simp at e
    rw [if_neg hne]
    cases e3 : Nat.beq j (i + 1) with
    | true =>
      rw [b_ld_gone (fun q hq => by rw [hq, e3]; simp)] at hu
      cases hu
    | false =>
    cases e2 : Nat.beq (j + 1) i && b_c2 lv j with
    | true =>
      rw [b_ld_gone (fun q hq => by rw [hq, e2]; simp)] at hu
      cases hu
    | false =>
      have h1 := b_ld_filter (fun q hq => by
        rw [hq, e2, e3]
        have : Nat.beq j i = false := by
          cases h9 : Nat.beq j i with
          | true => exact absurd (Nat.eq_of_beq_eq_true h9).symm hne
          | false => rfl
        rw [this]; rfl) hu
      obtain ⟨w', h2, h3⟩ := hl j u h1
      refine ⟨w', m_ld_filter h2 ?_, h3⟩
      have h4 : (j == i) = false := by simpa using fun h9 => hne h9.symm
      have h7 : (j == i + 1) = false := by
        have : j ≠ i + 1 := fun h9 => by rw [h9] at e3; simp at e3
        simpa using this
      have h5 := b_gv_cat h3
      dsimp only
      rw [h4, h7]
      simp only [Bool.not_false, Bool.true_and, Bool.not_eq_true', Bool.and_eq_false_iff]
      by_cases h6 : j + 1 = i
      · right
        rw [← h5]
        rw [h6] at e2
        rw [show Nat.beq i i = true from Nat.beq_refl i, Bool.true_and] at e2
        unfold b_c2 at e2
        rw [h1] at e2
        dsimp only at e2
        unfold b_cat
        rw [e2]
        rfl
      · left; simpa using h6
theorem b_ok1 {cl : m_V} {i k : Nat} {w : Value} (h : m_okl k cl = true) (hw : m_okv k w = true) : m_okl k (m_st1 cl i w) = true := by
  unfold m_st1
  have := m_okl_filter (f := fun q => !(q.1 == i) && !(q.1 + 1 == i && q.2.category == 2)) h
  unfold m_okl at this ⊢
  rw [List.all_cons, this, hw]
  rfl
theorem b_ok2 {cl : m_V} {i k : Nat} {w : Value} (h : m_okl k cl = true) (hw : m_okv k w = true) : m_okl k (m_st2 cl i w) = true := by
  unfold m_st2
  have := m_okl_filter (f := fun q => !(q.1 == i) && (!(q.1 == i + 1) && !(q.1 + 1 == i && q.2.category == 2))) h
  unfold m_okl at this ⊢
  rw [List.all_cons, this, hw]
  rfl
theorem b_okld {cl : m_V} {i k : Nat} {w : Value} (h : m_okl k cl = true) (hw : m_ld cl i = some w) : m_okv k w = true := by
  unfold m_ld at hw
  obtain ⟨q, h1, h2⟩ := Option.map_eq_some_iff.mp hw
  subst h2
  exact List.all_eq_true.mp h q (List.mem_of_find?_eq_some h1)
end B66

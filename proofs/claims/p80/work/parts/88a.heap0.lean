/-! FROM BOUNDS TO THE TYPED HEAP: the state behind the two constructors -/
def x_wv (t : b_T) (v : a_V) : Bool := bif Nat.beq t.1 2 then Nat.beq v.1 2 && (decide (v.2.1 = t.2.1) && (decide (0 ≤ v.2.1) && decide (v.2.1 < 139))) else (Nat.beq v.1 t.1 && Nat.ble t.1 1) && (decide (t.2.1 ≤ v.2.1) && (decide (v.2.2 ≤ t.2.2.1) && (Nat.beq t.2.2.2 0 || (decide (v.2.1 = v.2.2) && (decide (-1 ≤ v.2.1) && Nat.testBit t.2.2.2 (v.2.1 + 1).toNat)))))
def x_wl (c : b_C) (vs : List a_V) : Bool := Nat.beq c.2.2.1 vs.length && (Nat.blt 0 c.2.2.2.1 && (List.range vs.length).all (fun i => match c.2.2.2.2[i % c.2.2.2.1]?, vs[i]? with
  | some t, some v => x_wv t v
  | _, _ => false))
def x_wu (c : b_C) (u : a_V) : Bool := (List.range c.2.2.2.1).all (fun i => match c.2.2.2.2[i]? with
  | some ty => x_wv ty u
  | none => false)
def x_w2 (c : b_C) (x : a_E) : Bool := match x with
  | .inr (ci, fs) => Nat.beq c.1 0 && (Nat.beq c.2.1 ci && x_wl c fs)
  | .inl (t, n, .inl u) => Nat.beq c.1 1 && (Nat.beq c.2.1 t && (Nat.beq c.2.2.1 n && (Nat.blt 0 c.2.2.2.1 && x_wu c u)))
  | .inl (t, n, .inr vs) => Nat.beq c.1 1 && (Nat.beq c.2.1 t && (Nat.beq vs.length n && x_wl c vs))
section X88a
variable {ρ : Nat → Int} {σ : m_S} {k : Nat}
theorem x_wv_ok {t : b_T} {v : a_V} {w : Value} (h : x_wv t v = true) (hv : a_gv ρ v w) : b_gt t w := by
  obtain ⟨t1, lo, hi, mk⟩ := t
  obtain ⟨v1, a, b⟩ := v
  unfold x_wv at h
  dsimp only at h
  cases e : Nat.beq t1 2 with
  | true =>
    rw [e] at h
    simp only [cond_true, Bool.and_eq_true, decide_eq_true_eq] at h
    obtain ⟨h1, h2, h3, h4⟩ := h
    have e1 := Nat.eq_of_beq_eq_true e
    have e2 := Nat.eq_of_beq_eq_true h1
    subst e1
    subst e2
    cases w with
    | ref j =>
      have hv : a = (j : Int) := hv
      have h9 : (j : Int) < ((139 : Nat) : Int) := by omega
      exact ⟨h2.symm.trans hv, Int.ofNat_lt.mp h9⟩
    | _ => exact hv.elim
  | false =>
    rw [e] at h
    simp only [cond_false, Bool.and_eq_true, decide_eq_true_eq, Bool.or_eq_true] at h
    obtain ⟨⟨h1, h2⟩, h3, h4, h5⟩ := h
    have e1 := Nat.eq_of_beq_eq_true h1
    subst e1
    have e2 : v1 ≤ 1 := Nat.le_of_ble_eq_true h2
    have hm : ∀ x : Int, a ≤ x → x ≤ b → b_mk mk x := by
      intro x g1 g2 hne
      rcases h5 with h5 | ⟨q1, q2, q3⟩
      · exact absurd (Nat.eq_of_beq_eq_true h5) hne
      · refine ⟨(a + 1).toNat, q3, ?_⟩
        omega
    match v1, e2, hv with
    | 0, _, hv =>
      cases w with
      | int z =>
        have hv : a ≤ z.toInt ∧ z.toInt ≤ b := hv
        exact ⟨by show lo ≤ z.toInt; omega, by show z.toInt ≤ hi; omega, hm _ hv.1 hv.2⟩
      | _ => exact hv.elim
    | 1, _, hv =>
      cases w with
      | long z =>
        have hv : a ≤ z.toInt ∧ z.toInt ≤ b := hv
        exact ⟨by show lo ≤ z.toInt; omega, by show z.toInt ≤ hi; omega, hm _ hv.1 hv.2⟩
      | _ => exact hv.elim
theorem x_wl_ok {c : b_C} {vs : List a_V} {ws : List Value} (h : x_wl c vs = true) (hv : a_all2 (a_gv ρ) vs ws) : ws.length = c.2.2.1 ∧ 0 < c.2.2.2.1 ∧ ∀ i, i < c.2.2.1 → ∃ t w, c.2.2.2.2[i % c.2.2.2.1]? = some t ∧ ws[i]? = some w ∧ b_gt t w := by
  unfold x_wl at h
  simp only [Bool.and_eq_true] at h
  obtain ⟨h1, h2, h3⟩ := h
  have e1 := Nat.eq_of_beq_eq_true h1
  have e2 := hv.len
  refine ⟨by omega, Nat.blt_eq.mp h2, fun i hi => ?_⟩
  have h4 := List.all_eq_true.mp h3 i (List.mem_range.mpr (by omega))
  split at h4
  · rename_i t v q1 q2
    obtain ⟨w, q3, q4⟩ := hv.get q2
    exact ⟨t, w, q1, q3, x_wv_ok h4 q4⟩
  · cases h4
theorem x_wu_ok {c : b_C} {u : a_V} (hm : 0 < c.2.2.2.1) (h : x_wu c u = true) (i : Nat) : ∃ t, c.2.2.2.2[i % c.2.2.2.1]? = some t ∧ ∀ w, a_gv ρ u w → b_gt t w := by
  unfold x_wu at h
  have h4 := List.all_eq_true.mp h (i % c.2.2.2.1) (List.mem_range.mpr (Nat.mod_lt _ hm))
  split at h4
  · rename_i t q1
    exact ⟨t, q1, fun w hw => x_wv_ok h4 hw⟩
  · cases h4
theorem x_w2_ok {c : b_C} {x : a_E} {z : m_E} (hz : σ[k]? = some z) (hg : a_ge ρ x z) (h : x_w2 c x = true) : b_gE c σ k := by
  unfold x_w2 at h
  split at h
  · rename_i ci fs
    simp only [Bool.and_eq_true] at h
    obtain ⟨h1, h2, h3⟩ := h
    rcases z with ⟨t', xs | xs | xs⟩ | ⟨ci', gs⟩
    · exact hg.elim
    · exact hg.elim
    · exact hg.elim
    · obtain ⟨rfl, g2⟩ := hg
      obtain ⟨k1, k2, k3⟩ := x_wl_ok h3 g2
      refine ⟨_, hz, ⟨Nat.eq_of_beq_eq_true h1, Nat.eq_of_beq_eq_true h2, k1⟩, k2, fun i hi => ?_⟩
      obtain ⟨t, w, q1, q2, q3⟩ := k3 i hi
      refine ⟨t, w, q1, ?_, q3⟩
      unfold b_rd
      rw [hz]
      exact q2
  · rename_i t n u
    simp only [Bool.and_eq_true] at h
    obtain ⟨h1, h2, h3, h4, h5⟩ := h
    have h3 := Nat.eq_of_beq_eq_true h3
    have h4 : 0 < c.2.2.2.1 := Nat.blt_eq.mp h4
    rcases z with ⟨t', xs | xs | xs⟩ | ⟨ci', gs⟩
    · obtain ⟨rfl, g1, g2, g3⟩ := hg
      refine ⟨_, hz, ⟨Nat.eq_of_beq_eq_true h1, Nat.eq_of_beq_eq_true h2, g1, by omega⟩, h4, fun i hi => ?_⟩
      obtain ⟨ty, q1, q2⟩ := x_wu_ok (ρ := ρ) h4 h5 i
      have hl : i < xs.length := by omega
      refine ⟨ty, .int xs[i], q1, ?_, q2 _ (g3 _ (List.getElem_mem hl))⟩
      unfold b_rd
      rw [hz]
      simp [List.getElem?_eq_getElem hl]
    · obtain ⟨rfl, g1, g2, g3⟩ := hg
      refine ⟨_, hz, ⟨Nat.eq_of_beq_eq_true h1, Nat.eq_of_beq_eq_true h2, g1, by omega⟩, h4, fun i hi => ?_⟩
      obtain ⟨ty, q1, q2⟩ := x_wu_ok (ρ := ρ) h4 h5 i
      have hl : i < xs.length := by omega
      refine ⟨ty, .long xs[i], q1, ?_, q2 _ (g3 _ (List.getElem_mem hl))⟩
      unfold b_rd
      rw [hz]
      simp [List.getElem?_eq_getElem hl]
    · exact hg.elim
    · exact hg.elim
  · rename_i t n vs
    simp only [Bool.and_eq_true] at h
    obtain ⟨h1, h2, h3, h4⟩ := h
    rcases z with ⟨t', xs | xs | xs⟩ | ⟨ci', gs⟩
    · obtain ⟨rfl, g1, g2, g3⟩ := hg
      obtain ⟨k1, k2, k3⟩ := x_wl_ok h4 g3
      rw [List.length_map] at k1
      refine ⟨_, hz, ⟨Nat.eq_of_beq_eq_true h1, Nat.eq_of_beq_eq_true h2, g1, k1⟩, k2, fun i hi => ?_⟩
      obtain ⟨ty, w, q1, q2, q3⟩ := k3 i hi
      refine ⟨ty, w, q1, ?_, q3⟩
      unfold b_rd
      rw [hz]
      rw [List.getElem?_map] at q2
      exact q2
    · obtain ⟨rfl, g1, g2, g3⟩ := hg
      obtain ⟨k1, k2, k3⟩ := x_wl_ok h4 g3
      rw [List.length_map] at k1
      refine ⟨_, hz, ⟨Nat.eq_of_beq_eq_true h1, Nat.eq_of_beq_eq_true h2, g1, k1⟩, k2, fun i hi => ?_⟩
      obtain ⟨ty, w, q1, q2, q3⟩ := k3 i hi
      refine ⟨ty, w, q1, ?_, q3⟩
      unfold b_rd
      rw [hz]
      rw [List.getElem?_map] at q2
      exact q2
    · obtain ⟨rfl, g1, g2, g3⟩ := hg
      obtain ⟨k1, k2, k3⟩ := x_wl_ok h4 g3
      rw [List.length_map] at k1
      refine ⟨_, hz, ⟨Nat.eq_of_beq_eq_true h1, Nat.eq_of_beq_eq_true h2, g1, k1⟩, k2, fun i hi => ?_⟩
      obtain ⟨ty, w, q1, q2, q3⟩ := k3 i hi
      refine ⟨ty, w, q1, ?_, q3⟩
      unfold b_rd
      rw [hz]
      rw [List.getElem?_map] at q2
      exact q2
    · exact hg.elim
end X88a
/-! cuts of a method, from which all goes well (as in b_valid) -/
section X88b
variable {F : Nat → Nat → Option (m_I × Nat)} {T : Nat → Option b_C} {Z : Nat → Option (List Int32)} {G : b_G} {fz : List (List Int32)} {dep : Nat → Nat → Bool} {hn : b_Hn} {Γ : List b_K} {cuts : List b_Cu} {Fin : Option Value → m_S → Prop} {gs : List m_Fr}
theorem b_cuts {c : b_K} {n : Nat} {ρ : Nat → Int} {σ : m_S} (hG : b_GOk G dep) (hD : b_DepOk dep) (hZ : b_ZOk Z G fz) (hHn : b_HnOk T G fz hn) (hΓ : ∀ k ∈ Γ, b_Valid F fz T G k) (h0 : b_chk0 T c cuts = true) (hC : ∀ C ∈ cuts, ∃ D, (∀ E ∈ D, E ∈ cuts) ∧ b_chkC F T Z dep hn Γ c D n C = true) (hgs : gs.length + c.2.1 ≤ 60) (hPost : ∀ r σ', (∃ po ∈ c.2.2.2.2, b_out T G fz c.2.2.1.1.length ρ σ c.2.2.2.1 po r σ') → b_ret F fz Fin gs r σ') :
    ∀ m : Nat, ∀ C ∈ cuts, b_CutWin F fz T G c.2.2.2.1 Fin gs σ c.1 c.2.2.1.1.length ρ C (fun a => a.toNat < m) := by
  unfold b_chk0 at h0
  simp only [Bool.and_eq_true] at h0
  obtain ⟨z1, z2, z3⟩ := h0
  have hWr := b_rows0_ok z1
  intro m
  induction m with
  | zero => intro C hC2 ρ' σ' cl cs _ _ _ _ _ _ h9; exact absurd h9 (Nat.not_lt_zero _)
  | succ m ih =>
    intro C hC2 ρ' σ' cl cs a1 a2 a3 a4 a5 a6 a7
    have hz := List.all_eq_true.mp z3 C hC2
    simp only [Bool.and_eq_true] at hz
    obtain ⟨y1, y2, y3⟩ := hz
    have y2 := Nat.le_of_ble_eq_true y2
    have hPost2 : ∀ r σ'', (∃ po ∈ c.2.2.2.2, b_out T G fz c.2.2.1.1.length ρ' σ c.2.2.2.1 po r σ'') → b_ret F fz Fin gs r σ'' := by
      rintro r σ'' ⟨po, p1, ρ'', p2, p3⟩
      exact hPost r σ'' ⟨po, p1, ρ'', a1.tr p2 (Nat.le_refl _), p3⟩
    obtain ⟨D, hD1, hD2⟩ := hC C hC2
    have hgood := b_adv_ok (n1 := C.2.1.1.length) (ρ1 := ρ') (σ0 := σ) hG hD hWr hZ hHn hΓ hgs y2 hPost2 (b_walk_ok (cuts := D) (rk := some C.2.2) hG hD hWr hZ hHn hΓ hgs y2 hPost2 (fun r0 hr0 => by cases hr0; exact b_ul_ok y3) (fun C' hC' ρ2 σ2 cl2 cs2 b1 b2 b3 b4 b5 b6 b7 => by
      refine ih C' (hD1 C' hC') ρ2 σ2 cl2 cs2 (a1.tr b1 (Nat.le_refl _)) b2 b3 b4 b5 b6 ?_
      have := b7 C.2.2 rfl
      omega) n) hD2
    exact hgood ρ' σ' [(c.1, C.1, cl, cs)] (fun _ _ => rfl) (by simp [b_toN]) a2.1 a3 (by simpa [b_toN] using a2.2) ⟨⟨rfl, rfl, by simpa [b_toN] using a4⟩, trivial⟩ a5
end X88b

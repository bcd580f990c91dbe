/-! hints by a table: (kind, number, index): 0 a local is split, 1 a stack value, 2 a place of memory, 3 a local's greatest number aside (where it is below a power of two by one), 4 a local is split where another one (the index' number) is known -/
abbrev b_Ac : Type := Nat × Nat × b_L
noncomputable def b_spM (W : b_NF) (M : b_M) (v : b_V) : Option (List (b_NF × b_M)) := bif Nat.beq v.1 0 then (match b_split W v.2 with
  | some L => some (L.map fun U => (U, M))
  | none => none) else none
noncomputable def b_peel (W : b_NF) (M : b_M) (v : b_V) : Option (List (b_NF × b_M)) := match b_lo W.1 v.2, b_hi W.1 v.2 with
  | some a, some b => bif Nat.beq v.1 0 && (decide (a < b) && Nat.beq ((b + 1).toNat &&& b.toNat) 0) then some ((b_learn W 0 (b_adc v.2 (-b))).map (fun U => (U, M)) ++ (b_learn W 5 (b_adc v.2 (1 - b))).map (fun U => (U, M))) else none
  | _, _ => none
def b_known (W : b_NF) (v : b_V) : Bool := match b_lo W.1 v.2, b_hi W.1 v.2 with
  | some a, some b => decide (a = b)
  | _, _ => false
noncomputable def b_act (T : Nat → Option b_C) (W : b_NF) (M : b_M) (lv : b_Lv) (st : List b_V) (A : b_Ac) : Option (List (b_NF × b_M)) := match A.1 with
  | 0 => match b_ld lv A.2.1 with
    | some v => b_spM W M v
    | none => none
  | 1 => match st[A.2.1]? with
    | some v => b_spM W M v
    | none => none
  | 2 => bif Nat.blt A.2.1 139 && b_ul W.1.1 A.2.2 then (match b_get T W M A.2.1 A.2.2 with
    | some U => b_spM U.1 U.2.1 U.2.2
    | none => none) else none
  | 3 => match b_ld lv A.2.1 with
    | some v => b_peel W M v
    | none => none
  | 4 => match b_ld lv A.2.1, b_ld lv A.2.2.1.toNat with
    | some v, some u => bif b_known W u then b_spM W M v else none
    | _, _ => none
  | _ => none
noncomputable def b_acts (T : Nat → Option b_C) (W : b_NF) (M : b_M) (lv : b_Lv) (st : List b_V) : List b_Ac → Option (List (b_NF × b_M))
  | [] => none
  | A :: r => match b_act T W M lv st A with
    | some L => some L
    | none => b_acts T W M lv st r
section B79f
variable {T : Nat → Option b_C} {G : b_G} {fz : List (List Int32)} {ρ : Nat → Int} {W : b_NF} {M : b_M} {σ : m_S} {lv : b_Lv} {st : List b_V} {cl : m_V} {cs : List Value}
theorem b_spM_ok (hW : b_gW W ρ) (hM : b_gM G fz W.1.1 ρ σ M) {v : b_V} {w : Value} (hv : b_gv W.1.1 ρ v w) {L : List (b_NF × b_M)} (h : b_spM W M v = some L) : ∃ q ∈ L, ∃ ρ', b_ext W ρ q.1 ρ' ∧ b_gM G fz q.1.1.1 ρ' σ q.2 := by
  unfold b_spM at h
  cases e : Nat.beq v.1 0 with
  | true =>
    rw [e] at h
    simp only [cond_true] at h
    split at h
    · rename_i K hK
      cases h
      exact b_split_hn hW hM ⟨rfl, b_gv_u hv⟩ hK
    · cases h
  | false => rw [e] at h; cases h
theorem b_peel_ok (hW : b_gW W ρ) (hM : b_gM G fz W.1.1 ρ σ M) {v : b_V} {w : Value} (hv : b_gv W.1.1 ρ v w) {L : List (b_NF × b_M)} (h : b_peel W M v = some L) : ∃ q ∈ L, ∃ ρ', b_ext W ρ q.1 ρ' ∧ b_gM G fz q.1.1.1 ρ' σ q.2 := by
  unfold b_peel at h
  split at h
  · rename_i a b h1 h2
    have hx : b_gx W.1.1 ρ v.2 (b_ev ρ v.2) := ⟨rfl, b_gv_u hv⟩
    have g2 := b_hi_ok hW.1 h2
    cases e : Nat.beq v.1 0 && (decide (a < b) && Nat.beq ((b + 1).toNat &&& b.toNat) 0) with
    | true =>
      rw [e] at h
      cases h
      by_cases c : b_ev ρ v.2 = b
      · obtain ⟨U, k1, k2, k3⟩ := b_learn_ok hW (k := 0) (hx.adc (-b)) (by show b_ev ρ v.2 + -b = 0; omega)
        exact ⟨(U, M), List.mem_append_left _ (List.mem_map.mpr ⟨U, k1, rfl⟩), ρ, b_same k2 k3, hM.up (b_same k2 k3)⟩
      · obtain ⟨U, k1, k2, k3⟩ := b_learn_ok hW (k := 5) (hx.adc (1 - b)) (by show b_ev ρ v.2 + (1 - b) ≤ 0; omega)
        exact ⟨(U, M), List.mem_append_right _ (List.mem_map.mpr ⟨U, k1, rfl⟩), ρ, b_same k2 k3, hM.up (b_same k2 k3)⟩
    | false => rw [e] at h; cases h
  · cases h
theorem b_act_ok {A : b_Ac} (hW : b_gW W ρ) (hH : b_gH T σ) (hM : b_gM G fz W.1.1 ρ σ M) (hf : b_gf W.1.1 ρ lv st cl cs) {L : List (b_NF × b_M)} (h : b_act T W M lv st A = some L) : ∃ q ∈ L, ∃ ρ', b_ext W ρ q.1 ρ' ∧ b_gM G fz q.1.1.1 ρ' σ q.2 := by
  unfold b_act at h
  split at h
  · split at h
    · rename_i v hv
      obtain ⟨w, -, g2⟩ := hf.1 _ _ hv
      exact b_spM_ok hW hM g2 h
    · cases h
  · split at h
    · rename_i v hv
      obtain ⟨w, -, g2⟩ := hf.2.1.get hv
      exact b_spM_ok hW hM g2 h
    · cases h
  · cases e : Nat.blt A.2.1 139 && b_ul W.1.1 A.2.2 with
    | true =>
      rw [e] at h
      rw [Bool.and_eq_true] at e
      simp only [cond_true] at h
      split at h
      · rename_i U hU
        obtain ⟨U1, U2, U3⟩ := U
        obtain ⟨ρ', i, w, g1, g2, g3, g4, g5⟩ := b_get_ok hW hH hM (Nat.blt_eq.mp e.1) ⟨rfl, b_ul_ok e.2⟩ hU
        obtain ⟨q, q1, ρ2, q2, q3⟩ := b_spM_ok g1.2.2 g2 g5 h
        exact ⟨q, q1, ρ2, g1.tr q2, q3⟩
      · cases h
    | false => rw [e] at h; cases h
  · split at h
    · rename_i v hv
      obtain ⟨w, -, g2⟩ := hf.1 _ _ hv
      exact b_peel_ok hW hM g2 h
    · cases h
  · split at h
    · rename_i v u hv hu
      cases e : b_known W u with
      | true =>
        rw [e] at h
        obtain ⟨w, -, g2⟩ := hf.1 _ _ hv
        exact b_spM_ok hW hM g2 h
      | false => rw [e] at h; cases h
    · cases h
  · cases h
theorem b_acts_ok (hW : b_gW W ρ) (hH : b_gH T σ) (hM : b_gM G fz W.1.1 ρ σ M) (hf : b_gf W.1.1 ρ lv st cl cs) : ∀ {l : List b_Ac} {L : List (b_NF × b_M)}, b_acts T W M lv st l = some L → ∃ q ∈ L, ∃ ρ', b_ext W ρ q.1 ρ' ∧ b_gM G fz q.1.1.1 ρ' σ q.2
  | [], _, h => by cases h
  | A :: r, L, h => by
    unfold b_acts at h
    split at h
    · rename_i K hK
      cases h
      exact b_act_ok hW hH hM hf hK
    · exact b_acts_ok hW hH hM hf h
theorem b_hn_ok {tab : Nat → Nat → List b_Ac} : b_HnOk T G fz (fun mid pc W M lv st => b_acts T W M lv st (tab mid pc)) := by
  intro mid pc W M lv st L ρ σ cl cs h hW hH hM hf
  exact b_acts_ok hW hH hM hf h
end B79f

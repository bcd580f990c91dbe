/-! HINTS: a number is split into what it can be; ghosts are told of -/
/-- the values lo .. lo + k - 1 that the set lets stand, each in a state of its own -/
noncomputable def b_spl (W : b_NF) (x : b_L) (ms : Nat) (lo : Int) : Nat → List b_NF
  | 0 => []
  | k + 1 => b_spl W x ms lo k ++ (bif Nat.beq ms 0 || Nat.testBit ms (lo + (k : Int) + 1).toNat then b_learn W 0 (b_adc x (-(lo + (k : Int)))) else [])
/-- nothing to do where it is one number already -/
noncomputable def b_split (W : b_NF) (x : b_L) : Option (List b_NF) := match b_lo W.1 x, b_hi W.1 x with
  | some a, some b => bif decide (a = b) then none else bif decide (b - a ≤ 300) then some (b_spl W x (b_mset W.1 x) a (b - a + 1).toNat) else none
  | _, _ => none
section B79e
variable {T : Nat → Option b_C} {G : b_G} {fz : List (List Int32)} {ρ : Nat → Int} {W : b_NF} {M : b_M} {σ : m_S}
theorem b_spl_ok (hW : b_gW W ρ) {x : b_L} {a lo : Int} {ms : Nat} (hx : b_gx W.1.1 ρ x a) (hm : ms ≠ 0 → Nat.testBit ms (a + 1).toNat = true) : ∀ k : Nat, lo ≤ a → a < lo + k → ∃ U ∈ b_spl W x ms lo k, b_gW U ρ ∧ U.1.1 = W.1.1
  | 0, h1, h2 => by omega
  | k + 1, h1, h2 => by
    unfold b_spl
    by_cases c : a < lo + k
    · obtain ⟨U, g1, g2⟩ := b_spl_ok hW hx hm k h1 c
      exact ⟨U, List.mem_append_left _ g1, g2⟩
    · have e : a = lo + (k : Int) := by omega
      have hb : (Nat.beq ms 0 || Nat.testBit ms (lo + (k : Int) + 1).toNat) = true := by
        rw [Bool.or_eq_true]
        by_cases h0 : ms = 0
        · left; rw [h0]; rfl
        · right; rw [← e]; exact hm h0
      rw [hb]
      obtain ⟨U, g1, g2⟩ := b_learn_ok hW (k := 0) (hx.adc (-(lo + (k : Int)))) (by show a + -(lo + (k : Int)) = 0; omega)
      exact ⟨U, List.mem_append_right _ g1, g2⟩
theorem b_split_ok (hW : b_gW W ρ) {x : b_L} {a : Int} (hx : b_gx W.1.1 ρ x a) {L : List b_NF} (h : b_split W x = some L) : ∃ U ∈ L, b_gW U ρ ∧ U.1.1 = W.1.1 := by
  unfold b_split at h
  split at h
  · rename_i lo hi h1 h2
    have g1 := b_lo_ok hW.1 h1
    have g2 := b_hi_ok hW.1 h2
    rw [hx.1] at g1 g2
    cases e : decide (lo = hi) with
    | true => rw [e] at h; cases h
    | false =>
      rw [e] at h
      simp only [cond_false] at h
      cases e2 : decide (hi - lo ≤ 300) with
      | true =>
        rw [e2] at h
        cases h
        refine b_spl_ok hW hx (fun h0 => ?_) _ g1 (by omega)
        obtain ⟨j, k1, k2⟩ := b_mset_ok hW.1 h0
        rw [hx.1] at k2
        have : (a + 1).toNat = j := by omega
        rw [this]
        exact k1
      | false => rw [e2] at h; cases h
  · cases h
/-- a hint that splits a number keeps memory as it is -/
theorem b_split_hn (hW : b_gW W ρ) (hM : b_gM G fz W.1.1 ρ σ M) {x : b_L} {a : Int} (hx : b_gx W.1.1 ρ x a) {L : List b_NF} (h : b_split W x = some L) : ∃ q ∈ L.map (fun U => (U, M)), ∃ ρ', b_ext W ρ q.1 ρ' ∧ b_gM G fz q.1.1.1 ρ' σ q.2 := by
  obtain ⟨U, g1, g2, g3⟩ := b_split_ok hW hx h
  exact ⟨(U, M), List.mem_map.mpr ⟨U, g1, rfl⟩, ρ, b_same g2 g3, hM.up (b_same g2 g3)⟩
end B79e

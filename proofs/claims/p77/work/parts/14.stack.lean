/-! THE SMALL MACHINE with its frames in a row -/
abbrev m_Fr : Type := Nat × Nat × m_V × List Value
def m_next (F : Nat → Nat → Option (m_I × Nat)) (fz : List (List Int32)) (fs : List m_Fr) (σ : m_S) : Option ((List m_Fr × m_S) ⊕ (Option Value × m_S)) := match fs with
  | [] => none
  | (mid, pc, lv, st) :: gs => match F mid pc with
    | none => none
    | some (I, len) => match m_step fz I (pc + len) lv st σ with
      | none => none
      | some (.inl (pc', lv', st', σ')) => some (.inl ((mid, pc', lv', st') :: gs, σ'))
      | some (.inr (.inl r)) => match gs with
        | [] => some (.inr (r, σ))
        | (m2, p2, l2, s2) :: hs => some (.inl ((m2, p2, l2, r.toList ++ s2) :: hs, σ))
      | some (.inr (.inr (mid', as, rest))) => if m_callOk I lv as rest σ = true ∧ gs.length < 60 then some (.inl ((mid', 0, lv_args 0 as, []) :: (mid, pc + len, lv, rest) :: gs, σ)) else none
def m_go (F : Nat → Nat → Option (m_I × Nat)) (fz : List (List Int32)) : Nat → List m_Fr → m_S → Option (Option Value × m_S)
  | 0, _, _ => none
  | n + 1, fs, σ => match m_next F fz fs σ with
    | none => none
    | some (.inl (gs, τ)) => m_go F fz n gs τ
    | some (.inr o) => some o
theorem m_exec_mono {F : Nat → Nat → Option (m_I × Nat)} {fz : List (List Int32)} : ∀ (n d mid pc : Nat) (lv : m_V) (st : List Value) (σ : m_S) (o : Option Value × m_S), m_exec F fz n d mid pc lv st σ = some o → ∀ k, n ≤ k → m_exec F fz k d mid pc lv st σ = some o := by
  intro n
  induction n with
  | zero => intro d mid pc lv st σ o h; cases h
  | succ n ih =>
    intro d mid pc lv st σ o h k hk
    obtain ⟨k, rfl⟩ : ∃ j, k = j + 1 := ⟨k - 1, by omega⟩
    have hk : n ≤ k := by omega
    simp only [m_exec] at h ⊢
    split at h
    · cases h
    · rename_i I len hF
      split at h
      · cases h
      · exact ih _ _ _ _ _ _ _ h k hk
      · exact h
      · rename_i mid1 as rest hs
        split at h
        · cases h
        · rename_i d1
          split at h
          · rename_i hc
            rw [if_pos hc]
            split at h
            · cases h
            · rename_i r1 σ1 h1
              rw [ih _ _ _ _ _ _ _ h1 k hk]
              exact ih _ _ _ _ _ _ _ h k hk
          · cases h
theorem m_go_exec {F : Nat → Nat → Option (m_I × Nat)} {fz : List (List Int32)} : ∀ (N n : Nat), n ≤ N → ∀ (mid pc : Nat) (lv : m_V) (st : List Value) (gs : List m_Fr) (σ : m_S) (o : Option Value × m_S), m_go F fz n ((mid, pc, lv, st) :: gs) σ = some o → gs.length ≤ 60 →
    ∃ k r σ1, m_exec F fz k (60 - gs.length) mid pc lv st σ = some (r, σ1) ∧ (match gs with
      | [] => o = (r, σ1)
      | (m2, p2, l2, s2) :: hs => ∃ n', n' < n ∧ m_go F fz n' ((m2, p2, l2, r.toList ++ s2) :: hs) σ1 = some o) := by
  intro N
  induction N with
  | zero =>
    intro n hn mid pc lv st gs σ o h
    obtain rfl : n = 0 := by omega
    cases h
  | succ N ih =>
    intro n hn mid pc lv st gs σ o h hgs
    obtain _ | n := n
    · cases h
    simp only [m_go, m_next] at h
    cases hF : F mid pc with
    | none => rw [hF] at h; cases h
    | some q =>
      obtain ⟨I, len⟩ := q
      rw [hF] at h
      dsimp only at h
      cases hs : m_step fz I (pc + len) lv st σ with
      | none => rw [hs] at h; cases h
      | some q =>
        rw [hs] at h
        rcases q with ⟨pc1, lv1, st1, σ1⟩ | r | ⟨mid1, as, rest⟩
        · dsimp only at h
          obtain ⟨k, r, σ2, h1, h2⟩ := ih n (by omega) mid pc1 lv1 st1 gs σ1 o h hgs
          refine ⟨k + 1, r, σ2, ?_, ?_⟩
          · simp only [m_exec, hF, hs]
            exact h1
          · cases gs with
            | nil => exact h2
            | cons g hs2 =>
              obtain ⟨m2, p2, l2, s2⟩ := g
              obtain ⟨n', h3, h4⟩ := h2
              exact ⟨n', by omega, h4⟩
        · refine ⟨1, r, σ, ?_, ?_⟩
          · simp only [m_exec, hF, hs]
          · cases gs with
            | nil => exact (Option.some.inj h).symm
            | cons g hs2 =>
              obtain ⟨m2, p2, l2, s2⟩ := g
              exact ⟨n, by omega, h⟩
        · dsimp only at h
          split at h
          · cases h
          · rename_i gs1 τ heq
            split at heq
            · rename_i hc
              cases heq
              obtain ⟨k1, r1, σ1, h1, n', h2, h3⟩ := ih n (by omega) mid1 0 (lv_args 0 as) [] ((mid, pc + len, lv, rest) :: gs) σ o h (by simp; omega)
              obtain ⟨k2, r2, σ2, h4, h5⟩ := ih n' (by omega) mid (pc + len) lv (r1.toList ++ rest) gs σ1 o h3 hgs
              refine ⟨max k1 k2 + 1, r2, σ2, ?_, ?_⟩
              · have e1 : 60 - gs.length = (60 - ((mid, pc + len, lv, rest) :: gs).length) + 1 := by simp only [List.length_cons]; omega
                rw [e1]
                simp only [m_exec, hF, hs]
                rw [if_pos hc.1, m_exec_mono _ _ _ _ _ _ _ _ h1 _ (Nat.le_max_left k1 k2)]
                dsimp only
                rw [← e1]
                exact m_exec_mono _ _ _ _ _ _ _ _ h4 _ (Nat.le_max_right k1 k2)
              · cases gs with
                | nil => exact h5
                | cons g hs2 =>
                  obtain ⟨m2, p2, l2, s2⟩ := g
                  obtain ⟨n2, h6, h7⟩ := h5
                  exact ⟨n2, by omega, h7⟩
            · cases heq
          · rename_i o1 heq
            split at heq
            · cases heq
            · cases heq

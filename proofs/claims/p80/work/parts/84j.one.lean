section M11
variable {p : Program} {l : Launch} {e : Env} {R : Room} {s : State} {m : MethodId} {args : Array Value} {below : List Frame} {meth : Method} {c : Code} {Q : State → Prop} {D : va_G} {cA : Nat → ClassId} {A : Nat → Prop} {ad0 : Nat → Nat} {n0 z0 nL : Nat} {cc : ByteArray} {fz : List (List Int32)} {y : MethodName} {r : Option FieldType}
variable {pc pc' len nx : Nat} {lv lv' : m_V} {st st' : List Value} {σ σ' : m_S} {ins : Instr} {I : m_I}
def m_le (σ σ' : m_S) : Prop := σ.length ≤ σ'.length ∧ m_sz σ ≤ m_sz σ'
theorem m_le.rf : m_le σ σ := ⟨Nat.le_refl _, Nat.le_refl _⟩
theorem m_le.tr {τ : m_S} (h : m_le σ σ') (h2 : m_le σ' τ) : m_le σ τ := ⟨Nat.le_trans h.1 h2.1, Nat.le_trans h.2 h2.2⟩
theorem m_le.set {b : Nat} {x x0 : m_E} (hb : σ[b]? = some x0) (hx : m_es x = m_es x0) : m_le σ (σ.set b x) := ⟨by rw [List.length_set]; exact Nat.le_refl _, by rw [m_sz_set hb hx]; exact Nat.le_refl _⟩
theorem m_le.app {x : m_E} : m_le σ (σ ++ [x]) := ⟨by simp, by rw [m_sz_app]; omega⟩
theorem m_ast_le {a : Nat} {w : Value} {i : Int32} {b : Nat} {τ : m_S} (h : m_ast a w i b σ = some τ) : m_le σ τ := by
  unfold m_ast at h
  repeat' split at h
  all_goals first | (cases h; done) | (cases h; exact m_le.set (by assumption) (by simp [m_es]))
theorem m_acp_le {n dp b1 sp b0 : Nat} {τ : m_S} (h : m_acp n dp b1 sp b0 σ = some τ) : m_le σ τ := by
  unfold m_acp at h
  repeat' split at h
  all_goals first | (cases h; done) | (cases h; exact m_le.set (by assumption) (by simp [m_es, m_cpy_len]))
set_option maxHeartbeats 4000000 in
theorem m_step_le (hs : m_step fz I nx lv st σ = some (.inl (pc', lv', st', σ'))) : m_le σ σ' := by
  obtain ⟨op, a, v, q⟩ := I
  match op, hs with
  | 0, hs => cases hs; exact m_le.rf
  | 1, hs => cases hs; exact m_le.rf
  | 2, hs => obtain ⟨_, _, _, h⟩ := m_d2 hs; cases h; exact m_le.rf
  | 3, hs => obtain ⟨_, _, _, _, h⟩ := m_d3 hs; cases h; exact m_le.rf
  | 4, hs => obtain ⟨_, _, h⟩ := m_d4 hs; cases h; exact m_le.rf
  | 5, hs => obtain ⟨_, _, _, _, _, _, h⟩ := m_d5 hs; cases h; exact m_le.rf
  | 6, hs => obtain ⟨_, _, _, _, _, _, h⟩ := m_d6 hs; cases h; exact m_le.rf
  | 7, hs => obtain ⟨_, _, _, _, _, h⟩ := m_d7 hs; cases h; exact m_le.rf
  | 8, hs => obtain ⟨_, _, _, _, h⟩ := m_d8 hs; cases h; exact m_le.rf
  | 9, hs => obtain ⟨_, _, h⟩ := m_d9 hs; cases h; exact m_le.rf
  | 10, hs => cases hs; exact m_le.rf
  | 11, hs => obtain ⟨_, _, _, h⟩ := m_d11 hs; cases h; exact m_le.rf
  | 12, hs => obtain ⟨_, _, _, _, h⟩ := m_d12 hs; cases h; exact m_le.rf
  | 13, hs => obtain ⟨_, _, _, h⟩ := m_d13 hs; cases h; exact m_le.rf
  | 14, hs => obtain ⟨_, _, _, h⟩ := m_d14 hs; cases h; exact m_le.rf
  | 15, hs => obtain ⟨_, _, _, _, _, _, _, h⟩ := m_d15 hs; cases h; exact m_le.rf
  | 16, hs => obtain ⟨_, _, _, _, _, h1, _, _, h⟩ := m_d16 hs; cases h; exact m_le.set h1 (by simp [m_es])
  | 17, hs => cases hs
  | 18, hs => obtain ⟨_, _, _, _, _, _, h⟩ := m_d18 hs; cases h; exact m_le.rf
  | 19, hs => obtain ⟨_, _, _, _, _, _, h1, h⟩ := m_d19 hs; cases h; exact m_ast_le h1
  | 20, hs => obtain ⟨_, _, _, _, _, _, h⟩ := m_d20 hs; cases h; exact m_le.rf
  | 21, hs => obtain ⟨_, h⟩ := m_d21 hs; cases h; exact m_le.app
  | 22, hs => obtain ⟨_, _, _, _, _, _, _, _, h⟩ := m_d22 hs; cases h; exact m_le.app
  | 23, hs => cases hs
  | 24, hs =>
    simp only [m_step] at hs
    repeat' split at hs
    all_goals first | (cases hs; done) | (simp at hs; done)
  | 25, hs => obtain ⟨_, _, _, _, h⟩ := m_d25 hs; cases h; exact m_le.rf
  | 26, hs => obtain ⟨_, _, _, _, _, _, _, _, _, _, _, _, h1, h⟩ := m_d26 hs; cases h; exact m_acp_le h1
  | 27, hs =>
    simp only [m_step] at hs
    repeat' split at hs
    all_goals first | (cases hs; done) | (simp at hs; done)
  | 28, hs => obtain ⟨_, _, _, _, _, _, h⟩ := m_d28 hs; cases h; exact m_le.rf
  | 29, hs => cases hs
  | 30, hs => cases hs
  | 31, hs => cases hs
  | 32, hs => cases hs
  | 33, hs => cases hs
  | 34, hs => cases hs
  | 35, hs => cases hs
  | 36, hs => cases hs
  | 37, hs => cases hs
  | 38, hs => cases hs
  | 39, hs => cases hs
  | 40, hs => rcases (m_d40 hs).2 with ⟨_, _, _, _, _, h⟩ | ⟨_, _, _, _, _, h⟩ | ⟨_, _, _, _, h⟩ | ⟨_, _, _, _, _, h⟩ <;> (cases h; exact m_le.rf)
  | 41, hs => cases hs; exact m_le.rf
  | 42, hs => cases hs
  | 43, hs => obtain ⟨_, _, _, _, _, _, _, _, _, h⟩ := m_d43 hs; cases h; exact m_le.rf
  | _ + 44, hs => cases hs
theorem m_exec_le {F : Nat → Nat → Option (m_I × Nat)} : ∀ (n d mid pc : Nat) (lv : m_V) (st : List Value) (σ : m_S) (r : Option Value) (σ' : m_S), m_exec F fz n d mid pc lv st σ = some (r, σ') → m_le σ σ' := by
  intro n
  induction n with
  | zero => intro d mid pc lv st σ r σ' h; cases h
  | succ n ih =>
    intro d mid pc lv st σ r σ' h
    simp only [m_exec] at h
    split at h
    · cases h
    · rename_i I len hF
      split at h
      · cases h
      · rename_i pc1 lv1 st1 σ1 hs
        exact (m_step_le hs).tr (ih _ _ _ _ _ _ _ _ h)
      · cases h; exact m_le.rf
      · rename_i mid1 as rest hs
        split at h
        · cases h
        · rename_i d1
          split at h
          · split at h
            · cases h
            · rename_i r1 σ1 h1
              exact (ih _ _ _ _ _ _ _ _ h1).tr (ih _ _ _ _ _ _ _ _ h)
          · cases h
set_option maxHeartbeats 4000000 in
/-- ONE STEP that is neither a call nor an end -/
theorem m_one (K : m_Cx p s m args meth c D cA A ad0 nL cc y r fz) (hlk : m_lkAll) (hcl : m_clsOk) (hg : m_glob) (hd : decode cc pc = .ok (ins, len)) (ht : m_tri y nL r pc ins len = some I) (hs : m_step fz I (pc + len) lv st σ = some (.inl (pc', lv', st', σ'))) (hn0 : n0 ≤ σ.length) (hz0 : z0 ≤ m_sz σ) (hRc : σ'.length - n0 ≤ R.cells) (hRs : m_sz σ' - z0 ≤ R.slots) (hRf : 4 ≤ R.frames) (hRl : 100 ≤ R.locals) (k : m_WW p l e R s m args below meth c Q D cA A ad0 n0 z0 nL pc' lv' st' σ') : m_WW p l e R s m args below meth c Q D cA A ad0 n0 z0 nL pc lv st σ := by
  by_cases h1 : I.1 < 5
  · exact m_ldst K hlk hd ht h1 hs k
  by_cases h2 : 5 ≤ I.1 ∧ I.1 ≤ 9 ∨ I.1 = 28
  · exact m_arith K hd ht h2 hs k
  by_cases h3 : 10 ≤ I.1 ∧ I.1 ≤ 14
  · exact m_jump K hd ht h3 hs k
  by_cases h4 : I.1 = 15 ∨ I.1 = 16
  · exact m_field K hlk hcl hd ht h4 hs k
  by_cases h5 : I.1 = 18 ∨ (I.1 = 20 ∧ I.2.1 = 0)
  · exact m_load K hd ht h5 hs k
  by_cases h6 : I.1 = 19
  · exact m_store K hcl hd ht h6 hs k
  by_cases h7 : I.1 = 25 ∨ I.1 = 26
  · exact m_sys K hlk hg (by omega) hRl hd ht h7 hs k
  by_cases h8 : I.1 = 21 ∨ I.1 = 22
  · exact m_make K hlk hcl hg hn0 hz0 hRc hRs hd ht h8 hs k
  by_cases h9 : I.1 = 41
  · exact m_txt K hlk hd ht h9 hs k
  by_cases h10 : I.1 = 40
  · exact m_math K hlk (by omega) hRl (by have := (m_step_le hs).1; omega) (by have := (m_step_le hs).2; omega) hd ht h10 hs k
  by_cases h11 : I.1 = 43 ∨ (I.1 = 20 ∧ I.2.1 = 1)
  · exact m_text K hlk hRf hRl (by have := (m_step_le hs).1; omega) (by have := (m_step_le hs).2; omega) hd ht h11 hs k
  exfalso
  obtain ⟨op, a, v, q⟩ := I
  dsimp only at h1 h2 h3 h4 h5 h6 h7 h8 h9 h10 h11
  match op, hs with
  | 17, hs => cases hs
  | 23, hs => cases hs
  | 24, hs =>
    simp only [m_step] at hs
    repeat' split at hs
    all_goals first | (cases hs; done) | (simp at hs; done)
  | 27, hs =>
    simp only [m_step] at hs
    repeat' split at hs
    all_goals first | (cases hs; done) | (simp at hs; done)
  | 29, hs => cases hs
  | 30, hs => cases hs
  | 31, hs => cases hs
  | 32, hs => cases hs
  | 33, hs => cases hs
  | 34, hs => cases hs
  | 35, hs => cases hs
  | 36, hs => cases hs
  | 37, hs => cases hs
  | 38, hs => cases hs
  | 39, hs => cases hs
  | 42, hs => cases hs
  | _ + 44, hs => cases hs
  | 20, hs =>
    obtain ⟨_, _, _, _, h0, _⟩ := m_d20 hs
    unfold m_lok at h0
    simp only [Bool.or_eq_true, Bool.and_eq_true] at h0
    rcases h0 with h0 | h0
    · exact h5 (Or.inr ⟨rfl, Nat.eq_of_beq_eq_true h0.1⟩)
    · exact h11 (Or.inr ⟨rfl, Nat.eq_of_beq_eq_true h0.1⟩)
  | 0, _ | 1, _ | 2, _ | 3, _ | 4, _ | 5, _ | 6, _ | 7, _ | 8, _ | 9, _ | 10, _ | 11, _ | 12, _ | 13, _ | 14, _ | 15, _ | 16, _ | 18, _ | 19, _ | 21, _ | 22, _ | 25, _ | 26, _ | 28, _ | 40, _ | 41, _ | 43, _ => omega
end M11

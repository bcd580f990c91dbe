/-! THE CLAIM OUT OF ONE WALK OF THE LAW'S BODY. Your part is whole_start (and what it stands on); all else here is the same for every law, but numbers. -/
def R_law : String := "MotherBenchLaw"
def lw_P (b : Addr) (xs : List Int32) (args : Array Value) (s : State) : Prop := args = #[.ref b] ∧ s.IntsAt b xs ∧ xs.length ≤ 3072 ∧ (Jvm.Cond.and given_1 narrow_1).before args s = true
def lw_Q (_ : Array Value) (s : State) (o : Outcome) (t : State) : Prop := o = .returned (some (.int 1)) ∧ Framed s o t [] 600000 7302250
def lw_Z (below : List Frame) (a : Array Value) (s : State) : State → Prop := fun t => ∃ o, t.status = .running ∧ Ended t below o ∧ lw_Q a s o t
/-- the law's own end, with 1 on the stack, nothing written that was there before, its room as the claim has it -/
theorem lw_ret {p : Program} {l : Launch} {e : Env} {s : State} {m : MethodId} {below : List Frame} {meth : Method} {c : Code} {b : Nat} (hx : p.tables.exec = Jvm.exec) (hb : c.code = code) (hr : meth.sig.returnType = ret) (hlocks : meth.locks = false) {pc : Nat} {H : Heap} {ls : Array Slot} (hdg : decode code pc = .ok (.ireturn, 1)) : W p l e room_1 s m #[Value.ref b] below meth c H [] 600000 7302250 (lw_Z below #[Value.ref b] s) (F0 m pc ls [.int 1]) := by
  intro T hT X
  obtain ⟨fs, hret, hrun, hended, hW, hframe⟩ := X.leave (v := some (.int 1)) (hlocks := hlocks) (fun h => by rw [hr] at h; cases h)
  have hmeth' : T.vm.method? m = some meth := X.method'
  refine ⟨T.setFrames fs, ?_, .returned (some (.int 1)), hrun, hended, rfl, ⟨_, rfl⟩, hW, hframe⟩
  jvm_step X.here [X.here.top, hx, hb, hdg, hmeth', hr, ret, narrow_b1]
  (try refine ⟨rfl, ?_⟩); (try refine ⟨rfl, ?_⟩)
  first | (intro acts; rw [hret _ acts rfl rfl rfl]) | rw [hret _ _ rfl rfl rfl]
  exact Steps.refl _
/-- what holds at the law's entry: the machine, the code, the tables' words (any of lw_tbl by 'hts w (by decide +kernel)'), the script of L ints xs at the cell b, what the Statement gives of the start (any of its parts by flat_of_before) -/
def lw_At (p : Program) (s : State) (m : MethodId) (meth : Method) (c : Code) (b L : Nat) (xs : Nat → Int32) : Prop :=
  p.tables.exec = Jvm.exec ∧ c.code = code ∧ meth.sig.returnType = ret ∧ c.maxLocals = 4 ∧ s.vm.findClass R_law = some m.cls ∧ (∀ w ∈ lw_tbl, w.before #[Value.ref b] s = true) ∧ va_X b L xs s s.heap ∧ b < s.heap.size ∧ meth.locks = false ∧ (Jvm.Cond.and given_1 narrow_1).before #[Value.ref b] s = true
theorem m_step_big {fz : List (List Int32)} {I : m_I} {nx pc' : Nat} {lv lv' : m_V} {st st' : List Value} {σ σ' : m_S} (hb : ∀ z ∈ σ, m_es z ≤ 2000) (hs : m_step fz I nx lv st σ = some (.inl (pc', lv', st', σ'))) : ∀ z ∈ σ', m_es z ≤ 2000 := by
  have set1 : ∀ {b : Nat} {x x0 : m_E}, σ[b]? = some x0 → m_es x = m_es x0 → ∀ z ∈ σ.set b x, m_es z ≤ 2000 := by
    intro b x x0 h1 h2 z hz
    rcases List.mem_or_eq_of_mem_set hz with h | h
    · exact hb z h
    · rw [h, h2]
      exact hb _ (List.mem_of_getElem? h1)
  have app1 : ∀ {x : m_E}, m_es x ≤ 2000 → ∀ z ∈ σ ++ [x], m_es z ≤ 2000 := by
    intro x h1 z hz
    rcases List.mem_append.mp hz with h | h
    · exact hb z h
    · rw [List.mem_singleton.mp h]
      exact h1
  obtain ⟨op, a, v, q⟩ := I
  match op, hs with
  | 0, hs => cases hs; exact hb
  | 1, hs => cases hs; exact hb
  | 2, hs => obtain ⟨_, _, _, h⟩ := m_d2 hs; cases h; exact hb
  | 3, hs => obtain ⟨_, _, _, _, h⟩ := m_d3 hs; cases h; exact hb
  | 4, hs => obtain ⟨_, _, h⟩ := m_d4 hs; cases h; exact hb
  | 5, hs => obtain ⟨_, _, _, _, _, _, h⟩ := m_d5 hs; cases h; exact hb
  | 6, hs => obtain ⟨_, _, _, _, _, _, h⟩ := m_d6 hs; cases h; exact hb
  | 7, hs => obtain ⟨_, _, _, _, _, h⟩ := m_d7 hs; cases h; exact hb
  | 8, hs => obtain ⟨_, _, _, _, h⟩ := m_d8 hs; cases h; exact hb
  | 9, hs => obtain ⟨_, _, h⟩ := m_d9 hs; cases h; exact hb
  | 10, hs => cases hs; exact hb
  | 11, hs => obtain ⟨_, _, _, h⟩ := m_d11 hs; cases h; exact hb
  | 12, hs => obtain ⟨_, _, _, _, h⟩ := m_d12 hs; cases h; exact hb
  | 13, hs => obtain ⟨_, _, _, h⟩ := m_d13 hs; cases h; exact hb
  | 14, hs => obtain ⟨_, _, _, h⟩ := m_d14 hs; cases h; exact hb
  | 15, hs => obtain ⟨_, _, _, _, _, _, _, h⟩ := m_d15 hs; cases h; exact hb
  | 16, hs => obtain ⟨_, _, _, _, _, h1, _, _, h⟩ := m_d16 hs; cases h; exact set1 h1 (by simp [m_es])
  | 17, hs => cases hs
  | 18, hs => obtain ⟨_, _, _, _, _, _, h⟩ := m_d18 hs; cases h; exact hb
  | 19, hs =>
    obtain ⟨_, _, _, _, _, _, h1, h⟩ := m_d19 hs
    cases h
    unfold m_ast at h1
    repeat' split at h1
    all_goals first | (cases h1; done) | (cases h1; exact set1 (by assumption) (by simp [m_es]))
  | 20, hs => obtain ⟨_, _, _, _, _, _, h⟩ := m_d20 hs; cases h; exact hb
  | 21, hs =>
    obtain ⟨_, h⟩ := m_d21 hs
    cases h
    refine app1 ?_
    have e : m_nf a ≤ 2000 := by
      unfold m_nf
      split <;> decide
    simpa [m_es, m_def] using e
  | 22, hs =>
    obtain ⟨x, _, z, _, _, h0, h1, h2, h⟩ := m_d22 hs
    cases h
    refine app1 ?_
    have hx := m_toNC h0 h1
    unfold m_new at h2
    split at h2
    all_goals first | (cases h2; done) | (cases h2; simpa [m_es] using hx)
  | 23, hs => cases hs
  | 24, hs =>
    simp only [m_step] at hs
    repeat' split at hs
    all_goals first | (cases hs; done) | (simp at hs; done)
  | 25, hs => obtain ⟨_, _, _, _, h⟩ := m_d25 hs; cases h; exact hb
  | 26, hs =>
    obtain ⟨_, _, _, _, _, _, _, _, _, _, _, _, h1, h⟩ := m_d26 hs
    cases h
    unfold m_acp at h1
    repeat' split at h1
    all_goals first | (cases h1; done) | (cases h1; exact set1 (by assumption) (by simp [m_es, m_cpy_len]))
  | 27, hs =>
    simp only [m_step] at hs
    repeat' split at hs
    all_goals first | (cases hs; done) | (simp at hs; done)
  | 28, hs => obtain ⟨_, _, _, _, _, _, h⟩ := m_d28 hs; cases h; exact hb
  | 29, hs => cases hs
  | 30, hs => cases hs
  | 31, hs => cases hs
  | 32, hs => cases hs
  | 33, hs => cases hs
  | 34, hs => cases hs
  | 35, hs => cases hs
  | 36, hs => cases hs
  | 37, hs => cases hs
  | 38, hs => cases hs
  | 39, hs => cases hs
  | 40, hs => rcases (m_d40 hs).2 with ⟨_, _, _, _, _, h⟩ | ⟨_, _, _, _, _, h⟩ | ⟨_, _, _, _, h⟩ | ⟨_, _, _, _, _, h⟩ <;> (cases h; exact hb)
  | 41, hs => cases hs; exact hb
  | 42, hs => cases hs
  | 43, hs => obtain ⟨_, _, _, _, _, _, _, _, _, h⟩ := m_d43 hs; cases h; exact hb
  | _ + 44, hs => cases hs
theorem m_exec_big {F : Nat → Nat → Option (m_I × Nat)} {fz : List (List Int32)} : ∀ (n d mid pc : Nat) (lv : m_V) (st : List Value) (σ : m_S) (r : Option Value) (σ' : m_S), (∀ z ∈ σ, m_es z ≤ 2000) → m_exec F fz n d mid pc lv st σ = some (r, σ') → ∀ z ∈ σ', m_es z ≤ 2000 := by
  intro n
  induction n with
  | zero => intro d mid pc lv st σ r σ' hb h; cases h
  | succ n ih =>
    intro d mid pc lv st σ r σ' hb h
    simp only [m_exec] at h
    split at h
    · cases h
    · rename_i I len hF
      split at h
      · cases h
      · rename_i pc1 lv1 st1 σ1 hs
        exact ih _ _ _ _ _ _ _ _ (m_step_big hb hs) h
      · cases h; exact hb
      · rename_i mid1 as rest hs
        split at h
        · cases h
        · rename_i d1
          split at h
          · split at h
            · cases h
            · rename_i r1 σ1 h1
              exact ih _ _ _ _ _ _ _ _ (ih _ _ _ _ _ _ _ _ hb h1) h
          · cases h
theorem m_sz_le {σ : m_S} (hb : ∀ z ∈ σ, m_es z ≤ 2000) : m_sz σ ≤ 2000 * σ.length := by
  induction σ with
  | nil => exact Nat.le_refl _
  | cons x r ih =>
    have h1 := ih (fun z hz => hb z (List.mem_cons_of_mem _ hz))
    have h2 := hb x List.mem_cons_self
    have e : m_sz (x :: r) = m_es x + m_sz r := by simp [m_sz]
    rw [e, List.length_cons]
    omega

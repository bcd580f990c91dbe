section A70
theorem t_row : a_Good m_F t_Z t_W a_P1ok (t_at 2273) := by
  intro ρ fz fs σ hz hQ
  have h2 := hQ.1 2 (-2147483648, 2147483647) rfl
  dsimp only at h2
  have key : ∀ lo hi : Int, lo ≤ ρ 2 → ρ 2 ≤ hi → a_Good m_F t_Z t_W a_P1ok (t_r lo hi 2273) → ∃ n o, m_go m_F fz n fs σ = some o ∧ a_P1ok o.1 o.2 := by
    intro lo hi h3 h4 hg
    refine hg ρ fz fs σ hz ⟨fun i q hq => ?_, hQ.2.1, hQ.2.2⟩
    have h5 := hQ.1
    match i, hq with
    | 0, hq => exact h5 0 q hq
    | 1, hq => exact h5 1 q hq
    | 2, hq => cases hq; exact ⟨h3, h4⟩
    | 3, hq => exact h5 3 q hq
    | 4, hq => exact h5 4 q hq
    | _ + 5, hq => cases hq
  by_cases c0 : ρ 2 ≤ (-1)
  · exact key (-2147483648) (-1) (by omega) (by omega) (a_ok_good (fun _ h => by cases h) a_one_ok _ _ t_r0)
  by_cases c1 : 61 ≤ ρ 2
  · exact key 61 2147483647 (by omega) (by omega) (a_ok_good (fun _ h => by cases h) a_one_ok _ _ t_r1)
  by_cases c2 : ρ 2 ≤ 4
  · exact key 0 4 (by omega) (by omega) (a_ok_good (fun _ h => by cases h) a_one_ok _ _ t_r2)
  by_cases c3 : ρ 2 ≤ 9
  · exact key 5 9 (by omega) (by omega) (a_ok_good (fun _ h => by cases h) a_one_ok _ _ t_r3)
  by_cases c4 : ρ 2 ≤ 14
  · exact key 10 14 (by omega) (by omega) (a_ok_good (fun _ h => by cases h) a_one_ok _ _ t_r4)
  by_cases c5 : ρ 2 ≤ 19
  · exact key 15 19 (by omega) (by omega) (a_ok_good (fun _ h => by cases h) a_one_ok _ _ t_r5)
  by_cases c6 : ρ 2 ≤ 24
  · exact key 20 24 (by omega) (by omega) (a_ok_good (fun _ h => by cases h) a_one_ok _ _ t_r6)
  by_cases c7 : ρ 2 ≤ 29
  · exact key 25 29 (by omega) (by omega) (a_ok_good (fun _ h => by cases h) a_one_ok _ _ t_r7)
  by_cases c8 : ρ 2 ≤ 34
  · exact key 30 34 (by omega) (by omega) (a_ok_good (fun _ h => by cases h) a_one_ok _ _ t_r8)
  by_cases c9 : ρ 2 ≤ 39
  · exact key 35 39 (by omega) (by omega) (a_ok_good (fun _ h => by cases h) a_one_ok _ _ t_r9)
  by_cases c10 : ρ 2 ≤ 44
  · exact key 40 44 (by omega) (by omega) (a_ok_good (fun _ h => by cases h) a_one_ok _ _ t_r10)
  by_cases c11 : ρ 2 ≤ 49
  · exact key 45 49 (by omega) (by omega) (a_ok_good (fun _ h => by cases h) a_one_ok _ _ t_r11)
  by_cases c12 : ρ 2 ≤ 54
  · exact key 50 54 (by omega) (by omega) (a_ok_good (fun _ h => by cases h) a_one_ok _ _ t_r12)
  by_cases c13 : ρ 2 ≤ 59
  · exact key 55 59 (by omega) (by omega) (a_ok_good (fun _ h => by cases h) a_one_ok _ _ t_r13)
  exact key 60 60 (by omega) (by omega) (a_ok_good (fun _ h => by cases h) a_one_ok _ _ t_r14)
set_option maxRecDepth 100000 in
theorem t_all : ∀ pc ∈ t_tg, a_Good m_F t_Z t_W a_P1ok (t_at pc) := List.forall_mem_cons.mpr ⟨a_ok_good (fun _ h => by cases h) a_one_ok _ _ t_o0, List.forall_mem_cons.mpr ⟨a_ok_good (fun _ h => by cases h) a_one_ok _ _ t_o1, List.forall_mem_cons.mpr ⟨a_ok_good (fun _ h => by cases h) a_one_ok _ _ t_o2, List.forall_mem_cons.mpr ⟨a_ok_good (fun _ h => by cases h) a_one_ok _ _ t_o3, List.forall_mem_cons.mpr ⟨a_ok_good (fun _ h => by cases h) a_one_ok _ _ t_o4, List.forall_mem_cons.mpr ⟨a_ok_good (fun _ h => by cases h) a_one_ok _ _ t_o5, List.forall_mem_cons.mpr ⟨a_ok_good (fun _ h => by cases h) a_one_ok _ _ t_o6, List.forall_mem_cons.mpr ⟨a_ok_good (fun _ h => by cases h) a_one_ok _ _ t_o7, List.forall_mem_cons.mpr ⟨a_ok_good (fun _ h => by cases h) a_one_ok _ _ t_o8, List.forall_mem_cons.mpr ⟨a_ok_good (fun _ h => by cases h) a_one_ok _ _ t_o9, List.forall_mem_cons.mpr ⟨a_ok_good (fun _ h => by cases h) a_one_ok _ _ t_o10, List.forall_mem_cons.mpr ⟨a_ok_good (fun _ h => by cases h) a_one_ok _ _ t_o11, List.forall_mem_cons.mpr ⟨a_ok_good (fun _ h => by cases h) a_one_ok _ _ t_o12, List.forall_mem_cons.mpr ⟨a_ok_good (fun _ h => by cases h) a_one_ok _ _ t_o13, List.forall_mem_cons.mpr ⟨a_ok_good (fun _ h => by cases h) a_one_ok _ _ t_o14, List.forall_mem_cons.mpr ⟨a_ok_good (fun _ h => by cases h) a_one_ok _ _ t_o15, List.forall_mem_cons.mpr ⟨a_ok_good (fun _ h => by cases h) a_one_ok _ _ t_o16, List.forall_mem_cons.mpr ⟨a_ok_good (fun _ h => by cases h) a_one_ok _ _ t_o17, List.forall_mem_cons.mpr ⟨a_ok_good (fun _ h => by cases h) a_one_ok _ _ t_o18, List.forall_mem_cons.mpr ⟨a_ok_good (fun _ h => by cases h) a_one_ok _ _ t_o19, List.forall_mem_cons.mpr ⟨a_ok_good (fun _ h => by cases h) a_one_ok _ _ t_o20, List.forall_mem_cons.mpr ⟨a_ok_good (fun _ h => by cases h) a_one_ok _ _ t_o21, List.forall_mem_cons.mpr ⟨a_ok_good (fun _ h => by cases h) a_one_ok _ _ t_o22, List.forall_mem_cons.mpr ⟨a_ok_good (fun _ h => by cases h) a_one_ok _ _ t_o23, List.forall_mem_cons.mpr ⟨a_ok_good (fun _ h => by cases h) a_one_ok _ _ t_o24, List.forall_mem_cons.mpr ⟨a_ok_good (fun _ h => by cases h) a_one_ok _ _ t_o25, List.forall_mem_cons.mpr ⟨a_ok_good (fun _ h => by cases h) a_one_ok _ _ t_o26, List.forall_mem_cons.mpr ⟨a_ok_good (fun _ h => by cases h) a_one_ok _ _ t_o27, List.forall_mem_cons.mpr ⟨a_ok_good (fun _ h => by cases h) a_one_ok _ _ t_o28, List.forall_mem_cons.mpr ⟨a_ok_good (fun _ h => by cases h) a_one_ok _ _ t_o29, List.forall_mem_cons.mpr ⟨a_ok_good (fun _ h => by cases h) a_one_ok _ _ t_o30, List.forall_mem_cons.mpr ⟨a_ok_good (fun _ h => by cases h) a_one_ok _ _ t_o31, List.forall_mem_cons.mpr ⟨a_ok_good (fun _ h => by cases h) a_one_ok _ _ t_o32, List.forall_mem_cons.mpr ⟨a_ok_good (fun _ h => by cases h) a_one_ok _ _ t_o33, List.forall_mem_cons.mpr ⟨a_ok_good (fun _ h => by cases h) a_one_ok _ _ t_o34, List.forall_mem_cons.mpr ⟨a_ok_good (fun _ h => by cases h) a_one_ok _ _ t_o35, List.forall_mem_cons.mpr ⟨a_ok_good (fun _ h => by cases h) a_one_ok _ _ t_o36, List.forall_mem_cons.mpr ⟨a_ok_good (fun _ h => by cases h) a_one_ok _ _ t_o37, List.forall_mem_cons.mpr ⟨a_ok_good (fun _ h => by cases h) a_one_ok _ _ t_o38, List.forall_mem_cons.mpr ⟨a_ok_good (fun _ h => by cases h) a_one_ok _ _ t_o39, List.forall_mem_cons.mpr ⟨a_ok_good (fun _ h => by cases h) a_one_ok _ _ t_o40, List.forall_mem_cons.mpr ⟨a_ok_good (fun _ h => by cases h) a_one_ok _ _ t_o41, List.forall_mem_cons.mpr ⟨a_ok_good (fun _ h => by cases h) a_one_ok _ _ t_o42, List.forall_mem_cons.mpr ⟨a_ok_good (fun _ h => by cases h) a_one_ok _ _ t_o43, List.forall_mem_cons.mpr ⟨a_ok_good (fun _ h => by cases h) a_one_ok _ _ t_o44, List.forall_mem_cons.mpr ⟨a_ok_good (fun _ h => by cases h) a_one_ok _ _ t_o45, List.forall_mem_cons.mpr ⟨a_ok_good (fun _ h => by cases h) a_one_ok _ _ t_o46, List.forall_mem_cons.mpr ⟨a_ok_good (fun _ h => by cases h) a_one_ok _ _ t_o47, List.forall_mem_cons.mpr ⟨a_ok_good (fun _ h => by cases h) a_one_ok _ _ t_o48, List.forall_mem_cons.mpr ⟨a_ok_good (fun _ h => by cases h) a_one_ok _ _ t_o49, List.forall_mem_cons.mpr ⟨a_ok_good (fun _ h => by cases h) a_one_ok _ _ t_o50, List.forall_mem_cons.mpr ⟨a_ok_good (fun _ h => by cases h) a_one_ok _ _ t_o51, List.forall_mem_cons.mpr ⟨a_ok_good (fun _ h => by cases h) a_one_ok _ _ t_o52, List.forall_mem_cons.mpr ⟨a_ok_good (fun _ h => by cases h) a_one_ok _ _ t_o53, List.forall_mem_cons.mpr ⟨a_ok_good (fun _ h => by cases h) a_one_ok _ _ t_o54, List.forall_mem_cons.mpr ⟨a_ok_good (fun _ h => by cases h) a_one_ok _ _ t_o55, List.forall_mem_cons.mpr ⟨a_ok_good (fun _ h => by cases h) a_one_ok _ _ t_o56, List.forall_mem_cons.mpr ⟨a_ok_good (fun _ h => by cases h) a_one_ok _ _ t_o57, List.forall_mem_cons.mpr ⟨a_ok_good (fun _ h => by cases h) a_one_ok _ _ t_o58, List.forall_mem_cons.mpr ⟨a_ok_good (fun _ h => by cases h) a_one_ok _ _ t_o59, List.forall_mem_cons.mpr ⟨a_ok_good (fun _ h => by cases h) a_one_ok _ _ t_o60, List.forall_mem_cons.mpr ⟨a_ok_good (fun _ h => by cases h) a_one_ok _ _ t_o61, List.forall_mem_cons.mpr ⟨a_ok_good (fun _ h => by cases h) a_one_ok _ _ t_o62, List.forall_mem_cons.mpr ⟨a_ok_good (fun _ h => by cases h) a_one_ok _ _ t_o63, List.forall_mem_cons.mpr ⟨a_ok_good (fun _ h => by cases h) a_one_ok _ _ t_o64, List.forall_mem_cons.mpr ⟨a_ok_good (fun _ h => by cases h) a_one_ok _ _ t_o65, List.forall_mem_cons.mpr ⟨a_ok_good (fun _ h => by cases h) a_one_ok _ _ t_o66, List.forall_mem_cons.mpr ⟨a_ok_good (fun _ h => by cases h) a_one_ok _ _ t_o67, List.forall_mem_cons.mpr ⟨a_ok_good (fun _ h => by cases h) a_one_ok _ _ t_o68, List.forall_mem_cons.mpr ⟨a_ok_good (fun _ h => by cases h) a_one_ok _ _ t_o69, List.forall_mem_cons.mpr ⟨a_ok_good (fun _ h => by cases h) a_one_ok _ _ t_o70, List.forall_mem_cons.mpr ⟨a_ok_good (fun _ h => by cases h) a_one_ok _ _ t_o71, List.forall_mem_cons.mpr ⟨a_ok_good (fun _ h => by cases h) a_one_ok _ _ t_o72, List.forall_mem_cons.mpr ⟨a_ok_good (fun _ h => by cases h) a_one_ok _ _ t_o73, List.forall_mem_cons.mpr ⟨a_ok_good (fun _ h => by cases h) a_one_ok _ _ t_o74, List.forall_mem_cons.mpr ⟨a_ok_good (fun _ h => by cases h) a_one_ok _ _ t_o75, List.forall_mem_cons.mpr ⟨t_row, List.forall_mem_cons.mpr ⟨a_ok_good (fun _ h => by cases h) a_one_ok _ _ t_o77, List.forall_mem_cons.mpr ⟨a_ok_good (fun _ h => by cases h) a_one_ok _ _ t_o78, fun _ h => absurd h List.not_mem_nil⟩⟩⟩⟩⟩⟩⟩⟩⟩⟩⟩⟩⟩⟩⟩⟩⟩⟩⟩⟩⟩⟩⟩⟩⟩⟩⟩⟩⟩⟩⟩⟩⟩⟩⟩⟩⟩⟩⟩⟩⟩⟩⟩⟩⟩⟩⟩⟩⟩⟩⟩⟩⟩⟩⟩⟩⟩⟩⟩⟩⟩⟩⟩⟩⟩⟩⟩⟩⟩⟩⟩⟩⟩⟩⟩⟩⟩⟩⟩
theorem t_G_ok (Q : a_Q) (h : t_G Q = true) : a_Good m_F t_Z [] a_P1ok Q := by
  obtain ⟨N, fs, S⟩ := Q
  unfold t_G at h
  dsimp only at h
  split at h
  · rename_i m pc lv
    simp only [Bool.and_eq_true, decide_eq_true_eq] at h
    obtain ⟨⟨⟨⟨⟨h1, h2⟩, h3⟩, h4⟩, h5⟩, h6⟩ := h
    have e1 := Nat.eq_of_beq_eq_true h1
    have e5 := Nat.eq_of_beq_eq_true h5
    subst e1
    subst h3
    subst h4
    have hm : pc ∈ t_tg := List.contains_iff_mem.mp h2
    refine a_rebase (t_all pc hm) e5.symm (fun k x hk => ?_)
    have hk2 : t_W[k]? = some x := hk
    have hlt : k < 139 := by
      have h9 := (List.getElem?_eq_some_iff.mp hk2).1
      have h8 : t_W.length = 139 := by decide +kernel
      omega
    have h7 := List.all_eq_true.mp h6 k (List.mem_range.mpr hlt)
    rw [hk2] at h7
    split at h7
    · rename_i x' y' e1 e2
      cases e2
      rw [e1, a_eqE_ok h7]
    · cases h7
  · cases h
theorem t_six : a_Good m_F t_Z [] a_P1ok t_S := a_ok_good t_G_ok a_one_ok _ _ t_e6
theorem t_five : a_Good m_F [(0, 5, [])] [] a_P1ok t_S := a_ok_good (fun _ h => by cases h) a_one_ok _ _ t_e5
theorem t_run (xs : List Int32) (h : xs.length ≤ 6) : ∃ k σ', m_exec m_F [xs] k 60 1000 0 [(0, .ref m_fzb)] [] [] = some (some (.int 1), σ') ∧ σ'.length ≤ 3000 := by
  have fin : (∃ n o, m_go m_F [xs] n [(1000, 0, [(0, .ref m_fzb)], [])] [] = some o ∧ a_P1ok o.1 o.2) → ∃ k σ', m_exec m_F [xs] k 60 1000 0 [(0, .ref m_fzb)] [] [] = some (some (.int 1), σ') ∧ σ'.length ≤ 3000 := by
    rintro ⟨n, o, h1, h2, h3⟩
    obtain ⟨k, r, σ1, h4, h5⟩ := m_go_exec n n (Nat.le_refl _) 1000 0 [(0, .ref m_fzb)] [] [] [] o h1 (by decide)
    dsimp only at h5
    subst h5
    dsimp only at h2 h3
    subst h2
    exact ⟨k, σ1, h4, h3⟩
  have hfr : ∀ ρ : Nat → Int, a_all2 (a_gf ρ) [(1000, 0, [(0, (2, 1000000, 0))], [])] [(1000, 0, [(0, .ref m_fzb)], [])] := fun ρ => ⟨⟨rfl, rfl, ⟨⟨rfl, rfl⟩, trivial⟩, trivial⟩, trivial⟩
  have hst : ∀ ρ : Nat → Int, a_gS ρ [] (0, []) [] := fun ρ => ⟨rfl, fun k x hk => by cases hk⟩
  have hgn : ∀ ρ : Nat → Int, (∀ i, -2147483648 ≤ ρ i ∧ ρ i ≤ 2147483647) → a_gN t_N ρ := fun ρ hρ i q hq => by
    have h9 := List.mem_of_getElem? hq
    simp only [t_N, List.mem_cons, List.not_mem_nil, or_false, or_self] at h9
    rw [h9]
    exact hρ i
  by_cases h6 : xs.length = 6
  · refine fin (t_six (fun i => (xs.getD (i + 1) 0).toInt) [xs] _ [] ⟨⟨by dsimp only; omega, by dsimp only; omega, fun i v hi hv => ?_⟩, trivial⟩ ⟨hgn _ (fun i => a_i32 _), hfr _, hst _⟩)
    have hl : i < xs.length := by dsimp only at hi; omega
    refine ⟨xs.getD i 0, a_getD hl, ?_⟩
    match i, hi, hv with
    | 0, _, hv => cases hv; exact a_i32 _
    | 1, _, hv => cases hv; rfl
    | 2, _, hv => cases hv; rfl
    | 3, _, hv => cases hv; rfl
    | 4, _, hv => cases hv; rfl
    | 5, _, hv => cases hv; rfl
    | k + 6, hi, _ => dsimp only at hi; omega
  · exact fin (t_five (fun _ => 0) [xs] _ [] ⟨⟨Nat.zero_le _, by dsimp only; omega, fun i v hi _ => by dsimp only at hi; omega⟩, trivial⟩ ⟨hgn _ (fun i => by decide), hfr _, hst _⟩)
end A70

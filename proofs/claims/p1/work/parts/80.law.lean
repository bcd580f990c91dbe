/-! THE CLAIM OUT OF ONE WALK OF THE LAW'S BODY. Your part is whole_start (and what it stands on); all else here is the same for every law, but numbers. -/
def R_law : String := "MotherBenchLaw"
def lw_P (b : Addr) (xs : List Int32) (args : Array Value) (s : State) : Prop := args = #[.ref b] ∧ s.IntsAt b xs ∧ xs.length ≤ 6 ∧ (Jvm.Cond.and given_1 narrow_1).before args s = true
def lw_Q (_ : Array Value) (s : State) (o : Outcome) (t : State) : Prop := o = .returned (some (.int 1)) ∧ Framed s o t [] 600000 7302250
def lw_Z (below : List Frame) (a : Array Value) (s : State) : State → Prop := fun t => ∃ o, t.status = .running ∧ Ended t below o ∧ lw_Q a s o t
/-- the law's own end, with 1 on the stack, nothing written that was there before, its room as the claim has it -/
theorem lw_ret {p : Program} {l : Launch} {e : Env} {s : State} {m : MethodId} {below : List Frame} {meth : Method} {c : Code} {b : Nat} (hx : p.tables.exec = Jvm.exec) (hb : c.code = code) (hr : meth.sig.returnType = ret) (hlocks : meth.locks = false) {pc : Nat} {H : Heap} {ls : Array Slot} (hdg : decode code pc = .ok (.ireturn, 1)) : W p l e room_1 s m #[Value.ref b] below meth c H [] 600000 7302250 (lw_Z below #[Value.ref b] s) (F0 m pc ls [.int 1]) := by
  intro T hT X
  obtain ⟨fs, hret, hrun, hended, hW, hframe⟩ := X.leave (v := some (.int 1)) (hlocks := hlocks) (fun h => by rw [hr] at h; cases h)
  have hmeth' : T.vm.method? m = some meth := X.method'
  refine ⟨T.setFrames fs, ?_, .returned (some (.int 1)), hrun, hended, rfl, ⟨_, rfl⟩, hW, hframe⟩
  jvm_step X.here [X.here.top, hx, hb, hdg, hmeth', hr, ret, narrow_b1]
  (try refine ⟨rfl, ?_⟩); (try refine ⟨rfl, ?_⟩)
  first | (intro acts; rw [hret _ acts rfl rfl rfl]) | rw [hret _ _ rfl rfl rfl]
  exact Steps.refl _
/-- what holds at the law's entry: the machine, the code, the tables' words (any of lw_tbl by 'hts w (by decide +kernel)'), the script of L ints xs at the cell b, what the Statement gives of the start (any of its parts by flat_of_before) -/
def lw_At (p : Program) (s : State) (m : MethodId) (meth : Method) (c : Code) (b L : Nat) (xs : Nat → Int32) : Prop :=
  p.tables.exec = Jvm.exec ∧ c.code = code ∧ meth.sig.returnType = ret ∧ c.maxLocals = 4 ∧ s.vm.findClass R_law = some m.cls ∧ (∀ w ∈ lw_tbl, w.before #[Value.ref b] s = true) ∧ va_X b L xs s s.heap ∧ b < s.heap.size ∧ meth.locks = false ∧ (Jvm.Cond.and given_1 narrow_1).before #[Value.ref b] s = true
theorem m_step_big {fz : List (List Int32)} {I : m_I} {nx pc' : Nat} {lv lv' : m_V} {st st' : List Value} {σ σ' : m_S} (hb : ∀ z ∈ σ, m_es z ≤ 2000) (hs : m_step fz I nx lv st σ = some (.inl (pc', lv', st', σ'))) : ∀ z ∈ σ', m_es z ≤ 2000 := by
  have set1 : ∀ {b : Nat} {x x0 : m_E}, σ[b]? = some x0 → m_es x = m_es x0 → ∀ z ∈ σ.set b x, m_es z ≤ 2000 := by
    intro b x x0 h1 h2 z hz
    rcases List.mem_or_eq_of_mem_set hz with h | h
    · exact hb z h
    · rw [h, h2]
      exact hb _ (List.mem_of_getElem? h1)
  have app1 : ∀ {x : m_E}, m_es x ≤ 2000 → ∀ z ∈ σ ++ [x], m_es z ≤ 2000 := by
    intro x h1 z hz
    rcases List.mem_append.mp hz with h | h
    · exact hb z h
    · rw [List.mem_singleton.mp h]
      exact h1
  obtain ⟨op, a, v, q⟩ := I
  match op, hs with
  | 0, hs => cases hs; exact hb
  | 1, hs => cases hs; exact hb
  | 2, hs => obtain ⟨_, _, _, h⟩ := m_d2 hs; cases h; exact hb
  | 3, hs => obtain ⟨_, _, _, _, h⟩ := m_d3 hs; cases h; exact hb
  | 4, hs => obtain ⟨_, _, h⟩ := m_d4 hs; cases h; exact hb
  | 5, hs => obtain ⟨_, _, _, _, _, _, h⟩ := m_d5 hs; cases h; exact hb
  | 6, hs => obtain ⟨_, _, _, _, _, _, h⟩ := m_d6 hs; cases h; exact hb
  | 7, hs => obtain ⟨_, _, _, _, _, h⟩ := m_d7 hs; cases h; exact hb
  | 8, hs => obtain ⟨_, _, _, _, h⟩ := m_d8 hs; cases h; exact hb
  | 9, hs => obtain ⟨_, _, h⟩ := m_d9 hs; cases h; exact hb
  | 10, hs => cases hs; exact hb
  | 11, hs => obtain ⟨_, _, _, h⟩ := m_d11 hs; cases h; exact hb
  | 12, hs => obtain ⟨_, _, _, _, h⟩ := m_d12 hs; cases h; exact hb
  | 13, hs => obtain ⟨_, _, _, h⟩ := m_d13 hs; cases h; exact hb
  | 14, hs => obtain ⟨_, _, _, h⟩ := m_d14 hs; cases h; exact hb
  | 15, hs => obtain ⟨_, _, _, _, _, _, _, h⟩ := m_d15 hs; cases h; exact hb
  | 16, hs => obtain ⟨_, _, _, _, _, h1, _, _, h⟩ := m_d16 hs; cases h; exact set1 h1 (by simp [m_es])
  | 17, hs => cases hs
  | 18, hs => obtain ⟨_, _, _, _, _, _, h⟩ := m_d18 hs; cases h; exact hb
  | 19, hs =>
    obtain ⟨_, _, _, _, _, _, h1, h⟩ := m_d19 hs
    cases h
    unfold m_ast at h1
    repeat' split at h1
    all_goals first | (cases h1; done) | (cases h1; exact set1 (by assumption) (by simp [m_es]))
  | 20, hs => obtain ⟨_, _, _, _, _, h⟩ := m_d20 hs; cases h; exact hb
  | 21, hs =>
    obtain ⟨_, h⟩ := m_d21 hs
    cases h
    refine app1 ?_
    have e : m_nf a ≤ 2000 := by
      unfold m_nf
      split <;> decide
    simpa [m_es, m_def] using e
  | 22, hs =>
    obtain ⟨x, _, z, _, _, h0, h1, h2, h⟩ := m_d22 hs
    cases h
    refine app1 ?_
    have hx := m_toNC h0 h1
    unfold m_new at h2
    split at h2
    all_goals first | (cases h2; done) | (cases h2; simpa [m_es] using hx)
  | 23, hs => cases hs
  | 24, hs =>
    simp only [m_step] at hs
    repeat' split at hs
    all_goals first | (cases hs; done) | (simp at hs; done)
  | 25, hs => obtain ⟨_, _, _, _, h⟩ := m_d25 hs; cases h; exact hb
  | 26, hs =>
    obtain ⟨_, _, _, _, _, _, _, _, _, _, _, _, h1, h⟩ := m_d26 hs
    cases h
    unfold m_acp at h1
    repeat' split at h1
    all_goals first | (cases h1; done) | (cases h1; exact set1 (by assumption) (by simp [m_es, m_cpy_len]))
  | 27, hs =>
    simp only [m_step] at hs
    repeat' split at hs
    all_goals first | (cases hs; done) | (simp at hs; done)
  | 28, hs => obtain ⟨_, _, _, _, _, _, h⟩ := m_d28 hs; cases h; exact hb
  | _ + 29, hs => cases hs
theorem m_exec_big {F : Nat → Nat → Option (m_I × Nat)} {fz : List (List Int32)} : ∀ (n d mid pc : Nat) (lv : m_V) (st : List Value) (σ : m_S) (r : Option Value) (σ' : m_S), (∀ z ∈ σ, m_es z ≤ 2000) → m_exec F fz n d mid pc lv st σ = some (r, σ') → ∀ z ∈ σ', m_es z ≤ 2000 := by
  intro n
  induction n with
  | zero => intro d mid pc lv st σ r σ' hb h; cases h
  | succ n ih =>
    intro d mid pc lv st σ r σ' hb h
    simp only [m_exec] at h
    split at h
    · cases h
    · rename_i I len hF
      split at h
      · cases h
      · rename_i pc1 lv1 st1 σ1 hs
        exact ih _ _ _ _ _ _ _ _ (m_step_big hb hs) h
      · cases h; exact hb
      · rename_i mid1 as rest hs
        split at h
        · cases h
        · rename_i d1
          split at h
          · split at h
            · cases h
            · rename_i r1 σ1 h1
              exact ih _ _ _ _ _ _ _ _ (ih _ _ _ _ _ _ _ _ hb h1) h
          · cases h
theorem m_sz_le {σ : m_S} (hb : ∀ z ∈ σ, m_es z ≤ 2000) : m_sz σ ≤ 2000 * σ.length := by
  induction σ with
  | nil => exact Nat.le_refl _
  | cons x r ih =>
    have h1 := ih (fun z hz => hb z (List.mem_cons_of_mem _ hz))
    have h2 := hb x List.mem_cons_self
    have e : m_sz (x :: r) = m_es x + m_sz r := by simp [m_sz]
    rw [e, List.length_cons]
    omega
set_option maxHeartbeats 4000000 in
theorem whole_start {p : Program} {e : Env} {s : State} {m : MethodId} {below : List Frame} {meth : Method} {c : Code} (l : Launch) {b L : Nat} {xs : Nat → Int32} (hL : L ≤ 6) (C0 : lw_At p s m meth c b L xs) : W p l e room_1 s m #[Value.ref b] below meth c s.heap [] 0 0 (lw_Z below #[Value.ref b] s) (entryFrame m ([Value.ref b] : List Value).toArray 4) := by
  obtain ⟨hx, hb, hr, hml, hown, hts, hX, hbl, hlocks, hgv⟩ := C0
  have htG : ∀ w ∈ m_G, w.before #[Value.ref b] s = true := fun w hw => hts w (List.mem_filter.mp hw).1
  obtain ⟨c0, iS0, hKn0⟩ := u_known (C := RX0) (T := TX0) (N := 2) (n := 2) htG m_uw_0 (htG _ m_ui_0.1)
  obtain ⟨c1, iS1, hKn1⟩ := u_known (C := RX1) (T := TX1) (N := 17) (n := 17) htG m_uw_1 (htG _ m_ui_1.1)
  obtain ⟨c2, iS2, hKn2⟩ := u_known (C := RX2) (T := TX2) (N := 19) (n := 19) htG m_uw_2 (htG _ m_ui_2.1)
  obtain ⟨c3, iS3, hKn3⟩ := u_known (C := RX3) (T := TX3) (N := 2) (n := 2) htG m_uw_3 (htG _ m_ui_3.1)
  obtain ⟨c4, iS4, hKn4⟩ := u_known (C := RX4) (T := TX4) (N := 2) (n := 2) htG m_uw_4 (htG _ m_ui_4.1)
  obtain ⟨c5, iS5, hKn5⟩ := u_known (C := RX5) (T := TX5) (N := 9) (n := 9) htG m_uw_5 (htG _ m_ui_5.1)
  obtain ⟨c6, iS6, hKn6⟩ := u_known (C := RX6) (T := TX6) (N := 3) (n := 3) htG m_uw_6 (htG _ m_ui_6.1)
  obtain ⟨c7, iS7, hKn7⟩ := u_known (C := RX7) (T := TX7) (N := 5) (n := 5) htG m_uw_7 (htG _ m_ui_7.1)
  obtain ⟨c8, iS8, hKn8⟩ := u_known (C := RX8) (T := TX8) (N := 6) (n := 6) htG m_uw_8 (htG _ m_ui_8.1)
  obtain ⟨c9, iS9, hKn9⟩ := u_known (C := RX9) (T := TX9) (N := 10) (n := 10) htG m_uw_9 (htG _ m_ui_9.1)
  obtain ⟨c10, iS10, hKn10⟩ := u_known (C := RX10) (T := TX10) (N := 43) (n := 43) htG m_uw_10 (htG _ m_ui_10.1)
  obtain ⟨dC, dI, hKc⟩ : ∃ (dC : Nat → ClassId) (dI : Nat → Nat → Nat), ∀ (k : Nat) (q : vw_C), vwCl[k]? = some q → u_Kn s q.1 q.2.1 q.2.2 (dC k) (dI k) := by
    refine ⟨fun k => if k = 0 then c0 else if k = 1 then c1 else if k = 2 then c2 else if k = 3 then c3 else if k = 4 then c4 else if k = 5 then c5 else if k = 6 then c6 else if k = 7 then c7 else if k = 8 then c8 else if k = 9 then c9 else c10, fun k => if k = 0 then iS0 else if k = 1 then iS1 else if k = 2 then iS2 else if k = 3 then iS3 else if k = 4 then iS4 else if k = 5 then iS5 else if k = 6 then iS6 else if k = 7 then iS7 else if k = 8 then iS8 else if k = 9 then iS9 else iS10, ?_⟩
    intro k q hq
    match k, hq with
    | 0, hq => cases hq; exact hKn0
    | 1, hq => cases hq; exact hKn1
    | 2, hq => cases hq; exact hKn2
    | 3, hq => cases hq; exact hKn3
    | 4, hq => cases hq; exact hKn4
    | 5, hq => cases hq; exact hKn5
    | 6, hq => cases hq; exact hKn6
    | 7, hq => cases hq; exact hKn7
    | 8, hq => cases hq; exact hKn8
    | 9, hq => cases hq; exact hKn9
    | 10, hq => cases hq; exact hKn10
    | k + 11, hq => simp [vwCl] at hq
  have harr : ∀ t, ∃ cA : ClassId, t < 5 → ArrOfT s cA (m_ty t) ∧ va_RA s cA (m_ty t) := by
    intro t
    by_cases h4 : t < 4
    · have h1 := htG _ (m_glob_ok.1 t h4)
      obtain ⟨cA, kA, comp, g1, g2, g3⟩ := Cond.arrayClass_spec h1
      refine ⟨cA, fun _ => ⟨fun n z => ⟨fun k h => (by cases h), kA, g2, comp, g3⟩, ?_⟩⟩
      match t, h4, g1 with
      | 0, _, g1 => exact g1
      | 1, _, g1 => exact g1
      | 2, _, g1 => exact g1
      | 3, _, g1 => exact g1
      | _ + 4, h, _ => omega
    · have h1 := hts _ m_ao
      obtain ⟨comp, cA, kA, g1, g2, g3, g4, g5⟩ := Cond.arrayOver_spec h1
      refine ⟨cA, fun h5 => ?_⟩
      have e : t = 4 := by omega
      subst e
      exact ⟨fun n z => ⟨fun k h => (by cases h), kA, g3, comp, g4⟩, kA, comp, g3, g4, g1, g5⟩
  have harr2 := Classical.skolem.mp harr
  obtain ⟨cA, hcA⟩ := harr2
  have hK : va_K (dC, dI) vwCl (m_tys cA) s := by
    refine ⟨hKc, fun k q hq => ?_⟩
    have hk : k < 5 := by
      have h9 := (List.getElem?_eq_some_iff.mp hq).1
      simpa [m_tys] using h9
    rw [m_tys_at cA hk] at hq
    cases hq
    exact hcA k hk
  obtain ⟨ys, hys⟩ : ∃ ys : List Int32, ys = (List.range L).map xs := ⟨_, rfl⟩
  have hyl : ys.length = L := by rw [hys]; simp
  have hyv : ∀ j, j < L → ys.getD j 0 = xs j := fun j hj => by
    rw [hys]
    simp [List.getD, List.getElem?_range hj]
  obtain ⟨k, σ', hex, hlen⟩ := t_run ys (by omega)
  have hbig := m_sz_le (m_exec_big _ _ _ _ _ _ _ _ _ (fun z hz => by cases hz) hex)
  have hFz : m_Fz [ys] (fun _ => b) (fun q : Nat => s.heap.size ≤ q) s := by
    intro j zs hj
    match j, hj with
    | 0, hj =>
      cases hj
      refine ⟨?_, hbl, Nat.not_le.mpr hbl⟩
      obtain ⟨scr, g1, g2, g3, g4, g5⟩ := hX
      exact ⟨scr, g1, g2, g3, by rw [hyl]; exact g4, fun j hj => by
        rw [g5 j (by omega)]
        show some (Value.int (xs j)) = some (Value.int (ys.getD j 0))
        rw [hyv j (by omega)]⟩
    | _ + 1, hj => cases hj
  have hN : m_Nst s := ⟨fun w hw => by
    obtain ⟨a, i, x, q, rfl⟩ := m_nw_form hw
    exact va_Nw.of rfl (hts _ (List.mem_append_right _ (List.mem_filter.mp hw).1)), va_AO.of (hts _ m_ao)⟩
  have K : m_Cx p s m #[Value.ref b] meth c (dC, dI) cA (fun q : Nat => s.heap.size ≤ q) (fun _ => b) 4 code x ret [ys] := ⟨hx, hb, hml, hown, htG, hr, hlocks, fun h9 => absurd h9 (by decide), hK, fun _ h => h, hFz, hN⟩
  have hW := m_sim m_F_ok m_lk_all m_cls_ok m_glob_ok m_1000 k 60 1000 0 [(0, .ref m_fzb)] [] [] (some (.int 1)) σ' hex p l e room_1 s m #[Value.ref b] below meth c (lw_Z below #[Value.ref b] s) (dC, dI) cA (fun q : Nat => s.heap.size ≤ q) (fun _ => b) 0 0 4 code x ret rfl K (Nat.zero_le _) (Nat.zero_le _) (by simp only [room_1]; omega) (by simp only [room_1]; omega) (by decide) (by decide) ?_
  · have hl := lv_entry ([.ref b]) (n := 4) (Nat.le_of_ble_eq_true rfl)
    rw [lg_entry_eq]
    have hP0 : va_P (dC, dI) vwCl (m_w cA (fun _ => b) []) s.heap := fun k q h => by simp [m_w] at h
    have hD0 : va_D (fun q : Nat => s.heap.size ≤ q) (m_w cA (fun _ => b) []) := ⟨fun i j p q h => by simp [m_w] at h, fun k q h => by simp [m_w] at h⟩
    exact hW (fun _ => b) s.heap [] _ m_ext.rf hP0 hD0 va_S.rf hl
  · intro ad H locs ls pc he hP hD hS hrt
    have hdec : decode code pc = .ok (.ireturn, 1) := by
      rcases hrt with ⟨x, -, -, h⟩ | ⟨x, -, -, -, h⟩ | ⟨x, h, -⟩ | ⟨h, -⟩
      · exact h
      · exact h
      · cases h
      · cases h
    refine va_forget (fun q hq => hS.2.2 q hq) ?_
    refine W.widen (k := 600000) (n := 7302250) (by omega) (by omega) ?_
    exact lw_ret hx hb hr hlocks hdec

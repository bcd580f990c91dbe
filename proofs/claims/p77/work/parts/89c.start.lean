set_option maxHeartbeats 4000000 in
theorem whole_start {p : Program} {e : Env} {s : State} {m : MethodId} {below : List Frame} {meth : Method} {c : Code} (l : Launch) {b L : Nat} {xs : Nat → Int32} (hL : L ≤ 3072) (C0 : lw_At p s m meth c b L xs) : W p l e room_1 s m #[Value.ref b] below meth c s.heap [] 0 0 (lw_Z below #[Value.ref b] s) (entryFrame m ([Value.ref b] : List Value).toArray 4) := by
  obtain ⟨hx, hb, hr, hml, hown, hts, hX, hbl, hlocks, hgv⟩ := C0
  have htG : ∀ w ∈ m_G, w.before #[Value.ref b] s = true := fun w hw => hts w (List.mem_filter.mp hw).1
  obtain ⟨c0, iS0, hKn0⟩ := u_known (C := RX0) (T := TX0) (N := 2) (n := 2) htG m_uw_0 (htG _ m_ui_0.1)
  obtain ⟨c1, iS1, hKn1⟩ := u_known (C := RX1) (T := TX1) (N := 17) (n := 17) htG m_uw_1 (htG _ m_ui_1.1)
  obtain ⟨c2, iS2, hKn2⟩ := u_known (C := RX2) (T := TX2) (N := 19) (n := 19) htG m_uw_2 (htG _ m_ui_2.1)
  obtain ⟨c3, iS3, hKn3⟩ := u_known (C := RX3) (T := TX3) (N := 2) (n := 2) htG m_uw_3 (htG _ m_ui_3.1)
  obtain ⟨c4, iS4, hKn4⟩ := u_known (C := RX4) (T := TX4) (N := 2) (n := 2) htG m_uw_4 (htG _ m_ui_4.1)
  obtain ⟨c5, iS5, hKn5⟩ := u_known (C := RX5) (T := TX5) (N := 9) (n := 9) htG m_uw_5 (htG _ m_ui_5.1)
  obtain ⟨c6, iS6, hKn6⟩ := u_known (C := RX6) (T := TX6) (N := 3) (n := 3) htG m_uw_6 (htG _ m_ui_6.1)
  obtain ⟨c7, iS7, hKn7⟩ := u_known (C := RX7) (T := TX7) (N := 5) (n := 5) htG m_uw_7 (htG _ m_ui_7.1)
  obtain ⟨c8, iS8, hKn8⟩ := u_known (C := RX8) (T := TX8) (N := 6) (n := 6) htG m_uw_8 (htG _ m_ui_8.1)
  obtain ⟨c9, iS9, hKn9⟩ := u_known (C := RX9) (T := TX9) (N := 10) (n := 10) htG m_uw_9 (htG _ m_ui_9.1)
  obtain ⟨c10, iS10, hKn10⟩ := u_known (C := RX10) (T := TX10) (N := 43) (n := 43) htG m_uw_10 (htG _ m_ui_10.1)
  obtain ⟨dC, dI, hKc⟩ : ∃ (dC : Nat → ClassId) (dI : Nat → Nat → Nat), ∀ (k : Nat) (q : vw_C), vwCl[k]? = some q → u_Kn s q.1 q.2.1 q.2.2 (dC k) (dI k) := by
    refine ⟨fun k => if k = 0 then c0 else if k = 1 then c1 else if k = 2 then c2 else if k = 3 then c3 else if k = 4 then c4 else if k = 5 then c5 else if k = 6 then c6 else if k = 7 then c7 else if k = 8 then c8 else if k = 9 then c9 else c10, fun k => if k = 0 then iS0 else if k = 1 then iS1 else if k = 2 then iS2 else if k = 3 then iS3 else if k = 4 then iS4 else if k = 5 then iS5 else if k = 6 then iS6 else if k = 7 then iS7 else if k = 8 then iS8 else if k = 9 then iS9 else iS10, ?_⟩
    intro k q hq
    match k, hq with
    | 0, hq => cases hq; exact hKn0
    | 1, hq => cases hq; exact hKn1
    | 2, hq => cases hq; exact hKn2
    | 3, hq => cases hq; exact hKn3
    | 4, hq => cases hq; exact hKn4
    | 5, hq => cases hq; exact hKn5
    | 6, hq => cases hq; exact hKn6
    | 7, hq => cases hq; exact hKn7
    | 8, hq => cases hq; exact hKn8
    | 9, hq => cases hq; exact hKn9
    | 10, hq => cases hq; exact hKn10
    | k + 11, hq => simp [vwCl] at hq
  have harr : ∀ t, ∃ cA : ClassId, t < 5 → ArrOfT s cA (m_ty t) ∧ va_RA s cA (m_ty t) := by
    intro t
    by_cases h4 : t < 4
    · have h1 := htG _ (m_glob_ok.1 t h4)
      obtain ⟨cA, kA, comp, g1, g2, g3⟩ := Cond.arrayClass_spec h1
      refine ⟨cA, fun _ => ⟨fun n z => ⟨fun k h => (by cases h), kA, g2, comp, g3⟩, ?_⟩⟩
      match t, h4, g1 with
      | 0, _, g1 => exact g1
      | 1, _, g1 => exact g1
      | 2, _, g1 => exact g1
      | 3, _, g1 => exact g1
      | _ + 4, h, _ => omega
    · have h1 := hts _ m_ao
      obtain ⟨comp, cA, kA, g1, g2, g3, g4, g5⟩ := Cond.arrayOver_spec h1
      refine ⟨cA, fun h5 => ?_⟩
      have e : t = 4 := by omega
      subst e
      exact ⟨fun n z => ⟨fun k h => (by cases h), kA, g3, comp, g4⟩, kA, comp, g3, g4, g1, g5⟩
  have harr2 := Classical.skolem.mp harr
  obtain ⟨cA, hcA⟩ := harr2
  have hK : va_K (dC, dI) vwCl (m_tys cA) s := by
    refine ⟨hKc, fun k q hq => ?_⟩
    have hk : k < 5 := by
      have h9 := (List.getElem?_eq_some_iff.mp hq).1
      simpa [m_tys] using h9
    rw [m_tys_at cA hk] at hq
    cases hq
    exact hcA k hk
  obtain ⟨ys, hys⟩ : ∃ ys : List Int32, ys = (List.range L).map xs := ⟨_, rfl⟩
  have hyl : ys.length = L := by rw [hys]; simp
  have hyv : ∀ j, j < L → ys.getD j 0 = xs j := fun j hj => by
    rw [hys]
    simp [List.getD, List.getElem?_range hj]
  obtain ⟨k, σ', hex, hlen⟩ := t_run ys (by omega)
  have hbig := m_sz_le (m_exec_big _ _ _ _ _ _ _ _ _ (fun z hz => by cases hz) hex)
  obtain ⟨ad0, had, hFz⟩ := x_Fz0 hts hgv hX hbl hyl hyv
  have hN : m_Nst s := ⟨fun w hw => by
    obtain ⟨a, i, x, q, rfl⟩ := m_nw_form hw
    exact va_Nw.of rfl (hts _ (List.mem_append_right _ (List.mem_filter.mp hw).1)), va_AO.of (hts _ m_ao)⟩
  have K : m_Cx p s m #[Value.ref b] meth c (dC, dI) cA (fun q : Nat => s.heap.size ≤ q) ad0 4 code x ret (ys :: x_Zl) := ⟨hx, hb, hml, hown, htG, hr, hlocks, fun h9 => absurd h9 (by decide), hK, fun _ h => h, hFz, hN⟩
  have hW := m_sim x_F_ok m_lk_all m_cls_ok m_glob_ok m_1000 k 60 1000 0 [(0, .ref m_fzb)] [] [] (some (.int 1)) σ' hex p l e room_1 s m #[Value.ref b] below meth c (lw_Z below #[Value.ref b] s) (dC, dI) cA (fun q : Nat => s.heap.size ≤ q) ad0 0 0 4 code x ret rfl K (Nat.zero_le _) (Nat.zero_le _) (by simp only [room_1]; omega) (by simp only [room_1]; omega) (by decide) (by decide) ?_
  · have hl := lv_entry ([.ref b]) (n := 4) (Nat.le_of_ble_eq_true rfl)
    rw [lg_entry_eq]
    have hP0 : va_P (dC, dI) vwCl (m_w cA ad0 []) s.heap := fun k q h => by simp [m_w] at h
    have hD0 : va_D (fun q : Nat => s.heap.size ≤ q) (m_w cA ad0 []) := ⟨fun i j p q h => by simp [m_w] at h, fun k q h => by simp [m_w] at h⟩
    refine hW ad0 s.heap [] _ m_ext.rf hP0 hD0 va_S.rf ?_
    have e9 : m_tl ad0 [(0, .ref m_fzb)] = [(0, .ref b)] := by
      show [(0, Value.ref (ad0 m_fzb))] = _
      rw [had]
    rw [e9]
    exact hl
  · intro ad H locs ls pc he hP hD hS hrt
    have hdec : decode code pc = .ok (.ireturn, 1) := by
      rcases hrt with ⟨x, -, -, h⟩ | ⟨x, -, -, -, h⟩ | ⟨x, h, -⟩ | ⟨h, -⟩
      · exact h
      · exact h
      · cases h
      · cases h
    refine va_forget (fun q hq => hS.2.2 q hq) ?_
    refine W.widen (k := 600000) (n := 7302250) (by omega) (by omega) ?_
    exact lw_ret hx hb hr hlocks hdec

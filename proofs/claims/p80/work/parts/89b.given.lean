/-! WHAT THE START GIVES of texts, FACTORIALS and the JDK's statics -/
def x_tm (i : Nat) : Term := .string "MotherBench$Reader" (x_sx.getD i (0, "")).1
def x_val (i : Nat) : Term := .field (x_tm i) "java/lang/String" "value" "[B"
def x_fac : Term := .static "MotherBench$Trial" "FACTORIALS" "[I"
def x_fl : List Cond := flatC (Jvm.Cond.and given_1 narrow_1)
theorem x_q1 : ∀ i, i < 12 → Cond.exactly (x_tm i) "java/lang/String" ∈ x_fl := by decide +kernel
theorem x_q2 : ∀ i, i < 12 → Cond.eq (.field (x_tm i) "java/lang/String" "coder" "B") (.int 0) ∈ x_fl := by decide +kernel
theorem x_q3 : ∀ i, i < 12 → Cond.arrayOf (x_val i) .byte ∈ x_fl := by decide +kernel
theorem x_q4 : ∀ i, i < 12 → Cond.eq (.length (x_val i)) (.int (Int32.ofNat (x_len.getD i 0))) ∈ x_fl := by decide +kernel
theorem x_q5 : ∀ i, i < 12 → ∀ j, j < x_len.getD i 0 → Cond.eq (.elem (x_val i) (.int (Int32.ofNat j))) (.int ((x_byt.getD i []).getD j 0)) ∈ x_fl := by decide +kernel
theorem x_q6 : ∀ i, i < 12 → ∀ j, j < 12 → i ≠ j → (Cond.not (Cond.eq (x_tm i) (x_tm j)) ∈ x_fl ∨ Cond.not (Cond.eq (x_tm j) (x_tm i)) ∈ x_fl) := by decide +kernel
theorem x_q7 : ∀ j, j < 8 → Cond.eq (.elem x_fac (.int (Int32.ofNat j))) (.int (x_z_1.getD j 0)) ∈ x_fl := by decide +kernel
theorem x_q8 : Cond.arrayOf x_fac .int ∈ x_fl ∧ Cond.eq (.length x_fac) (.int 8) ∈ x_fl ∧ Cond.eq (.static "java/lang/String" "COMPACT_STRINGS" "Z") (.int 1) ∈ x_fl ∧ Cond.isRef (.static "jdk/internal/util/Preconditions" "SIOOBE_FORMATTER" "Ljava/util/function/BiFunction;") ∈ x_fl := by decide +kernel
def x_sxw : List Nat := [3051, 3058, 3063, 2223, 3044, 3049, 3050, 3056, 3057, 3068, 3069, 3070]
theorem x_q9 : ∀ n, n < 12 → m_wd (x_sxw.getD n 0) = some (Jvm.Cond.stringRef "MotherBench$Reader" (x_sx.getD n (0, "")).1 (x_sx.getD n (0, "")).2) := by decide +kernel
theorem x_Fz0 {s : State} {b L : Nat} {xs : Nat → Int32} {ys : List Int32} (hts : ∀ w ∈ lw_tbl, w.before #[Value.ref b] s = true) (hgv : (Jvm.Cond.and given_1 narrow_1).before #[Value.ref b] s = true) (hX : va_X b L xs s s.heap) (hbl : b < s.heap.size) (hyl : ys.length = L) (hyv : ∀ j, j < L → ys.getD j 0 = xs j) :
    ∃ ad0 : Nat → Nat, ad0 m_fzb = b ∧ m_Fz (ys :: x_Zl) ad0 (fun q : Nat => s.heap.size ≤ q) s := by
  have hs : ∀ w ∈ x_fl, w.before #[Value.ref b] s = true := flat_of_before _ hgv
  have hA : ∀ a : Nat, a < s.heap.size → ¬ (fun q : Nat => s.heap.size ≤ q) a := fun a h => Nat.not_le.mpr h
  obtain ⟨t, ht, hT⟩ := va_Tof (tm := x_fac) (ty := .int) (N := 8) (f := fun j => .int (x_z_1.getD j 0)) (A := fun q : Nat => s.heap.size ≤ q) (by decide) (hs _ x_q8.1) (va_eqt (hs _ x_q8.2.1)) (fun j hj => va_eqt (hs _ (x_q7 j hj))) hA
  have hZ := va_Zref (A := fun q : Nat => s.heap.size ≤ q) (hts _ (m_wd_in (q := 5151) (w := .laysStatic "MotherBench$Trial" "FACTORIALS" "[I") (by decide +kernel))) (hts _ (m_wd_in (q := 1006) (w := .initialized "MotherBench$Trial") (by decide +kernel))) ht hA
  have hC := va_Zof (A := fun q : Nat => s.heap.size ≤ q) (hts _ (m_wd_in (q := 3001) (w := .laysStatic "java/lang/String" "COMPACT_STRINGS" "Z") (by decide +kernel))) (hts _ (m_wd_in (q := 1014) (w := .initialized "java/lang/String") (by decide +kernel))) (va_eqt (hs _ x_q8.2.2.1)) hA
  have hI := va_Zqof (A := fun q : Nat => s.heap.size ≤ q) (hts _ (m_wd_in (q := 3017) (w := .laysStatic "jdk/internal/util/Preconditions" "SIOOBE_FORMATTER" "Ljava/util/function/BiFunction;") (by decide +kernel))) (hts _ (m_wd_in (q := 1016) (w := .initialized "jdk/internal/util/Preconditions") (by decide +kernel))) (hs _ x_q8.2.2.2) hA
  obtain ⟨adK, adV, hK, hE⟩ := vk_Sof (args := #[Value.ref b]) (s := s) (N := 12) (tm := x_tm) (len := x_len) (byt := x_byt) (A := fun q : Nat => s.heap.size ≤ q) (by decide +kernel) (fun i hi => hs _ (x_q1 i hi)) (fun i hi => hs _ (x_q2 i hi)) (fun i hi => hs _ (x_q3 i hi)) (fun i hi => hs _ (x_q4 i hi)) (fun i hi j hj => hs _ (x_q5 i hi j hj)) (fun i j hi hj hne => (x_q6 i hi j hj hne).imp (hs _) (hs _)) hA
  refine ⟨fun k => if k = m_fzb then b else if k = m_fzb + 1 then t else adK (k - (m_fzb + 2)), if_pos rfl, ?_⟩
  have e1 : (fun k => if k = m_fzb then b else if k = m_fzb + 1 then t else adK (k - (m_fzb + 2))) (m_fzb + 1) = t := by
    dsimp only
    rw [if_neg (by omega), if_pos rfl]
  have e2 : ∀ i, (fun k => if k = m_fzb then b else if k = m_fzb + 1 then t else adK (k - (m_fzb + 2))) (m_fzb + 2 + i) = adK i := by
    intro i
    dsimp only
    rw [if_neg (by omega), if_neg (by omega), Nat.add_sub_cancel_left]
  refine ⟨fun zs hzs => ?_, rfl, ⟨adV, ?_⟩, fun n k tx h => ?_, ?_, ?_⟩
  · cases hzs
    have e0 : (fun k => if k = m_fzb then b else if k = m_fzb + 1 then t else adK (k - (m_fzb + 2))) m_fzb = b := if_pos rfl
    rw [e0]
    refine ⟨?_, hbl, Nat.not_le.mpr hbl⟩
    obtain ⟨scr, g1, g2, g3, g4, g5⟩ := hX
    exact ⟨scr, g1, g2, g3, by rw [hyl]; exact g4, fun j hj => by
      rw [g5 j (by omega)]
      show some (Value.int (xs j)) = some (Value.int (ys.getD j 0))
      rw [hyv j (by omega)]⟩
  · have e3 : (fun i => (fun k => if k = m_fzb then b else if k = m_fzb + 1 then t else adK (k - (m_fzb + 2))) (m_fzb + 2 + i)) = adK := funext e2
    rw [e3]
    exact ⟨hK, hC, hI⟩
  · have hn : n < 12 := (List.getElem?_eq_some_iff.mp h).1
    have e4 : x_sx.getD n (0, "") = (k, tx) := by simp [List.getD, h]
    have h1 := hts _ (m_wd_in (x_q9 n hn))
    have h2 := hE n hn
    unfold x_tm at h2
    rw [e4] at h1 h2
    rw [e2 n]
    exact vk_R.of h1 h2
  · rw [e1]
    exact hZ
  · rw [e1]
    exact hT

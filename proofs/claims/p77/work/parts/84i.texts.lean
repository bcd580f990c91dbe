/-! TEXTS, Math and FACTORIALS in the small machine -/
section M84i
variable {p : Program} {l : Launch} {e : Env} {R : Room} {s : State} {m : MethodId} {args : Array Value} {below : List Frame} {meth : Method} {c : Code} {Q : State → Prop} {D : va_G} {cA : Nat → ClassId} {A : Nat → Prop} {ad0 : Nat → Nat} {n0 z0 nL : Nat} {cc : ByteArray} {fz : List (List Int32)} {y : MethodName} {r : Option FieldType}
variable {pc pc' len : Nat} {lv lv' : m_V} {st st' : List Value} {σ σ' : m_S} {ins : Instr} {I : m_I}
set_option maxHeartbeats 4000000 in
theorem m_txt (K : m_Cx p s m args meth c D cA A ad0 nL cc y r fz) (hlk : m_lkAll) (hd : decode cc pc = .ok (ins, len)) (ht : m_tri y nL r pc ins len = some I) (hI : I.1 = 41) (hs : m_step fz I (pc + len) lv st σ = some (.inl (pc', lv', st', σ'))) (k : m_WW p l e R s m args below meth c Q D cA A ad0 n0 z0 nL pc' lv' st' σ') : m_WW p l e R s m args below meth c Q D cA A ad0 n0 z0 nL pc lv st σ := by
  obtain ⟨hx, hb, hml, hown, hts, hr, hlocks, hnm, hK, hA, hFz, hN⟩ := K
  cases ins with
  | ldc i =>
    simp only [m_tri] at ht
    split at ht
    · obtain ⟨-, rfl⟩ := m_if ht
      dsimp only at hI
      omega
    · rename_i j v w h1
      obtain ⟨⟨rfl, hj⟩, rfl⟩ := m_if ht
      cases hs
      rcases hlk _ _ _ h1 with ⟨h3, -⟩ | ⟨n, tx, h3, h4, h5⟩
      · dsimp only at h3
        omega
      · dsimp only at h3
        subst h3
        intro ad H locs ls he hP hD hS hl
        have h6 := hFz.2.2.2.1 n i tx h5
        rw [← h4] at h6
        refine va_ldcS hx hb hown h6 hd ?_
        have h7 := k ad H locs ls he hP hD hS hl
        rw [List.map_cons] at h7
        have h8 : m_tv ad (.ref (m_fzb + (n + 2))) = .ref (ad0 (m_fzb + 2 + n)) := by
          show Value.ref _ = _
          rw [he.2 _ (by omega)]
          congr 2
          omega
        rw [h8] at h7
        exact h7
    · cases ht
  | getstatic i =>
    simp only [m_tri] at ht
    split at ht
    · rename_i j v w h1
      obtain ⟨⟨rfl, rfl⟩, rfl⟩ := m_if ht
      cases hs
      rcases hlk _ _ _ h1 with ⟨-, h3⟩ | ⟨n, tx, h3, h4, h5⟩
      · intro ad H locs ls he hP hD hS hl
        refine va_gets hx hb hFz.2.2.2.2.1 hS hown (hts _ h3) (fun _ h => h) hd ?_
        have h7 := k ad H locs ls he hP hD hS hl
        rw [List.map_cons] at h7
        have h8 : m_tv ad (.ref (m_fzb + 1)) = .ref (ad0 (m_fzb + 1)) := by
          show Value.ref _ = _
          rw [he.2 _ (by omega)]
        rw [h8] at h7
        exact h7
      · dsimp only at h3
        omega
    · cases ht
  | _ =>
    simp only [m_tri] at ht
    repeat' split at ht
    all_goals first | (cases ht; done) | (obtain ⟨-, rfl⟩ := m_if ht; dsimp only at hI; omega) | (cases ht; dsimp only at hI; omega)
theorem m_cat8 {ad : Nat → Nat} {t : List Value} {n : Nat} (h : (t.map fun v => v.category).sum ≤ n) : ((t.map (m_tv ad)).map fun v => v.category).sum ≤ n := by
  simpa [List.map_map, Function.comp_def, m_tv_cat] using h
set_option maxHeartbeats 4000000 in
theorem m_math (K : m_Cx p s m args meth c D cA A ad0 nL cc y r fz) (hlk : m_lkAll) (hRf : 1 ≤ R.frames) (hRl : 100 ≤ R.locals) (hRc : σ.length - n0 ≤ R.cells) (hRs : m_sz σ - z0 ≤ R.slots) (hd : decode cc pc = .ok (ins, len)) (ht : m_tri y nL r pc ins len = some I) (hI : I.1 = 40) (hs : m_step fz I (pc + len) lv st σ = some (.inl (pc', lv', st', σ'))) (k : m_WW p l e R s m args below meth c Q D cA A ad0 n0 z0 nL pc' lv' st' σ') : m_WW p l e R s m args below meth c Q D cA A ad0 n0 z0 nL pc lv st σ := by
  obtain ⟨hx, hb, hml, hown, hts, hr, hlocks, hnm, hK, hA, hFz, hN⟩ := K
  cases ins with
  | invokestatic i =>
    simp only [m_tri] at ht
    split at ht
    · obtain ⟨-, rfl⟩ := m_if ht
      dsimp only at hI
      omega
    · obtain ⟨-, rfl⟩ := m_if ht
      dsimp only at hI
      omega
    · rename_i a v w h1
      obtain ⟨rfl, rfl⟩ := m_if ht
      have hl1 := hts _ (hlk _ _ _ h1)
      have hin := hts _ (m_inG (i := 1013) (w := .initialized "java/lang/Math") (by decide +kernel) rfl)
      obtain ⟨h0, h2⟩ := m_d40 hs
      rcases h2 with ⟨rfl, x, z, t, rfl, h3⟩ | ⟨rfl, x, z, t, rfl, h3⟩ | ⟨rfl, z, t, rfl, h3⟩ | ⟨rfl, x, z, t, rfl, h3⟩
      · cases h3
        intro ad H locs ls he hP hD hS hl
        have h4 := m_cat8 (ad := ad) h0
        simp only [List.map_cons, List.sum_cons] at h4
        exact va_mmax hx hb (hml.trans hl.1.symm) hown hl1 (hts _ (m_inG (i := 3121) (by decide +kernel) rfl)) hin (hts _ (m_inG (i := 3122) (by decide +kernel) rfl)) hRf (by omega) hRc hRs hd (k ad H locs ls he hP hD hS hl)
      · cases h3
        intro ad H locs ls he hP hD hS hl
        have h4 := m_cat8 (ad := ad) h0
        simp only [List.map_cons, List.sum_cons] at h4
        exact va_mmin hx hb (hml.trans hl.1.symm) hown hl1 (hts _ (m_inG (i := 2213) (by decide +kernel) rfl)) hin (hts _ (m_inG (i := 2214) (by decide +kernel) rfl)) hRf (by omega) hRc hRs hd (k ad H locs ls he hP hD hS hl)
      · cases h3
        intro ad H locs ls he hP hD hS hl
        have h4 := m_cat8 (ad := ad) h0
        simp only [List.map_cons, List.sum_cons] at h4
        exact va_mabs_long hx hb (hml.trans hl.1.symm) hown hl1 (hts _ (m_inG (i := 5158) (by decide +kernel) rfl)) hin (hts _ (m_inG (i := 5159) (by decide +kernel) rfl)) hRf (by omega) hRc hRs hd (k ad H locs ls he hP hD hS hl)
      · cases h3
        intro ad H locs ls he hP hD hS hl
        have h4 := m_cat8 (ad := ad) h0
        simp only [List.map_cons, List.sum_cons] at h4
        exact va_mmax_long hx hb (hml.trans hl.1.symm) hown hl1 (hts _ (m_inG (i := 5165) (by decide +kernel) rfl)) hin (hts _ (m_inG (i := 5166) (by decide +kernel) rfl)) hRf (by omega) hRc hRs hd (k ad H locs ls he hP hD hS hl)
    · cases ht
  | _ =>
    simp only [m_tri] at ht
    repeat' split at ht
    all_goals first | (cases ht; done) | (obtain ⟨-, rfl⟩ := m_if ht; dsimp only at hI; omega) | (cases ht; dsimp only at hI; omega)
theorem m_row (hF : fz.drop 1 = x_z_1 :: x_byt) {b : Nat} {xs : List Int32} (hb : m_fzb + 2 ≤ b) (h : fz[b - m_fzb]? = some xs) : ∃ n, n < 12 ∧ b = m_fzb + 2 + n ∧ xs = x_byt.getD n [] := by
  have h1 : (fz.drop 1)[b - m_fzb - 2 + 1]? = some xs := by
    rw [List.getElem?_drop]
    have : 1 + (b - m_fzb - 2 + 1) = b - m_fzb := by omega
    rw [this]
    exact h
  rw [hF, List.getElem?_cons_succ] at h1
  have h2 := (List.getElem?_eq_some_iff.mp h1).1
  have h3 : x_byt.length = 12 := rfl
  refine ⟨b - m_fzb - 2, by omega, by omega, ?_⟩
  simp [List.getD, h1]
theorem m_ofN {i : Int32} {n : Nat} (h : m_in i n = true) : i = Int32.ofNat i.toNatClampNeg ∧ i.toNatClampNeg < n := by
  refine ⟨?_, m_in_lt h⟩
  simp only [m_in, decide_eq_true_eq] at h
  have h2 : (i.toNatClampNeg : Int) = i.toInt := Int.toNat_of_nonneg h.1
  have h3 : Int32.ofNat i.toNatClampNeg = Int32.ofInt (i.toNatClampNeg : Int) := rfl
  rw [h3, h2, Int32.ofInt_toInt]
set_option maxHeartbeats 4000000 in
theorem m_text (K : m_Cx p s m args meth c D cA A ad0 nL cc y r fz) (hlk : m_lkAll) (hRf : 4 ≤ R.frames) (hRl : 100 ≤ R.locals) (hRc : σ.length - n0 ≤ R.cells) (hRs : m_sz σ - z0 ≤ R.slots) (hd : decode cc pc = .ok (ins, len)) (ht : m_tri y nL r pc ins len = some I) (hI : I.1 = 43 ∨ (I.1 = 20 ∧ I.2.1 = 1)) (hs : m_step fz I (pc + len) lv st σ = some (.inl (pc', lv', st', σ'))) (k : m_WW p l e R s m args below meth c Q D cA A ad0 n0 z0 nL pc' lv' st' σ') : m_WW p l e R s m args below meth c Q D cA A ad0 n0 z0 nL pc lv st σ := by
  obtain ⟨hx, hb, hml, hown, hts, hr, hlocks, hnm, hK, hA, ⟨hFz, hF0, ⟨adV, hT⟩, hR, hZ, hV⟩, hN⟩ := K
  have hfix : CallFix p m c cc nL s args m_G y.cls := ⟨hx, hb, hml, hown, hts⟩
  have hin := hts _ (m_inG (i := 1014) (w := .initialized "java/lang/String") (by decide +kernel) rfl)
  have hpre : ∀ {H : Heap} {locs : List Loc}, va_S A s.heap H locs → ∀ (av : List Value) (U : State), U.heap = H → s.WarmedH U.vm → x_Pt av (fun i => ad0 (m_fzb + 2 + i)) adV av.toArray U := by
    intro H locs hS av U hU hW
    refine ⟨rfl, ?_⟩
    show x_Tx x_no (fun i => ad0 (m_fzb + 2 + i)) adV U U.heap
    rw [hU]
    exact (((hT.kept hS.2.1)).moved hW.alike).narrow (fun _ h => h.elim)
  cases ins with
  | invokevirtual i =>
    simp only [m_tri] at ht
    split at ht
    · obtain ⟨-, rfl⟩ := m_if ht
      dsimp only at hI
      omega
    · rename_i a v w h1
      obtain ⟨rfl, rfl⟩ := m_if ht
      obtain ⟨b, t, n, rfl, h0, h2, h3⟩ := m_d20 hs
      cases h3
      unfold m_lok at h0
      simp only [Bool.or_eq_true, Bool.and_eq_true] at h0
      obtain ⟨hb2, hcat⟩ : m_fzb + 2 ≤ b ∧ (t.map fun v => v.category).sum ≤ 8 := by
        rcases h0 with h0 | h0
        · exact absurd h0.1 (by decide)
        · exact ⟨Nat.le_of_ble_eq_true h0.2.1, Nat.le_of_ble_eq_true h0.2.2⟩
      unfold m_len at h2
      rw [if_pos (by omega)] at h2
      obtain ⟨xs, hxs, rfl⟩ := Option.map_eq_some_iff.mp h2
      obtain ⟨j, hj, rfl, rfl⟩ := m_row hF0 hb2 hxs
      intro ad H locs ls he hP hD hS hl
      have hlk1 := hts _ (hlk _ _ _ h1)
      have hiv := hts _ (m_inG (i := 2233) (w := .instanceMethod x_yLen) (by decide +kernel) rfl)
      have hse := hts _ (m_inG (i := 2234) (w := .selects "java/lang/String" x_yLen x_yLen) (by decide +kernel) rfl)
      have hstk : ((Value.ref (m_fzb + 2 + j)) :: t).map (m_tv ad) = ([] : List Value).reverse ++ .ref (ad0 (m_fzb + 2 + j)) :: t.map (m_tv ad) := by
        show Value.ref (ad (m_fzb + 2 + j)) :: _ = _
        rw [he.2 _ (by omega)]
        rfl
      have hroom : 2 * (F0 m pc ls (((Value.ref (m_fzb + 2 + j)) :: t).map (m_tv ad))).monitorRoom + ((t.map (m_tv ad)).map fun v => v.category).sum ≤ 8 := lv_room (m_cat8 hcat)
      refine x_cs (v := some (.int (Int32.ofNat (x_len.getD j 0)))) (va_runV (As := []) hfix (x_mLen l j hj (fun i => ad0 (m_fzb + 2 + i)) adV) ⟨callB_of 0 hts (m_goodG x_wLen) rfl rfl rfl hin hlk1 ⟨by decide, by decide, by decide +kernel⟩ ⟨(show 1 + 1 ≤ R.frames by omega), (show 8 + (1 + 11) + 20 ≤ R.locals by omega)⟩, hiv, hse⟩ ⟨x_blind, vk_recv hT.1 hj hS, hpre hS [.ref (ad0 (m_fzb + 2 + j))]⟩ rfl rfl hl.1 hstk hroom hd ⟨hRc, hRs⟩) ?_
      have h7 := k ad H locs ls he hP hD hS hl
      rw [(x_lens j hj).1]
      exact h7
    · rename_i a v w h1
      obtain ⟨rfl, rfl⟩ := m_if ht
      obtain ⟨z, b, t, xs, rfl, hb2, hcat, hxs, hz, h3⟩ := m_d43 hs
      cases h3
      obtain ⟨j, hj, rfl, rfl⟩ := m_row hF0 hb2 hxs
      obtain ⟨hz1, hz2⟩ := m_ofN hz
      intro ad H locs ls he hP hD hS hl
      have hlk1 := hts _ (hlk _ _ _ h1)
      have hiv := hts _ (m_inG (i := 3003) (w := .instanceMethod x_yCha) (by decide +kernel) rfl)
      have hse := hts _ (m_inG (i := 3004) (w := .selects "java/lang/String" x_yCha x_yCha) (by decide +kernel) rfl)
      have hstk : ((Value.int z) :: (Value.ref (m_fzb + 2 + j)) :: t).map (m_tv ad) = ([.int (Int32.ofNat z.toNatClampNeg)] : List Value).reverse ++ .ref (ad0 (m_fzb + 2 + j)) :: t.map (m_tv ad) := by
        rw [← hz1]
        show Value.int z :: Value.ref (ad (m_fzb + 2 + j)) :: _ = _
        rw [he.2 _ (by omega)]
        rfl
      have hroom : 2 * (F0 m pc ls (((Value.int z) :: (Value.ref (m_fzb + 2 + j)) :: t).map (m_tv ad))).monitorRoom + ((t.map (m_tv ad)).map fun v => v.category).sum ≤ 8 := lv_room (m_cat8 hcat)
      refine x_cs (v := some (.int ((x_byt.getD j []).getD z.toNatClampNeg 0))) (va_runV (As := [.int (Int32.ofNat z.toNatClampNeg)]) hfix (x_mCha l j z.toNatClampNeg hj hz2 (fun i => ad0 (m_fzb + 2 + i)) adV) ⟨callB_of 1 hts (m_goodG x_wCha) rfl rfl rfl hin hlk1 ⟨by decide, by decide, by decide +kernel⟩ ⟨(show 3 + 1 ≤ R.frames by omega), (show 8 + (2 + 11) + 64 ≤ R.locals by omega)⟩, hiv, hse⟩ ⟨x_blind, vk_recv hT.1 hj hS, hpre hS [.ref (ad0 (m_fzb + 2 + j)), .int (Int32.ofNat z.toNatClampNeg)]⟩ rfl rfl hl.1 hstk hroom hd ⟨hRc, hRs⟩) ?_
      exact k ad H locs ls he hP hD hS hl
    · cases ht
  | _ =>
    simp only [m_tri] at ht
    repeat' split at ht
    all_goals first | (cases ht; done) | (obtain ⟨-, rfl⟩ := m_if ht; dsimp only at hI; omega) | (cases ht; dsimp only at hI; omega)
end M84i

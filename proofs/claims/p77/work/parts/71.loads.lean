/-! frozen rows; lengths -/
section B71
variable {T : Nat → Option b_C} {Z : Nat → Option (List Int32)} {G : b_G} {fz : List (List Int32)} {Wr : Nat → Nat → Bool} {ρ : Nat → Int} {W : b_NF} {M : b_M} {cl : m_V} {cs : List Value} {σ : m_S} {lv : b_Lv} {st : List b_V} {L : List b_R} {nx : Nat}
theorem b_len500 (hZ : b_ZOk Z G fz) (hM : b_gM G fz W.1.1 ρ σ M) {l : b_V} (h : b_look 500 (b_con 0) M = some l) : ∃ xs, fz[0]? = some xs ∧ xs.length < 2147483648 ∧ b_gx W.1.1 ρ l.2 (xs.length : Int) := by
  obtain ⟨a, -, g2⟩ := hM _ (b_look_mem h)
  dsimp only at g2
  rw [if_neg (by decide), if_pos (by decide)] at g2
  obtain ⟨xs, k1, k2, k3⟩ := hZ.1
  rw [k3] at g2
  exact ⟨xs, k1, k2, g2.2⟩
theorem b_sld_ok {x : b_L} {r : List b_V} {t : List Value} {z : Int32} (hZ : b_ZOk Z G fz) (hW : b_gW W ρ) (hM : b_gM G fz W.1.1 ρ σ M) (hx : b_gx W.1.1 ρ x z.toInt) (hf : b_gf W.1.1 ρ lv r cl t) (h : b_sld W M x nx lv r = some L) :
    ∃ w, m_ald fz 0 z m_fzb σ = some w ∧ ∃ q ∈ L, ∃ ρ', b_ext W ρ q.1 ρ' ∧ q.2.2.1 = nx ∧ b_gM G fz q.1.1.1 ρ' σ q.2.1 ∧ b_gf q.1.1.1 ρ' q.2.2.2.1 q.2.2.2.2 cl (w :: t) := by
  unfold b_sld at h
  split at h
  · rename_i l hl
    obtain ⟨xs, k1, k2, k3⟩ := b_len500 hZ hM hl
    cases e : b_ge W x 0 && b_le W (b_add x (-1) l.2) (-1) with
    | true =>
      rw [e] at h
      rw [Bool.and_eq_true] at e
      simp only [cond_true] at h
      have g1 := b_ge_ok hW e.1
      have g2 := b_le_ok hW e.2
      rw [(hx.add (-1) k3).1] at g2
      rw [hx.1] at g1
      obtain ⟨i, hi⟩ : ∃ i : Nat, z.toInt = (i : Int) := ⟨z.toInt.toNat, by omega⟩
      have hlt : i < xs.length := by omega
      obtain ⟨y, hy⟩ : ∃ y, xs[i]? = some y := ⟨xs[i], List.getElem?_eq_getElem hlt⟩
      have hm : m_ald fz 0 z m_fzb σ = some (.int y) := by
        unfold m_ald
        rw [if_pos (Nat.le_refl _), Nat.sub_self, k1]
        dsimp only
        rw [if_pos ⟨⟨rfl, b_in hi hlt⟩, Nat.lt_add_of_pos_right (by decide)⟩, b_nc hi]
        simp [List.getD, hy]
      obtain ⟨h1, h2, h3, h4⟩ := hf
      refine ⟨.int y, hm, ?_⟩
      split at h
      · rename_i v hv
        cases e2 : Nat.beq v.1 0 with
        | true =>
          rw [e2] at h
          cases h
          obtain ⟨a, q1, q2⟩ := hM _ (b_look_mem hv)
          dsimp only at q1 q2
          rw [if_neg (by decide), if_neg (by decide)] at q2
          obtain ⟨j, p1, zs, y', p2, p3, p4⟩ := q2
          rw [Nat.sub_self, k1] at p2
          cases p2
          have hij : j = i := by
            have := q1.1.symm.trans hx.1
            omega
          subst hij
          rw [hy] at p3
          cases p3
          exact ⟨_, List.mem_singleton.mpr rfl, ρ, b_ext.rf hW, rfl, hM, h1, ⟨p4, h2⟩, h3, b_okm rfl h4⟩
        | false => rw [e2] at h; cases h
      · cases h
        obtain ⟨ρ', he, hy2⟩ := b_f32_ok hW y
        refine ⟨_, List.mem_singleton.mpr rfl, ρ', he, rfl, ?_, h1.up he, ⟨hy2, b_all2.up he h2⟩, h3, b_okm rfl h4⟩
        intro q hq
        rcases List.mem_cons.mp hq with rfl | hq
        · refine ⟨z.toInt, hx.up he, ?_⟩
          dsimp only
          rw [if_neg (by decide), if_neg (by decide)]
          exact ⟨i, hi, xs, y, by rw [Nat.sub_self]; exact k1, hy, hy2⟩
        · exact (hM q hq).up he
    | false => rw [e] at h; cases h
  · cases h
theorem b_zld_ok {x : b_L} {r : List b_V} {t : List Value} {z : Int32} {k : Nat} (hZ : b_ZOk Z G fz) (hW : b_gW W ρ) (hM : b_gM G fz W.1.1 ρ σ M) (hk : m_fzb < k) (hk2 : k < m_fzb + 2) (hx : b_gx W.1.1 ρ x z.toInt) (hf : b_gf W.1.1 ρ lv r cl t) (h : b_zld Z W M x (k - m_fzb) nx lv r = some L) :
    ∃ w, m_ald fz 0 z k σ = some w ∧ ∃ q ∈ L, ∃ ρ', b_ext W ρ q.1 ρ' ∧ q.2.2.1 = nx ∧ b_gM G fz q.1.1.1 ρ' σ q.2.1 ∧ b_gf q.1.1.1 ρ' q.2.2.2.1 q.2.2.2.2 cl (w :: t) := by
  unfold b_zld at h
  split at h
  · rename_i zs a b hz ha hb
    cases e : decide (a = b) && decide (0 ≤ a) with
    | true =>
      rw [e] at h
      simp only [Bool.and_eq_true, decide_eq_true_eq] at e
      simp only [cond_true] at h
      split at h
      · rename_i y hy
        cases h
        have g1 := b_lo_ok hW.1 ha
        have g2 := b_hi_ok hW.1 hb
        rw [hx.1] at g1 g2
        have hi : z.toInt = (a.toNat : Int) := by omega
        have hlt := (List.getElem?_eq_some_iff.mp hy).1
        have hfz := hZ.2 _ zs hz (by omega)
        obtain ⟨h1, h2, h3, h4⟩ := hf
        refine ⟨.int y, ?_, _, List.mem_singleton.mpr rfl, ρ, b_ext.rf hW, rfl, hM, h1, ⟨b_gx.con y.toInt, h2⟩, h3, b_okm rfl h4⟩
        unfold m_ald
        rw [if_pos (Nat.le_of_lt hk), hfz]
        dsimp only
        rw [if_pos ⟨⟨rfl, b_in hi hlt⟩, hk2⟩, b_nc hi]
        simp [List.getD, hy]
      · cases h
    | false => rw [e] at h; cases h
  · cases h
theorem b_h18_ok {a : Nat} {v : Int} {q : List Nat} (hZ : b_ZOk Z G fz) (hW : b_gW W ρ) (hH : b_gH T σ) (hM : b_gM G fz W.1.1 ρ σ M) (hf : b_gf W.1.1 ρ lv st cl cs) (h : b_h18 T Z W M a nx lv st = some L) : b_Step T G fz Wr (18, a, v, q) nx W ρ cl cs σ L := by
  unfold b_h18 at h
  split at h
  · rename_i i b r
    split at h
    · rename_i W1 x hn
      obtain ⟨h1, h2, h3, h4⟩ := hf
      obtain ⟨wi, t1, rfl, g1, g2⟩ := b_cons h2
      obtain ⟨wb, t, rfl, g3, g4⟩ := b_cons g2
      obtain ⟨z, rfl, ρ1, q1, q2⟩ := b_num_ok hW g1 hn
      have hf1 : b_gf W1.1.1 ρ1 lv r cl t := ⟨h1.up q1, b_all2.up q1 g4, h3, (b_okc (b_okc h4).2).2⟩
      have fin : ∀ {k : Nat}, wb = .ref k → (∃ w, m_ald fz a z k σ = some w ∧ ∃ q ∈ L, ∃ ρ', b_ext W1 ρ1 q.1 ρ' ∧ q.2.2.1 = nx ∧ b_gM G fz q.1.1.1 ρ' σ q.2.1 ∧ b_gf q.1.1.1 ρ' q.2.2.2.1 q.2.2.2.2 cl (w :: t)) → b_Step T G fz Wr (18, a, v, q) nx W ρ cl (.int z :: wb :: t) σ L := by
        rintro k rfl ⟨w, k1, p, k2, ρ', k3, k4, k5, k6⟩
        refine ⟨nx, cl, w :: t, σ, ?_, b_frame.rf, p, k2, ρ', q1.tr k3, k4, hH, k5, k6⟩
        simp only [m_step, k1, Option.map_some]
      cases e : b_rf b with
      | true =>
        rw [e] at h
        simp only [cond_true] at h
        obtain ⟨k, hk, k2, k3⟩ := b_rf_ok e g3
        rw [k2] at h
        dsimp only at h
        rw [Int.toNat_natCast] at h
        exact fin hk (b_ald_ok q1.2.2 hH (hM.up q1) k3 q2 hf1 h)
      | false =>
        rw [e] at h
        simp only [cond_false] at h
        cases e2 : Nat.beq b.1 2 && Nat.beq a 0 with
        | true =>
          rw [e2] at h
          rw [Bool.and_eq_true] at e2
          simp only [cond_true] at h
          obtain ⟨k, hk, k2⟩ := b_r2 e2.1 g3
          have ha := Nat.eq_of_beq_eq_true e2.2
          subst ha
          rw [k2] at h
          dsimp only at h
          rw [Int.toNat_natCast] at h
          cases e3 : decide ((k : Int) = 1000000) with
          | true =>
            rw [e3] at h
            have e3 := of_decide_eq_true e3
            have hk2 : k = m_fzb := by unfold m_fzb; omega
            subst hk2
            exact fin hk (b_sld_ok hZ q1.2.2 (hM.up q1) q2 hf1 h)
          | false =>
            rw [e3] at h
            simp only [cond_false] at h
            cases e4 : decide ((k : Int) = 1000001) with
            | true =>
              rw [e4] at h
              have e4 := of_decide_eq_true e4
              exact fin hk (b_zld_ok hZ q1.2.2 (hM.up q1) (by unfold m_fzb; omega) (by unfold m_fzb; omega) q2 hf1 h)
            | false => rw [e4] at h; cases h
        | false => rw [e2] at h; cases h
    · cases h
  · cases h
theorem b_h43_ok {a : Nat} {v : Int} {q : List Nat} (hZ : b_ZOk Z G fz) (hW : b_gW W ρ) (hH : b_gH T σ) (hM : b_gM G fz W.1.1 ρ σ M) (hf : b_gf W.1.1 ρ lv st cl cs) (h : b_h43 Z W M nx lv st = some L) : b_Step T G fz Wr (43, a, v, q) nx W ρ cl cs σ L := by
  unfold b_h43 at h
  split at h
  · rename_i i b r
    split at h
    · rename_i W1 x hn
      obtain ⟨h1, h2, h3, h4⟩ := hf
      obtain ⟨wi, t1, rfl, g1, g2⟩ := b_cons h2
      obtain ⟨wb, t, rfl, g3, g4⟩ := b_cons g2
      obtain ⟨z, rfl, ρ1, q1, q2⟩ := b_num_ok hW g1 hn
      cases e : Nat.beq b.1 2 && (decide (1000001 < b.2.1) && Nat.ble (b_cats r) 8) with
      | true =>
        rw [e] at h
        simp only [Bool.and_eq_true, decide_eq_true_eq] at e
        simp only [cond_true] at h
        obtain ⟨k, rfl, k2⟩ := b_r2 e.1 g3
        have hcs : (t.map fun v => v.category).sum ≤ 8 := by rw [← b_cats_ok g4]; exact Nat.le_of_ble_eq_true e.2.2
        rw [k2] at h e
        dsimp only at h e
        rw [Int.toNat_natCast] at h
        split at h
        · rename_i zs hz
          cases e2 : b_inb W1 x zs.length with
          | true =>
            rw [e2] at h
            cases h
            obtain ⟨j, p1, p2⟩ := b_inb_ok q1.2.2 e2
            rw [q2.1] at p1
            have hk : m_fzb < k := by unfold m_fzb; omega
            have hfz := hZ.2 _ zs hz (by omega)
            obtain ⟨ρ2, k3, k4⟩ := b_f32_ok q1.2.2 (zs.getD z.toNatClampNeg 0)
            have he := q1.tr k3
            refine b_pure hH hM (pc' := nx) (cl' := cl) (cs' := .int (zs.getD z.toNatClampNeg 0) :: t) ?_ he (List.mem_singleton.mpr rfl) ⟨h1.up he, ⟨k4, b_all2.up he g4⟩, h3, b_okm rfl (b_okc (b_okc h4).2).2⟩
            simp only [m_step]
            rw [if_pos ⟨(show m_fzb + 2 ≤ k by have := e.2.1; unfold m_fzb; omega), hcs⟩, hfz]
            dsimp only
            rw [if_pos (b_in p1 p2)]
          | false => rw [e2] at h; cases h
        · cases h
      | false => rw [e] at h; cases h
    · cases h
  · cases h
theorem b_of32 {n : Nat} (h : n < 2147483648) : (Int32.ofNat n).toInt = (n : Int) := by
  have : Int32.ofNat n = Int32.ofInt (n : Int) := rfl
  rw [this, Int32.toInt_ofInt]
  exact a_bm (by omega) (by omega)
theorem b_h20_ok {a : Nat} {v : Int} {q : List Nat} (hZ : b_ZOk Z G fz) (hW : b_gW W ρ) (hH : b_gH T σ) (hM : b_gM G fz W.1.1 ρ σ M) (hf : b_gf W.1.1 ρ lv st cl cs) (h : b_h20 T Z W M a nx lv st = some L) : b_Step T G fz Wr (20, a, v, q) nx W ρ cl cs σ L := by
  unfold b_h20 at h
  split at h
  · rename_i b r
    obtain ⟨h1, h2, h3, h4⟩ := hf
    obtain ⟨wb, t, rfl, g3, g4⟩ := b_cons h2
    have fin : ∀ {k m : Nat} {y : b_L}, wb = .ref k → m_lok a k t = true → m_len fz k σ = some m → m < 2147483648 → b_gx W.1.1 ρ y (m : Int) → L = [(W, M, nx, lv, (0, y) :: r)] → b_Step T G fz Wr (20, a, v, q) nx W ρ cl (wb :: t) σ L := by
      rintro k m y rfl k0 k1 k2 k3 rfl
      refine b_pure hH hM (pc' := nx) (cl' := cl) (cs' := .int (Int32.ofNat m) :: t) ?_ (b_ext.rf hW) (List.mem_singleton.mpr rfl) ⟨h1, ⟨?_, g4⟩, h3, b_okm rfl (b_okc h4).2⟩
      · simp only [m_step, k1, Option.map_some]
        rw [if_pos k0]
      · show b_gx W.1.1 ρ y (Int32.ofNat m).toInt
        rw [b_of32 k2]
        exact k3
    cases e : b_rf b && Nat.beq a 0 with
    | true =>
      rw [e] at h
      rw [Bool.and_eq_true] at e
      simp only [cond_true] at h
      obtain ⟨k, hk, k2, k3⟩ := b_rf_ok e.1 g3
      have hlo : m_lok a k t = true := by
        unfold m_lok
        rw [e.2, Nat.blt_eq.mpr (show k < m_fzb + 2 by unfold m_fzb; omega)]
        rfl
      rw [k2] at h
      dsimp only at h
      rw [Int.toNat_natCast] at h
      split at h
      · rename_i c hT
        cases e2 : Nat.beq c.1 1 && Nat.ble c.2.2.1 100000 with
        | true =>
          rw [e2] at h
          rw [Bool.and_eq_true] at e2
          simp only [cond_true, Option.some.injEq] at h
          have e0 := Nat.eq_of_beq_eq_true e2.1
          have e1 : c.2.2.1 ≤ 100000 := Nat.le_of_ble_eq_true e2.2
          obtain ⟨c', k6, z, k7, k8, -⟩ := hH.2 k k3
          rw [hT] at k6
          cases k6
          refine fin (m := c.2.2.1) hk hlo ?_ (by omega) (b_gx.con _) h.symm
          unfold m_len
          rw [if_neg (by unfold m_fzb; omega), k7]
          unfold b_sh at k8
          match z, k8 with
          | .inr _, k8 => exact absurd (e0.symm.trans k8.1) (by decide)
          | .inl (tt, .inl xs), k8 => dsimp only; rw [if_pos k8.2.2.1, k8.2.2.2]
          | .inl (tt, .inr (.inl xs)), k8 => dsimp only; rw [if_pos k8.2.2.1, k8.2.2.2]
          | .inl (tt, .inr (.inr xs)), k8 => dsimp only; rw [if_pos k8.2.2.1, k8.2.2.2]
        | false => rw [e2] at h; cases h
      · cases h
    | false =>
      rw [e] at h
      simp only [cond_false] at h
      cases e2 : Nat.beq b.1 2 && (decide (b.2.1 = 1000000) && Nat.beq a 0) with
      | true =>
        rw [e2] at h
        simp only [Bool.and_eq_true, decide_eq_true_eq] at e2
        simp only [cond_true] at h
        split at h
        · rename_i l hl
          simp only [Option.some.injEq] at h
          obtain ⟨k, hk, k2⟩ := b_r2 e2.1 g3
          rw [k2] at e2
          dsimp only at e2
          have hk2 : k = m_fzb := by unfold m_fzb; omega
          subst hk2
          obtain ⟨xs, p1, p2, p3⟩ := b_len500 hZ hM hl
          refine fin (m := xs.length) hk (by unfold m_lok; rw [e2.2.2, Nat.blt_eq.mpr (Nat.lt_add_of_pos_right (by decide))]; rfl) ?_ p2 p3 h.symm
          unfold m_len
          rw [if_pos (Nat.le_refl _), Nat.sub_self, p1]
          rfl
        · cases h
      | false =>
        rw [e2] at h
        simp only [cond_false] at h
        cases e3 : Nat.beq b.1 2 && (decide (1000001 < b.2.1) && (Nat.beq a 1 && Nat.ble (b_cats r) 8)) with
        | true =>
          rw [e3] at h
          simp only [Bool.and_eq_true, decide_eq_true_eq] at e3
          simp only [cond_true] at h
          obtain ⟨k, hk, k2⟩ := b_r2 e3.1 g3
          rw [k2] at h e3
          dsimp only at h e3
          rw [Int.toNat_natCast] at h
          split at h
          · rename_i zs hz
            cases e4 : Nat.ble zs.length 100000 with
            | true =>
              rw [e4] at h
              simp only [cond_true, Option.some.injEq] at h
              have e4 : zs.length ≤ 100000 := Nat.le_of_ble_eq_true e4
              have hkf : m_fzb < k := by unfold m_fzb; omega
              refine fin (m := zs.length) hk (by
                unfold m_lok
                rw [e3.2.2.1, Nat.ble_eq.mpr (show m_fzb + 2 ≤ k by have := e3.2.1; unfold m_fzb; omega), ← b_cats_ok g4, e3.2.2.2]
                simp) ?_ (by omega) (b_gx.con _) h.symm
              unfold m_len
              rw [if_pos (Nat.le_of_lt hkf), hZ.2 _ zs hz (by omega)]
              rfl
            | false => rw [e4] at h; cases h
          · cases h
        | false => rw [e3] at h; cases h
  · cases h
end B71

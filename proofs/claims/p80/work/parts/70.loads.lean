/-! THE OPERATIONS that read the heap; frozen rows: the script (0), and rows whose numbers are known (Z) -/
def b_rf (v : b_V) : Bool := Nat.beq v.1 2 && (decide (0 ≤ v.2.1) && decide (v.2.1 < 139))
noncomputable def b_h15 (T : Nat → Option b_C) (W : b_NF) (M : b_M) (a : Nat) (v : Int) (nx : Nat) (lv : b_Lv) (st : List b_V) : b_H := match st with
  | b :: r => bif b_rf b && decide (0 ≤ v) then (match T b.2.1.toNat with
      | some c => bif Nat.beq c.1 0 && Nat.beq c.2.1 a then (match b_get T W M b.2.1.toNat (b_con v) with
        | some U => some [(U.1, U.2.1, nx, lv, U.2.2 :: r)]
        | none => none) else none
      | none => none) else none
  | [] => none
def b_kd (a t : Nat) : Bool := match a with
  | 0 => Nat.beq t 0
  | 1 => Nat.beq t 1 || Nat.beq t 2
  | 2 => Nat.beq t 3
  | 3 => Nat.beq t 4
  | _ => false
noncomputable def b_rows (W : b_NF) (M : b_M) (x : b_L) (nx : Nat) (lv : b_Lv) (r : List b_V) : Int → List b_T → List b_R
  | _, [] => []
  | j, t :: ts => (b_learn W 0 (b_adc x (-j))).map (fun U => (U, M, nx, lv, (2, (t.2.1, [])) :: r)) ++ b_rows W M x nx lv r (j + 1) ts
noncomputable def b_ald (T : Nat → Option b_C) (W : b_NF) (M : b_M) (a : Nat) (x : b_L) (cell : Nat) (nx : Nat) (lv : b_Lv) (r : List b_V) : b_H := match T cell with
  | some c => bif Nat.beq c.1 1 && b_kd a c.2.1 then (bif Nat.beq a 3 then (bif Nat.beq c.2.2.1 c.2.2.2.1 && Nat.beq c.2.2.2.2.length c.2.2.1 && b_inb W x c.2.2.1 && c.2.2.2.2.all (fun t => Nat.beq t.1 2) then some (b_rows W M x nx lv r 0 c.2.2.2.2) else none)
      else match b_get T W M cell x with
      | some U => bif Nat.ble U.2.2.1 1 then some [(U.1, U.2.1, nx, lv, U.2.2 :: r)] else none
      | none => none) else none
  | none => none
/-- the script's length stands at place 0 of ghost 500 -/
noncomputable def b_sld (W : b_NF) (M : b_M) (x : b_L) (nx : Nat) (lv : b_Lv) (r : List b_V) : b_H := match b_look 500 (b_con 0) M with
  | some l => bif b_ge W x 0 && b_le W (b_add x (-1) l.2) (-1) then (match b_look m_fzb x M with
      | some v => bif Nat.beq v.1 0 then some [(W, M, nx, lv, v :: r)] else none
      | none => some [((b_f32 W).1, (m_fzb, x, (0, (b_f32 W).2)) :: M, nx, lv, (0, (b_f32 W).2) :: r)]) else none
  | none => none
noncomputable def b_zld (Z : Nat → Option (List Int32)) (W : b_NF) (M : b_M) (x : b_L) (j : Nat) (nx : Nat) (lv : b_Lv) (r : List b_V) : b_H := match Z j, b_lo W.1 x, b_hi W.1 x with
  | some zs, some a, some b => bif decide (a = b) && decide (0 ≤ a) then (match zs[a.toNat]? with
      | some z => some [(W, M, nx, lv, (0, b_con z.toInt) :: r)]
      | none => none) else none
  | _, _, _ => none
noncomputable def b_h18 (T : Nat → Option b_C) (Z : Nat → Option (List Int32)) (W : b_NF) (M : b_M) (a : Nat) (nx : Nat) (lv : b_Lv) (st : List b_V) : b_H := match st with
  | i :: b :: r => match b_num W i with
    | some (W1, x) => bif b_rf b then b_ald T W1 M a x b.2.1.toNat nx lv r else bif Nat.beq b.1 2 && Nat.beq a 0 then (bif decide (b.2.1 = 1000000) then b_sld W1 M x nx lv r else bif decide (b.2.1 = 1000001) then b_zld Z W1 M x (b.2.1.toNat - m_fzb) nx lv r else none) else none
    | none => none
  | _ => none
noncomputable def b_h43 (Z : Nat → Option (List Int32)) (W : b_NF) (M : b_M) (nx : Nat) (lv : b_Lv) (st : List b_V) : b_H := match st with
  | i :: b :: r => match b_num W i with
    | some (W1, x) => bif Nat.beq b.1 2 && (decide (1000001 < b.2.1) && Nat.ble (b_cats r) 8) then (match Z (b.2.1.toNat - m_fzb) with
        | some zs => bif b_inb W1 x zs.length then some [((b_f32 W1).1, M, nx, lv, (0, (b_f32 W1).2) :: r)] else none
        | none => none) else none
    | none => none
  | _ => none
def b_h20 (T : Nat → Option b_C) (Z : Nat → Option (List Int32)) (W : b_NF) (M : b_M) (a : Nat) (nx : Nat) (lv : b_Lv) (st : List b_V) : b_H := match st with
  | b :: r => bif b_rf b && Nat.beq a 0 then (match T b.2.1.toNat with
      | some c => bif Nat.beq c.1 1 && Nat.ble c.2.2.1 100000 then some [(W, M, nx, lv, (0, b_con (c.2.2.1 : Int)) :: r)] else none
      | none => none) else bif Nat.beq b.1 2 && (decide (b.2.1 = 1000000) && Nat.beq a 0) then (match b_look 500 (b_con 0) M with
        | some l => some [(W, M, nx, lv, (0, l.2) :: r)]
        | none => none) else bif Nat.beq b.1 2 && (decide (1000001 < b.2.1) && (Nat.beq a 1 && Nat.ble (b_cats r) 8)) then (match Z (b.2.1.toNat - m_fzb) with
        | some zs => bif Nat.ble zs.length 100000 then some [(W, M, nx, lv, (0, b_con (zs.length : Int)) :: r)] else none
        | none => none) else none
  | [] => none
/-- what the frozen rows are -/
def b_ZOk (Z : Nat → Option (List Int32)) (G : b_G) (fz : List (List Int32)) : Prop := (∃ xs, fz[0]? = some xs ∧ xs.length < 2147483648 ∧ ∀ σ a, G 500 σ a = (xs.length : Int)) ∧ ∀ j zs, Z j = some zs → 0 < j → fz[j]? = some zs
section B70
variable {T : Nat → Option b_C} {Z : Nat → Option (List Int32)} {G : b_G} {fz : List (List Int32)} {Wr : Nat → Nat → Bool} {ρ : Nat → Int} {W : b_NF} {M : b_M} {cl : m_V} {cs : List Value} {σ : m_S} {lv : b_Lv} {st : List b_V} {L : List b_R} {nx : Nat}
theorem b_rf_ok {n : Nat} {v : b_V} {w : Value} (h : b_rf v = true) (hv : b_gv n ρ v w) : ∃ k : Nat, w = .ref k ∧ v.2 = ((k : Int), []) ∧ k < 139 := by
  unfold b_rf at h
  simp only [Bool.and_eq_true, decide_eq_true_eq] at h
  obtain ⟨t, x⟩ := v
  have e := Nat.eq_of_beq_eq_true h.1
  dsimp only at e
  subst e
  unfold b_gv at hv
  split at hv
  · rename_i e; cases e
  · rename_i e; cases e
  · rename_i k e
    dsimp only at hv
    rw [hv] at h
    exact ⟨k, rfl, hv, by have := h.2.2; dsimp only at this; omega⟩
  · rename_i e; cases e
  · exact hv.elim
theorem b_r2 {n : Nat} {v : b_V} {w : Value} (h : Nat.beq v.1 2 = true) (hv : b_gv n ρ v w) : ∃ k : Nat, w = .ref k ∧ v.2 = ((k : Int), []) := by
  obtain ⟨t, x⟩ := v
  have e := Nat.eq_of_beq_eq_true h
  dsimp only at e
  subst e
  unfold b_gv at hv
  split at hv
  · rename_i e; cases e
  · rename_i e; cases e
  · rename_i k e; exact ⟨k, rfl, hv⟩
  · rename_i e; cases e
  · exact hv.elim
theorem b_rd_lt {c : b_C} {z : m_E} {k i : Nat} {w : Value} (hz : σ[k]? = some z) (hs : b_sh c z) (h : b_rd σ k i = some w) : i < c.2.2.1 := by
  unfold b_rd at h
  rw [hz] at h
  unfold b_sh at hs
  match z, hs, h with
  | .inr (a, fs), hs, h => rw [← hs.2.2]; exact (List.getElem?_eq_some_iff.mp h).1
  | .inl (t, .inl xs), hs, h =>
    obtain ⟨u, h1, -⟩ := Option.map_eq_some_iff.mp h
    rw [← hs.2.2.2]; exact (List.getElem?_eq_some_iff.mp h1).1
  | .inl (t, .inr (.inl xs)), hs, h =>
    obtain ⟨u, h1, -⟩ := Option.map_eq_some_iff.mp h
    rw [← hs.2.2.2]; exact (List.getElem?_eq_some_iff.mp h1).1
  | .inl (t, .inr (.inr xs)), hs, h =>
    obtain ⟨u, h1, -⟩ := Option.map_eq_some_iff.mp h
    rw [← hs.2.2.2]; exact (List.getElem?_eq_some_iff.mp h1).1
theorem b_gt_ok {t : b_T} {w : Value} (h : b_gt t w) : m_okv 139 w = true := by
  obtain ⟨a, q⟩ := t
  unfold b_gt at h
  split at h
  · rfl
  · rfl
  · simp only [m_okv, Bool.or_eq_true, decide_eq_true_eq]; exact Or.inl h.2
  · exact h.elim
theorem b_rd_ok {k i : Nat} {w : Value} (hH : b_gH T σ) (hk : k < 139) (h : b_rd σ k i = some w) : m_okv 139 w = true := by
  obtain ⟨c, -, z, h1, h2, -, h3⟩ := hH.2 k hk
  obtain ⟨t, w', -, g1, g2⟩ := h3 i (b_rd_lt h1 h2 h)
  rw [h] at g1
  cases g1
  exact b_gt_ok g2
theorem b_h15_ok {a : Nat} {v : Int} {q : List Nat} (hW : b_gW W ρ) (hH : b_gH T σ) (hM : b_gM G fz W.1.1 ρ σ M) (hf : b_gf W.1.1 ρ lv st cl cs) (h : b_h15 T W M a v nx lv st = some L) : b_Step T G fz Wr (15, a, v, q) nx W ρ cl cs σ L := by
  unfold b_h15 at h
  split at h
  · rename_i b r
    cases e : b_rf b && decide (0 ≤ v) with
    | true =>
      rw [e] at h
      simp only [Bool.and_eq_true, decide_eq_true_eq] at e
      simp only [cond_true] at h
      split at h
      · rename_i c hT
        cases e2 : Nat.beq c.1 0 && Nat.beq c.2.1 a with
        | true =>
          rw [e2] at h
          rw [Bool.and_eq_true] at e2
          simp only [cond_true] at h
          split at h
          · rename_i U hU
            cases h
            obtain ⟨h1, h2, h3, h4⟩ := hf
            obtain ⟨w0, t, rfl, g1, g2⟩ := b_cons h2
            obtain ⟨k, rfl, g3, g4⟩ := b_rf_ok e.1 g1
            rw [g3] at hT hU
            dsimp only at hT hU
            rw [Int.toNat_natCast] at hT hU
            obtain ⟨U1, U2, U3⟩ := U
            obtain ⟨ρ', i, w, k1, k2, k3, k4, k5⟩ := b_get_ok hW hH hM g4 (b_gx.con v) hU
            obtain ⟨c', k6, z, k7, k8, -⟩ := hH.2 k g4
            rw [hT] at k6
            cases k6
            have e0 := Nat.eq_of_beq_eq_true e2.1
            have e1 := Nat.eq_of_beq_eq_true e2.2
            have hi : i = v.toNat := by omega
            subst hi
            refine ⟨nx, cl, w :: t, σ, ?_, b_frame.rf, _, List.mem_singleton.mpr rfl, ρ', k1, rfl, hH, k2, h1.up k1, ⟨k5, b_all2.up k1 g2⟩, h3, b_okm (b_rd_ok hH g4 k4) (b_okc h4).2⟩
            unfold b_sh at k8
            match z, k8, k7 with
            | .inr (ci, fs), k8, k7 =>
              have k9 : fs[v.toNat]? = some w := by unfold b_rd at k4; rw [k7] at k4; exact k4
              simp only [m_step, k7, k9]
              rw [if_pos (by rw [← k8.2.1, e1])]
            | .inl (_, .inl _), k8, _ => exact absurd (e0.symm.trans k8.1) (by decide)
            | .inl (_, .inr (.inl _)), k8, _ => exact absurd (e0.symm.trans k8.1) (by decide)
            | .inl (_, .inr (.inr _)), k8, _ => exact absurd (e0.symm.trans k8.1) (by decide)
          · cases h
        | false => rw [e2] at h; cases h
      · cases h
    | false => rw [e] at h; cases h
  · cases h
theorem b_rows_ok {x : b_L} {r : List b_V} {a : Int} (hW : b_gW W ρ) (hx : b_gx W.1.1 ρ x a) : ∀ (l : List b_T) (j : Int) (t : b_T), j ≤ a → l[(a - j).toNat]? = some t → ∃ U, (U, M, nx, lv, (2, (t.2.1, [])) :: r) ∈ b_rows W M x nx lv r j l ∧ b_gW U ρ ∧ U.1.1 = W.1.1
  | [], _, _, _, h => by simp at h
  | u :: l, j, t, hj, h => by
    unfold b_rows
    by_cases e : a = j
    · have : (a - j).toNat = 0 := by omega
      rw [this] at h
      cases h
      obtain ⟨U, g1, g2, g3⟩ := b_learn_ok hW (k := 0) (hx.adc (-j)) (by show a + -j = 0; omega)
      exact ⟨U, List.mem_append_left _ (List.mem_map.mpr ⟨U, g1, rfl⟩), g2, g3⟩
    · have : (a - j).toNat = (a - (j + 1)).toNat + 1 := by omega
      rw [this, List.getElem?_cons_succ] at h
      obtain ⟨U, g1, g2⟩ := b_rows_ok hW hx l (j + 1) t (by omega) h
      exact ⟨U, List.mem_append_right _ g1, g2⟩
theorem b_nc {z : Int32} {i : Nat} (h : z.toInt = (i : Int)) : z.toNatClampNeg = i := by
  unfold Int32.toNatClampNeg
  rw [h]
  rfl
theorem b_in {z : Int32} {i n : Nat} (h : z.toInt = (i : Int)) (hi : i < n) : m_in z n = true := by
  unfold m_in
  simp only [decide_eq_true_eq]
  omega
theorem b_ald_ok {a k : Nat} {x : b_L} {r : List b_V} {t : List Value} {z : Int32} (hW : b_gW W ρ) (hH : b_gH T σ) (hM : b_gM G fz W.1.1 ρ σ M) (hk : k < 139) (hx : b_gx W.1.1 ρ x z.toInt) (hf : b_gf W.1.1 ρ lv r cl t) (h : b_ald T W M a x k nx lv r = some L) :
    ∃ w, m_ald fz a z k σ = some w ∧ ∃ q ∈ L, ∃ ρ', b_ext W ρ q.1 ρ' ∧ q.2.2.1 = nx ∧ b_gM G fz q.1.1.1 ρ' σ q.2.1 ∧ b_gf q.1.1.1 ρ' q.2.2.2.1 q.2.2.2.2 cl (w :: t) := by
  unfold b_ald at h
  split at h
  · rename_i c hT
    cases e : Nat.beq c.1 1 && b_kd a c.2.1 with
    | true =>
      rw [e] at h
      rw [Bool.and_eq_true] at e
      simp only [cond_true] at h
      obtain ⟨c', k6, zc, k7, k8, k9, k10⟩ := hH.2 k hk
      rw [hT] at k6
      cases k6
      have e0 := Nat.eq_of_beq_eq_true e.1
      have hfz : ¬ m_fzb ≤ k := by unfold m_fzb; omega
      obtain ⟨h1, h2, h3, h4⟩ := hf
      have rd : ∀ {i : Nat} {w : Value}, z.toInt = (i : Int) → b_rd σ k i = some w → m_ald fz a z k σ = some w := by
        intro i w hz hr
        have hlt := b_rd_lt k7 k8 hr
        have hin := b_in hz hlt
        have hnc := b_nc hz
        unfold m_ald
        rw [if_neg hfz, k7]
        unfold b_rd at hr
        rw [k7] at hr
        unfold b_sh at k8
        have hkd := e.2
        match zc, k8, hr with
        | .inr _, k8, _ => exact absurd (e0.symm.trans k8.1) (by decide)
        | .inl (tt, .inl xs), k8, hr =>
          obtain ⟨y, g1, g2⟩ := Option.map_eq_some_iff.mp hr
          subst g2
          dsimp only
          rw [k8.2.2.2]
          have hd : xs.getD i 0 = y := by simp [List.getD, g1]
          rw [k8.2.1] at hkd
          have ht : tt < 3 := k8.2.2.1
          have hcond : a = 0 ∧ tt = 0 ∨ a = 1 ∧ (tt = 1 ∨ tt = 2) := by
            unfold b_kd at hkd
            split at hkd
            · exact Or.inl ⟨rfl, Nat.eq_of_beq_eq_true hkd⟩
            · rw [Bool.or_eq_true] at hkd
              rcases hkd with h | h
              · exact Or.inr ⟨rfl, Or.inl (Nat.eq_of_beq_eq_true h)⟩
              · exact Or.inr ⟨rfl, Or.inr (Nat.eq_of_beq_eq_true h)⟩
            · have := Nat.eq_of_beq_eq_true hkd; omega
            · have := Nat.eq_of_beq_eq_true hkd; omega
            · cases hkd
          rw [if_pos ⟨hcond, hin⟩, hnc, hd]
        | .inl (tt, .inr (.inl xs)), k8, hr =>
          obtain ⟨y, g1, g2⟩ := Option.map_eq_some_iff.mp hr
          subst g2
          dsimp only
          rw [k8.2.2.2]
          have hd : xs.getD i 0 = y := by simp [List.getD, g1]
          rw [k8.2.1] at hkd
          have ht : tt = 3 := k8.2.2.1
          subst ht
          have ha : a = 2 := by
            unfold b_kd at hkd
            split at hkd
            · cases hkd
            · cases hkd
            · rfl
            · cases hkd
            · cases hkd
          rw [if_pos ⟨ha, rfl, hin⟩, hnc, hd]
        | .inl (tt, .inr (.inr xs)), k8, hr =>
          obtain ⟨y, g1, g2⟩ := Option.map_eq_some_iff.mp hr
          subst g2
          dsimp only
          rw [k8.2.2.2]
          have hd : xs.getD i none = y := by simp [List.getD, g1]
          rw [k8.2.1] at hkd
          have ht : tt = 4 := k8.2.2.1
          subst ht
          have ha : a = 3 := by
            unfold b_kd at hkd
            split at hkd
            · cases hkd
            · cases hkd
            · cases hkd
            · rfl
            · cases hkd
          rw [if_pos ⟨ha, rfl, hin⟩, hnc, hd]
      cases e3 : Nat.beq a 3 with
      | true =>
        rw [e3] at h
        simp only [cond_true] at h
        cases e4 : Nat.beq c.2.2.1 c.2.2.2.1 && Nat.beq c.2.2.2.2.length c.2.2.1 && b_inb W x c.2.2.1 && c.2.2.2.2.all (fun t => Nat.beq t.1 2) with
        | true =>
          rw [e4] at h
          simp only [Bool.and_eq_true] at e4
          cases h
          obtain ⟨⟨⟨q1, q2⟩, q3⟩, q4⟩ := e4
          have q1 := Nat.eq_of_beq_eq_true q1
          have q2 := Nat.eq_of_beq_eq_true q2
          obtain ⟨i, p1, p2⟩ := b_inb_ok hW q3
          rw [hx.1] at p1
          obtain ⟨u, w, p3, p4, p5⟩ := k10 i p2
          rw [← q1, Nat.mod_eq_of_lt p2] at p3
          have hu := Nat.eq_of_beq_eq_true (List.all_eq_true.mp q4 u (List.mem_of_getElem? p3))
          obtain ⟨U, r1, r2, r3⟩ := b_rows_ok (M := M) (nx := nx) (lv := lv) (r := r) hW hx c.2.2.2.2 0 u (by omega) (by
            have : (z.toInt - 0).toNat = i := by omega
            rw [this]; exact p3)
          refine ⟨w, rd p1 p4, _, r1, ρ, b_same r2 r3, rfl, hM.up (b_same r2 r3), ?_⟩
          refine b_gf.up (b_same r2 r3) ⟨h1, ⟨?_, h2⟩, h3, b_okm (b_gt_ok p5) h4⟩
          obtain ⟨u1, uq⟩ := u
          dsimp only at hu
          subst hu
          unfold b_gt at p5
          split at p5
          · rename_i e; cases e
          · rename_i e; cases e
          · unfold b_gv; dsimp only at p5 ⊢; rw [p5.1]; rfl
          · exact p5.elim
        | false => rw [e4] at h; cases h
      | false =>
        rw [e3] at h
        simp only [cond_false] at h
        split at h
        · rename_i U hU
          cases e4 : Nat.ble U.2.2.1 1 with
          | true =>
            rw [e4] at h
            cases h
            obtain ⟨U1, U2, U3⟩ := U
            obtain ⟨ρ', i, w, p1, p2, p3, p4, p5⟩ := b_get_ok hW hH hM hk hx hU
            exact ⟨w, rd p3 p4, _, List.mem_singleton.mpr rfl, ρ', p1, rfl, p2, h1.up p1, ⟨p5, b_all2.up p1 h2⟩, h3, b_okm (b_rd_ok hH hk p4) h4⟩
          | false => rw [e4] at h; cases h
        · cases h
    | false => rw [e] at h; cases h
  · cases h
end B70

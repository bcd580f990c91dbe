/-! THE OPERATIONS that leave the heap alone -/
abbrev b_H : Type := Option (List b_R)
def b_Step (T : Nat → Option b_C) (G : b_G) (fz : List (List Int32)) (Wr : Nat → Nat → Bool) (I : m_I) (nx : Nat) (W : b_NF) (ρ : Nat → Int) (cl : m_V) (cs : List Value) (σ : m_S) (L : List b_R) : Prop :=
  ∃ pc' cl' cs' σ', m_step fz I nx cl cs σ = some (.inl (pc', cl', cs', σ')) ∧ b_frame Wr σ σ' ∧ ∃ r ∈ L, ∃ ρ', b_ext W ρ r.1 ρ' ∧ r.2.2.1 = pc' ∧ b_gH T σ' ∧ b_gM G fz r.1.1.1 ρ' σ' r.2.1 ∧ b_gf r.1.1.1 ρ' r.2.2.2.1 r.2.2.2.2 cl' cs'
def b_h0 (W : b_NF) (M : b_M) (v : Int) (nx : Nat) (lv : b_Lv) (st : List b_V) : b_H := bif decide (-2147483648 ≤ v) && decide (v ≤ 2147483647) then some [(W, M, nx, lv, (0, b_con v) :: st)] else none
def b_h1 (W : b_NF) (M : b_M) (v : Int) (nx : Nat) (lv : b_Lv) (st : List b_V) : b_H := bif decide (-9223372036854775808 ≤ v) && decide (v ≤ 9223372036854775807) then some [(W, M, nx, lv, (1, b_con v) :: st)] else none
def b_h2 (W : b_NF) (M : b_M) (a : Nat) (v : Int) (nx : Nat) (lv : b_Lv) (st : List b_V) : b_H := match b_ld lv a with
  | some w => bif decide (b_knd w = v) then some [(W, M, nx, lv, w :: st)] else none
  | none => none
def b_h3 (W : b_NF) (M : b_M) (a : Nat) (v : Int) (nx : Nat) (lv : b_Lv) (st : List b_V) : b_H := match st with
  | w :: r => bif decide (b_knd w = v) then some [(W, M, nx, (if v = 1 then b_st2 lv a w else b_st1 lv a w), r)] else none
  | [] => none
noncomputable def b_h4 (W : b_NF) (M : b_M) (a : Nat) (v : Int) (nx : Nat) (lv : b_Lv) (st : List b_V) : b_H := match b_ld lv a with
  | some w => match b_num W w with
    | some (W1, x) => bif decide (-2147483648 ≤ v) && decide (v ≤ 2147483647) then some [((b_t32 W1 (b_adc x v)).1, M, nx, b_st1 lv a (0, (b_t32 W1 (b_adc x v)).2), st)] else none
    | none => none
  | none => none
noncomputable def b_h5 (W : b_NF) (M : b_M) (a : Nat) (nx : Nat) (lv : b_Lv) (st : List b_V) : b_H := match st with
  | y :: x :: r => match b_num W x with
    | some (W1, x1) => match b_num W1 y with
      | some (W2, y1) => match b_ibin W2 a x1 y1 with
        | some U => some [(U.1, M, nx, lv, (0, U.2) :: r)]
        | none => none
      | none => none
    | none => none
  | _ => none
noncomputable def b_h6 (W : b_NF) (M : b_M) (a : Nat) (nx : Nat) (lv : b_Lv) (st : List b_V) : b_H := match st with
  | y :: x :: r => bif Nat.beq x.1 1 && Nat.beq y.1 1 then (match b_lbin W a x.2 y.2 with
      | some U => some [(U.1, M, nx, lv, (1, U.2) :: r)]
      | none => none) else none
  | _ => none
noncomputable def b_un1 (W : b_NF) (k : Nat) (x : b_L) : Option (b_NF × b_V) := match k with
  | 0 => some ((b_t32 W (b_neg x)).1, (0, (b_t32 W (b_neg x)).2))
  | 1 => some (W, (1, x))
  | 3 => some ((b_fit W x (-128) 127).1, (0, (b_fit W x (-128) 127).2))
  | 4 => some ((b_fit W x (-32768) 32767).1, (0, (b_fit W x (-32768) 32767).2))
  | _ => none
noncomputable def b_un (W : b_NF) (k : Nat) (v : b_V) : Option (b_NF × b_V) := bif Nat.beq v.1 1 then (match k with
    | 2 => some ((b_t32 W v.2).1, (0, (b_t32 W v.2).2))
    | 5 => some ((b_t64 W (b_neg v.2)).1, (1, (b_t64 W (b_neg v.2)).2))
    | _ => none) else match b_num W v with
    | some (W1, x) => b_un1 W1 k x
    | none => none
noncomputable def b_h7 (W : b_NF) (M : b_M) (a : Nat) (nx : Nat) (lv : b_Lv) (st : List b_V) : b_H := match st with
  | v :: r => match b_un W a v with
    | some U => some [(U.1, M, nx, lv, U.2 :: r)]
    | none => none
  | [] => none
def b_h8 (W : b_NF) (M : b_M) (nx : Nat) (lv : b_Lv) (st : List b_V) : b_H := match st with
  | y :: x :: r => bif Nat.beq x.1 1 && Nat.beq y.1 1 then some [(W, M, nx, lv, (6, b_add x.2 (-1) y.2) :: r)] else none
  | _ => none
def b_stk (k : Nat) (st : List b_V) : Option (List b_V) := match k, st with
  | 0, a :: r => if b_cat a = 1 then some r else none
  | 1, a :: r => if b_cat a = 2 then some r else none
  | 2, a :: r => if b_cat a = 1 then some (a :: a :: r) else none
  | 3, a :: b :: r => if b_cat a = 1 ∧ b_cat b = 1 then some (a :: b :: a :: b :: r) else none
  | _, _ => none
def b_h9 (W : b_NF) (M : b_M) (a : Nat) (nx : Nat) (lv : b_Lv) (st : List b_V) : b_H := match b_stk a st with
  | some r => some [(W, M, nx, lv, r)]
  | none => none
noncomputable def b_h11 (W : b_NF) (M : b_M) (a : Nat) (v : Int) (nx : Nat) (lv : b_Lv) (st : List b_V) : b_H := match st with
  | x :: r => bif Nat.beq x.1 0 || Nat.beq x.1 6 then some ((b_learn W v x.2).map (fun U => (U, M, a, lv, r)) ++ (b_learn W (a_ng v) x.2).map (fun U => (U, M, nx, lv, r))) else none
  | [] => none
noncomputable def b_h12 (W : b_NF) (M : b_M) (a : Nat) (v : Int) (nx : Nat) (lv : b_Lv) (st : List b_V) : b_H := match st with
  | y :: x :: r => match b_num W x with
    | some (W1, x1) => match b_num W1 y with
      | some (W2, y1) => some ((b_learn W2 v (b_add x1 (-1) y1)).map (fun U => (U, M, a, lv, r)) ++ (b_learn W2 (a_ng v) (b_add x1 (-1) y1)).map (fun U => (U, M, nx, lv, r)))
      | none => none
    | none => none
  | _ => none
noncomputable def b_tsw (W : b_NF) (M : b_M) (x : b_L) (lv : b_Lv) (r : List b_V) : Int → List Nat → List b_R
  | _, [] => []
  | j, t :: ts => (b_learn W 0 (b_adc x (-j))).map (fun U => (U, M, t, lv, r)) ++ b_tsw W M x lv r (j + 1) ts
noncomputable def b_h13 (W : b_NF) (M : b_M) (a : Nat) (v : Int) (l : List Nat) (lv : b_Lv) (st : List b_V) : b_H := match st with
  | y :: r => match b_num W y with
    | some (W1, x) => some ((b_learn W1 2 (b_adc x (-v))).map (fun U => (U, M, a, lv, r)) ++ ((b_learn W1 3 (b_adc x (-(v + l.length)))).map (fun U => (U, M, a, lv, r)) ++ b_tsw W1 M x lv r v l))
    | none => none
  | [] => none
noncomputable def b_lsw (W : b_NF) (M : b_M) (x : b_L) (lv : b_Lv) (r : List b_V) : List Nat → List b_R
  | k :: t :: ts => (b_learn W 0 (b_adc x (-(k : Int)))).map (fun U => (U, M, t, lv, r)) ++ b_lsw W M x lv r ts
  | _ => []
noncomputable def b_h14 (W : b_NF) (M : b_M) (a : Nat) (l : List Nat) (lv : b_Lv) (st : List b_V) : b_H := match st with
  | y :: r => match b_num W y with
    | some (W1, x) => some ((W1, M, a, lv, r) :: b_lsw W1 M x lv r l)
    | none => none
  | [] => none
noncomputable def b_h28 (W : b_NF) (M : b_M) (a : Nat) (nx : Nat) (lv : b_Lv) (st : List b_V) : b_H := match st with
  | y :: x :: r => bif Nat.beq x.1 1 && Nat.ble a 1 then (match b_num W y with
      | some (W1, _) => some [((b_f64 W1).1, M, nx, lv, (1, (b_f64 W1).2) :: r)]
      | none => none) else none
  | _ => none
section B67
variable {T : Nat → Option b_C} {G : b_G} {fz : List (List Int32)} {Wr : Nat → Nat → Bool} {ρ : Nat → Int} {W : b_NF} {M : b_M} {cl : m_V} {cs : List Value} {σ : m_S} {lv : b_Lv} {st : List b_V} {L : List b_R} {nx : Nat}
theorem b_frame.rf : b_frame Wr σ σ := fun _ _ _ => rfl
theorem b_pure {I : m_I} {pc' : Nat} {cl' : m_V} {cs' : List Value} (hH : b_gH T σ) (hM : b_gM G fz W.1.1 ρ σ M) (hs : m_step fz I nx cl cs σ = some (.inl (pc', cl', cs', σ))) {U : b_NF} {ρ' : Nat → Int} (he : b_ext W ρ U ρ') {lv' : b_Lv} {st' : List b_V} (hr : (U, M, pc', lv', st') ∈ L) (hf : b_gf U.1.1 ρ' lv' st' cl' cs') : b_Step T G fz Wr I nx W ρ cl cs σ L :=
  ⟨pc', cl', cs', σ, hs, b_frame.rf, _, hr, ρ', he, rfl, hH, hM.up he, hf⟩
theorem b_cons {R : b_V → Value → Prop} {v : b_V} {r : List b_V} : ∀ {cs : List Value}, a_all2 R (v :: r) cs → ∃ w t, cs = w :: t ∧ R v w ∧ a_all2 R r t
  | [], h => h.elim
  | w :: t, h => ⟨w, t, rfl, h.1, h.2⟩
theorem b_okc {w : Value} {t : List Value} (h : (w :: t).all (m_okv 139) = true) : m_okv 139 w = true ∧ t.all (m_okv 139) = true := by
  rw [List.all_cons, Bool.and_eq_true] at h; exact h
theorem b_okm {w : Value} {t : List Value} (h1 : m_okv 139 w = true) (h2 : t.all (m_okv 139) = true) : (w :: t).all (m_okv 139) = true := by
  rw [List.all_cons, h1, h2]; rfl
theorem b_h0_ok {a : Nat} {v : Int} {q : List Nat} (hW : b_gW W ρ) (hH : b_gH T σ) (hM : b_gM G fz W.1.1 ρ σ M) (hf : b_gf W.1.1 ρ lv st cl cs) (h : b_h0 W M v nx lv st = some L) : b_Step T G fz Wr (0, a, v, q) nx W ρ cl cs σ L := by
  unfold b_h0 at h
  cases e : decide (-2147483648 ≤ v) && decide (v ≤ 2147483647) with
  | true =>
    rw [e] at h
    simp only [Bool.and_eq_true, decide_eq_true_eq] at e
    cases h
    have h1 : (Int32.ofInt v).toInt = v := by rw [Int32.toInt_ofInt]; exact a_bm e.1 e.2
    have h2 : b_gx W.1.1 ρ (b_con v) (Int32.ofInt v).toInt := by rw [h1]; exact b_gx.con v
    exact b_pure hH hM (pc' := nx) (cl' := cl) (cs' := .int (Int32.ofInt v) :: cs) (by rfl) (b_ext.rf hW) (List.mem_singleton.mpr rfl) ⟨hf.1, ⟨h2, hf.2.1⟩, hf.2.2.1, b_okm rfl hf.2.2.2⟩
  | false => rw [e] at h; cases h
theorem b_h1_ok {a : Nat} {v : Int} {q : List Nat} (hW : b_gW W ρ) (hH : b_gH T σ) (hM : b_gM G fz W.1.1 ρ σ M) (hf : b_gf W.1.1 ρ lv st cl cs) (h : b_h1 W M v nx lv st = some L) : b_Step T G fz Wr (1, a, v, q) nx W ρ cl cs σ L := by
  unfold b_h1 at h
  cases e : decide (-9223372036854775808 ≤ v) && decide (v ≤ 9223372036854775807) with
  | true =>
    rw [e] at h
    simp only [Bool.and_eq_true, decide_eq_true_eq] at e
    cases h
    have h1 : (Int64.ofInt v).toInt = v := by rw [Int64.toInt_ofInt]; exact b_bm64 e.1 e.2
    have h2 : b_gx W.1.1 ρ (b_con v) (Int64.ofInt v).toInt := by rw [h1]; exact b_gx.con v
    exact b_pure hH hM (pc' := nx) (cl' := cl) (cs' := .long (Int64.ofInt v) :: cs) (by rfl) (b_ext.rf hW) (List.mem_singleton.mpr rfl) ⟨hf.1, ⟨h2, hf.2.1⟩, hf.2.2.1, b_okm rfl hf.2.2.2⟩
  | false => rw [e] at h; cases h
theorem b_h2_ok {a : Nat} {v : Int} {q : List Nat} (hW : b_gW W ρ) (hH : b_gH T σ) (hM : b_gM G fz W.1.1 ρ σ M) (hf : b_gf W.1.1 ρ lv st cl cs) (h : b_h2 W M a v nx lv st = some L) : b_Step T G fz Wr (2, a, v, q) nx W ρ cl cs σ L := by
  unfold b_h2 at h
  split at h
  · rename_i u hu
    cases e : decide (b_knd u = v) with
    | true =>
      rw [e] at h
      cases h
      have e := of_decide_eq_true e
      obtain ⟨w, h1, h2⟩ := hf.1 a u hu
      have h3 := b_gv_knd h2
      refine b_pure hH hM (pc' := nx) (cl' := cl) (cs' := w :: cs) ?_ (b_ext.rf hW) (List.mem_singleton.mpr rfl) ⟨hf.1, ⟨h2, hf.2.1⟩, hf.2.2.1, b_okm (b_okld hf.2.2.1 h1) hf.2.2.2⟩
      simp only [m_step, h1]
      rw [if_pos (by rw [← h3, e])]
    | false => rw [e] at h; cases h
  · cases h
theorem b_h3_ok {a : Nat} {v : Int} {q : List Nat} (hW : b_gW W ρ) (hH : b_gH T σ) (hM : b_gM G fz W.1.1 ρ σ M) (hf : b_gf W.1.1 ρ lv st cl cs) (h : b_h3 W M a v nx lv st = some L) : b_Step T G fz Wr (3, a, v, q) nx W ρ cl cs σ L := by
  unfold b_h3 at h
  split at h
  · rename_i u r
    cases e : decide (b_knd u = v) with
    | true =>
      rw [e] at h
      cases h
      have e := of_decide_eq_true e
      obtain ⟨h1, h2, h3, h4⟩ := hf
      obtain ⟨w, t, rfl, g1, g2⟩ := b_cons h2
      obtain ⟨g3, g4⟩ := b_okc h4
      have g5 := b_gv_knd g1
      refine b_pure hH hM (pc' := nx) (cl' := if v = 1 then m_st2 cl a w else m_st1 cl a w) (cs' := t) ?_ (b_ext.rf hW) (List.mem_singleton.mpr rfl) ?_
      · simp only [m_step]
        rw [if_pos (by rw [← g5, e])]
      · by_cases hv : v = 1
        · rw [if_pos hv, if_pos hv]
          exact ⟨b_st2_ok a h1 g1, g2, b_ok2 h3 g3, g4⟩
        · rw [if_neg hv, if_neg hv]
          exact ⟨b_st1_ok a h1 g1, g2, b_ok1 h3 g3, g4⟩
    | false => rw [e] at h; cases h
  · cases h
theorem b_h4_ok {a : Nat} {v : Int} {q : List Nat} (hW : b_gW W ρ) (hH : b_gH T σ) (hM : b_gM G fz W.1.1 ρ σ M) (hf : b_gf W.1.1 ρ lv st cl cs) (h : b_h4 W M a v nx lv st = some L) : b_Step T G fz Wr (4, a, v, q) nx W ρ cl cs σ L := by
  unfold b_h4 at h
  split at h
  · rename_i u hu
    split at h
    · rename_i W1 x hn
      cases e : decide (-2147483648 ≤ v) && decide (v ≤ 2147483647) with
      | true =>
        rw [e] at h
        simp only [Bool.and_eq_true, decide_eq_true_eq] at e
        cases h
        obtain ⟨w, h1, h2⟩ := hf.1 a u hu
        obtain ⟨z, rfl, ρ1, g1, g2⟩ := b_num_ok hW h2 hn
        have h9 : (Int32.ofInt v).toInt = v := by rw [Int32.toInt_ofInt]; exact a_bm e.1 e.2
        obtain ⟨ρ2, g3, g4⟩ := b_t32_ok g1.2.2 (z + Int32.ofInt v) (g2.adc v) (by rw [Int32.toInt_add, h9])
        have he := g1.tr g3
        refine b_pure hH hM (pc' := nx) (cl' := m_st1 cl a (.int (z + Int32.ofInt v))) (cs' := cs) ?_ he (List.mem_singleton.mpr rfl) ⟨b_st1_ok a (hf.1.up he) g4, b_all2.up he hf.2.1, b_ok1 hf.2.2.1 rfl, hf.2.2.2⟩
        simp only [m_step, h1]
      | false => rw [e] at h; cases h
    · cases h
  · cases h
theorem b_h5_ok {a : Nat} {v : Int} {q : List Nat} (hW : b_gW W ρ) (hH : b_gH T σ) (hM : b_gM G fz W.1.1 ρ σ M) (hf : b_gf W.1.1 ρ lv st cl cs) (h : b_h5 W M a nx lv st = some L) : b_Step T G fz Wr (5, a, v, q) nx W ρ cl cs σ L := by
  unfold b_h5 at h
  split at h
  · rename_i y x r
    split at h
    · rename_i W1 x1 hx
      split at h
      · rename_i W2 y1 hy
        split at h
        · rename_i U hU
          cases h
          obtain ⟨h1, h2, h3, h4⟩ := hf
          obtain ⟨wy, t1, rfl, g1, g2⟩ := b_cons h2
          obtain ⟨wx, t, rfl, g3, g4⟩ := b_cons g2
          obtain ⟨zx, rfl, ρ1, q1, q2⟩ := b_num_ok hW g3 hx
          obtain ⟨zy, rfl, ρ2, q3, q4⟩ := b_num_ok q1.2.2 (g1.up q1) hy
          obtain ⟨z, k1, ρ3, k2, k3⟩ := b_ibin_ok q3.2.2 (q2.up q3) q4 hU
          have he := (q1.tr q3).tr k2
          refine b_pure hH hM (pc' := nx) (cl' := cl) (cs' := .int z :: t) ?_ he (List.mem_singleton.mpr rfl) ⟨h1.up he, ⟨k3, b_all2.up he g4⟩, h3, b_okm rfl (b_okc (b_okc h4).2).2⟩
          simp only [m_step, k1, Option.map_some]
        · cases h
      · cases h
    · cases h
  · cases h
theorem b_lg {n : Nat} {x : b_V} {w : Value} (h : Nat.beq x.1 1 = true) (hv : b_gv n ρ x w) : ∃ z : Int64, w = .long z ∧ b_gx n ρ x.2 z.toInt := by
  obtain ⟨t, y⟩ := x
  have e := Nat.eq_of_beq_eq_true h
  dsimp only at e
  subst e
  unfold b_gv at hv
  split at hv
  · rename_i e; cases e
  · rename_i z e; exact ⟨z, rfl, hv⟩
  · rename_i e; cases e
  · rename_i e; cases e
  · exact hv.elim
theorem b_h6_ok {a : Nat} {v : Int} {q : List Nat} (hW : b_gW W ρ) (hH : b_gH T σ) (hM : b_gM G fz W.1.1 ρ σ M) (hf : b_gf W.1.1 ρ lv st cl cs) (h : b_h6 W M a nx lv st = some L) : b_Step T G fz Wr (6, a, v, q) nx W ρ cl cs σ L := by
  unfold b_h6 at h
  split at h
  · rename_i y x r
    cases e : Nat.beq x.1 1 && Nat.beq y.1 1 with
    | true =>
      rw [e] at h
      rw [Bool.and_eq_true] at e
      simp only [cond_true] at h
      split at h
      · rename_i U hU
        cases h
        obtain ⟨h1, h2, h3, h4⟩ := hf
        obtain ⟨wy, t1, rfl, g1, g2⟩ := b_cons h2
        obtain ⟨wx, t, rfl, g3, g4⟩ := b_cons g2
        obtain ⟨zx, rfl, q2⟩ := b_lg e.1 g3
        obtain ⟨zy, rfl, q4⟩ := b_lg e.2 g1
        obtain ⟨z, k1, ρ3, he, k3⟩ := b_lbin_ok hW q2 q4 hU
        refine b_pure hH hM (pc' := nx) (cl' := cl) (cs' := .long z :: t) ?_ he (List.mem_singleton.mpr rfl) ⟨h1.up he, ⟨k3, b_all2.up he g4⟩, h3, b_okm rfl (b_okc (b_okc h4).2).2⟩
        simp only [m_step, k1, Option.map_some]
      · cases h
    | false => rw [e] at h; cases h
  · cases h
end B67

/-! THE OPERATIONS that write -/
def b_fty (ty : FieldType) (tag : Nat) : Bool := match ty with
  | .int => Nat.beq tag 0
  | .long => Nat.beq tag 1
  | _ => false
def b_h41 (W : b_NF) (M : b_M) (a : Nat) (nx : Nat) (lv : b_Lv) (st : List b_V) : b_H := some [(W, M, nx, lv, (2, (((m_fzb + a : Nat) : Int), [])) :: st)]
noncomputable def b_pt (T : Nat → Option b_C) (dep Wr : Nat → Nat → Bool) (W : b_NF) (M : b_M) (cell : Nat) (x : b_L) (tag : Nat) (y : b_L) (nx : Nat) (lv : b_Lv) (r : List b_V) : b_H := match b_put T dep Wr W M cell x tag y with
  | some M' => some [(W, M', nx, lv, r)]
  | none => none
noncomputable def b_h16 (T : Nat → Option b_C) (dep Wr : Nat → Nat → Bool) (W : b_NF) (M : b_M) (a : Nat) (v : Int) (nx : Nat) (lv : b_Lv) (st : List b_V) : b_H := match st with
  | w :: b :: r => bif b_rf b && decide (0 ≤ v) then (match T b.2.1.toNat with
      | some c => bif Nat.beq c.1 0 && Nat.beq c.2.1 a && Nat.blt v.toNat c.2.2.1 then (bif Nat.beq w.1 1 then (bif b_fty (m_tyf a v.toNat) 1 then b_pt T dep Wr W M b.2.1.toNat (b_con v) 1 w.2 nx lv r else none)
          else match b_num W w with
          | some (W1, y) => bif b_fty (m_tyf a v.toNat) 0 then b_pt T dep Wr W1 M b.2.1.toNat (b_con v) 0 y nx lv r else none
          | none => none) else none
      | none => none) else none
  | _ => none
noncomputable def b_ast (T : Nat → Option b_C) (dep Wr : Nat → Nat → Bool) (W : b_NF) (M : b_M) (a : Nat) (x : b_L) (cell t : Nat) (w : b_V) (nx : Nat) (lv : b_Lv) (r : List b_V) : b_H := match a with
  | 2 => bif Nat.beq w.1 1 then b_pt T dep Wr W M cell x 1 w.2 nx lv r else none
  | 0 => match b_num W w with
    | some (W1, y) => b_pt T dep Wr W1 M cell x 0 y nx lv r
    | none => none
  | 1 => match b_num W w with
    | some (W1, y) => bif Nat.beq t 1 then b_pt T dep Wr (b_fit W1 y (-128) 127).1 M cell x 0 (b_fit W1 y (-128) 127).2 nx lv r else b_pt T dep Wr (b_fit W1 y 0 1).1 M cell x 0 (b_fit W1 y 0 1).2 nx lv r
    | none => none
  | _ => none
noncomputable def b_h19 (T : Nat → Option b_C) (dep Wr : Nat → Nat → Bool) (W : b_NF) (M : b_M) (a : Nat) (nx : Nat) (lv : b_Lv) (st : List b_V) : b_H := match st with
  | w :: i :: b :: r => match b_num W i with
    | some (W1, x) => bif b_rf b then (match T b.2.1.toNat with
        | some c => bif Nat.beq c.1 1 && b_kd a c.2.1 && b_inb W1 x c.2.2.1 then b_ast T dep Wr W1 M a x b.2.1.toNat c.2.1 w nx lv r else none
        | none => none) else none
    | none => none
  | _ => none
section B72
variable {T : Nat → Option b_C} {G : b_G} {fz : List (List Int32)} {dep Wr : Nat → Nat → Bool} {ρ : Nat → Int} {W : b_NF} {M : b_M} {cl : m_V} {cs : List Value} {σ : m_S} {lv : b_Lv} {st : List b_V} {L : List b_R} {nx : Nat}
theorem b_h41_ok {a : Nat} {v : Int} {q : List Nat} (hW : b_gW W ρ) (hH : b_gH T σ) (hM : b_gM G fz W.1.1 ρ σ M) (hf : b_gf W.1.1 ρ lv st cl cs) (h : b_h41 W M a nx lv st = some L) : b_Step T G fz Wr (41, a, v, q) nx W ρ cl cs σ L := by
  cases h
  refine b_pure hH hM (pc' := nx) (cl' := cl) (cs' := .ref (m_fzb + a) :: cs) (by rfl) (b_ext.rf hW) (List.mem_singleton.mpr rfl) ⟨hf.1, ⟨rfl, hf.2.1⟩, hf.2.2.1, b_okm ?_ hf.2.2.2⟩
  simp only [m_okv, Bool.or_eq_true, decide_eq_true_eq]
  exact Or.inr (Nat.le_add_right _ _)
theorem b_pt_ok {I : m_I} {W1 : b_NF} {ρ1 : Nat → Int} {cell i tag : Nat} {x y : b_L} {w : Value} {c : b_C} {r : List b_V} {t : List Value} {σ' : m_S} (hG : b_GOk G dep) (hD : b_DepOk dep) (hWr : b_WrOk T Wr) (hH : b_gH T σ) (hM : b_gM G fz W1.1.1 ρ1 σ M) (he : b_ext W ρ W1 ρ1) (hc : cell < 139) (hT : T cell = some c) (hi : i < c.2.2.1) (hx : b_gx W1.1.1 ρ1 x (i : Int)) (hy : b_gv W1.1.1 ρ1 (tag, y) w) (ht : tag < 2) (hu : b_upd σ cell i w σ')
    (hf : b_gf W1.1.1 ρ1 lv r cl t) (hs : m_step fz I nx cl cs σ = some (.inl (nx, cl, t, σ'))) (h : b_pt T dep Wr W1 M cell x tag y nx lv r = some L) : b_Step T G fz Wr I nx W ρ cl cs σ L := by
  unfold b_pt at h
  split at h
  · rename_i M' hp
    cases h
    obtain ⟨g1, g2, g3⟩ := b_put_ok hG hD hWr he.2.2 hH hM hc hT hi hx hy ht hu hp
    exact ⟨nx, cl, t, σ', hs, g3, _, List.mem_singleton.mpr rfl, ρ1, he, rfl, g1, g2, hf⟩
  · cases h
theorem b_h16_ok {a : Nat} {v : Int} {q : List Nat} (hG : b_GOk G dep) (hD : b_DepOk dep) (hWr : b_WrOk T Wr) (hW : b_gW W ρ) (hH : b_gH T σ) (hM : b_gM G fz W.1.1 ρ σ M) (hf : b_gf W.1.1 ρ lv st cl cs) (h : b_h16 T dep Wr W M a v nx lv st = some L) : b_Step T G fz Wr (16, a, v, q) nx W ρ cl cs σ L := by
  unfold b_h16 at h
  split at h
  · rename_i w b r
    cases e : b_rf b && decide (0 ≤ v) with
    | true =>
      rw [e] at h
      simp only [Bool.and_eq_true, decide_eq_true_eq] at e
      simp only [cond_true] at h
      obtain ⟨h1, h2, h3, h4⟩ := hf
      obtain ⟨cw, t1, rfl, g1, g2⟩ := b_cons h2
      obtain ⟨cb, t, rfl, g3, g4⟩ := b_cons g2
      obtain ⟨k, rfl, k2, k3⟩ := b_rf_ok e.1 g3
      rw [k2] at h
      dsimp only at h
      rw [Int.toNat_natCast] at h
      split at h
      · rename_i c hT
        cases e2 : Nat.beq c.1 0 && Nat.beq c.2.1 a && Nat.blt v.toNat c.2.2.1 with
        | true =>
          rw [e2] at h
          simp only [Bool.and_eq_true] at e2
          simp only [cond_true] at h
          have e0 := Nat.eq_of_beq_eq_true e2.1.1
          have e1 := Nat.eq_of_beq_eq_true e2.1.2
          have hi : v.toNat < c.2.2.1 := Nat.blt_eq.mp e2.2
          obtain ⟨c', k6, z, k7, k8, -⟩ := hH.2 k k3
          rw [hT] at k6
          cases k6
          have hvn : (v.toNat : Int) = v := Int.toNat_of_nonneg e.2
          have hobj : ∃ fs, σ[k]? = some (.inr (a, fs)) ∧ v.toNat < fs.length := by
            unfold b_sh at k8
            match z, k8, k7 with
            | .inr (ci, fs), k8, k7 => exact ⟨fs, by rw [k7, ← k8.2.1, e1], by rw [k8.2.2]; exact hi⟩
            | .inl (_, .inl _), k8, _ => exact absurd (e0.symm.trans k8.1) (by decide)
            | .inl (_, .inr (.inl _)), k8, _ => exact absurd (e0.symm.trans k8.1) (by decide)
            | .inl (_, .inr (.inr _)), k8, _ => exact absurd (e0.symm.trans k8.1) (by decide)
          obtain ⟨fs, p1, p2⟩ := hobj
          have hst : ∀ u : Value, m_fit (m_tyf a v.toNat) u = true → m_step fz (16, a, v, q) nx cl (u :: .ref k :: t) σ = some (.inl (nx, cl, t, σ.set k (.inr (a, fs.set v.toNat u)))) := by
            intro u hu
            simp only [m_step, p1]
            rw [if_pos ⟨trivial, p2, hu⟩]
          have hxx : ∀ {W1 : b_NF} {ρ1 : Nat → Int}, b_gx W1.1.1 ρ1 (b_con v) ((v.toNat : Nat) : Int) := fun {W1 ρ1} => by rw [hvn]; exact b_gx.con v
          cases e3 : Nat.beq w.1 1 with
          | true =>
            rw [e3] at h
            simp only [cond_true] at h
            obtain ⟨zw, rfl, q2⟩ := b_lg e3 g1
            cases e4 : b_fty (m_tyf a v.toNat) 1 with
            | true =>
              rw [e4] at h
              have hfit : m_fit (m_tyf a v.toNat) (.long zw) = true := by
                unfold b_fty at e4
                split at e4
                · cases e4
                · rename_i e5; rw [e5]; rfl
                · cases e4
              exact b_pt_ok hG hD hWr hH hM (b_ext.rf hW) k3 hT hi hxx (tag := 1) (y := w.2) (w := .long zw) q2 (by decide) (b_upd_field p1 p2) ⟨h1, g4, h3, (b_okc (b_okc h4).2).2⟩ (hst _ hfit) h
            | false => rw [e4] at h; cases h
          | false =>
            rw [e3] at h
            simp only [cond_false] at h
            split at h
            · rename_i W1 y hn
              obtain ⟨zw, rfl, ρ1, q1, q2⟩ := b_num_ok hW g1 hn
              cases e4 : b_fty (m_tyf a v.toNat) 0 with
              | true =>
                rw [e4] at h
                have hfit : m_fit (m_tyf a v.toNat) (.int zw) = true := by
                  unfold b_fty at e4
                  split at e4
                  · rename_i e5; rw [e5]; rfl
                  · cases e4
                  · cases e4
                exact b_pt_ok hG hD hWr hH (hM.up q1) q1 k3 hT hi hxx (tag := 0) (y := y) (w := .int zw) q2 (by decide) (b_upd_field p1 p2) ⟨h1.up q1, b_all2.up q1 g4, h3, (b_okc (b_okc h4).2).2⟩ (hst _ hfit) h
              | false => rw [e4] at h; cases h
            · cases h
        | false => rw [e2] at h; cases h
      · cases h
    | false => rw [e] at h; cases h
  · cases h
theorem b_bool1 {x : Int32} (h1 : 0 ≤ x.toInt) (h2 : x.toInt ≤ 1) : vp_nar .boolean x = x := by
  have e : x = Int32.ofInt x.toInt := (Int32.ofInt_toInt x).symm
  have : x.toInt = 0 ∨ x.toInt = 1 := by omega
  rcases this with h | h <;> (rw [e, h]; rfl)
theorem b_boolR (x : Int32) : 0 ≤ (vp_nar .boolean x).toInt ∧ (vp_nar .boolean x).toInt ≤ 1 := a_and (x := x) (y := 1) (by decide)
theorem b_h19_ok {a : Nat} {v : Int} {q : List Nat} (hG : b_GOk G dep) (hD : b_DepOk dep) (hWr : b_WrOk T Wr) (hW : b_gW W ρ) (hH : b_gH T σ) (hM : b_gM G fz W.1.1 ρ σ M) (hf : b_gf W.1.1 ρ lv st cl cs) (h : b_h19 T dep Wr W M a nx lv st = some L) : b_Step T G fz Wr (19, a, v, q) nx W ρ cl cs σ L := by
  unfold b_h19 at h
  split at h
  · rename_i w i b r
    split at h
    · rename_i W1 x hn
      obtain ⟨h1, h2, h3, h4⟩ := hf
      obtain ⟨cw, t1, rfl, g1, g2⟩ := b_cons h2
      obtain ⟨ci, t2, rfl, g3, g4⟩ := b_cons g2
      obtain ⟨cb, t, rfl, g5, g6⟩ := b_cons g4
      obtain ⟨zi, rfl, ρ1, q1, q2⟩ := b_num_ok hW g3 hn
      cases e : b_rf b with
      | true =>
        rw [e] at h
        simp only [cond_true] at h
        obtain ⟨k, rfl, k2, k3⟩ := b_rf_ok e g5
        rw [k2] at h
        dsimp only at h
        rw [Int.toNat_natCast] at h
        split at h
        · rename_i c hT
          cases e2 : Nat.beq c.1 1 && b_kd a c.2.1 && b_inb W1 x c.2.2.1 with
          | true =>
            rw [e2] at h
            simp only [Bool.and_eq_true] at e2
            simp only [cond_true] at h
            have e0 := Nat.eq_of_beq_eq_true e2.1.1
            have hkd := e2.1.2
            obtain ⟨j, p1, p2⟩ := b_inb_ok q1.2.2 e2.2
            rw [q2.1] at p1
            obtain ⟨c', k6, z, k7, k8, -⟩ := hH.2 k k3
            rw [hT] at k6
            cases k6
            have hnc := b_nc p1
            have hxx : b_gx W1.1.1 ρ1 x (j : Int) := by rw [← p1]; exact q2
            have hok := (b_okc (b_okc (b_okc h4).2).2).2
            unfold b_ast at h
            split at h
            · cases e3 : Nat.beq w.1 1 with
              | true =>
                rw [e3] at h
                simp only [cond_true] at h
                obtain ⟨zw, rfl, q3⟩ := b_lg e3 (g1.up q1)
                have ht3 : c.2.1 = 3 := by unfold b_kd at hkd; exact Nat.eq_of_beq_eq_true hkd
                have hrow : ∃ xs, σ[k]? = some (.inl (3, .inr (.inl xs))) ∧ xs.length = c.2.2.1 := by
                  unfold b_sh at k8
                  match z, k8, k7 with
                  | .inr _, k8, _ => exact absurd (e0.symm.trans k8.1) (by decide)
                  | .inl (tt, .inl _), k8, _ => have := k8.2.2.1; have := k8.2.1; omega
                  | .inl (tt, .inr (.inl xs)), k8, k7 => exact ⟨xs, by rw [k7, k8.2.2.1], k8.2.2.2⟩
                  | .inl (tt, .inr (.inr _)), k8, _ => have := k8.2.2.1; have := k8.2.1; omega
                obtain ⟨xs, r1, r2⟩ := hrow
                refine b_pt_ok hG hD hWr hH (hM.up q1) q1 k3 hT p2 hxx (tag := 1) (y := w.2) (w := .long zw) q3 (by decide) (b_upd_long r1 (by omega)) ⟨h1.up q1, b_all2.up q1 g6, h3, hok⟩ ?_ h
                have hA : m_ast 2 (.long zw) zi k σ = some (σ.set k (.inl (3, .inr (.inl (xs.set j zw))))) := by
                  unfold m_ast
                  rw [r1]
                  dsimp only
                  rw [if_pos ⟨rfl, rfl, b_in p1 (by omega)⟩, hnc]
                simp only [m_step, hA, Option.map_some]
              | false => rw [e3] at h; cases h
            · split at h
              · rename_i W2 y hn2
                obtain ⟨zw, rfl, ρ2, q3, q4⟩ := b_num_ok q1.2.2 (g1.up q1) hn2
                have he := q1.tr q3
                have ht0 : c.2.1 = 0 := by unfold b_kd at hkd; exact Nat.eq_of_beq_eq_true hkd
                have hrow : ∃ xs, σ[k]? = some (.inl (0, .inl xs)) ∧ xs.length = c.2.2.1 := by
                  unfold b_sh at k8
                  match z, k8, k7 with
                  | .inr _, k8, _ => exact absurd (e0.symm.trans k8.1) (by decide)
                  | .inl (tt, .inl xs), k8, k7 => exact ⟨xs, by rw [k7, ← k8.2.1, ht0], k8.2.2.2⟩
                  | .inl (tt, .inr (.inl xs)), k8, k7 => have := k8.2.2.1; have := k8.2.1; omega
                  | .inl (tt, .inr (.inr _)), k8, _ => have := k8.2.2.1; have := k8.2.1; omega
                obtain ⟨xs, r1, r2⟩ := hrow
                refine b_pt_ok hG hD hWr hH (hM.up he) he k3 hT p2 (hxx.up q3) (tag := 0) (y := y) (w := .int zw) q4 (by decide) (b_upd_int r1 (by omega)) ⟨h1.up he, b_all2.up he g6, h3, hok⟩ ?_ h
                have hA : m_ast 0 (.int zw) zi k σ = some (σ.set k (.inl (0, .inl (xs.set j zw)))) := by
                  unfold m_ast
                  rw [r1]
                  dsimp only
                  rw [if_pos (b_in p1 (by omega)), if_pos ⟨rfl, rfl⟩, hnc]
                simp only [m_step, hA, Option.map_some]
              · cases h
            · split at h
              · rename_i W2 y hn2
                obtain ⟨zw, rfl, ρ2, q3, q4⟩ := b_num_ok q1.2.2 (g1.up q1) hn2
                have he := q1.tr q3
                have hrow : ∃ xs, σ[k]? = some (.inl (c.2.1, .inl xs)) ∧ xs.length = c.2.2.1 ∧ (c.2.1 = 1 ∨ c.2.1 = 2) := by
                  have ht : c.2.1 = 1 ∨ c.2.1 = 2 := by
                    have hkd : (Nat.beq c.2.1 1 || Nat.beq c.2.1 2) = true := hkd
                    rw [Bool.or_eq_true] at hkd
                    rcases hkd with h | h
                    · exact Or.inl (Nat.eq_of_beq_eq_true h)
                    · exact Or.inr (Nat.eq_of_beq_eq_true h)
                  unfold b_sh at k8
                  match z, k8, k7 with
                  | .inr _, k8, _ => exact absurd (e0.symm.trans k8.1) (by decide)
                  | .inl (tt, .inl xs), k8, k7 => exact ⟨xs, by rw [k7, ← k8.2.1], k8.2.2.2, ht⟩
                  | .inl (tt, .inr (.inl xs)), k8, k7 => have := k8.2.2.1; have := k8.2.1; omega
                  | .inl (tt, .inr (.inr _)), k8, _ => have := k8.2.2.1; have := k8.2.1; omega
                obtain ⟨xs, r1, r2, r3⟩ := hrow
                cases e3 : Nat.beq c.2.1 1 with
                | true =>
                  rw [e3] at h
                  simp only [cond_true] at h
                  have e3 := Nat.eq_of_beq_eq_true e3
                  rw [e3] at r1
                  obtain ⟨zb, hzb⟩ : ∃ zb, vp_nar .byte zw = zb := ⟨_, rfl⟩
                  have hzr : -128 ≤ zb.toInt ∧ zb.toInt ≤ 127 := by rw [← hzb, vp_nar_byte]; exact a_i2bR zw
                  obtain ⟨ρ3, q5, q6⟩ := b_fit_ok q3.2.2 (z := zb.toInt) q4 (lo := -128) (hi := 127) hzr.1 hzr.2 (fun s1 s2 => by rw [← hzb, vp_nar_byte, a_i2b s1 s2])
                  have he2 := he.tr q5
                  refine b_pt_ok hG hD hWr hH (hM.up he2) he2 k3 hT p2 (hxx.up (q3.tr q5)) (tag := 0) (y := (b_fit W2 y (-128) 127).2) (w := .int zb) (by unfold b_gv; exact q6) (by decide) (b_upd_int r1 (by omega)) ⟨h1.up he2, b_all2.up he2 g6, h3, hok⟩ ?_ h
                  have hA : m_ast 1 (.int zw) zi k σ = some (σ.set k (.inl (1, .inl (xs.set j zb)))) := by
                    unfold m_ast
                    rw [r1]
                    dsimp only
                    rw [if_pos (b_in p1 (by omega)), if_neg (by decide), if_pos ⟨rfl, rfl⟩, hnc, hzb]
                  simp only [m_step, hA, Option.map_some]
                | false =>
                  rw [e3] at h
                  simp only [cond_false] at h
                  have e4 : c.2.1 = 2 := by
                    rcases r3 with h | h
                    · rw [h] at e3; cases e3
                    · exact h
                  rw [e4] at r1
                  obtain ⟨ρ3, q5, q6⟩ := b_fit_ok q3.2.2 (z := (vp_nar .boolean zw).toInt) q4 (lo := 0) (hi := 1) (b_boolR zw).1 (b_boolR zw).2 (fun s1 s2 => by rw [b_bool1 s1 s2])
                  have he2 := he.tr q5
                  refine b_pt_ok hG hD hWr hH (hM.up he2) he2 k3 hT p2 (hxx.up (q3.tr q5)) (tag := 0) (y := (b_fit W2 y 0 1).2) (w := .int (vp_nar .boolean zw)) q6 (by decide) (b_upd_int r1 (by omega)) ⟨h1.up he2, b_all2.up he2 g6, h3, hok⟩ ?_ h
                  have hA : m_ast 1 (.int zw) zi k σ = some (σ.set k (.inl (2, .inl (xs.set j (vp_nar .boolean zw))))) := by
                    unfold m_ast
                    rw [r1]
                    dsimp only
                    rw [if_pos (b_in p1 (by omega)), if_neg (by decide), if_neg (by decide), if_pos ⟨rfl, rfl⟩, hnc]
                  simp only [m_step, hA, Option.map_some]
              · cases h
            · cases h
          | false => rw [e2] at h; cases h
        · cases h
      | false => rw [e] at h; cases h
    · cases h
  · cases h
end B72

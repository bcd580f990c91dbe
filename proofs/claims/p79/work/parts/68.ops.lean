/-! the rest of the operations that leave the heap alone -/
def b_max1 (W : b_NF) (k : Nat) (x y : b_L) (a b c d : Int) : b_NF × b_L := match k with
  | 0 => bif decide (b ≤ c) then (W, y) else bif decide (d ≤ a) then (W, x) else b_fresh W (max a c) (max b d) 0
  | _ => bif decide (d ≤ a) then (W, y) else bif decide (b ≤ c) then (W, x) else b_fresh W (min a c) (min b d) 0
def b_max (W : b_NF) (k : Nat) (x y : b_L) : Option (b_NF × b_L) := match b_lo W.1 x, b_hi W.1 x, b_lo W.1 y, b_hi W.1 y with
  | some a, some b, some c, some d => some (b_max1 W k x y a b c d)
  | _, _, _, _ => none
noncomputable def b_h40 (W : b_NF) (M : b_M) (k : Nat) (nx : Nat) (lv : b_Lv) (st : List b_V) : b_H := match st with
  | y :: r => bif Nat.beq k 6 then (bif Nat.beq y.1 1 then some [((b_f64 W).1, M, nx, lv, (1, (b_f64 W).2) :: r)] else none) else match r with
    | x :: t => bif Nat.beq k 4 then (bif Nat.beq x.1 1 && Nat.beq y.1 1 then (match b_max W 0 x.2 y.2 with
        | some U => some [(U.1, M, nx, lv, (1, U.2) :: t)]
        | none => none) else none) else bif Nat.ble k 1 then (match b_num W x with
        | some (W1, x1) => match b_num W1 y with
          | some (W2, y1) => match b_max W2 k x1 y1 with
            | some U => some [(U.1, M, nx, lv, (0, U.2) :: t)]
            | none => none
          | none => none
        | none => none) else none
    | [] => none
  | [] => none
section B68
variable {T : Nat → Option b_C} {G : b_G} {fz : List (List Int32)} {Wr : Nat → Nat → Bool} {ρ : Nat → Int} {W : b_NF} {M : b_M} {cl : m_V} {cs : List Value} {σ : m_S} {lv : b_Lv} {st : List b_V} {L : List b_R} {nx : Nat}
theorem b_un_ok (hW : b_gW W ρ) {k : Nat} {v : b_V} {w : Value} (hv : b_gv W.1.1 ρ v w) {U : b_NF × b_V} (h : b_un W k v = some U) : ∃ w', m_un k w = some w' ∧ m_okv 139 w' = true ∧ ∃ ρ', b_ext W ρ U.1 ρ' ∧ b_gv U.1.1.1 ρ' U.2 w' := by
  unfold b_un at h
  cases e : Nat.beq v.1 1 with
  | true =>
    rw [e] at h
    obtain ⟨z, rfl, h1⟩ := b_lg e hv
    simp only [cond_true] at h
    split at h
    · cases h
      obtain ⟨ρ', g1, g2⟩ := b_t32_ok hW z.toInt32 h1 (Int64.toInt_toInt32 z)
      exact ⟨.int z.toInt32, rfl, rfl, ρ', g1, g2⟩
    · cases h
      obtain ⟨ρ', g1, g2⟩ := b_t64_ok hW (-z) h1.neg (Int64.toInt_neg z)
      exact ⟨.long (-z), rfl, rfl, ρ', g1, g2⟩
    · cases h
  | false =>
    rw [e] at h
    simp only [cond_false] at h
    split at h
    · rename_i W1 x hn
      obtain ⟨z, rfl, ρ1, g1, g2⟩ := b_num_ok hW hv hn
      unfold b_un1 at h
      split at h
      · cases h
        obtain ⟨ρ', k1, k2⟩ := b_t32_ok g1.2.2 (-z) g2.neg (Int32.toInt_neg z)
        exact ⟨.int (-z), rfl, rfl, ρ', g1.tr k1, k2⟩
      · cases h
        have k2 : b_gx W1.1.1 ρ1 x z.toInt64.toInt := by rw [a_i2l]; exact g2
        exact ⟨.long z.toInt64, rfl, rfl, ρ1, g1, k2⟩
      · cases h
        obtain ⟨ρ', k1, k2⟩ := b_fit_ok g1.2.2 (z := z.toInt8.toInt32.toInt) g2 (a_i2bR z).1 (a_i2bR z).2 (fun q1 q2 => by rw [a_i2b q1 q2])
        exact ⟨.int z.toInt8.toInt32, rfl, rfl, ρ', g1.tr k1, k2⟩
      · cases h
        obtain ⟨ρ', k1, k2⟩ := b_fit_ok g1.2.2 (z := z.toInt16.toInt32.toInt) g2 (a_i2sR z).1 (a_i2sR z).2 (fun q1 q2 => by rw [a_i2s q1 q2])
        exact ⟨.int z.toInt16.toInt32, rfl, rfl, ρ', g1.tr k1, k2⟩
      · cases h
    · cases h
theorem b_h7_ok {a : Nat} {v : Int} {q : List Nat} (hW : b_gW W ρ) (hH : b_gH T σ) (hM : b_gM G fz W.1.1 ρ σ M) (hf : b_gf W.1.1 ρ lv st cl cs) (h : b_h7 W M a nx lv st = some L) : b_Step T G fz Wr (7, a, v, q) nx W ρ cl cs σ L := by
  unfold b_h7 at h
  split at h
  · rename_i u r
    split at h
    · rename_i U hU
      cases h
      obtain ⟨h1, h2, h3, h4⟩ := hf
      obtain ⟨w, t, rfl, g1, g2⟩ := b_cons h2
      obtain ⟨w', k1, k0, ρ', he, k3⟩ := b_un_ok hW g1 hU
      refine b_pure hH hM (pc' := nx) (cl' := cl) (cs' := w' :: t) ?_ he (List.mem_singleton.mpr rfl) ⟨h1.up he, ⟨k3, b_all2.up he g2⟩, h3, b_okm k0 (b_okc h4).2⟩
      simp only [m_step, k1, Option.map_some]
    · cases h
  · cases h
theorem b_sg0 (a b : Int) : a_sg a b = a_sg (a - b) 0 := by
  unfold a_sg
  repeat' split
  all_goals omega
theorem b_h8_ok {a : Nat} {v : Int} {q : List Nat} (hW : b_gW W ρ) (hH : b_gH T σ) (hM : b_gM G fz W.1.1 ρ σ M) (hf : b_gf W.1.1 ρ lv st cl cs) (h : b_h8 W M nx lv st = some L) : b_Step T G fz Wr (8, a, v, q) nx W ρ cl cs σ L := by
  unfold b_h8 at h
  split at h
  · rename_i y x r
    cases e : Nat.beq x.1 1 && Nat.beq y.1 1 with
    | true =>
      rw [e] at h
      rw [Bool.and_eq_true] at e
      cases h
      obtain ⟨h1, h2, h3, h4⟩ := hf
      obtain ⟨wy, t1, rfl, g1, g2⟩ := b_cons h2
      obtain ⟨wx, t, rfl, g3, g4⟩ := b_cons g2
      obtain ⟨zx, rfl, q2⟩ := b_lg e.1 g3
      obtain ⟨zy, rfl, q4⟩ := b_lg e.2 g1
      refine b_pure hH hM (pc' := nx) (cl' := cl) (cs' := .int (lg_cmp zx zy) :: t) (by rfl) (b_ext.rf hW) (List.mem_singleton.mpr rfl) ⟨h1, ⟨?_, g4⟩, h3, b_okm rfl (b_okc (b_okc h4).2).2⟩
      refine ⟨zx.toInt - zy.toInt, ?_, by rw [a_cmpI, b_sg0]⟩
      have k := q2.add (-1) q4
      have e2 : zx.toInt + -1 * zy.toInt = zx.toInt - zy.toInt := by omega
      rw [e2] at k
      exact k
    | false => rw [e] at h; cases h
  · cases h
theorem b_stk_ok {n : Nat} {k : Nat} {r : List b_V} (hs : a_all2 (b_gv n ρ) st cs) (hc : cs.all (m_okv 139) = true) (h : b_stk k st = some r) : ∃ t, m_stk k cs = some t ∧ a_all2 (b_gv n ρ) r t ∧ t.all (m_okv 139) = true := by
  unfold b_stk at h
  split at h
  · rename_i a r'
    split at h
    · rename_i e
      cases h
      obtain ⟨w, t, rfl, g1, g2⟩ := b_cons hs
      exact ⟨t, by simp only [m_stk]; rw [if_pos (by rw [← b_gv_cat g1]; exact e)], g2, (b_okc hc).2⟩
    · cases h
  · rename_i a r'
    split at h
    · rename_i e
      cases h
      obtain ⟨w, t, rfl, g1, g2⟩ := b_cons hs
      exact ⟨t, by simp only [m_stk]; rw [if_pos (by rw [← b_gv_cat g1]; exact e)], g2, (b_okc hc).2⟩
    · cases h
  · rename_i a r'
    split at h
    · rename_i e
      cases h
      obtain ⟨w, t, rfl, g1, g2⟩ := b_cons hs
      exact ⟨w :: w :: t, by simp only [m_stk]; rw [if_pos (by rw [← b_gv_cat g1]; exact e)], ⟨g1, g1, g2⟩, b_okm (b_okc hc).1 hc⟩
    · cases h
  · rename_i a b r'
    split at h
    · rename_i e
      cases h
      obtain ⟨w, t, rfl, g1, g2⟩ := b_cons hs
      obtain ⟨w2, t, rfl, g3, g4⟩ := b_cons g2
      exact ⟨w :: w2 :: w :: w2 :: t, by simp only [m_stk]; rw [if_pos (by rw [← b_gv_cat g1, ← b_gv_cat g3]; exact e)], ⟨g1, g3, g1, g3, g4⟩, b_okm (b_okc hc).1 (b_okm (b_okc (b_okc hc).2).1 hc)⟩
    · cases h
  · cases h
theorem b_h9_ok {a : Nat} {v : Int} {q : List Nat} (hW : b_gW W ρ) (hH : b_gH T σ) (hM : b_gM G fz W.1.1 ρ σ M) (hf : b_gf W.1.1 ρ lv st cl cs) (h : b_h9 W M a nx lv st = some L) : b_Step T G fz Wr (9, a, v, q) nx W ρ cl cs σ L := by
  unfold b_h9 at h
  split at h
  · rename_i r hr
    cases h
    obtain ⟨t, g1, g2, g3⟩ := b_stk_ok hf.2.1 hf.2.2.2 hr
    refine b_pure hH hM (pc' := nx) (cl' := cl) (cs' := t) ?_ (b_ext.rf hW) (List.mem_singleton.mpr rfl) ⟨hf.1, g2, hf.2.2.1, g3⟩
    simp only [m_step, g1, Option.map_some]
  · cases h
theorem b_h10_ok {a : Nat} {v : Int} {q : List Nat} (hW : b_gW W ρ) (hH : b_gH T σ) (hM : b_gM G fz W.1.1 ρ σ M) (hf : b_gf W.1.1 ρ lv st cl cs) : b_Step T G fz Wr (10, a, v, q) nx W ρ cl cs σ [(W, M, a, lv, st)] :=
  b_pure hH hM (pc' := a) (cl' := cl) (cs' := cs) (by rfl) (b_ext.rf hW) (List.mem_singleton.mpr rfl) hf
theorem b_rel_iff {k a : Int} : b_rel k a ↔ a_rel k a 0 := by
  unfold b_rel a_rel
  split <;> simp_all
theorem b_br {k a : Int} {pc1 pc2 : Nat} {W' : b_NF} {ρ' : Nat → Int} {I : m_I} {x : b_L} {r : List b_V} {t : List Value} (hH : b_gH T σ) (hM : b_gM G fz W.1.1 ρ σ M) (he : b_ext W ρ W' ρ') (hx : b_gx W'.1.1 ρ' x a) (hf : b_gf W'.1.1 ρ' lv r cl t) {c : Bool} (hc : c = true ↔ b_rel k a)
    (hs : m_step fz I nx cl cs σ = some (.inl (if c = true then pc1 else pc2, cl, t, σ))) (hL : L = (b_learn W' k x).map (fun U => (U, M, pc1, lv, r)) ++ (b_learn W' (a_ng k) x).map (fun U => (U, M, pc2, lv, r))) : b_Step T G fz Wr I nx W ρ cl cs σ L := by
  have hup : ∀ {U : b_NF}, b_gW U ρ' → U.1.1 = W'.1.1 → b_ext W' ρ' U ρ' := fun h1 h2 => ⟨by rw [h2]; exact Nat.le_refl _, fun _ _ => rfl, h1⟩
  by_cases h : c = true
  · obtain ⟨U, g1, g2, g3⟩ := b_learn_ok he.2.2 hx (hc.mp h)
    rw [if_pos h] at hs
    have he2 := he.tr (hup g2 g3)
    refine b_pure hH hM hs he2 (lv' := lv) (st' := r) ?_ (hf.up (hup g2 g3))
    rw [hL]
    exact List.mem_append_left _ (List.mem_map.mpr ⟨U, g1, rfl⟩)
  · have h2 : b_rel (a_ng k) a := b_rel_iff.mpr (a_ng_rel k a 0 (fun h9 => h (hc.mpr (b_rel_iff.mpr h9))))
    obtain ⟨U, g1, g2, g3⟩ := b_learn_ok he.2.2 hx h2
    rw [if_neg h] at hs
    have he2 := he.tr (hup g2 g3)
    refine b_pure hH hM hs he2 (lv' := lv) (st' := r) ?_ (hf.up (hup g2 g3))
    rw [hL]
    exact List.mem_append_right _ (List.mem_map.mpr ⟨U, g1, rfl⟩)
theorem b_sg_iff {k a : Int} : b_rel k (a_sg a 0) ↔ b_rel k a := by
  constructor
  · intro h
    exact b_rel_iff.mpr (a_sg_rel (b_rel_iff.mp h))
  · intro h
    unfold a_sg
    unfold b_rel at h ⊢
    split at h <;> (repeat' split) <;> omega
theorem b_h11_ok {a : Nat} {v : Int} {q : List Nat} (hW : b_gW W ρ) (hH : b_gH T σ) (hM : b_gM G fz W.1.1 ρ σ M) (hf : b_gf W.1.1 ρ lv st cl cs) (h : b_h11 W M a v nx lv st = some L) : b_Step T G fz Wr (11, a, v, q) nx W ρ cl cs σ L := by
  unfold b_h11 at h
  split at h
  · rename_i x r
    cases e : Nat.beq x.1 0 || Nat.beq x.1 6 with
    | true =>
      rw [e] at h
      simp only [cond_true, Option.some.injEq] at h
      obtain ⟨h1, h2, h3, h4⟩ := hf
      obtain ⟨w, t, rfl, g1, g2⟩ := b_cons h2
      have hz : ∃ (z : Int32) (b : Int), w = .int z ∧ b_gx W.1.1 ρ x.2 b ∧ (b_rel v z.toInt ↔ b_rel v b) := by
        obtain ⟨tg, y⟩ := x
        unfold b_gv at g1
        split at g1
        · rename_i z e2; exact ⟨z, z.toInt, rfl, g1, Iff.rfl⟩
        · rename_i e2; dsimp only at e2; subst e2; simp at e
        · rename_i e2; dsimp only at e2; subst e2; simp at e
        · rename_i z e2
          obtain ⟨b, k1, k2⟩ := g1
          exact ⟨z, b, rfl, k1, by rw [k2]; exact b_sg_iff⟩
        · exact g1.elim
      obtain ⟨z, b, rfl, k1, k2⟩ := hz
      have hc : m_cd v z 0 = true ↔ b_rel v b := by
        rw [a_cd_rel, ← k2, b_rel_iff]
        exact Iff.rfl
      exact b_br hH hM (b_ext.rf hW) k1 ⟨h1, g2, h3, (b_okc h4).2⟩ hc (by rfl) h.symm
    | false => rw [e] at h; cases h
  · cases h
theorem b_h12_ok {a : Nat} {v : Int} {q : List Nat} (hW : b_gW W ρ) (hH : b_gH T σ) (hM : b_gM G fz W.1.1 ρ σ M) (hf : b_gf W.1.1 ρ lv st cl cs) (h : b_h12 W M a v nx lv st = some L) : b_Step T G fz Wr (12, a, v, q) nx W ρ cl cs σ L := by
  unfold b_h12 at h
  split at h
  · rename_i y x r
    split at h
    · rename_i W1 x1 hx
      split at h
      · rename_i W2 y1 hy
        simp only [Option.some.injEq] at h
        obtain ⟨h1, h2, h3, h4⟩ := hf
        obtain ⟨wy, t1, rfl, g1, g2⟩ := b_cons h2
        obtain ⟨wx, t, rfl, g3, g4⟩ := b_cons g2
        obtain ⟨zx, rfl, ρ1, q1, q2⟩ := b_num_ok hW g3 hx
        obtain ⟨zy, rfl, ρ2, q3, q4⟩ := b_num_ok q1.2.2 (g1.up q1) hy
        have he := q1.tr q3
        have hd := (q2.up q3).add (-1) q4
        have hc : m_cd v zx zy = true ↔ b_rel v (zx.toInt + -1 * zy.toInt) := by
          rw [a_cd_rel, b_rel_iff]
          unfold a_rel
          split <;> omega
        exact b_br hH hM he hd ⟨h1.up he, b_all2.up he g4, h3, (b_okc (b_okc h4).2).2⟩ hc (by rfl) h.symm
      · cases h
    · cases h
  · cases h
end B68

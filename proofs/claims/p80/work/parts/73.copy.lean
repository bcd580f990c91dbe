/-! System.arraycopy -/
def b_sub1 (l0 l1 : List b_T) : Bool := match l0, l1 with
  | [t0], [t1] => Nat.beq t0.1 t1.1 && (Nat.ble t0.1 1 && (decide (t1.2.1 ≤ t0.2.1) && (decide (t0.2.2.1 ≤ t1.2.2.1) && Nat.beq t1.2.2.2 0)))
  | _, _ => false
def b_k03 (c0 c1 : b_C) : Bool := Nat.beq c0.1 1 && (Nat.beq c1.1 1 && (Nat.beq c0.2.1 c1.2.1 && (Nat.beq c0.2.1 0 || Nat.beq c0.2.1 3)))
noncomputable def b_rng26 (W : b_NF) (n d s : b_L) (l0 l1 : Nat) : Bool := b_ge W n 0 && (b_ge W d 0 && (b_ge W s 0 && (b_le W (b_add s 1 n) (l0 : Int) && b_le W (b_add d 1 n) (l1 : Int))))
noncomputable def b_cp26 (T : Nat → Option b_C) (dep Wr : Nat → Nat → Bool) (W : b_NF) (M : b_M) (n d s : b_L) (b1 b0 : Nat) (nx : Nat) (lv : b_Lv) (r : List b_V) : b_H := match T b0, T b1 with
  | some c0, some c1 => bif b_k03 c0 c1 && (b_rng26 W n d s c0.2.2.1 c1.2.2.1 && (Wr b1 0 && (b_sub1 c0.2.2.2.2 c1.2.2.2.2 && Nat.ble (b_cats r) 8))) then some [(W, M.filter (fun q => !(Nat.beq q.1 b1) && !(dep q.1 b1)), nx, lv, r)] else none
  | _, _ => none
noncomputable def b_h26 (T : Nat → Option b_C) (dep Wr : Nat → Nat → Bool) (W : b_NF) (M : b_M) (nx : Nat) (lv : b_Lv) (st : List b_V) : b_H := match st with
  | n :: d :: b1 :: s :: b0 :: r => match b_num W n with
    | some (W1, xn) => match b_num W1 d with
      | some (W2, xd) => match b_num W2 s with
        | some (W3, xs) => bif b_rf b1 && b_rf b0 then b_cp26 T dep Wr W3 M xn xd xs b1.2.1.toNat b0.2.1.toNat nx lv r else none
        | none => none
      | none => none
    | none => none
  | _ => none
section B73
variable {T : Nat → Option b_C} {G : b_G} {fz : List (List Int32)} {dep Wr : Nat → Nat → Bool} {ρ : Nat → Int} {W : b_NF} {M : b_M} {cl : m_V} {cs : List Value} {σ σ' : m_S} {lv : b_Lv} {st : List b_V} {L : List b_R} {nx : Nat}
theorem b_sub1_ok {l0 l1 : List b_T} {t : b_T} {w : Value} (h : b_sub1 l0 l1 = true) (ht : t ∈ l0) (hw : b_gt t w) : ∃ t1, l1 = [t1] ∧ b_gt t1 w := by
  unfold b_sub1 at h
  split at h
  · rename_i t0 t1
    simp only [Bool.and_eq_true, decide_eq_true_eq] at h
    obtain ⟨h1, h2, h3, h4, h5⟩ := h
    rcases List.mem_singleton.mp ht with rfl
    refine ⟨t1, rfl, ?_⟩
    have e := Nat.eq_of_beq_eq_true h1
    have e5 := Nat.eq_of_beq_eq_true h5
    have e2 : t.1 ≤ 1 := Nat.le_of_ble_eq_true h2
    obtain ⟨a, lo, hi, mk⟩ := t
    obtain ⟨a1, lo1, hi1, mk1⟩ := t1
    dsimp only at e e5 e2 h3 h4
    subst e
    subst e5
    unfold b_gt at hw ⊢
    dsimp only at hw ⊢
    split at hw
    · exact ⟨by have := hw.1; dsimp only at this ⊢; omega, by have := hw.2.1; dsimp only at this ⊢; omega, b_mk0 _⟩
    · exact ⟨by have := hw.1; dsimp only at this ⊢; omega, by have := hw.2.1; dsimp only at this ⊢; omega, b_mk0 _⟩
    · omega
    · exact hw.elim
  · cases h
/-- all of a row may have changed, nothing else has -/
theorem b_row_ok {b1 : Nat} {c1 : b_C} {z' : m_E} (hG : b_GOk G dep) (hWr : b_WrOk T Wr) (hH : b_gH T σ) (hM : b_gM G fz W.1.1 ρ σ M) (hb : b1 < 139) (hT : T b1 = some c1) (hc : c1.1 = 1) (hw : Wr b1 0 = true) (hsh : b_sh c1 z') (hel : ∀ i, i < c1.2.2.1 → ∃ t w, c1.2.2.2.2[i % c1.2.2.2.1]? = some t ∧ b_rd (σ.set b1 z') b1 i = some w ∧ b_gt t w) :
    b_gH T (σ.set b1 z') ∧ b_gM G fz W.1.1 ρ (σ.set b1 z') (M.filter (fun q => !(Nat.beq q.1 b1) && !(dep q.1 b1))) ∧ b_frame Wr σ (σ.set b1 z') := by
  have hlen : b1 < σ.length := by rw [hH.1]; exact hb
  have hoth : ∀ k i, k ≠ b1 → b_rd (σ.set b1 z') k i = b_rd σ k i := by
    intro k i hk
    unfold b_rd
    rw [List.getElem?_set_ne (fun h9 => hk h9.symm)]
  refine ⟨⟨by rw [List.length_set]; exact hH.1, fun k hk => ?_⟩, fun q hq => ?_, fun k i hk => ?_⟩
  · by_cases e : k = b1
    · subst e
      obtain ⟨c, g1, z, g2, g3, g4, g5⟩ := hH.2 k hk
      rw [hT] at g1
      cases g1
      exact ⟨_, hT, z', List.getElem?_set_self hlen, hsh, g4, hel⟩
    · obtain ⟨c, g1, z, g2, g3, g4, g5⟩ := hH.2 k hk
      refine ⟨c, g1, z, by rw [List.getElem?_set_ne (fun h9 => e h9.symm)]; exact g2, g3, g4, fun i hi => ?_⟩
      rw [hoth k i e]
      exact g5 i hi
  · obtain ⟨h1, h2⟩ := List.mem_filter.mp hq
    simp only [Bool.and_eq_true, Bool.not_eq_true'] at h2
    have hne : q.1 ≠ b1 := fun h9 => by rw [h9] at h2; simp at h2
    obtain ⟨a, g1, g2⟩ := hM q h1
    refine ⟨a, g1, ?_⟩
    by_cases c1 : q.1 < 139
    · rw [if_pos c1] at g2 ⊢
      obtain ⟨j, e1, w', g3, g4⟩ := g2
      exact ⟨j, e1, w', by rw [hoth _ _ hne]; exact g3, g4⟩
    · rw [if_neg c1] at g2 ⊢
      by_cases c2 : q.1 < m_fzb
      · rw [if_pos c2] at g2 ⊢
        rw [hG q.1 σ (σ.set b1 z') (fun c hc2 i' => hoth c i' (fun h9 => by rw [h9] at hc2; rw [hc2] at h2; exact absurd h2.2 (by decide))) a]
        exact g2
      · rw [if_neg c2] at g2 ⊢
        exact g2
  · refine hoth k i (fun h9 => ?_)
    subst h9
    rw [hWr k c1 hT hc i, hw] at hk
    cases hk
theorem b_cpy_at {α : Type} {d : α} {xs ys : List α} {sp dp n j : Nat} (hj : j < ys.length) : (m_cpy d xs ys sp dp n)[j]? = some (va_cpy (fun j => xs.getD j d) (fun j => ys.getD j d) sp dp n j) := by
  unfold m_cpy
  rw [List.getElem?_map, List.getElem?_range hj]
  rfl
theorem b_cpy_len {α : Type} {d : α} {xs ys : List α} {sp dp n : Nat} : (m_cpy d xs ys sp dp n).length = ys.length := by simp [m_cpy]
theorem b_h26_ok {a : Nat} {v : Int} {q : List Nat} (hG : b_GOk G dep) (hWr : b_WrOk T Wr) (hW : b_gW W ρ) (hH : b_gH T σ) (hM : b_gM G fz W.1.1 ρ σ M) (hf : b_gf W.1.1 ρ lv st cl cs) (h : b_h26 T dep Wr W M nx lv st = some L) : b_Step T G fz Wr (26, a, v, q) nx W ρ cl cs σ L := by
  unfold b_h26 at h
  split at h
  · rename_i n d b1 s b0 r
    split at h
    · rename_i W1 xn hn
      split at h
      · rename_i W2 xd hd
        split at h
        · rename_i W3 xs hs
          obtain ⟨h1, h2, h3, h4⟩ := hf
          obtain ⟨cn, t1, rfl, g1, g2⟩ := b_cons h2
          obtain ⟨cd, t2, rfl, g3, g4⟩ := b_cons g2
          obtain ⟨cb1, t3, rfl, g5, g6⟩ := b_cons g4
          obtain ⟨csp, t4, rfl, g7, g8⟩ := b_cons g6
          obtain ⟨cb0, t, rfl, g9, g10⟩ := b_cons g8
          obtain ⟨zn, rfl, ρ1, p1, p2⟩ := b_num_ok hW g1 hn
          obtain ⟨zd, rfl, ρ2, p3, p4⟩ := b_num_ok p1.2.2 (g3.up p1) hd
          obtain ⟨zs, rfl, ρ3, p5, p6⟩ := b_num_ok (p1.tr p3).2.2 (g7.up (p1.tr p3)) hs
          have he := (p1.tr p3).tr p5
          have xn3 := (p2.up p3).up p5
          have xd3 := p4.up p5
          cases e : b_rf b1 && b_rf b0 with
          | true =>
            rw [e] at h
            rw [Bool.and_eq_true] at e
            simp only [cond_true] at h
            obtain ⟨k1, rfl, k2, k3⟩ := b_rf_ok e.1 g5
            obtain ⟨k0, rfl, k4, k5⟩ := b_rf_ok e.2 g9
            rw [k2, k4] at h
            dsimp only at h
            rw [Int.toNat_natCast, Int.toNat_natCast] at h
            unfold b_cp26 at h
            split at h
            · rename_i c0 c1 hT0 hT1
              cases e2 : b_k03 c0 c1 && (b_rng26 W3 xn xd xs c0.2.2.1 c1.2.2.1 && (Wr k1 0 && (b_sub1 c0.2.2.2.2 c1.2.2.2.2 && Nat.ble (b_cats r) 8))) with
              | true =>
                rw [e2] at h
                simp only [cond_true, Option.some.injEq] at h
                simp only [Bool.and_eq_true] at e2
                obtain ⟨f1, f2, f3, f4, f5⟩ := e2
                unfold b_k03 at f1
                simp only [Bool.and_eq_true, Bool.or_eq_true] at f1
                obtain ⟨a1, a2, a3, a4⟩ := f1
                have a1 := Nat.eq_of_beq_eq_true a1
                have a2 := Nat.eq_of_beq_eq_true a2
                have a3 := Nat.eq_of_beq_eq_true a3
                unfold b_rng26 at f2
                simp only [Bool.and_eq_true] at f2
                obtain ⟨b2, b3, b4, b5, b6⟩ := f2
                have b2 := b_ge_ok he.2.2 b2
                have b3 := b_ge_ok he.2.2 b3
                have b4 := b_ge_ok he.2.2 b4
                have b5 := b_le_ok he.2.2 b5
                have b6 := b_le_ok he.2.2 b6
                rw [xn3.1] at b2
                rw [xd3.1] at b3
                rw [p6.1] at b4
                rw [(p6.add 1 xn3).1] at b5
                rw [(xd3.add 1 xn3).1] at b6
                have hcat : (t.map fun v => v.category).sum ≤ 8 := by
                  rw [← b_cats_ok g10]
                  exact Nat.le_of_ble_eq_true f5
                obtain ⟨in0, hin0⟩ : ∃ i : Nat, zn.toInt = (i : Int) := ⟨zn.toInt.toNat, by omega⟩
                obtain ⟨id0, hid0⟩ : ∃ i : Nat, zd.toInt = (i : Int) := ⟨zd.toInt.toNat, by omega⟩
                obtain ⟨is0, his0⟩ : ∃ i : Nat, zs.toInt = (i : Int) := ⟨zs.toInt.toNat, by omega⟩
                obtain ⟨c0', u1, z0, u2, u3, u4, u5⟩ := hH.2 k0 k5
                obtain ⟨c1', v1, z1, v2, v3, v4, v5⟩ := hH.2 k1 k3
                rw [hT0] at u1
                cases u1
                rw [hT1] at v1
                cases v1
                have hfin : ∀ τz : m_E, m_acp in0 id0 k1 is0 k0 σ = some (σ.set k1 τz) → b_sh c1 τz → (∀ i, i < c1.2.2.1 → ∃ t w, c1.2.2.2.2[i % c1.2.2.2.1]? = some t ∧ b_rd (σ.set k1 τz) k1 i = some w ∧ b_gt t w) → b_Step T G fz Wr (26, a, v, q) nx W ρ cl (.int zn :: .int zd :: .ref k1 :: .int zs :: .ref k0 :: t) σ L := by
                  intro τz s1 s2 s3
                  obtain ⟨s4, s5, s6⟩ := b_row_ok hG hWr hH (hM.up he) k3 hT1 a2 f3 s2 s3
                  refine ⟨nx, cl, t, σ.set k1 τz, ?_, s6, _, by rw [← h]; exact List.mem_singleton.mpr rfl, ρ3, he, rfl, s4, s5, h1.up he, b_all2.up he g10, h3, (b_okc (b_okc (b_okc (b_okc (b_okc h4).2).2).2).2).2⟩
                  simp only [m_step]
                  rw [if_pos ⟨by omega, by omega, by omega, hcat⟩, b_nc hin0, b_nc hid0, b_nc his0, s1]
                  rfl
                have hty : ∀ {w : Value} {i : Nat}, b_rd σ k0 i = some w → ∃ t1, c1.2.2.2.2 = [t1] ∧ b_gt t1 w := by
                  intro w i hr
                  obtain ⟨t0, w', m1, m2, m3⟩ := u5 i (b_rd_lt u2 u3 hr)
                  rw [hr] at m2
                  cases m2
                  exact b_sub1_ok f4 (List.mem_of_getElem? m1) m3
                have hmod : ∀ {t1 : b_T} {i : Nat}, c1.2.2.2.2 = [t1] → i < c1.2.2.1 → c1.2.2.2.2[i % c1.2.2.2.1]? = some t1 := by
                  intro t1 i m1 hi
                  obtain ⟨t0, w', m2, -, -⟩ := v5 i hi
                  rw [m1] at m2 ⊢
                  rw [m2]
                  exact congrArg some (List.mem_singleton.mp (List.mem_of_getElem? m2))
                have hlen1 : k1 < σ.length := by rw [hH.1]; exact k3
                have i1 : is0 + in0 ≤ c0.2.2.1 := by omega
                have i2 : id0 + in0 ≤ c1.2.2.1 := by omega
                unfold b_sh at u3 v3
                match z0, z1, u2, u3, v2, v3 with
                | .inr _, _, _, u3, _, _ => exact absurd (a1.symm.trans u3.1) (by decide)
                | _, .inr _, _, _, _, v3 => exact absurd (a2.symm.trans v3.1) (by decide)
                | .inl (t0, .inl xs0), .inl (t1, .inl ys), u2, u3, v2, v3 =>
                  have ht0 : t0 = 0 := by
                    rcases a4 with h | h
                    · have := Nat.eq_of_beq_eq_true h; have := u3.2.1; omega
                    · have := Nat.eq_of_beq_eq_true h; have := u3.2.1; have := u3.2.2.1; omega
                  have ht1 : t1 = 0 := by have := v3.2.1; have := u3.2.1; omega
                  subst ht0
                  subst ht1
                  have l0 := u3.2.2.2
                  have l1 := v3.2.2.2
                  refine hfin (.inl (0, .inl (m_cpy 0 xs0 ys is0 id0 in0))) ?_ ⟨a2, v3.2.1, by decide, by rw [b_cpy_len]; exact l1⟩ ?_
                  · unfold m_acp
                    rw [u2, v2]
                    dsimp only
                    rw [if_pos ⟨rfl, rfl, by omega, by omega⟩]
                  · intro i hi
                    have hrd : b_rd (σ.set k1 (.inl (0, .inl (m_cpy 0 xs0 ys is0 id0 in0)))) k1 i = some (.int (va_cpy (fun j => xs0.getD j 0) (fun j => ys.getD j 0) is0 id0 in0 i)) := by
                      unfold b_rd
                      rw [List.getElem?_set_self hlen1]
                      dsimp only
                      rw [b_cpy_at (by omega)]
                      rfl
                    rw [hrd]
                    unfold va_cpy
                    split
                    · rename_i hc
                      have hlt : is0 + (i - id0) < xs0.length := by omega
                      have hr0 : b_rd σ k0 (is0 + (i - id0)) = some (.int (xs0.getD (is0 + (i - id0)) 0)) := by
                        unfold b_rd
                        rw [u2]
                        dsimp only
                        rw [List.getElem?_eq_getElem hlt]
                        simp [List.getD, List.getElem?_eq_getElem hlt]
                      obtain ⟨t1, m1, m2⟩ := hty hr0
                      exact ⟨t1, _, hmod m1 hi, rfl, m2⟩
                    · have hlt : i < ys.length := by omega
                      obtain ⟨t1, w', m1, m2, m3⟩ := v5 i hi
                      have : w' = .int (ys.getD i 0) := by
                        unfold b_rd at m2
                        rw [v2] at m2
                        dsimp only at m2
                        rw [List.getElem?_eq_getElem hlt] at m2
                        simp only [Option.map_some, Option.some.injEq] at m2
                        rw [← m2]
                        simp [List.getD, List.getElem?_eq_getElem hlt]
                      rw [this] at m3
                      exact ⟨t1, _, m1, rfl, m3⟩
                | .inl (t0, .inr (.inl xs0)), .inl (t1, .inr (.inl ys)), u2, u3, v2, v3 =>
                  have ht0 : t0 = 3 := u3.2.2.1
                  have ht1 : t1 = 3 := v3.2.2.1
                  subst ht0
                  subst ht1
                  have l0 := u3.2.2.2
                  have l1 := v3.2.2.2
                  refine hfin (.inl (3, .inr (.inl (m_cpy 0 xs0 ys is0 id0 in0)))) ?_ ⟨a2, v3.2.1, rfl, by rw [b_cpy_len]; exact l1⟩ ?_
                  · unfold m_acp
                    rw [u2, v2]
                    dsimp only
                    rw [if_pos ⟨rfl, rfl, by omega, by omega⟩]
                  · intro i hi
                    have hrd : b_rd (σ.set k1 (.inl (3, .inr (.inl (m_cpy 0 xs0 ys is0 id0 in0))))) k1 i = some (.long (va_cpy (fun j => xs0.getD j 0) (fun j => ys.getD j 0) is0 id0 in0 i)) := by
                      unfold b_rd
                      rw [List.getElem?_set_self hlen1]
                      dsimp only
                      rw [b_cpy_at (by omega)]
                      rfl
                    rw [hrd]
                    unfold va_cpy
                    split
                    · rename_i hc
                      have hlt : is0 + (i - id0) < xs0.length := by omega
                      have hr0 : b_rd σ k0 (is0 + (i - id0)) = some (.long (xs0.getD (is0 + (i - id0)) 0)) := by
                        unfold b_rd
                        rw [u2]
                        dsimp only
                        rw [List.getElem?_eq_getElem hlt]
                        simp [List.getD, List.getElem?_eq_getElem hlt]
                      obtain ⟨t1, m1, m2⟩ := hty hr0
                      exact ⟨t1, _, hmod m1 hi, rfl, m2⟩
                    · have hlt : i < ys.length := by omega
                      obtain ⟨t1, w', m1, m2, m3⟩ := v5 i hi
                      have : w' = .long (ys.getD i 0) := by
                        unfold b_rd at m2
                        rw [v2] at m2
                        dsimp only at m2
                        rw [List.getElem?_eq_getElem hlt] at m2
                        simp only [Option.map_some, Option.some.injEq] at m2
                        rw [← m2]
                        simp [List.getD, List.getElem?_eq_getElem hlt]
                      rw [this] at m3
                      exact ⟨t1, _, m1, rfl, m3⟩
                | .inl (t0, .inl _), .inl (t1, .inr (.inl _)), _, u3, _, v3 => have := u3.2.2.1; have := v3.2.2.1; have := u3.2.1; have := v3.2.1; omega
                | .inl (t0, .inr (.inl _)), .inl (t1, .inl _), _, u3, _, v3 => have := u3.2.2.1; have := v3.2.2.1; have := u3.2.1; have := v3.2.1; omega
                | .inl (t0, .inr (.inr _)), _, _, u3, _, _ =>
                  rcases a4 with h | h
                  · have := Nat.eq_of_beq_eq_true h; have := u3.2.1; have := u3.2.2.1; omega
                  · have := Nat.eq_of_beq_eq_true h; have := u3.2.1; have := u3.2.2.1; omega
                | _, .inl (t1, .inr (.inr _)), _, _, _, v3 =>
                  rcases a4 with h | h
                  · have := Nat.eq_of_beq_eq_true h; have := v3.2.1; have := v3.2.2.1; omega
                  · have := Nat.eq_of_beq_eq_true h; have := v3.2.1; have := v3.2.2.1; omega
              | false => rw [e2] at h; cases h
            · cases h
          | false => rw [e] at h; cases h
        · cases h
      · cases h
    · cases h
  · cases h
end B73

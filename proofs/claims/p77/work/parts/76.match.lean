/-! a template that is met -/
section B76
variable {T : Nat → Option b_C} {G : b_G} {fz : List (List Int32)} {ρ : Nat → Int} {W : b_NF} {M : b_M} {cl : m_V} {cs : List Value} {σ : m_S} {lv : b_Lv} {st : List b_V}
theorem b_get2_ok (hW : b_gW W ρ) (hH : b_gH T σ) (hM : b_gM G fz W.1.1 ρ σ M) {cell : Nat} {x : b_L} {a : Int} (hx : b_gx W.1.1 ρ x a) {U : b_NF × b_M × b_V} (h : b_get2 T W M cell x = some U) :
    ∃ ρ', b_ext W ρ U.1 ρ' ∧ b_gM G fz U.1.1.1 ρ' σ U.2.1 ∧ b_u U.1.1.1 U.2.2.2 := by
  unfold b_get2 at h
  cases e : Nat.blt cell 139 with
  | true =>
    rw [e] at h
    simp only [cond_true] at h
    obtain ⟨U1, U2, U3⟩ := U
    obtain ⟨ρ', i, w, g1, g2, g3, g4, g5⟩ := b_get_ok hW hH hM (Nat.blt_eq.mp e) hx h
    exact ⟨ρ', g1, g2, b_gv_u g5⟩
  | false =>
    rw [e] at h
    simp only [cond_false] at h
    have hc : ¬ cell < 139 := fun h9 => by rw [Nat.blt_eq.mpr h9] at e; cases e
    split at h
    · rename_i v hl
      cases h
      refine ⟨ρ, b_ext.rf hW, hM, ?_⟩
      obtain ⟨a', g1, g2⟩ := hM _ (b_look_mem hl)
      dsimp only at g1 g2 ⊢
      rw [if_neg hc] at g2
      by_cases c2 : cell < m_fzb
      · rw [if_pos c2] at g2
        exact g2.2.2
      · rw [if_neg c2] at g2
        obtain ⟨i, e1, zs, z, g4, g5, g6⟩ := g2
        exact b_gv_u g6
    · cases h
theorem b_mtM_ok (hH : b_gH T σ) : ∀ {l : b_M} {W : b_NF} {M : b_M} {θ : List b_L} {ρ : Nat → Int} {U : b_NF × b_M × List b_L}, b_gW W ρ → b_gM G fz W.1.1 ρ σ M → b_ua W.1.1 θ → b_mtM T W M θ l = some U → ∃ ρ', b_ext W ρ U.1 ρ' ∧ b_gM G fz U.1.1.1 ρ' σ U.2.1 ∧ b_ua U.1.1.1 U.2.2 ∧ b_pre θ U.2.2
  | [], W, M, θ, ρ, U, hW, hM, hθ, h => by cases h; exact ⟨ρ, b_ext.rf hW, hM, hθ, fun _ _ h => h⟩
  | q :: r, W, M, θ, ρ, U, hW, hM, hθ, h => by
    unfold b_mtM at h
    split at h
    · rename_i y hy
      split at h
      · rename_i V hV
        obtain ⟨ρ1, g1, g2, g3⟩ := b_get2_ok hW hH hM (b_sub_ok (ρ := ρ) hθ hy) hV
        obtain ⟨g4, g5⟩ := b_nw_ok (v := q.2.2) (hθ.up g1) g3
        obtain ⟨ρ2, k1, k2, k3, k4⟩ := b_mtM_ok hH g1.2.2 g2 g4 h
        exact ⟨ρ2, g1.tr k1, k2, k3, g5.tr k4⟩
      · cases h
    · cases h
/-- a template's own state -/
def b_gT (G : b_G) (fz : List (List Int32)) (ρ : Nat → Int) (σ : m_S) (tp : b_Tp) : Prop := b_gW (b_toN tp.1, tp.2.1) ρ ∧ b_gM G fz tp.1.length ρ σ tp.2.2.2.2
theorem b_match_ok {θ0 : List b_L} {tp : b_Tp} (hu : b_tpu tp = true) (hW : b_gW W ρ) (hH : b_gH T σ) (hM : b_gM G fz W.1.1 ρ σ M) (hl : b_gl W.1.1 ρ lv cl) (hs : a_all2 (b_gv W.1.1 ρ) st cs) (hθ : b_ua W.1.1 θ0) {U : b_NF × b_M × List b_L} (h : b_match T W M lv st θ0 tp = some U) :
    ∃ ρ', b_ext W ρ U.1 ρ' ∧ b_gM G fz U.1.1.1 ρ' σ U.2.1 ∧ b_ua U.1.1.1 U.2.2 ∧ b_pre θ0 U.2.2 ∧ U.2.2.length = tp.1.length ∧ b_gT G fz (b_rt ρ' U.2.2) σ tp ∧ b_gl tp.1.length (b_rt ρ' U.2.2) tp.2.2.1 cl ∧ a_all2 (b_gv tp.1.length (b_rt ρ' U.2.2)) tp.2.2.2.1 cs := by
  unfold b_tpu at hu
  simp only [Bool.and_eq_true] at hu
  obtain ⟨u1, u2, u3, u4⟩ := hu
  unfold b_match at h
  split at h
  · rename_i θ1 h1
    split at h
    · rename_i θ2 h2
      obtain ⟨a1, a2⟩ := b_mtL_ok hl hθ h1
      obtain ⟨a3, a4⟩ := b_mtS_ok hs a1 h2
      unfold b_match2 at h
      cases e : b_fast W.1 lv tp.2.2.1 with
      | true =>
        rw [e] at h
        simp only [cond_true] at h
        split at h
        · rename_i V hV
          cases e2 : b_ckL V.1.1 V.2.2 lv tp.2.2.1 && (b_ckS V.1.1 V.2.2 tp.2.2.2.1 st && (b_ckM V.1.1 V.2.2 V.2.1 tp.2.2.2.2 && (b_ckB V.1 V.2.2 tp.1 && b_ckF V.1 V.2.2 tp.2.1))) with
          | true =>
            rw [e2] at h
            simp only [Bool.and_eq_true] at e2
            obtain ⟨f1, f2, f3, f4, f5⟩ := e2
            obtain ⟨ρ', g1, g2, g3, g4⟩ := b_mtM_ok hH hW hM a3 hV
            obtain ⟨k1, k2⟩ := b_ckB_ok g1.2.2 f4
            have k3 := b_ckF_ok g1.2.2 g3 f5
            have k4 := b_ckM_ok (m := tp.1.length) g1.2.2.1 g3 g2 (fun q hq => by
              have := List.all_eq_true.mp u4 q hq
              rw [Bool.and_eq_true] at this
              exact ⟨b_ul_ok this.1, b_ul_ok this.2⟩) f3
            have k5 := b_ckL_ok (m := tp.1.length) g1.2.2.1 g3 (fun _ _ h => h) (hl.up g1) (fun q hq => b_ul_ok (List.all_eq_true.mp u2 q hq)) f1
            have k6 := b_ckS_ok (m := tp.1.length) g1.2.2.1 g3 (fun _ _ h => h) (fun v hv => b_ul_ok (List.all_eq_true.mp u3 v hv)) (b_all2.up g1 hs) f2
            cases h
            exact ⟨ρ', g1, g2, g3, (a2.tr a4).tr g4, k1, ⟨⟨⟨by simp [b_toN], fun s q hq => k2 s q (by rw [← b_toN_at]; exact hq)⟩, fun f hf => ⟨k3 f hf, b_ul_ok (List.all_eq_true.mp u1 f hf)⟩⟩, k4⟩, k5, k6⟩
          | false => rw [e2] at h; cases h
        · cases h
      | false => rw [e] at h; cases h
    · cases h
  · cases h
end B76

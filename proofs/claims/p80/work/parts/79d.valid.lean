/-! a contract that is checked is valid -/
def b_rows0 (T : Nat → Option b_C) (wr : List (Nat × Nat)) : Bool := wr.all fun p => Nat.beq p.2 0 || (match T p.1 with
  | some c => Nat.beq c.1 0
  | none => true)
/-- what holds of the tables alone -/
def b_chk0 (T : Nat → Option b_C) (c : b_K) (cuts : List b_Cu) : Bool := b_rows0 T c.2.2.2.1 && (b_tpu c.2.2.1 && cuts.all fun C => b_tpu C.2.1 && (Nat.ble c.2.2.1.1.length C.2.1.1.length && b_ul C.2.1.1.length C.2.2))
noncomputable def b_chkE (F : Nat → Nat → Option (m_I × Nat)) (T : Nat → Option b_C) (Z : Nat → Option (List Int32)) (dep : Nat → Nat → Bool) (hn : b_Hn) (Γ : List b_K) (c : b_K) (cuts : List b_Cu) (n : Nat) : Bool :=
  b_walk F T Z dep hn Γ c.2.2.2.1 c.1 c.2.1 c.2.2.1.1.length c.2.2.2.2 cuts none n ((b_toN c.2.2.1.1, c.2.2.1.2.1), c.2.2.1.2.2.2.2, [(c.1, 0, b_args 0 c.2.2.1.2.2.2.1, [])])
noncomputable def b_chkC (F : Nat → Nat → Option (m_I × Nat)) (T : Nat → Option b_C) (Z : Nat → Option (List Int32)) (dep : Nat → Nat → Bool) (hn : b_Hn) (Γ : List b_K) (c : b_K) (cuts : List b_Cu) (n : Nat) (C : b_Cu) : Bool :=
  b_adv F T Z dep hn Γ c.2.2.2.1 c.2.1 c.2.2.1.1.length c.2.2.2.2 (b_walk F T Z dep hn Γ c.2.2.2.1 c.1 c.2.1 c.2.2.1.1.length c.2.2.2.2 cuts (some C.2.2) n) ((b_toN C.2.1.1, C.2.1.2.1), C.2.1.2.2.2.2, [(c.1, C.1, C.2.1.2.2.1, C.2.1.2.2.2.1)])
/-- a cut's state, with the frames below -/
def b_CutWin (F : Nat → Nat → Option (m_I × Nat)) (fz : List (List Int32)) (T : Nat → Option b_C) (G : b_G) (wr : List (Nat × Nat)) (Fin : Option Value → m_S → Prop) (gs : List m_Fr) (σ0 : m_S) (mid g : Nat) (ρ1 : Nat → Int) (C : b_Cu) (R : Int → Prop) : Prop :=
  ∀ ρ' σ' cl cs, b_agr g ρ1 ρ' → b_gT G fz ρ' σ' C.2.1 → b_gH T σ' → b_gf C.2.1.1.length ρ' C.2.1.2.2.1 C.2.1.2.2.2.1 cl cs → b_frame (b_wrf wr) σ0 σ' → 0 ≤ b_ev ρ' C.2.2 → R (b_ev ρ' C.2.2) → b_win F fz Fin ((mid, C.1, cl, cs) :: gs) σ'
section B79d
variable {F : Nat → Nat → Option (m_I × Nat)} {T : Nat → Option b_C} {Z : Nat → Option (List Int32)} {G : b_G} {fz : List (List Int32)} {dep : Nat → Nat → Bool} {hn : b_Hn} {Γ : List b_K} {wr : List (Nat × Nat)} {mid h g : Nat} {posts : List b_Tp} {cuts : List b_Cu} {Fin : Option Value → m_S → Prop} {gs : List m_Fr} {σ0 : m_S} {n1 : Nat} {ρ1 : Nat → Int}
theorem b_rows0_ok (h : b_rows0 T wr = true) : b_WrOk T (b_wrf wr) := by
  intro k c hT hc i
  have key : ∀ j, b_wrf wr k j = wr.any fun p => Nat.beq p.1 k := by
    intro j
    unfold b_wrf
    cases e : wr.any fun p => Nat.beq p.1 k with
    | true =>
      obtain ⟨p, h1, h2⟩ := List.any_eq_true.mp e
      refine List.any_eq_true.mpr ⟨p, h1, ?_⟩
      have h3 := List.all_eq_true.mp h p h1
      have e2 := Nat.eq_of_beq_eq_true h2
      rw [Bool.or_eq_true] at h3
      rw [Bool.and_eq_true, Bool.or_eq_true]
      refine ⟨h2, ?_⟩
      rcases h3 with h3 | h3
      · exact Or.inl h3
      · rw [e2, hT] at h3
        dsimp only at h3
        rw [hc] at h3
        cases h3
    | false =>
      refine List.any_eq_false.mpr (fun p hp h9 => ?_)
      rw [Bool.and_eq_true] at h9
      exact List.any_eq_false.mp e p hp h9.1
  rw [key i, key 0]
theorem b_walk_ok (hG : b_GOk G dep) (hD : b_DepOk dep) (hWr : b_WrOk T (b_wrf wr)) (hZ : b_ZOk Z G fz) (hHn : b_HnOk T G fz hn) (hΓ : ∀ k ∈ Γ, b_Valid F fz T G k) (hgs : gs.length + h ≤ 60) (hg : g ≤ n1) (hPost : ∀ r σ', (∃ po ∈ posts, b_out T G fz g ρ1 σ0 wr po r σ') → b_ret F fz Fin gs r σ') {rk : Option b_L} (hrk : ∀ r0, rk = some r0 → b_u n1 r0)
    (hCut : ∀ C ∈ cuts, b_CutWin F fz T G wr Fin gs σ0 mid g ρ1 C (fun a => ∀ r0, rk = some r0 → a < b_ev ρ1 r0)) : ∀ n Q, b_walk F T Z dep hn Γ wr mid h g posts cuts rk n Q = true → b_Good F fz T G wr Fin gs σ0 n1 ρ1 Q := by
  intro n
  induction n with
  | zero => intro Q hq; cases hq
  | succ n ih =>
    intro Q hq
    have hq : (match b_atc T mid g rk cuts Q with
      | some b => b
      | none => b_adv F T Z dep hn Γ wr h g posts (b_walk F T Z dep hn Γ wr mid h g posts cuts rk n) Q) = true := hq
    split at hq
    · rename_i b hb
      subst hq
      unfold b_atc at hb
      split at hb
      · rename_i f hf1
        cases e : Nat.beq f.1 mid && cuts.any (fun C => Nat.beq C.1 f.2.1) with
        | true =>
          rw [e] at hb
          rw [Bool.and_eq_true] at e
          simp only [cond_true, Option.some.injEq] at hb
          obtain ⟨C, h1, h2⟩ := List.any_eq_true.mp hb
          simp only [Bool.and_eq_true] at h2
          obtain ⟨h3, h4, h5⟩ := h2
          intro ρ σ cfs hag hn1 hW hH hM hfs hfr
          rw [hf1] at hfs
          obtain ⟨⟨m2, pc2, clv, cst⟩, crs, rfl, ⟨e1, e2, hf⟩, hrs⟩ := b_unc hfs
          obtain rfl : crs = [] := by
            cases crs with
            | nil => rfl
            | cons => exact hrs.elim
          dsimp only at e1 e2 hf
          unfold b_arr at h5
          split at h5
          · rename_i U hU
            split at h5
            · rename_i y hy
              rw [Bool.and_eq_true] at h5
              obtain ⟨ρ', g1, g2, g3, g4, g5, g6, g7, g8⟩ := b_match_ok h4 hW hH hM hf.1 hf.2.1 (b_ids_ua (Nat.le_trans hg hn1)) hU
              have k1 := b_sub_ok (ρ := ρ') g3 hy
              have k2 := b_ge_ok g1.2.2 h5.1
              rw [k1.1] at k2
              have h6 := hCut C h1 (b_rt ρ' U.2.2) σ clv cst (fun s hs => by rw [b_ids_rt g4 s hs, g1.2.1 s (by omega), hag s (by omega)]) g6 hH ⟨g7, g8, hf.2.2⟩ hfr k2 (fun r0 hr0 => by
                have h7 := h5.2
                rw [hr0] at h7
                dsimp only at h7
                have k3 := b_le_ok g1.2.2 h7
                rw [b_add_ev, k1.1] at k3
                have k4 : b_ev ρ' r0 = b_ev ρ1 r0 := by
                  have := (show b_gx n1 ρ1 r0 (b_ev ρ1 r0) from ⟨rfl, hrk r0 hr0⟩).ext (ρ' := ρ') (n' := n1) (Nat.le_refl _) (hag.tr g1.2.1 hn1)
                  exact this.1
                omega)
              rw [Nat.eq_of_beq_eq_true h3, ← Nat.eq_of_beq_eq_true e.1, e1, e2] at h6
              exact h6
            · cases h5
          · cases h5
        | false => rw [e] at hb; cases hb
      · cases hb
    · exact b_adv_ok hG hD hWr hZ hHn hΓ hgs hg hPost (fun Q' hQ' => ih Q' hQ') hq
theorem b_valid {c : b_K} {n : Nat} (hG : b_GOk G dep) (hD : b_DepOk dep) (hZ : b_ZOk Z G fz) (hHn : b_HnOk T G fz hn) (hΓ : ∀ k ∈ Γ, b_Valid F fz T G k) (h0 : b_chk0 T c cuts = true) (hE : b_chkE F T Z dep hn Γ c cuts n = true) (hC : ∀ C ∈ cuts, b_chkC F T Z dep hn Γ c cuts n C = true) : b_Valid F fz T G c := by
  unfold b_chk0 at h0
  simp only [Bool.and_eq_true] at h0
  obtain ⟨z1, z2, z3⟩ := h0
  intro Fin ρ σ gs ws hT hH hs hok hgs hPost
  have hWr := b_rows0_ok z1
  have hcuts : ∀ m : Nat, ∀ C ∈ cuts, b_CutWin F fz T G c.2.2.2.1 Fin gs σ c.1 c.2.2.1.1.length ρ C (fun a => a.toNat < m) := by
    intro m
    induction m with
    | zero => intro C hC2 ρ' σ' cl cs _ _ _ _ _ _ h9; exact absurd h9 (Nat.not_lt_zero _)
    | succ m ih =>
      intro C hC2 ρ' σ' cl cs a1 a2 a3 a4 a5 a6 a7
      have hz := List.all_eq_true.mp z3 C hC2
      simp only [Bool.and_eq_true] at hz
      obtain ⟨y1, y2, y3⟩ := hz
      have y2 := Nat.le_of_ble_eq_true y2
      have hPost2 : ∀ r σ'', (∃ po ∈ c.2.2.2.2, b_out T G fz c.2.2.1.1.length ρ' σ c.2.2.2.1 po r σ'') → b_ret F fz Fin gs r σ'' := by
        rintro r σ'' ⟨po, p1, ρ'', p2, p3⟩
        exact hPost r σ'' ⟨po, p1, ρ'', a1.tr p2 (Nat.le_refl _), p3⟩
      have hgood := b_adv_ok (n1 := C.2.1.1.length) (ρ1 := ρ') (σ0 := σ) hG hD hWr hZ hHn hΓ hgs y2 hPost2 (b_walk_ok (rk := some C.2.2) hG hD hWr hZ hHn hΓ hgs y2 hPost2 (fun r0 hr0 => by cases hr0; exact b_ul_ok y3) (fun C' hC' ρ2 σ2 cl2 cs2 b1 b2 b3 b4 b5 b6 b7 => by
        refine ih C' hC' ρ2 σ2 cl2 cs2 (a1.tr b1 (Nat.le_refl _)) b2 b3 b4 b5 b6 ?_
        have := b7 C.2.2 rfl
        omega) n) (hC C hC2)
      exact hgood ρ' σ' [(c.1, C.1, cl, cs)] (fun _ _ => rfl) (by simp [b_toN]) a2.1 a3 (by simpa [b_toN] using a2.2) ⟨⟨rfl, rfl, by simpa [b_toN] using a4⟩, trivial⟩ a5
  have hw := b_walk_ok (n1 := c.2.2.1.1.length) (ρ1 := ρ) (σ0 := σ) (rk := none) (mid := c.1) (cuts := cuts) hG hD hWr hZ hHn hΓ hgs (Nat.le_refl _) hPost (fun r0 hr0 => by cases hr0) (fun C hC2 ρ' σ' cl cs b1 b2 b3 b4 b5 b6 _ => hcuts ((b_ev ρ' C.2.2).toNat + 1) C hC2 ρ' σ' cl cs b1 b2 b3 b4 b5 b6 (Nat.lt_succ_self _)) n _ hE
  exact hw ρ σ [(c.1, 0, lv_args 0 ws, [])] (fun _ _ => rfl) (by simp [b_toN]) hT.1 hH (by simpa [b_toN] using hT.2) ⟨⟨rfl, rfl, by simpa [b_toN] using b_args_ok hs, trivial, b_okargs hok, rfl⟩, trivial⟩ b_frame.rf
end B79d

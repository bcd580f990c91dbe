/-! one step more is right -/
section B79c
variable {F : Nat → Nat → Option (m_I × Nat)} {T : Nat → Option b_C} {Z : Nat → Option (List Int32)} {G : b_G} {fz : List (List Int32)} {dep : Nat → Nat → Bool} {hn : b_Hn} {Γ : List b_K} {wr : List (Nat × Nat)} {h g : Nat} {posts : List b_Tp} {cuts : List b_Cu} {Fin : Option Value → m_S → Prop} {gs : List m_Fr} {σ0 : m_S} {n1 : Nat} {ρ1 : Nat → Int}
theorem b_unc {α β : Type} {R : α → β → Prop} {x : α} {r : List α} : ∀ {bs : List β}, a_all2 R (x :: r) bs → ∃ b t, bs = b :: t ∧ R x b ∧ a_all2 R r t
  | [], h => h.elim
  | b :: t, h => ⟨b, t, rfl, h.1, h.2⟩
theorem b_frs.up {W W' : b_NF} {ρ ρ' : Nat → Int} {fs : List b_Fr} {cfs : List m_Fr} (he : b_ext W ρ W' ρ') (hf : a_all2 (b_gfr W.1.1 ρ) fs cfs) : a_all2 (b_gfr W'.1.1 ρ') fs cfs := hf.imp fun _ _ h => h.up he
theorem b_ids_at {s : Nat} (hs : s < g) : (b_ids g)[s]? = some (b_sym s) := by
  unfold b_ids
  rw [List.getElem?_map, List.getElem?_range hs]
  rfl
theorem b_ids_ua {n : Nat} (hg : g ≤ n) : b_ua n (b_ids g) := by
  intro y hy q hq
  unfold b_ids at hy
  obtain ⟨s, h1, rfl⟩ := List.mem_map.mp hy
  simp only [b_sym, List.mem_singleton] at hq
  subst hq
  have := List.mem_range.mp h1
  dsimp only
  omega
theorem b_ids_rt {ρ : Nat → Int} {θ : List b_L} (hp : b_pre (b_ids g) θ) : ∀ s, s < g → b_rt ρ θ s = ρ s := by
  intro s hs
  have := hp s _ (b_ids_at hs)
  unfold b_rt
  simp only [List.getD, this, Option.getD_some]
  exact b_sym_ev s
theorem b_callOk {I : m_I} {lv : m_V} {as rest : List Value} {σ : m_S} (hH : b_gH T σ) (h1 : m_okl 139 lv = true) (h2 : rest.all (m_okv 139) = true) (h3 : (rest.map fun v => v.category).sum ≤ 8) (h4 : (as.map fun v => v.category).sum ≤ I.2.2.2.getD 1 0) : m_callOk I lv as rest σ = true := by
  unfold m_callOk
  rw [hH.1, h1, h2]
  simp only [Bool.and_true, Bool.and_eq_true, decide_eq_true_eq]
  exact ⟨⟨by decide, h3⟩, h4⟩
theorem b_adv_ok (hG : b_GOk G dep) (hD : b_DepOk dep) (hWr : b_WrOk T (b_wrf wr)) (hZ : b_ZOk Z G fz) (hHn : b_HnOk T G fz hn) (hΓ : ∀ k ∈ Γ, b_Valid F fz T G k) (hgs : gs.length + h ≤ 60) (hg : g ≤ n1) (hPost : ∀ r σ', (∃ po ∈ posts, b_out T G fz g ρ1 σ0 wr po r σ') → b_ret F fz Fin gs r σ')
    {ih : b_Q → Bool} (hih : ∀ Q', ih Q' = true → b_Good F fz T G wr Fin gs σ0 n1 ρ1 Q') {Q : b_Q} (hb : b_adv F T Z dep hn Γ wr h g posts ih Q = true) : b_Good F fz T G wr Fin gs σ0 n1 ρ1 Q := by
  intro ρ σ cfs hag hn1 hW hH hM hfs hfr
  unfold b_adv at hb
  split at hb
  · cases hb
  · rename_i f frs hQ
    rw [hQ] at hfs
    obtain ⟨⟨mid, pc, clv, cst⟩, crs, rfl, ⟨e1, e2, hf⟩, hrs⟩ := b_unc hfs
    dsimp only at e1 e2 hf
    have hlen : crs.length = frs.length := hrs.len.symm
    split at hb
    · rename_i L hL
      obtain ⟨q, q1, ρ', he, hM'⟩ := hHn _ _ _ _ _ _ _ _ _ _ _ hL hW hH hM hf
      exact hih _ (List.all_eq_true.mp hb q q1) ρ' σ ((mid, pc, clv, cst) :: crs) (hag.tr he.2.1 hn1) (Nat.le_trans hn1 he.1) he.2.2 hH hM' ⟨⟨e1, e2, hf.up he⟩, b_frs.up he hrs⟩ hfr
    · split at hb
      · cases hb
      · rename_i Il hF
        obtain ⟨I, len⟩ := Il
        rw [e1, e2] at hF
        dsimp only at hb
        cases e24 : Nat.beq I.1 24 with
        | true =>
          rw [e24] at hb
          have e24 := Nat.eq_of_beq_eq_true e24
          simp only [cond_true] at hb
          split at hb
          · rename_i ar har
            cases ec : Nat.ble (b_cats ar.2) 8 && (Nat.ble (b_cats ar.1) (I.2.2.2.getD 1 0) && Nat.ble (frs.length + 1) h) with
            | true =>
              rw [ec] at hb
              simp only [Bool.and_eq_true] at ec
              obtain ⟨c1, c2, c3⟩ := ec
              have c1 := Nat.le_of_ble_eq_true c1
              have c2 := Nat.le_of_ble_eq_true c2
              have c3 := Nat.le_of_ble_eq_true c3
              simp only [cond_true] at hb
              obtain ⟨cas, crest, m1, m2, m3, m4, m5⟩ := b_cl_ok (fz := fz) (nx := pc + len) (cl := clv) e24 hH hf.2.1 hf.2.2.2 har
              rw [b_cats_ok m3] at c1
              rw [b_cats_ok m2] at c2
              have hcall := b_callOk (I := I) hH hf.2.2.1 m5 c1 c2
              have hnext : m_next F fz (((mid, pc, clv, cst) :: crs) ++ gs) σ = some (.inl ((I.2.1, 0, lv_args 0 cas, []) :: (mid, pc + len, clv, crest) :: (crs ++ gs), σ)) := by
                simp only [List.cons_append, m_next, hF, m1]
                rw [if_pos ⟨hcall, by rw [List.length_append]; omega⟩]
              refine b_win_step hnext ?_
              cases ek : Γ.any (fun k => Nat.beq k.1 I.2.1) with
              | true =>
                rw [ek] at hb
                simp only [cond_true] at hb
                split at hb
                · rename_i L hL
                  refine b_byK_ok (h := h) (fl := frs.length + 1) (gs' := (mid, pc + len, clv, crest) :: (crs ++ gs)) hG hW hH hM m2 m4 (by rw [List.length_cons, List.length_append]; omega) hΓ hL (fun q hq ρ' σ' r he hM' hH' hr hrok hfr' => ?_)
                  have hg2 := hih _ (List.all_eq_true.mp hb q hq) ρ' σ' ((mid, pc + len, clv, r.toList ++ crest) :: crs) (hag.tr he.2.1 hn1) (Nat.le_trans hn1 he.1) he.2.2 hH' hM' ⟨⟨e1, by rw [e2], hf.1.up he, hr.app (b_all2.up he m3), hf.2.2.1, by rw [List.all_append, hrok, m5]; rfl⟩, b_frs.up he hrs⟩ (hfr.tr hfr')
                  exact hg2
                · cases hb
              | false =>
                rw [ek] at hb
                simp only [cond_false, Bool.and_eq_true] at hb
                exact hih _ hb.2 ρ σ ((I.2.1, 0, lv_args 0 cas, []) :: (mid, pc + len, clv, crest) :: crs) hag hn1 hW hH hM ⟨⟨rfl, rfl, b_args_ok m2, trivial, b_okargs m4, rfl⟩, ⟨e1, by rw [e2], hf.1, m3, hf.2.2.1, m5⟩, hrs⟩ hfr
            | false => rw [ec] at hb; cases hb
          · cases hb
        | false =>
          rw [e24] at hb
          simp only [cond_false] at hb
          cases e27 : Nat.beq I.1 27 with
          | true =>
            rw [e27] at hb
            have e27 := Nat.eq_of_beq_eq_true e27
            simp only [cond_true, Bool.and_eq_true] at hb
            obtain ⟨b1, b2⟩ := hb
            obtain ⟨op, ia, iv, iq⟩ := I
            dsimp only at e27
            subst e27
            obtain ⟨r, r1, r2⟩ := b_rok_ok (fz := fz) (nx := pc + len) (v := iv) (q := iq) (cl := clv) (σ := σ) hW hf.2.1 b1
            split at b2
            · rename_i hfr0
              obtain rfl : crs = [] := by
                cases crs with
                | nil => rfl
                | cons => exact hrs.elim
              obtain ⟨po, p1, p2⟩ := List.any_eq_true.mp b2
              rw [Bool.and_eq_true] at p2
              obtain ⟨p2, p3⟩ := p2
              split at p3
              · rename_i U hU
                obtain ⟨ρ', g1, g2, g3, g4, g5, g6, g7, g8⟩ := b_match_ok (cl := []) (lv := []) p2 hW hH hM (fun i v hv => by cases hv) hf.2.1 (b_ids_ua (Nat.le_trans hg hn1)) hU
                have hret := hPost r σ ⟨po, p1, b_rt ρ' U.2.2, fun s hs => by
                  rw [b_ids_rt g4 s hs, g1.2.1 s (by omega), hag s (by omega)], g6, hH, by rw [r2]; exact g8, by rw [r2]; exact hf.2.2.2, hfr⟩
                cases gs with
                | nil => exact b_win_end (o := (r, σ)) (by simp only [List.append_nil, m_next, hF, r1]) hret
                | cons c2 hs =>
                  obtain ⟨m2, p2', l2, s2⟩ := c2
                  exact b_win_step (by simp only [List.cons_append, List.nil_append, m_next, hF, r1]) hret
              · cases p3
            · rename_i f2 hs
              obtain ⟨⟨m2, pc2, l2, s2⟩, crs', rfl, ⟨d1, d2, d3⟩, d4⟩ := b_unc hrs
              refine b_win_step (fs' := ((m2, pc2, l2, r.toList ++ s2) :: crs') ++ gs) (σ' := σ) (by simp only [List.cons_append, m_next, hF, r1]) ?_
              refine hih _ b2 ρ σ ((m2, pc2, l2, r.toList ++ s2) :: crs') hag hn1 hW hH hM ⟨⟨d1, d2, d3.1, ?_, d3.2.2.1, ?_⟩, d4⟩ hfr
              · rw [r2]; exact hf.2.1.app d3.2.1
              · rw [r2, List.all_append, hf.2.2.2, d3.2.2.2]; rfl
          | false =>
            rw [e27] at hb
            simp only [cond_false] at hb
            split at hb
            · rename_i L hL
              rw [e2] at hL
              obtain ⟨pc', cl', cs', σ', s1, s2, q, q1, ρ', he, q3, q4, q5, q6⟩ := b_loc_ok hG hD hWr hZ hW hH hM hf hL
              refine b_win_step (fs' := ((mid, pc', cl', cs') :: crs) ++ gs) (σ' := σ') (by simp only [List.cons_append, m_next, hF, s1]) ?_
              exact hih _ (List.all_eq_true.mp hb q q1) ρ' σ' ((mid, pc', cl', cs') :: crs) (hag.tr he.2.1 hn1) (Nat.le_trans hn1 he.1) he.2.2 q4 q5 ⟨⟨e1, q3, q6⟩, b_frs.up he hrs⟩ (hfr.tr s2)
            · cases hb
end B79c

section M10
variable {p : Program} {l : Launch} {e : Env} {R : Room} {s : State} {m : MethodId} {args : Array Value} {below : List Frame} {meth : Method} {c : Code} {Q : State → Prop} {D : va_G} {cA : Nat → ClassId} {A : Nat → Prop} {ad0 : Nat → Nat} {n0 z0 nL : Nat} {cc : ByteArray} {fz : List (List Int32)} {y : MethodName} {r : Option FieldType}
variable {pc pc' len : Nat} {lv lv' : m_V} {st st' : List Value} {σ σ' : m_S} {ins : Instr} {I : m_I}
theorem m_wf_spec (h : m_wf lv st σ = true) : σ.length < m_fzb ∧ m_okl σ.length lv = true ∧ st.all (m_okv σ.length) = true ∧ σ.all (m_oke σ.length) = true := by
  simp only [m_wf, Bool.and_eq_true, decide_eq_true_eq] at h
  exact ⟨h.1.1.1, h.1.1.2, h.1.2, h.2⟩
/-- a new cell: the world behind it -/
theorem m_newc {z : m_E} (hn0 : n0 ≤ σ.length) (hz0 : z0 ≤ m_sz σ) (hw : m_wf lv st σ = true) (k : m_WW p l e R s m args below meth c Q D cA A ad0 n0 z0 nL pc lv (.ref σ.length :: st) (σ ++ [z])) {ad : Nat → Nat} {H : Heap} {locs : List Loc} {ls : Array Slot} {q : Nat} (hz : m_te cA (va_up ad σ.length q) z = m_te cA ad z) (he : m_ext ad0 ad n0) (hP : va_P D vwCl (m_w cA ad σ ++ [(q, m_te cA ad z)]) H) (hD : va_D A (m_w cA ad σ ++ [(q, m_te cA ad z)])) (hS : va_S A s.heap H locs) (hl : lv_has ls nL (m_tl ad lv)) :
    W p l e R s m args below meth c H locs (σ.length - n0 + 1) (m_sz σ - z0 + m_es z) Q (F0 m pc ls (.ref q :: st.map (m_tv ad))) := by
  obtain ⟨w1, w2, w3, w4⟩ := m_wf_spec hw
  have hx := m_ext.up ad σ.length q w1
  have h := k (va_up ad σ.length q) H locs ls (he.tr hx hn0) (by rw [m_w_app w1 w4 hz]; exact hP) (by rw [m_w_app w1 w4 hz]; exact hD) hS (by rw [m_tl_eq hx w2]; exact hl)
  rw [List.length_append, List.length_singleton, m_sz_app, List.map_cons, m_ts_eq hx w3] at h
  have e1 : σ.length + 1 - n0 = σ.length - n0 + 1 := by omega
  have e2 : m_sz σ + m_es z - z0 = m_sz σ - z0 + m_es z := by omega
  have e3 : m_tv (va_up ad σ.length q) (.ref σ.length) = .ref q := by show Value.ref _ = _; simp [va_up]
  rw [e1, e2, e3] at h
  exact h
theorem m_newa0 {n : Nat} {ad : Nat → Nat} {t : Nat} {z : m_E} (ht : t < 4) (h : m_new t n = some z) : m_es z = n ∧ (∀ ad', m_te cA ad' z = m_te cA ad z) ∧ ∃ a0 : vp_A, m_te cA ad z = .inl (cA t, a0) ∧ ∀ cI : ClassId, vp_cell cI a0 = arrV cI n (fun _ => defaultValue (m_ty t)) := by
  have hi : ∀ j : Nat, (List.replicate n (0 : Int32)).getD j 0 = 0 := fun j => by simp only [List.getD, List.getElem?_replicate]; split <;> rfl
  have hL : ∀ j : Nat, (List.replicate n (0 : Int64)).getD j 0 = 0 := fun j => by simp only [List.getD, List.getElem?_replicate]; split <;> rfl
  match t, ht, h with
  | 0, _, h =>
    cases h
    refine ⟨List.length_replicate, fun _ => rfl, _, rfl, fun cI => ?_⟩
    rw [List.length_replicate, vp_cell_i]
    exact m_arr0 (fun j _ => by rw [hi j]; rfl)
  | 1, _, h =>
    cases h
    refine ⟨List.length_replicate, fun _ => rfl, _, rfl, fun cI => ?_⟩
    rw [List.length_replicate, vp_cell_i]
    exact m_arr0 (fun j _ => by rw [hi j]; rfl)
  | 2, _, h =>
    cases h
    refine ⟨List.length_replicate, fun _ => rfl, _, rfl, fun cI => ?_⟩
    rw [List.length_replicate, vp_cell_i]
    exact m_arr0 (fun j _ => by rw [hi j]; rfl)
  | 3, _, h =>
    cases h
    refine ⟨List.length_replicate, fun _ => rfl, _, rfl, fun cI => ?_⟩
    rw [List.length_replicate, vp_cell_l]
    exact m_arr0 (fun j _ => by rw [hL j]; rfl)
  | _ + 4, h4, _ => omega
theorem m_toNC {x : Int32} (h : 0 ≤ x.toInt) (h2 : x.toInt ≤ 2000) : x.toNatClampNeg ≤ 2000 := by
  have : x.toNatClampNeg = x.toInt.toNat := rfl
  omega
set_option maxHeartbeats 4000000 in
theorem m_make (K : m_Cx p s m args meth c D cA A ad0 nL cc y r fz) (hlk : m_lkAll) (hcl : m_clsOk) (hg : m_glob) (hn0 : n0 ≤ σ.length) (hz0 : z0 ≤ m_sz σ) (hRc : σ'.length - n0 ≤ R.cells) (hRs : m_sz σ' - z0 ≤ R.slots) (hd : decode cc pc = .ok (ins, len)) (ht : m_tri y nL r pc ins len = some I) (hI : I.1 = 21 ∨ I.1 = 22) (hs : m_step fz I (pc + len) lv st σ = some (.inl (pc', lv', st', σ'))) (k : m_WW p l e R s m args below meth c Q D cA A ad0 n0 z0 nL pc' lv' st' σ') : m_WW p l e R s m args below meth c Q D cA A ad0 n0 z0 nL pc lv st σ := by
  obtain ⟨hx, hb, hml, hown, hts, hr, hlocks, hnm, hK, hA, hFz, hN⟩ := K
  cases ins with
  | new i =>
    simp only [m_tri] at ht
    split at ht
    · rename_i a v w h1
      obtain ⟨rfl, rfl⟩ := m_if ht
      obtain ⟨h2, h3⟩ := m_d21 hs
      cases h3
      obtain ⟨⟨C, T, N⟩, q1, q2⟩ := hlk _ _ _ h1
      obtain ⟨u1, u2, u3, u4, u5, u6⟩ := hcl _ _ _ _ q1
      intro ad H locs ls he hP hD hS hl
      rw [List.length_append, List.length_singleton] at hRc
      rw [m_sz_app] at hRs
      have hes : m_es (.inr (a, m_def a)) = N := by rw [u4]; simp [m_es, m_def]
      rw [hes] at hRs
      have hte : ∀ ad', m_te cA ad' (.inr (a, m_def a)) = .inr (a, m_def a) := fun ad' => by
        show Sum.inr (a, (m_def a).map (m_tv ad')) = _
        rw [m_tmdef]
      refine va_new hx hb hts u1 (m_tyf a) u2 hown (hts _ q2) (hts _ u5) (hts _ u6) hK hP hD hS hA q1 (fs := m_def a) (fun j hj => ?_) (by omega) (by omega) hd (fun q H1 hP1 hD1 hS1 => ?_)
      · have hj2 : j < m_nf a := by rw [← u4]; exact hj
        simp [vp_V, m_def, List.getElem?_range hj2]
      · have h9 := m_newc (z := .inr (a, m_def a)) (q := q) (H := H1) hn0 hz0 h2 k ((hte _).trans (hte _).symm) he (by rw [hte]; exact hP1) (by rw [hte]; exact hD1) hS1 hl
        rw [hes] at h9
        exact h9
    · cases ht
  | newarray ty =>
    cases ty with
    | int =>
      obtain ⟨rfl, rfl⟩ := m_if ht
      obtain ⟨x, t, z, rfl, h1, h2, h3, h4, h5⟩ := m_d22 hs
      cases h5
      intro ad H locs ls he hP hD hS hl
      have hx2 := m_toNC h2 h3
      obtain ⟨g1, g2, a0, g3, g4⟩ := m_newa0 (cA := cA) (ad := ad) (t := 0) (by decide) h4
      rw [List.length_append, List.length_singleton] at hRc
      rw [m_sz_app, g1] at hRs
      refine va_newa (atype := .int) hx hb (hts _ (hg.1 0 (by decide))) (ty := m_ty 0) rfl hK hP hD hS hA g4 (m_nn h2) rfl (by simp only [m_ty, componentBytes]; omega) (by omega) (by omega) hd (fun q cI H1 hK1 hP1 hD1 hS1 => ?_)
      have hc : cI = cA 0 := m_ra (hK1.2 5 (cI, m_ty 0) rfl).2 (hK.2 0 _ (m_tys_at cA (by decide))).2
      subst hc
      rw [← g3] at hP1 hD1
      have h9 := m_newc hn0 hz0 h1 k (g2 _) he hP1 hD1 hS1 hl
      rw [g1] at h9
      exact h9
    | byte =>
      obtain ⟨rfl, rfl⟩ := m_if ht
      obtain ⟨x, t, z, rfl, h1, h2, h3, h4, h5⟩ := m_d22 hs
      cases h5
      intro ad H locs ls he hP hD hS hl
      have hx2 := m_toNC h2 h3
      obtain ⟨g1, g2, a0, g3, g4⟩ := m_newa0 (cA := cA) (ad := ad) (t := 1) (by decide) h4
      rw [List.length_append, List.length_singleton] at hRc
      rw [m_sz_app, g1] at hRs
      refine va_newa (atype := .byte) hx hb (hts _ (hg.1 1 (by decide))) (ty := m_ty 1) rfl hK hP hD hS hA g4 (m_nn h2) rfl (by simp only [m_ty, componentBytes]; omega) (by omega) (by omega) hd (fun q cI H1 hK1 hP1 hD1 hS1 => ?_)
      have hc : cI = cA 1 := m_ra (hK1.2 5 (cI, m_ty 1) rfl).2 (hK.2 1 _ (m_tys_at cA (by decide))).2
      subst hc
      rw [← g3] at hP1 hD1
      have h9 := m_newc hn0 hz0 h1 k (g2 _) he hP1 hD1 hS1 hl
      rw [g1] at h9
      exact h9
    | boolean =>
      obtain ⟨rfl, rfl⟩ := m_if ht
      obtain ⟨x, t, z, rfl, h1, h2, h3, h4, h5⟩ := m_d22 hs
      cases h5
      intro ad H locs ls he hP hD hS hl
      have hx2 := m_toNC h2 h3
      obtain ⟨g1, g2, a0, g3, g4⟩ := m_newa0 (cA := cA) (ad := ad) (t := 2) (by decide) h4
      rw [List.length_append, List.length_singleton] at hRc
      rw [m_sz_app, g1] at hRs
      refine va_newa (atype := .boolean) hx hb (hts _ (hg.1 2 (by decide))) (ty := m_ty 2) rfl hK hP hD hS hA g4 (m_nn h2) rfl (by simp only [m_ty, componentBytes]; omega) (by omega) (by omega) hd (fun q cI H1 hK1 hP1 hD1 hS1 => ?_)
      have hc : cI = cA 2 := m_ra (hK1.2 5 (cI, m_ty 2) rfl).2 (hK.2 2 _ (m_tys_at cA (by decide))).2
      subst hc
      rw [← g3] at hP1 hD1
      have h9 := m_newc hn0 hz0 h1 k (g2 _) he hP1 hD1 hS1 hl
      rw [g1] at h9
      exact h9
    | long =>
      obtain ⟨rfl, rfl⟩ := m_if ht
      obtain ⟨x, t, z, rfl, h1, h2, h3, h4, h5⟩ := m_d22 hs
      cases h5
      intro ad H locs ls he hP hD hS hl
      have hx2 := m_toNC h2 h3
      obtain ⟨g1, g2, a0, g3, g4⟩ := m_newa0 (cA := cA) (ad := ad) (t := 3) (by decide) h4
      rw [List.length_append, List.length_singleton] at hRc
      rw [m_sz_app, g1] at hRs
      refine va_newa (atype := .long) hx hb (hts _ (hg.1 3 (by decide))) (ty := m_ty 3) rfl hK hP hD hS hA g4 (m_nn h2) rfl (by simp only [m_ty, componentBytes]; omega) (by omega) (by omega) hd (fun q cI H1 hK1 hP1 hD1 hS1 => ?_)
      have hc : cI = cA 3 := m_ra (hK1.2 5 (cI, m_ty 3) rfl).2 (hK.2 3 _ (m_tys_at cA (by decide))).2
      subst hc
      rw [← g3] at hP1 hD1
      have h9 := m_newc hn0 hz0 h1 k (g2 _) he hP1 hD1 hS1 hl
      rw [g1] at h9
      exact h9
    | _ => cases ht
  | anewarray i =>
    simp only [m_tri] at ht
    split at ht
    · rename_i a v w h1
      obtain ⟨⟨rfl, rfl⟩, rfl⟩ := m_if ht
      obtain ⟨x, t, z, rfl, h5, h2, h3, h4, h6⟩ := m_d22 hs
      cases h6
      cases h4
      obtain ⟨q, q1, q2⟩ := hlk _ _ _ h1
      cases q1
      intro ad H locs ls he hP hD hS hl
      have hx2 := m_toNC h2 h3
      rw [List.length_append, List.length_singleton] at hRc
      rw [m_sz_app] at hRs
      have hes : m_es (.inl (4, .inr (.inr (List.replicate x.toNatClampNeg none)))) = x.toNatClampNeg := by simp [m_es]
      rw [hes] at hRs
      have hf : ∀ ad' : Nat → Nat, (fun j => ((List.replicate x.toNatClampNeg (none : Option Nat)).getD j none).map ad') = fun _ => none := fun ad' => by
        funext j
        simp only [List.getD, List.getElem?_replicate]
        split <;> rfl
      have hte : ∀ ad' : Nat → Nat, m_te cA ad' (.inl (4, .inr (.inr (List.replicate x.toNatClampNeg none)))) = .inl (cA 4, x.toNatClampNeg, .inr (.inr (.inr (.inr (fun _ => none))))) := fun ad' => by
        show Sum.inl (cA 4, (List.replicate x.toNatClampNeg (none : Option Nat)).length, _) = _
        rw [hf, List.length_replicate]
      refine va_newq hx hb hown (hts _ q2) hN.2 hK hP hD hS hA (m_nn h2) rfl (by omega) (by omega) (by omega) hd (fun q cI H1 hK1 hP1 hD1 hS1 => ?_)
      have hc : cI = cA 4 := m_ra (hK1.2 5 (cI, .object RX1) rfl).2 (hK.2 4 _ (m_tys_at cA (by decide))).2
      subst hc
      have h9 := m_newc (z := .inl (4, .inr (.inr (List.replicate x.toNatClampNeg none)))) (q := q) (H := H1) hn0 hz0 h5 k ((hte _).trans (hte _).symm) he (by rw [hte]; exact hP1) (by rw [hte]; exact hD1) hS1 hl
      rw [hes] at h9
      exact h9
    · cases ht
  | _ =>
    simp only [m_tri] at ht
    repeat' split at ht
    all_goals first | (cases ht; done) | (obtain ⟨-, rfl⟩ := m_if ht; dsimp only at hI; omega) | (cases ht; dsimp only at hI; omega)
end M10

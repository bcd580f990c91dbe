/-! the walk over bounds is right -/
section A24
variable {ρ : Nat → Int} {N : a_N} {B : List a_E} {S : a_S} {σ : m_S} {lv : a_L} {lv' : m_V} {st : List a_V} {st' : List Value}
variable {fz : List (List Int32)} {af : a_Z} {pc nx : Nat} {L : List a_R} {I : m_I}
theorem a_loc_ok (hN : a_gN N ρ) (hz : a_all2 (a_gz ρ) af fz) (hl : a_all2 (a_gl ρ) lv lv') (ht : a_all2 (a_gv ρ) st st') (hS : a_gS ρ B S σ) (h : a_loc af B N I pc nx lv st S = some L) : a_Post ρ B fz I pc nx lv' st' σ L := by
  obtain ⟨op, a, v, l⟩ := I
  match op, h with
  | 0, h => exact a_h0_ok hN hl ht hS h
  | 1, h => exact a_h1_ok hN hl ht hS h
  | 2, h => exact a_h2_ok hN hl ht hS h
  | 3, h => exact a_h3_ok hN hl ht hS h
  | 4, h => exact a_h4_ok hN hl ht hS h
  | 5, h => exact a_h5_ok hN hl ht hS h
  | 6, h => exact a_h6_ok hN hl ht hS h
  | 7, h => exact a_h7_ok hN hl ht hS h
  | 8, h => exact a_h8_ok hN hl ht hS h
  | 9, h => exact a_h9_ok hN hl ht hS h
  | 10, h => exact a_h10_ok hN hl ht hS h
  | 11, h => exact a_h11_ok hN hl ht hS h
  | 12, h => exact a_h12_ok hN hl ht hS h
  | 13, h => exact a_h13_ok hN hl ht hS h
  | 14, h => exact a_h14_ok hN hl ht hS h
  | 15, h => exact a_h15_ok hN hl ht hS h
  | 16, h => exact a_h16_ok hN hl ht hS h
  | 17, h => cases h
  | 18, h => exact a_h18_ok hN hz hl ht hS h
  | 19, h => exact a_h19_ok hN hl ht hS h
  | 20, h => exact a_h20_ok hN hz hl ht hS h
  | 21, h => exact a_h21_ok hN hl ht hS h
  | 22, h => exact a_h22_ok hN hl ht hS h
  | 23, h => cases h
  | 24, h => cases h
  | 25, h => exact a_h25_ok hN hl ht hS h
  | 26, h => exact a_h26_ok hN hl ht hS h
  | 27, h => cases h
  | 28, h => exact a_h28_ok hN hl ht hS h
  | k + 29, h =>
    exfalso
    unfold a_loc at h
    dsimp only at h
    have e : Nat.ble (k + 29) 28 = false := by
      rw [Bool.eq_false_iff]
      intro h9
      have := Nat.le_of_ble_eq_true h9
      omega
    rw [e] at h
    cases h
def a_gQ (ρ : Nat → Int) (B : List a_E) (Q : a_Q) (fs : List m_Fr) (σ : m_S) : Prop := a_gN Q.1 ρ ∧ a_all2 (a_gf ρ) Q.2.1 fs ∧ a_gS ρ B Q.2.2 σ
theorem a_args_ok {as : List a_V} {bs : List Value} (h : a_all2 (a_gv ρ) as bs) : ∀ i, a_all2 (a_gl ρ) (a_args i as) (lv_args i bs) := by
  induction as generalizing bs with
  | nil => intro i; rw [a_unnil h]; trivial
  | cons x r ih =>
    intro i
    obtain ⟨b, t, rfl, h1, h2⟩ := a_uncons h
    unfold a_args lv_args
    rw [a_gv_cat h1]
    exact ⟨⟨rfl, h1⟩, ih h2 _⟩
theorem a_rt_ok {k : Nat} {w : Int} {q : List Nat} {o : Option a_V} (hN : a_gN N ρ) (ht : a_all2 (a_gv ρ) st st') (h : a_rt N k st = some o) : ∃ r : Option Value, m_step fz (27, k, w, q) nx lv' st' σ = some (.inr (.inl r)) ∧ a_all2 (a_gv ρ) o.toList r.toList := by
  unfold a_rt at h
  split at h
  · rename_i x
    obtain ⟨h1, rfl⟩ := m_if h
    obtain ⟨b, t, rfl, g1, g2⟩ := a_uncons ht
    rw [a_unnil g2]
    have h3 := a_gv_knd g1
    rw [h1] at h3
    cases b with
    | int X => exact ⟨some (.int X), rfl, g1, trivial⟩
    | _ => simp [m_k] at h3
  · rename_i x
    obtain ⟨h1, rfl⟩ := m_if h
    obtain ⟨b, t, rfl, g1, g2⟩ := a_uncons ht
    rw [a_unnil g2]
    have h3 := a_gv_knd g1
    rw [h1] at h3
    cases b with
    | long X => exact ⟨some (.long X), rfl, g1, trivial⟩
    | _ => simp [m_k] at h3
  · cases h
    rw [a_unnil ht]
    exact ⟨none, rfl, trivial⟩
  · rename_i x
    split at h
    · rename_i p hp
      obtain ⟨h1, rfl⟩ := m_if h
      obtain ⟨b, t, rfl, g1, g2⟩ := a_uncons ht
      rw [a_unnil g2]
      obtain ⟨X, rfl, g3⟩ := a_iv_ok hN g1 hp
      refine ⟨some (.int X), ?_, g1, trivial⟩
      have e : X = 0 ∨ X = 1 := by
        have e : X.toInt = 0 ∨ X.toInt = 1 := by omega
        rcases e with e | e
        · exact Or.inl (Int32.toInt_inj.mp e)
        · exact Or.inr (Int32.toInt_inj.mp e)
      simp only [m_step]
      rw [if_pos e]
    · cases h
  · cases h
theorem a_cl_ok {as rest : List a_V} (ht : a_all2 (a_gv ρ) st st') (hS : a_gS ρ B S σ) (h24 : I.1 = 24) (h : a_cl B I st S = some (as, rest)) : ∃ as' rest', m_step fz I nx lv' st' σ = some (.inr (.inr (I.2.1, as', rest'))) ∧ a_all2 (a_gv ρ) as as' ∧ a_all2 (a_gv ρ) rest rest' := by
  obtain ⟨op, a, v, l⟩ := I
  dsimp only at h24
  subst h24
  unfold a_cl at h
  dsimp only at h ⊢
  split at h
  · rename_i hv
    obtain ⟨h1, h2⟩ := m_if h
    cases h2
    refine ⟨(st'.take (l.getD 0 0)).reverse, st'.drop (l.getD 0 0), ?_, (ht.take _).rev, ht.drop _⟩
    simp only [m_step]
    rw [if_pos hv, if_pos (by rw [← ht.len]; exact h1)]
  · rename_i hv
    split at h
    · rename_i b r hd
      split at h
      · rename_i hb
        split at h
        · rename_i ci fs hat
          obtain ⟨rfl, h2⟩ := m_if h
          cases h2
          have h3 := ht.drop (l.getD 0 0)
          rw [hd] at h3
          obtain ⟨w, t, e, g1, g2⟩ := a_uncons h3
          rw [a_ref g1 hb] at e g1
          obtain ⟨z, m1, m2⟩ := hS.2 _ _ hat
          obtain ⟨gs, rfl, m3⟩ := a_ge_o m2
          refine ⟨.ref b.2.1.toNat :: (st'.take (l.getD 0 0)).reverse, t, ?_, ⟨g1, (ht.take _).rev⟩, g2⟩
          simp only [m_step]
          rw [if_neg hv, e]
          dsimp only
          rw [m1]
          dsimp only
          rw [if_pos rfl]
        · cases h
      · cases h
    · cases h
theorem a_callOk_ok {as rest : List a_V} {as' rest' : List Value} (hl : a_all2 (a_gl ρ) lv lv') (ha : a_all2 (a_gv ρ) as as') (hr : a_all2 (a_gv ρ) rest rest') (hS : a_gS ρ B S σ) (h : a_callOk I lv as rest S = true) : m_callOk I lv' as' rest' σ = true := by
  simp only [a_callOk, Bool.and_eq_true, decide_eq_true_eq] at h
  obtain ⟨⟨⟨⟨h1, h2⟩, h3⟩, h4⟩, h5⟩ := h
  rw [← hS.1] at h1 h2 h3
  rw [a_cats hr] at h4
  rw [a_cats ha] at h5
  simp only [m_callOk, Bool.and_eq_true, decide_eq_true_eq]
  exact ⟨⟨⟨⟨h1, a_okl_ok hl h2⟩, a_oks_ok hr h3⟩, h4⟩, h5⟩
section A24b
variable {F : Nat → Nat → Option (m_I × Nat)} {fz : List (List Int32)} {mid pc len : Nat} {I : m_I} {lv : m_V} {st : List Value} {σ : m_S} {gs : List m_Fr}
theorem m_next_loc {pc' : Nat} {lv1 : m_V} {st1 : List Value} {σ1 : m_S} (hF : F mid pc = some (I, len)) (hs : m_step fz I (pc + len) lv st σ = some (.inl (pc', lv1, st1, σ1))) : m_next F fz ((mid, pc, lv, st) :: gs) σ = some (.inl ((mid, pc', lv1, st1) :: gs, σ1)) := by
  simp only [m_next, hF, hs]
theorem m_next_ret0 {r : Option Value} (hF : F mid pc = some (I, len)) (hs : m_step fz I (pc + len) lv st σ = some (.inr (.inl r))) : m_next F fz [(mid, pc, lv, st)] σ = some (.inr (r, σ)) := by
  simp only [m_next, hF, hs]
theorem m_next_ret1 {r : Option Value} {m2 p2 : Nat} {l2 : m_V} {s2 : List Value} (hF : F mid pc = some (I, len)) (hs : m_step fz I (pc + len) lv st σ = some (.inr (.inl r))) : m_next F fz ((mid, pc, lv, st) :: (m2, p2, l2, s2) :: gs) σ = some (.inl ((m2, p2, l2, r.toList ++ s2) :: gs, σ)) := by
  simp only [m_next, hF, hs]
theorem m_next_call {mid1 : Nat} {as rest : List Value} (hF : F mid pc = some (I, len)) (hs : m_step fz I (pc + len) lv st σ = some (.inr (.inr (mid1, as, rest)))) (hc : m_callOk I lv as rest σ = true) (hg : gs.length < 60) : m_next F fz ((mid, pc, lv, st) :: gs) σ = some (.inl ((mid1, 0, lv_args 0 as, []) :: (mid, pc + len, lv, rest) :: gs, σ)) := by
  simp only [m_next, hF, hs]
  rw [if_pos ⟨hc, hg⟩]
end A24b
def a_Good (F : Nat → Nat → Option (m_I × Nat)) (af : a_Z) (B : List a_E) (P : Option Value → m_S → Prop) (Q : a_Q) : Prop := ∀ (ρ : Nat → Int) (fz : List (List Int32)) (fs : List m_Fr) (σ : m_S), a_all2 (a_gz ρ) af fz → a_gQ ρ B Q fs σ → ∃ n o, m_go F fz n fs σ = some o ∧ P o.1 o.2
set_option maxHeartbeats 2000000 in
theorem a_next_ok {F : Nat → Nat → Option (m_I × Nat)} {Q : a_Q} {fs : List m_Fr} {o : List a_Q ⊕ (Option a_V × a_N × a_S)} (hz : a_all2 (a_gz ρ) af fz) (hQ : a_gQ ρ B Q fs σ) (h : a_next F af B Q = some o) :
    (∃ Ls, o = .inl Ls ∧ ∃ Q' ∈ Ls, a_gQ ρ B Q' fs σ ∨ ∃ fs' σ', m_next F fz fs σ = some (.inl (fs', σ')) ∧ a_gQ ρ B Q' fs' σ') ∨ (∃ v M T, o = .inr (v, M, T) ∧ a_gN M ρ ∧ a_gS ρ B T σ ∧ ∃ r, m_next F fz fs σ = some (.inr (r, σ)) ∧ a_all2 (a_gv ρ) v.toList r.toList) := by
  obtain ⟨N, Fs, S⟩ := Q
  obtain ⟨hN, hf, hS⟩ := hQ
  dsimp only at hN hf hS
  unfold a_next at h
  dsimp only at h
  split at h
  · cases h
  · rename_i mid pc lv st gs
    obtain ⟨g, hs, rfl, hg, hgs⟩ := a_uncons hf
    obtain ⟨mid', pc', lv', st'⟩ := g
    obtain ⟨e1, e2, hl, ht⟩ := hg
    dsimp only at e1 e2 hl ht
    subst e1
    subst e2
    split at h
    · cases h
    · rename_i I len hF
      by_cases h24 : Nat.beq I.1 24 = true
      · rw [h24] at h
        simp only [cond_true] at h
        unfold a_nx24 at h
        split at h
        · rename_i as rest hcl
          obtain ⟨⟨h1, h2⟩, rfl⟩ := m_if h
          obtain ⟨as', rest', h3, h4, h5⟩ := a_cl_ok (fz := fz) (nx := pc + len) (lv' := lv') ht hS (Nat.eq_of_beq_eq_true h24) hcl
          exact Or.inl ⟨_, rfl, _, List.mem_singleton.mpr rfl, Or.inr ⟨(I.2.1, 0, lv_args 0 as', []) :: (mid, pc + len, lv', rest') :: hs, σ, m_next_call hF h3 (a_callOk_ok hl h4 h5 hS h1) (by rw [← hgs.len]; exact h2), hN, ⟨⟨rfl, rfl, a_args_ok h4 0, trivial⟩, ⟨rfl, rfl, hl, h5⟩, hgs⟩, hS⟩⟩
        · cases h
      · simp only [Bool.not_eq_true] at h24
        rw [h24] at h
        simp only [cond_false] at h
        by_cases h27 : Nat.beq I.1 27 = true
        · rw [h27] at h
          simp only [cond_true] at h
          unfold a_nx27 at h
          split at h
          · rename_i r hrt
            obtain ⟨op, a, v, l⟩ := I
            have e27 := Nat.eq_of_beq_eq_true h27
            dsimp only at e27
            subst e27
            obtain ⟨r', h1, h2⟩ := a_rt_ok (fz := fz) (nx := pc + len) (lv' := lv') (σ := σ) (w := v) (q := l) hN ht hrt
            split at h
            · cases h
              have e0 := a_unnil hgs
              subst e0
              exact Or.inr ⟨_, _, _, rfl, hN, hS, r', m_next_ret0 hF h1, h2⟩
            · rename_i m2 p2 l2 s2 hs2
              cases h
              obtain ⟨g, hs', rfl, hg, hgs'⟩ := a_uncons hgs
              obtain ⟨m3, p3, l3, s3⟩ := g
              obtain ⟨e1, e2, hl3, ht3⟩ := hg
              dsimp only at e1 e2 hl3 ht3
              subst e1
              subst e2
              exact Or.inl ⟨_, rfl, _, List.mem_singleton.mpr rfl, Or.inr ⟨(m2, p2, l3, r'.toList ++ s3) :: hs', σ, m_next_ret1 hF h1, hN, ⟨⟨rfl, rfl, hl3, h2.app ht3⟩, hgs'⟩, hS⟩⟩
          · cases h
        · simp only [Bool.not_eq_true] at h27
          rw [h27] at h
          simp only [cond_false] at h
          unfold a_nx at h
          split at h
          · rename_i Lr hloc
            cases h
            obtain ⟨q, h1, h2, h3⟩ := a_loc_ok hN hz hl ht hS hloc
            refine Or.inl ⟨_, rfl, a_back mid gs q, List.mem_map.mpr ⟨q, h1, rfl⟩, ?_⟩
            rcases h3 with ⟨e, k1, k2, k3⟩ | ⟨lv1, st1, σ1, k0, k1, k2, k3⟩
            · exact Or.inl ⟨h2, ⟨⟨rfl, e, k1, k2⟩, hgs⟩, k3⟩
            · exact Or.inr ⟨(mid, q.2.1, lv1, st1) :: hs, σ1, m_next_loc hF k0, h2, ⟨⟨rfl, rfl, k1, k2⟩, hgs⟩, k3⟩
          · cases h
theorem a_ok_good {F : Nat → Nat → Option (m_I × Nat)} {P : Option Value → m_S → Prop} {G : a_Q → Bool} {fin : Option a_V → a_N → a_S → Bool} (hG : ∀ Q, G Q = true → a_Good F af B P Q) (hP : ∀ (ρ : Nat → Int) v N S (r : Option Value) (σ : m_S), fin v N S = true → a_gN N ρ → a_gS ρ B S σ → a_all2 (a_gv ρ) v.toList r.toList → P r σ) : ∀ (n : Nat) (Q : a_Q), a_ok F af B G fin n Q = true → a_Good F af B P Q := by
  intro n
  induction n with
  | zero => intro Q h; cases h
  | succ n ih =>
    intro Q h
    have h' : (bif G Q then true else match a_next F af B Q with
      | none => false
      | some (.inl L) => L.all (a_ok F af B G fin n)
      | some (.inr (v, N, S)) => fin v N S) = true := h
    by_cases hg : G Q = true
    · exact hG Q hg
    simp only [Bool.not_eq_true] at hg
    rw [hg] at h'
    simp only [cond_false] at h'
    intro ρ fz fs σ hz hQ
    split at h'
    · cases h'
    · rename_i L hL
      rcases a_next_ok hz hQ hL with ⟨Ls, e, Q', h1, h2⟩ | ⟨v, M, T, e, -⟩
      · cases e
        have h3 := ih Q' (List.all_eq_true.mp h' Q' h1)
        rcases h2 with h2 | ⟨fs', σ', h4, h5⟩
        · exact h3 ρ fz fs σ hz h2
        · obtain ⟨m, o, h6, h7⟩ := h3 ρ fz fs' σ' hz h5
          exact ⟨m + 1, o, by simp only [m_go, h4]; exact h6, h7⟩
      · cases e
    · rename_i v N S hL
      rcases a_next_ok hz hQ hL with ⟨Ls, e, -⟩ | ⟨v', M, T, e, h1, h0, r, h2, h3⟩
      · cases e
      · cases e
        exact ⟨1, (r, σ), by simp only [m_go, h2], hP ρ v N S r σ h' h1 h0 h3⟩
def a_P1ok (r : Option Value) (σ : m_S) : Prop := r = some (.int 1) ∧ σ.length ≤ 3000
theorem a_one_ok (ρ : Nat → Int) (v : Option a_V) (N : a_N) (S : a_S) (r : Option Value) (σ : m_S) (h : a_one v N S = true) (hN : a_gN N ρ) (hS : a_gS ρ B S σ) (hr : a_all2 (a_gv ρ) v.toList r.toList) : a_P1ok r σ := by
  unfold a_one at h
  split at h
  · rename_i w
    split at h
    · rename_i q hq
      simp only [Bool.and_eq_true, decide_eq_true_eq] at h
      cases r with
      | none => exact hr.elim
      | some W =>
        obtain ⟨X, rfl, h1, h2⟩ := a_iv_ok hN hr.1 hq
        have e : X = 1 := Int32.toInt_inj.mp (show X.toInt = (1 : Int32).toInt by
          have : (1 : Int32).toInt = 1 := rfl
          omega)
        rw [e]
        exact ⟨rfl, by rw [hS.1]; exact Nat.le_of_ble_eq_true h.2⟩
    · cases h
  · cases h
/-- the same world, with another base -/
theorem a_rebase {F : Nat → Nat → Option (m_I × Nat)} {P : Option Value → m_S → Prop} {B' : List a_E} {N : a_N} {fs : List a_F} {S S' : a_S} (h : a_Good F af B' P (N, fs, S')) (h1 : S'.1 = S.1) (h2 : ∀ k x, a_at B' S' k = some x → a_at B S k = some x) : a_Good F af B P (N, fs, S) := fun ρ fz gs σ hz hQ => h ρ fz gs σ hz ⟨hQ.1, hQ.2.1, ⟨hQ.2.2.1.trans h1.symm, fun k x hk => hQ.2.2.2 k x (h2 k x hk)⟩⟩
end A24

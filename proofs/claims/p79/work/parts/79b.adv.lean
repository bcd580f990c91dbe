/-! the walk is right: calls, ends, one step more -/
section B79b
variable {F : Nat → Nat → Option (m_I × Nat)} {T : Nat → Option b_C} {Z : Nat → Option (List Int32)} {G : b_G} {fz : List (List Int32)} {dep : Nat → Nat → Bool} {hn : b_Hn} {Γ : List b_K} {wr : List (Nat × Nat)} {h g : Nat} {posts : List b_Tp} {cuts : List b_Cu} {Fin : Option Value → m_S → Prop} {gs : List m_Fr} {σ0 : m_S} {n1 : Nat} {ρ1 : Nat → Int} {ρ : Nat → Int} {W : b_NF} {M : b_M} {σ : m_S} {cl : m_V} {cs : List Value} {st : List b_V} {lv : b_Lv}
theorem b_args_ok {n : Nat} : ∀ {as : List b_V} {ws : List Value} {i : Nat}, a_all2 (b_gv n ρ) as ws → b_gl n ρ (b_args i as) (lv_args i ws)
  | [], _, _, _ => fun j v h => by cases h
  | v :: as, ws, i, hs => by
    obtain ⟨w, ws', rfl, g1, g2⟩ := b_cons hs
    intro j u hu
    unfold lv_args
    rw [m_ld_cons]
    unfold b_args b_ld at hu
    dsimp only at hu
    cases e : Nat.beq i j with
    | true =>
      rw [e] at hu
      cases hu
      rw [if_pos (Nat.eq_of_beq_eq_true e)]
      exact ⟨w, rfl, g1⟩
    | false =>
      rw [e] at hu
      simp only [cond_false] at hu
      rw [if_neg (fun h9 => by rw [h9] at e; simp at e)]
      have hc := b_gv_cat g1
      have e2 : (bif Nat.beq v.1 1 then i + 2 else i + 1) = (if w.category = 2 then i + 2 else i + 1) := by
        rw [← hc]
        unfold b_cat
        cases Nat.beq v.1 1 with
        | true => rfl
        | false => rfl
      rw [e2] at hu
      exact b_args_ok g2 j u hu
theorem b_okargs : ∀ {ws : List Value} {i : Nat}, ws.all (m_okv 139) = true → m_okl 139 (lv_args i ws) = true
  | [], _, _ => rfl
  | w :: ws, i, hw => by
    obtain ⟨g1, g2⟩ := b_okc hw
    have := b_okargs (ws := ws) (i := if w.category = 2 then i + 2 else i + 1) g2
    unfold lv_args
    unfold m_okl at this ⊢
    rw [List.all_cons, this, g1]
    rfl
theorem b_all_take {k : Nat} {l : List Value} (hl : l.all (m_okv 139) = true) : ((l.take k).reverse).all (m_okv 139) = true ∧ (l.drop k).all (m_okv 139) = true := by
  rw [List.all_eq_true] at hl
  constructor
  · rw [List.all_eq_true]
    intro x hx
    exact hl x (List.mem_of_mem_take (List.mem_reverse.mp hx))
  · rw [List.all_eq_true]
    intro x hx
    exact hl x (List.mem_of_mem_drop hx)
theorem b_cl_ok {I : m_I} {nx n : Nat} {ar : List b_V × List b_V} (hI : I.1 = 24) (hH : b_gH T σ) (hs : a_all2 (b_gv n ρ) st cs) (hok : cs.all (m_okv 139) = true) (hc : b_cl T I st = some ar) :
    ∃ cas crest, m_step fz I nx cl cs σ = some (.inr (.inr (I.2.1, cas, crest))) ∧ a_all2 (b_gv n ρ) ar.1 cas ∧ a_all2 (b_gv n ρ) ar.2 crest ∧ cas.all (m_okv 139) = true ∧ crest.all (m_okv 139) = true := by
  obtain ⟨op, a, v, q⟩ := I
  dsimp only at hI
  subst hI
  unfold b_cl at hc
  dsimp only at hc
  obtain ⟨o1, o2⟩ := b_all_take (k := q.getD 0 0) hok
  cases e : decide (v = 2) || decide (v = 5) with
  | true =>
    rw [e] at hc
    simp only [Bool.or_eq_true, decide_eq_true_eq] at e
    simp only [cond_true] at hc
    cases e2 : Nat.ble (q.getD 0 0) st.length with
    | true =>
      rw [e2] at hc
      cases hc
      refine ⟨(cs.take (q.getD 0 0)).reverse, cs.drop (q.getD 0 0), ?_, (hs.take _).rev, hs.drop _, o1, o2⟩
      have := Nat.le_of_ble_eq_true e2
      rw [hs.len] at this
      simp only [m_step]
      rw [if_pos e, if_pos this]
    | false => rw [e2] at hc; cases hc
  | false =>
    rw [e] at hc
    simp only [Bool.or_eq_false_iff, decide_eq_false_iff_not] at e
    simp only [cond_false] at hc
    split at hc
    · rename_i b r hd
      cases e2 : b_rf b with
      | true =>
        rw [e2] at hc
        simp only [cond_true] at hc
        have hs2 := hs.drop (q.getD 0 0)
        rw [hd] at hs2
        obtain ⟨wb, t, ht, g1, g2⟩ := b_cons hs2
        obtain ⟨k, rfl, k2, k3⟩ := b_rf_ok e2 g1
        rw [k2] at hc
        dsimp only at hc
        rw [Int.toNat_natCast] at hc
        split at hc
        · rename_i c hT
          cases e3 : Nat.beq c.1 0 && Nat.beq c.2.1 (q.getD 2 0) with
          | true =>
            rw [e3] at hc
            rw [Bool.and_eq_true] at e3
            cases hc
            have e4 := Nat.eq_of_beq_eq_true e3.1
            have e5 := Nat.eq_of_beq_eq_true e3.2
            obtain ⟨c', k6, z, k7, k8, -⟩ := hH.2 k k3
            rw [hT] at k6
            cases k6
            have o3 := o2
            rw [ht] at o3
            obtain ⟨o4, o5⟩ := b_okc o3
            refine ⟨.ref k :: (cs.take (q.getD 0 0)).reverse, t, ?_, ⟨g1, (hs.take _).rev⟩, g2, b_okm o4 o1, o5⟩
            unfold b_sh at k8
            match z, k8, k7 with
            | .inr (ci, fs), k8, k7 =>
              simp only [m_step]
              rw [if_neg (fun h9 => by rcases h9 with h9 | h9; exact e.1 h9; exact e.2 h9), ht]
              dsimp only
              rw [k7]
              dsimp only
              rw [if_pos (by rw [← k8.2.1, e5])]
            | .inl (_, .inl _), k8, _ => exact absurd (e4.symm.trans k8.1) (by decide)
            | .inl (_, .inr (.inl _)), k8, _ => exact absurd (e4.symm.trans k8.1) (by decide)
            | .inl (_, .inr (.inr _)), k8, _ => exact absurd (e4.symm.trans k8.1) (by decide)
          | false => rw [e3] at hc; cases hc
        · cases hc
      | false => rw [e2] at hc; cases hc
    · cases hc
theorem b_byK_ok {mid fl : Nat} {as : List b_V} {ws : List Value} {gs' : List m_Fr} (hG : b_GOk G dep) (hW : b_gW W ρ) (hH : b_gH T σ) (hM : b_gM G fz W.1.1 ρ σ M) (hs : a_all2 (b_gv W.1.1 ρ) as ws) (hok : ws.all (m_okv 139) = true) (hgs : gs'.length + h ≤ 60 + fl) :
    ∀ {Γ : List b_K} {L : List (b_NF × b_M × List b_V)}, (∀ k ∈ Γ, b_Valid F fz T G k) → b_byK T dep wr fl h W M mid as Γ = some L →
    (∀ q ∈ L, ∀ ρ' σ' r, b_ext W ρ q.1 ρ' → b_gM G fz q.1.1.1 ρ' σ' q.2.1 → b_gH T σ' → a_all2 (b_gv q.1.1.1 ρ') q.2.2 r.toList → r.toList.all (m_okv 139) = true → b_frame (b_wrf wr) σ σ' → b_ret F fz Fin gs' r σ') → b_win F fz Fin ((mid, 0, lv_args 0 ws, []) :: gs') σ
  | [], _, _, hb, _ => by cases hb
  | k :: r, L, hΓ, hb, hk => by
    unfold b_byK at hb
    cases e : Nat.beq k.1 mid with
    | true =>
      rw [e] at hb
      have e := Nat.eq_of_beq_eq_true e
      simp only [cond_true] at hb
      split at hb
      · rename_i U hU
        cases e2 : Nat.ble (k.2.1 + fl) h && (b_isub k.2.2.2.1 wr && (b_tpu k.2.2.1 && k.2.2.2.2.all (fun po => Nat.ble k.2.2.1.1.length po.1.length))) with
        | true =>
          rw [e2] at hb
          simp only [Bool.and_eq_true] at e2
          obtain ⟨f1, f2, f3, f4⟩ := e2
          simp only [cond_true] at hb
          obtain ⟨ρ', g1, g2, g3, g4, g5, g6, g7, g8⟩ := b_match_ok (cl := []) (lv := []) f3 hW hH hM (fun i v hv => by cases hv) hs (fun y hy => by cases hy) hU
          have f1 : k.2.1 + fl ≤ h := Nat.le_of_ble_eq_true f1
          rw [← e]
          refine hΓ k List.mem_cons_self Fin _ σ gs' ws g6 hH g8 hok (by omega) (fun r' σ' ho => ?_)
          obtain ⟨q, q1, ρ2, q2, q3, q4⟩ := b_apps_ok hG g1.2.2 g2 g3 g5 f4 ho hb
          obtain ⟨po, -, ρc, -, -, o5, -, o7, o8⟩ := ho
          exact hk q q1 ρ2 σ' r' (g1.tr q2) q3 o5 q4 o7 (fun k' i' hw => o8 k' i' (by
            cases e9 : b_wrf k.2.2.2.1 k' i' with
            | true => rw [b_isub_ok f2 e9] at hw; cases hw
            | false => rfl))
        | false => rw [e2] at hb; cases hb
      · exact b_byK_ok hG hW hH hM hs hok hgs (fun k' hk' => hΓ k' (List.mem_cons_of_mem _ hk')) hb hk
    | false =>
      rw [e] at hb
      exact b_byK_ok hG hW hH hM hs hok hgs (fun k' hk' => hΓ k' (List.mem_cons_of_mem _ hk')) hb hk
theorem b_rok_ok {k nx : Nat} {v : Int} {q : List Nat} (hW : b_gW W ρ) (hs : a_all2 (b_gv W.1.1 ρ) st cs) (hr : b_rok W k st = true) : ∃ r : Option Value, m_step fz (27, k, v, q) nx cl cs σ = some (.inr (.inl r)) ∧ r.toList = cs := by
  unfold b_rok at hr
  split at hr
  · rename_i x
    obtain ⟨w, t, rfl, g1, g2⟩ := b_cons hs
    obtain rfl : t = [] := by cases t with
      | nil => rfl
      | cons => exact g2.elim
    have := b_gv_knd g1
    rw [of_decide_eq_true hr] at this
    match w, this with
    | .int z, _ => exact ⟨some (.int z), rfl, rfl⟩
  · rename_i x
    obtain ⟨w, t, rfl, g1, g2⟩ := b_cons hs
    obtain rfl : t = [] := by cases t with
      | nil => rfl
      | cons => exact g2.elim
    have := b_gv_knd g1
    rw [of_decide_eq_true hr] at this
    match w, this with
    | .long z, _ => exact ⟨some (.long z), rfl, rfl⟩
  · obtain rfl : cs = [] := by cases cs with
      | nil => rfl
      | cons => exact hs.elim
    exact ⟨none, rfl, rfl⟩
  · rename_i x
    obtain ⟨w, t, rfl, g1, g2⟩ := b_cons hs
    obtain rfl : t = [] := by cases t with
      | nil => rfl
      | cons => exact g2.elim
    simp only [Bool.and_eq_true] at hr
    obtain ⟨h1, h2, h3⟩ := hr
    have h4 := b_le_ok hW h2
    have h5 := b_ge_ok hW h3
    obtain ⟨t', y⟩ := x
    have h6 := Nat.eq_of_beq_eq_true h1
    dsimp only at h6 h4 h5
    subst h6
    unfold b_gv at g1
    split at g1
    · rename_i z e
      rw [show b_ev ρ y = z.toInt from g1.1] at h4 h5
      have hz : z = 0 ∨ z = 1 := by
        have : z.toInt = 0 ∨ z.toInt = 1 := by omega
        rcases this with h | h
        · left; rw [← Int32.ofInt_toInt z, h]; rfl
        · right; rw [← Int32.ofInt_toInt z, h]; rfl
      refine ⟨some (.int z), ?_, rfl⟩
      simp only [m_step]
      rw [if_pos hz]
    · rename_i e; cases e
    · rename_i e; cases e
    · rename_i e; cases e
    · exact g1.elim
  · cases hr
end B79b

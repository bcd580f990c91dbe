section M7
variable {p : Program} {l : Launch} {e : Env} {R : Room} {s : State} {m : MethodId} {args : Array Value} {below : List Frame} {meth : Method} {c : Code} {Q : State → Prop} {D : va_G} {cA : Nat → ClassId} {A : Nat → Prop} {ad0 : Nat → Nat} {n0 z0 nL : Nat} {cc : ByteArray} {fz : List (List Int32)} {y : MethodName} {r : Option FieldType}
variable {pc pc' len : Nat} {lv lv' : m_V} {st st' : List Value} {σ σ' : m_S} {ins : Instr} {I : m_I}
set_option maxHeartbeats 4000000 in
theorem m_arith (K : m_Cx p s m args meth c D cA A ad0 nL cc y r fz) (hd : decode cc pc = .ok (ins, len)) (ht : m_tri y nL r pc ins len = some I) (hI : 5 ≤ I.1 ∧ I.1 ≤ 9 ∨ I.1 = 28) (hs : m_step fz I (pc + len) lv st σ = some (.inl (pc', lv', st', σ'))) (k : m_WW p l e R s m args below meth c Q D cA A ad0 n0 z0 nL pc' lv' st' σ') : m_WW p l e R s m args below meth c Q D cA A ad0 n0 z0 nL pc lv st σ := by
  obtain ⟨hx, hb, hml, hown, hts, hr, hlocks, hnm, hK, hA, hFz, hN⟩ := K
  cases ins with
  | iadd =>
    obtain ⟨rfl, rfl⟩ := m_if ht
    obtain ⟨a, b, t, z, rfl, h1, h3⟩ := m_d5 hs
    cases h1
    cases h3
    exact fun ad H locs ls he hP hD hS hl => lv_iadd hx hb hd (k ad H locs ls he hP hD hS hl)
  | isub =>
    obtain ⟨rfl, rfl⟩ := m_if ht
    obtain ⟨a, b, t, z, rfl, h1, h3⟩ := m_d5 hs
    cases h1
    cases h3
    exact fun ad H locs ls he hP hD hS hl => lv_isub hx hb hd (k ad H locs ls he hP hD hS hl)
  | imul =>
    obtain ⟨rfl, rfl⟩ := m_if ht
    obtain ⟨a, b, t, z, rfl, h1, h3⟩ := m_d5 hs
    cases h1
    cases h3
    exact fun ad H locs ls he hP hD hS hl => lv_imul hx hb hd (k ad H locs ls he hP hD hS hl)
  | iand =>
    obtain ⟨rfl, rfl⟩ := m_if ht
    obtain ⟨a, b, t, z, rfl, h1, h3⟩ := m_d5 hs
    cases h1
    cases h3
    exact fun ad H locs ls he hP hD hS hl => lv_iand hx hb hd (k ad H locs ls he hP hD hS hl)
  | ior =>
    obtain ⟨rfl, rfl⟩ := m_if ht
    obtain ⟨a, b, t, z, rfl, h1, h3⟩ := m_d5 hs
    cases h1
    cases h3
    exact fun ad H locs ls he hP hD hS hl => lv_ior hx hb hd (k ad H locs ls he hP hD hS hl)
  | ixor =>
    obtain ⟨rfl, rfl⟩ := m_if ht
    obtain ⟨a, b, t, z, rfl, h1, h3⟩ := m_d5 hs
    cases h1
    cases h3
    exact fun ad H locs ls he hP hD hS hl => lv_ixor hx hb hd (k ad H locs ls he hP hD hS hl)
  | ishl =>
    obtain ⟨rfl, rfl⟩ := m_if ht
    obtain ⟨a, b, t, z, rfl, h1, h3⟩ := m_d5 hs
    cases h1
    cases h3
    exact fun ad H locs ls he hP hD hS hl => lv_ishl hx hb hd (k ad H locs ls he hP hD hS hl)
  | ishr =>
    obtain ⟨rfl, rfl⟩ := m_if ht
    obtain ⟨a, b, t, z, rfl, h1, h3⟩ := m_d5 hs
    cases h1
    cases h3
    exact fun ad H locs ls he hP hD hS hl => lv_ishr hx hb hd (k ad H locs ls he hP hD hS hl)
  | iushr =>
    obtain ⟨rfl, rfl⟩ := m_if ht
    obtain ⟨a, b, t, z, rfl, h1, h3⟩ := m_d5 hs
    cases h1
    cases h3
    exact fun ad H locs ls he hP hD hS hl => lv_iushr hx hb hd rfl (k ad H locs ls he hP hD hS hl)
  | idiv =>
    obtain ⟨rfl, rfl⟩ := m_if ht
    obtain ⟨a, b, t, z, rfl, h1, h3⟩ := m_d5 hs
    cases h3
    by_cases h0 : b = 0
    · simp [m_ib, h0] at h1
    · simp only [m_ib, h0, if_false, Option.some.injEq] at h1
      subst h1
      exact fun ad H locs ls he hP hD hS hl => lv_idiv hx hb hd h0 (k ad H locs ls he hP hD hS hl)
  | irem =>
    obtain ⟨rfl, rfl⟩ := m_if ht
    obtain ⟨a, b, t, z, rfl, h1, h3⟩ := m_d5 hs
    cases h3
    by_cases h0 : b = 0
    · simp [m_ib, h0] at h1
    · simp only [m_ib, h0, if_false, Option.some.injEq] at h1
      subst h1
      exact fun ad H locs ls he hP hD hS hl => lv_irem hx hb hd h0 (k ad H locs ls he hP hD hS hl)
  | ldiv =>
    obtain ⟨rfl, rfl⟩ := m_if ht
    obtain ⟨a, b, t, z, rfl, h1, h3⟩ := m_d6 hs
    cases h3
    by_cases h0 : b = 0
    · simp [m_lb, h0] at h1
    · simp only [m_lb, h0, if_false, Option.some.injEq] at h1
      subst h1
      exact fun ad H locs ls he hP hD hS hl => lv_ldiv hx hb hd h0 (k ad H locs ls he hP hD hS hl)
  | lrem =>
    obtain ⟨rfl, rfl⟩ := m_if ht
    obtain ⟨a, b, t, z, rfl, h1, h3⟩ := m_d6 hs
    cases h3
    by_cases h0 : b = 0
    · simp [m_lb, h0] at h1
    · simp only [m_lb, h0, if_false, Option.some.injEq] at h1
      subst h1
      exact fun ad H locs ls he hP hD hS hl => lv_lrem hx hb hd h0 (k ad H locs ls he hP hD hS hl)
  | ladd =>
    obtain ⟨rfl, rfl⟩ := m_if ht
    obtain ⟨a, b, t, z, rfl, h1, h3⟩ := m_d6 hs
    cases h1
    cases h3
    exact fun ad H locs ls he hP hD hS hl => lv_ladd hx hb hd (k ad H locs ls he hP hD hS hl)
  | lsub =>
    obtain ⟨rfl, rfl⟩ := m_if ht
    obtain ⟨a, b, t, z, rfl, h1, h3⟩ := m_d6 hs
    cases h1
    cases h3
    exact fun ad H locs ls he hP hD hS hl => lv_lsub hx hb hd (k ad H locs ls he hP hD hS hl)
  | lmul =>
    obtain ⟨rfl, rfl⟩ := m_if ht
    obtain ⟨a, b, t, z, rfl, h1, h3⟩ := m_d6 hs
    cases h1
    cases h3
    exact fun ad H locs ls he hP hD hS hl => lv_lmul hx hb hd (k ad H locs ls he hP hD hS hl)
  | land =>
    obtain ⟨rfl, rfl⟩ := m_if ht
    obtain ⟨a, b, t, z, rfl, h1, h3⟩ := m_d6 hs
    cases h1
    cases h3
    exact fun ad H locs ls he hP hD hS hl => lv_land hx hb hd (k ad H locs ls he hP hD hS hl)
  | lor =>
    obtain ⟨rfl, rfl⟩ := m_if ht
    obtain ⟨a, b, t, z, rfl, h1, h3⟩ := m_d6 hs
    cases h1
    cases h3
    exact fun ad H locs ls he hP hD hS hl => lv_lor hx hb hd (k ad H locs ls he hP hD hS hl)
  | lshl =>
    obtain ⟨rfl, rfl⟩ := m_if ht
    obtain ⟨a, b, t, z, rfl, h1, h3⟩ := m_d28 hs
    cases h1
    cases h3
    exact fun ad H locs ls he hP hD hS hl => lv_lshl hx hb hd rfl (k ad H locs ls he hP hD hS hl)
  | lshr =>
    obtain ⟨rfl, rfl⟩ := m_if ht
    obtain ⟨a, b, t, z, rfl, h1, h3⟩ := m_d28 hs
    cases h1
    cases h3
    exact fun ad H locs ls he hP hD hS hl => lv_lshr hx hb hd rfl (k ad H locs ls he hP hD hS hl)
  | ineg =>
    obtain ⟨rfl, rfl⟩ := m_if ht
    obtain ⟨w, t, z, rfl, h1, h3⟩ := m_d7 hs
    cases w with
    | int x =>
      cases h1
      cases h3
      exact fun ad H locs ls he hP hD hS hl => lv_ineg hx hb hd (k ad H locs ls he hP hD hS hl)
    | _ => cases h1
  | i2l =>
    obtain ⟨rfl, rfl⟩ := m_if ht
    obtain ⟨w, t, z, rfl, h1, h3⟩ := m_d7 hs
    cases w with
    | int x =>
      cases h1
      cases h3
      exact fun ad H locs ls he hP hD hS hl => lv_i2l hx hb hd rfl (k ad H locs ls he hP hD hS hl)
    | _ => cases h1
  | l2i =>
    obtain ⟨rfl, rfl⟩ := m_if ht
    obtain ⟨w, t, z, rfl, h1, h3⟩ := m_d7 hs
    cases w with
    | long x =>
      cases h1
      cases h3
      exact fun ad H locs ls he hP hD hS hl => lv_l2i hx hb hd rfl (k ad H locs ls he hP hD hS hl)
    | _ => cases h1
  | i2b =>
    obtain ⟨rfl, rfl⟩ := m_if ht
    obtain ⟨w, t, z, rfl, h1, h3⟩ := m_d7 hs
    cases w with
    | int x =>
      cases h1
      cases h3
      exact fun ad H locs ls he hP hD hS hl => lv_i2b hx hb hd rfl (k ad H locs ls he hP hD hS hl)
    | _ => cases h1
  | i2s =>
    obtain ⟨rfl, rfl⟩ := m_if ht
    obtain ⟨w, t, z, rfl, h1, h3⟩ := m_d7 hs
    cases w with
    | int x =>
      cases h1
      cases h3
      exact fun ad H locs ls he hP hD hS hl => lv_i2s hx hb hd rfl (k ad H locs ls he hP hD hS hl)
    | _ => cases h1
  | lneg =>
    obtain ⟨rfl, rfl⟩ := m_if ht
    obtain ⟨w, t, z, rfl, h1, h3⟩ := m_d7 hs
    cases w with
    | long x =>
      cases h1
      cases h3
      exact fun ad H locs ls he hP hD hS hl => lv_lneg hx hb hd (k ad H locs ls he hP hD hS hl)
    | _ => cases h1
  | lcmp =>
    obtain ⟨rfl, rfl⟩ := m_if ht
    obtain ⟨a, b, t, rfl, h3⟩ := m_d8 hs
    cases h3
    exact fun ad H locs ls he hP hD hS hl => W.lcmp hx hb hd (k ad H locs ls he hP hD hS hl)
  | pop =>
    obtain ⟨rfl, rfl⟩ := m_if ht
    obtain ⟨t, h1, h3⟩ := m_d9 hs
    cases h3
    cases st with
    | nil => cases h1
    | cons w u =>
      obtain ⟨h2, rfl⟩ := m_if h1
      exact fun ad H locs ls he hP hD hS hl => lv_pop hx hb hd ((m_tv_cat ad w).trans h2) (k ad H locs ls he hP hD hS hl)
  | pop2 =>
    obtain ⟨rfl, rfl⟩ := m_if ht
    obtain ⟨t, h1, h3⟩ := m_d9 hs
    cases h3
    cases st with
    | nil => cases h1
    | cons w u =>
      obtain ⟨h2, rfl⟩ := m_if h1
      exact fun ad H locs ls he hP hD hS hl => lv_pop2_2 hx hb hd ((m_tv_cat ad w).trans h2) (k ad H locs ls he hP hD hS hl)
  | dup =>
    obtain ⟨rfl, rfl⟩ := m_if ht
    obtain ⟨t, h1, h3⟩ := m_d9 hs
    cases h3
    cases st with
    | nil => cases h1
    | cons w u =>
      obtain ⟨h2, rfl⟩ := m_if h1
      exact fun ad H locs ls he hP hD hS hl => lv_dup hx hb hd ((m_tv_cat ad w).trans h2) (k ad H locs ls he hP hD hS hl)
  | dup2 =>
    obtain ⟨rfl, rfl⟩ := m_if ht
    obtain ⟨t, h1, h3⟩ := m_d9 hs
    cases h3
    match st, h1 with
    | w :: x :: u, h1 =>
      obtain ⟨h2, rfl⟩ := m_if h1
      exact fun ad H locs ls he hP hD hS hl => lv_dup2_11 hx hb hd ((m_tv_cat ad w).trans h2.1) ((m_tv_cat ad x).trans h2.2) (k ad H locs ls he hP hD hS hl)
  | _ =>
    simp only [m_tri] at ht
    repeat' split at ht
    all_goals first | (cases ht; done) | (obtain ⟨-, rfl⟩ := m_if ht; dsimp only at hI; omega) | (cases ht; dsimp only at hI; omega)
set_option maxHeartbeats 4000000 in
theorem m_jump (K : m_Cx p s m args meth c D cA A ad0 nL cc y r fz) (hd : decode cc pc = .ok (ins, len)) (ht : m_tri y nL r pc ins len = some I) (hI : 10 ≤ I.1 ∧ I.1 ≤ 14) (hs : m_step fz I (pc + len) lv st σ = some (.inl (pc', lv', st', σ'))) (k : m_WW p l e R s m args below meth c Q D cA A ad0 n0 z0 nL pc' lv' st' σ') : m_WW p l e R s m args below meth c Q D cA A ad0 n0 z0 nL pc lv st σ := by
  obtain ⟨hx, hb, hml, hown, hts, hr, hlocks, hnm, hK, hA, hFz, hN⟩ := K
  cases ins with
  | goto off =>
    obtain ⟨⟨rfl, h0⟩, rfl⟩ := m_if ht
    cases hs
    exact fun ad H locs ls he hP hD hS hl => lv_goto hx hb hd (Int.toNat_of_nonneg h0).symm (k ad H locs ls he hP hD hS hl)
  | ifCond kc off =>
    obtain ⟨⟨rfl, h0⟩, rfl⟩ := m_if ht
    obtain ⟨a, t, rfl, h3⟩ := m_d11 hs
    cases h3
    have htg := (Int.toNat_of_nonneg h0).symm
    cases kc with
    | eq =>
      refine fun ad H locs ls he hP hD hS hl => lv_if_eq hx hb hd htg (fun hc => ?_) (fun hc => ?_)
      · rw [if_pos (by simpa [m_cd, m_cc] using hc)] at k
        exact (k ad H locs ls he hP hD hS hl)
      · rw [if_neg (by simpa [m_cd, m_cc] using hc)] at k
        exact (k ad H locs ls he hP hD hS hl)
    | ne =>
      refine fun ad H locs ls he hP hD hS hl => lv_if_ne hx hb hd htg (fun hc => ?_) (fun hc => ?_)
      · rw [if_pos (by simpa [m_cd, m_cc] using hc)] at k
        exact (k ad H locs ls he hP hD hS hl)
      · rw [if_neg (by simpa [m_cd, m_cc] using hc)] at k
        exact (k ad H locs ls he hP hD hS hl)
    | lt =>
      refine fun ad H locs ls he hP hD hS hl => lv_if_lt hx hb hd htg (fun hc => ?_) (fun hc => ?_)
      · rw [if_pos (by simpa [m_cd, m_cc] using hc)] at k
        exact (k ad H locs ls he hP hD hS hl)
      · rw [if_neg (by simpa [m_cd, m_cc] using hc)] at k
        exact (k ad H locs ls he hP hD hS hl)
    | ge =>
      refine fun ad H locs ls he hP hD hS hl => lv_if_ge hx hb hd htg (fun hc => ?_) (fun hc => ?_)
      · rw [if_pos (by simpa [m_cd, m_cc] using hc)] at k
        exact (k ad H locs ls he hP hD hS hl)
      · rw [if_neg (by simpa [m_cd, m_cc] using hc)] at k
        exact (k ad H locs ls he hP hD hS hl)
    | gt =>
      refine fun ad H locs ls he hP hD hS hl => lv_if_gt hx hb hd htg (fun hc => ?_) (fun hc => ?_)
      · rw [if_pos (by simpa [m_cd, m_cc] using hc)] at k
        exact (k ad H locs ls he hP hD hS hl)
      · rw [if_neg (by simpa [m_cd, m_cc] using hc)] at k
        exact (k ad H locs ls he hP hD hS hl)
    | le =>
      refine fun ad H locs ls he hP hD hS hl => lv_if_le hx hb hd htg (fun hc => ?_) (fun hc => ?_)
      · rw [if_pos (by simpa [m_cd, m_cc] using hc)] at k
        exact (k ad H locs ls he hP hD hS hl)
      · rw [if_neg (by simpa [m_cd, m_cc] using hc)] at k
        exact (k ad H locs ls he hP hD hS hl)
  | if_icmp kc off =>
    obtain ⟨⟨rfl, h0⟩, rfl⟩ := m_if ht
    obtain ⟨a, b, t, rfl, h3⟩ := m_d12 hs
    cases h3
    have htg := (Int.toNat_of_nonneg h0).symm
    cases kc with
    | eq =>
      refine fun ad H locs ls he hP hD hS hl => lv_icmp_eq hx hb hd htg (fun hc => ?_) (fun hc => ?_)
      · rw [if_pos (by simpa [m_cd, m_cc] using hc)] at k
        exact (k ad H locs ls he hP hD hS hl)
      · rw [if_neg (by simpa [m_cd, m_cc] using hc)] at k
        exact (k ad H locs ls he hP hD hS hl)
    | ne =>
      refine fun ad H locs ls he hP hD hS hl => lv_icmp_ne hx hb hd htg (fun hc => ?_) (fun hc => ?_)
      · rw [if_pos (by simpa [m_cd, m_cc] using hc)] at k
        exact (k ad H locs ls he hP hD hS hl)
      · rw [if_neg (by simpa [m_cd, m_cc] using hc)] at k
        exact (k ad H locs ls he hP hD hS hl)
    | lt =>
      refine fun ad H locs ls he hP hD hS hl => lv_icmp_lt hx hb hd htg (fun hc => ?_) (fun hc => ?_)
      · rw [if_pos (by simpa [m_cd, m_cc] using hc)] at k
        exact (k ad H locs ls he hP hD hS hl)
      · rw [if_neg (by simpa [m_cd, m_cc] using hc)] at k
        exact (k ad H locs ls he hP hD hS hl)
    | ge =>
      refine fun ad H locs ls he hP hD hS hl => lv_icmp_ge hx hb hd htg (fun hc => ?_) (fun hc => ?_)
      · rw [if_pos (by simpa [m_cd, m_cc] using hc)] at k
        exact (k ad H locs ls he hP hD hS hl)
      · rw [if_neg (by simpa [m_cd, m_cc] using hc)] at k
        exact (k ad H locs ls he hP hD hS hl)
    | gt =>
      refine fun ad H locs ls he hP hD hS hl => lv_icmp_gt hx hb hd htg (fun hc => ?_) (fun hc => ?_)
      · rw [if_pos (by simpa [m_cd, m_cc] using hc)] at k
        exact (k ad H locs ls he hP hD hS hl)
      · rw [if_neg (by simpa [m_cd, m_cc] using hc)] at k
        exact (k ad H locs ls he hP hD hS hl)
    | le =>
      refine fun ad H locs ls he hP hD hS hl => lv_icmp_le hx hb hd htg (fun hc => ?_) (fun hc => ?_)
      · rw [if_pos (by simpa [m_cd, m_cc] using hc)] at k
        exact (k ad H locs ls he hP hD hS hl)
      · rw [if_neg (by simpa [m_cd, m_cc] using hc)] at k
        exact (k ad H locs ls he hP hD hS hl)
  | tableswitch d lo hi offs =>
    obtain ⟨⟨h0, h1, h2⟩, rfl⟩ := m_if ht
    obtain ⟨a, t, rfl, h3⟩ := m_d13 hs
    cases h3
    intro ad H locs ls he hP hD hS hl
    by_cases hlo : a.toInt < lo
    · have hk : m_tsw ((pc : Int) + d).toNat lo (offs.toList.map (fun o => ((pc : Int) + o).toNat)) a.toInt = ((pc : Int) + d).toNat := by simp [m_tsw, hlo]
      rw [hk] at k
      exact lv_tableOut hx hb hd (Or.inl hlo) (Int.toNat_of_nonneg h0).symm (k ad H locs ls he hP hD hS hl)
    · cases ho : offs[(a.toInt - lo).toNat]? with
      | none =>
        have hk : m_tsw ((pc : Int) + d).toNat lo (offs.toList.map (fun o => ((pc : Int) + o).toNat)) a.toInt = ((pc : Int) + d).toNat := by simp [m_tsw, hlo, ho]
        rw [hk] at k
        have hsz : offs.size ≤ (a.toInt - lo).toNat := by simpa using ho
        exact lv_tableOut hx hb hd (Or.inr (by omega)) (Int.toNat_of_nonneg h0).symm (k ad H locs ls he hP hD hS hl)
      | some off =>
        have hk : m_tsw ((pc : Int) + d).toNat lo (offs.toList.map (fun o => ((pc : Int) + o).toNat)) a.toInt = ((pc : Int) + off).toNat := by simp [m_tsw, hlo, ho]
        rw [hk] at k
        have hsz : (a.toInt - lo).toNat < offs.size := (Array.getElem?_eq_some_iff.mp ho).1
        have hof : 0 ≤ (pc : Int) + off := by
          have h4 := List.all_eq_true.mp h2 off (by simpa using Array.mem_of_getElem? ho)
          simpa using h4
        exact lv_tableIn hx hb hd hlo (by omega) ho (Int.toNat_of_nonneg hof).symm (k ad H locs ls he hP hD hS hl)
  | lookupswitch d ps =>
    obtain ⟨⟨h0, h1, h2⟩, rfl⟩ := m_if ht
    obtain ⟨a, t, rfl, h3⟩ := m_d14 hs
    cases h3
    exact fun ad H locs ls he hP hD hS hl => lv_lookup hx hb hd h1 rfl (m_lsw_off h0 h2) (k ad H locs ls he hP hD hS hl)
  | _ =>
    simp only [m_tri] at ht
    repeat' split at ht
    all_goals first | (cases ht; done) | (obtain ⟨-, rfl⟩ := m_if ht; dsimp only at hI; omega) | (cases ht; dsimp only at hI; omega)
end M7

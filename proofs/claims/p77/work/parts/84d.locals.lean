section M6
variable {p : Program} {l : Launch} {e : Env} {R : Room} {s : State} {m : MethodId} {args : Array Value} {below : List Frame} {meth : Method} {c : Code} {Q : State → Prop} {D : va_G} {cA : Nat → ClassId} {A : Nat → Prop} {ad0 : Nat → Nat} {n0 z0 nL : Nat} {cc : ByteArray} {fz : List (List Int32)} {y : MethodName} {r : Option FieldType}
variable {pc pc' len : Nat} {lv lv' : m_V} {st st' : List Value} {σ σ' : m_S} {ins : Instr} {I : m_I}
theorem m_K (K : m_Cx p s m args meth c D cA A ad0 nL cc y r fz) (hlk : m_lkAll) {i : Nat} {I : m_I} (h : m_lkx y.cls i = some I) : m_lkOk y.cls i I := hlk _ _ _ h
set_option maxHeartbeats 4000000 in
theorem m_ldst (K : m_Cx p s m args meth c D cA A ad0 nL cc y r fz) (hlk : m_lkAll) (hd : decode cc pc = .ok (ins, len)) (ht : m_tri y nL r pc ins len = some I) (hI : I.1 < 5) (hs : m_step fz I (pc + len) lv st σ = some (.inl (pc', lv', st', σ'))) (k : m_WW p l e R s m args below meth c Q D cA A ad0 n0 z0 nL pc' lv' st' σ') : m_WW p l e R s m args below meth c Q D cA A ad0 n0 z0 nL pc lv st σ := by
  obtain ⟨hx, hb, hml, hown, hts, hr, hlocks, hnm, hK, hA, hFz, hN⟩ := K
  cases ins with
  | iconst v =>
    obtain ⟨rfl, rfl⟩ := m_if ht
    cases hs
    exact fun ad H locs ls he hP hD hS hl => lv_iconst hx hb hd rfl (k ad H locs ls he hP hD hS hl)
  | bipush v =>
    obtain ⟨rfl, rfl⟩ := m_if ht
    cases hs
    exact fun ad H locs ls he hP hD hS hl => lv_bipush hx hb hd (Int32.ofInt_toInt _).symm (k ad H locs ls he hP hD hS hl)
  | sipush v =>
    obtain ⟨rfl, rfl⟩ := m_if ht
    cases hs
    exact fun ad H locs ls he hP hD hS hl => lv_sipush hx hb hd (Int32.ofInt_toInt _).symm (k ad H locs ls he hP hD hS hl)
  | ldc i =>
    simp only [m_tri] at ht
    split at ht
    · rename_i a v w h1
      obtain ⟨rfl, rfl⟩ := m_if ht
      cases hs
      exact fun ad H locs ls he hP hD hS hl => lv_ldc hx hb hown (hts _ (hlk _ _ _ h1)) hd (k ad H locs ls he hP hD hS hl)
    · obtain ⟨-, rfl⟩ := m_if ht
      dsimp only at hI
      omega
    · cases ht
  | ldc_w i =>
    simp only [m_tri] at ht
    split at ht
    · rename_i a v w h1
      obtain ⟨rfl, rfl⟩ := m_if ht
      cases hs
      exact fun ad H locs ls he hP hD hS hl => lv_ldcw hx hb hown (hts _ (hlk _ _ _ h1)) hd (k ad H locs ls he hP hD hS hl)
    · cases ht
  | ldc2_w i =>
    simp only [m_tri] at ht
    split at ht
    · rename_i a v w h1
      obtain ⟨rfl, rfl⟩ := m_if ht
      cases hs
      exact fun ad H locs ls he hP hD hS hl => lv_ldc2 hx hb hown (hts _ (hlk _ _ _ h1)) hd (k ad H locs ls he hP hD hS hl)
    · cases ht
  | lconst v =>
    obtain ⟨rfl, rfl⟩ := m_if ht
    cases hs
    exact fun ad H locs ls he hP hD hS hl => lv_lconst hx hb hd rfl (k ad H locs ls he hP hD hS hl)
  | iload_n i =>
    obtain ⟨rfl, rfl⟩ := m_if ht
    obtain ⟨w, h1, h2, h3⟩ := m_d2 hs
    cases h3
    cases w with
    | int x => exact fun ad H locs ls he hP hD hS hl => lv_iload_n hx hb hd rfl (m_ld_at hl h1) (k ad H locs ls he hP hD hS hl)
    | _ => simp [m_k] at h2
  | istore_n i =>
    obtain ⟨⟨rfl, hn⟩, rfl⟩ := m_if ht
    obtain ⟨w, t, rfl, h2, h3⟩ := m_d3 hs
    cases h3
    cases w with
    | int x => exact fun ad H locs ls he hP hD hS hl => lv_istore_n hx hb hd rfl hl hn (m_st1_tl (v := .int x)) (fun ls' hl' => k ad H locs ls' he hP hD hS hl')
    | _ => simp [m_k] at h2
  | iload i =>
    obtain ⟨rfl, rfl⟩ := m_if ht
    obtain ⟨w, h1, h2, h3⟩ := m_d2 hs
    cases h3
    cases w with
    | int x => exact fun ad H locs ls he hP hD hS hl => lv_iload hx hb hd (m_ld_at hl h1) (k ad H locs ls he hP hD hS hl)
    | _ => simp [m_k] at h2
  | istore i =>
    obtain ⟨⟨rfl, hn⟩, rfl⟩ := m_if ht
    obtain ⟨w, t, rfl, h2, h3⟩ := m_d3 hs
    cases h3
    cases w with
    | int x => exact fun ad H locs ls he hP hD hS hl => lv_istore hx hb hd hl hn (m_st1_tl (v := .int x)) (fun ls' hl' => k ad H locs ls' he hP hD hS hl')
    | _ => simp [m_k] at h2
  | lload_n i =>
    obtain ⟨rfl, rfl⟩ := m_if ht
    obtain ⟨w, h1, h2, h3⟩ := m_d2 hs
    cases h3
    cases w with
    | long x => exact fun ad H locs ls he hP hD hS hl => lv_lload_n hx hb hd rfl (m_ld_at hl h1) (k ad H locs ls he hP hD hS hl)
    | _ => simp [m_k] at h2
  | lstore_n i =>
    obtain ⟨⟨rfl, hn⟩, rfl⟩ := m_if ht
    obtain ⟨w, t, rfl, h2, h3⟩ := m_d3 hs
    cases h3
    cases w with
    | long x => exact fun ad H locs ls he hP hD hS hl => lv_lstore_n hx hb hd rfl hl hn (m_st2_tl (v := .long x)) (fun ls' hl' => k ad H locs ls' he hP hD hS hl')
    | _ => simp [m_k] at h2
  | lload i =>
    obtain ⟨rfl, rfl⟩ := m_if ht
    obtain ⟨w, h1, h2, h3⟩ := m_d2 hs
    cases h3
    cases w with
    | long x => exact fun ad H locs ls he hP hD hS hl => lv_lload hx hb hd (m_ld_at hl h1) (k ad H locs ls he hP hD hS hl)
    | _ => simp [m_k] at h2
  | lstore i =>
    obtain ⟨⟨rfl, hn⟩, rfl⟩ := m_if ht
    obtain ⟨w, t, rfl, h2, h3⟩ := m_d3 hs
    cases h3
    cases w with
    | long x => exact fun ad H locs ls he hP hD hS hl => lv_lstore hx hb hd hl hn (m_st2_tl (v := .long x)) (fun ls' hl' => k ad H locs ls' he hP hD hS hl')
    | _ => simp [m_k] at h2
  | aload_n i =>
    obtain ⟨rfl, rfl⟩ := m_if ht
    obtain ⟨w, h1, h2, h3⟩ := m_d2 hs
    cases h3
    cases w with
    | ref x => exact fun ad H locs ls he hP hD hS hl => lv_aload_n hx hb hd rfl (m_ld_at hl h1) (k ad H locs ls he hP hD hS hl)
    | _ => simp [m_k] at h2
  | astore_n i =>
    obtain ⟨⟨rfl, hn⟩, rfl⟩ := m_if ht
    obtain ⟨w, t, rfl, h2, h3⟩ := m_d3 hs
    cases h3
    cases w with
    | ref x => exact fun ad H locs ls he hP hD hS hl => lv_astore_n hx hb hd rfl hl hn (m_st1_tl (v := .ref x)) (fun ls' hl' => k ad H locs ls' he hP hD hS hl')
    | _ => simp [m_k] at h2
  | aload i =>
    obtain ⟨rfl, rfl⟩ := m_if ht
    obtain ⟨w, h1, h2, h3⟩ := m_d2 hs
    cases h3
    cases w with
    | ref x => exact fun ad H locs ls he hP hD hS hl => lv_aload hx hb hd (m_ld_at hl h1) (k ad H locs ls he hP hD hS hl)
    | _ => simp [m_k] at h2
  | astore i =>
    obtain ⟨⟨rfl, hn⟩, rfl⟩ := m_if ht
    obtain ⟨w, t, rfl, h2, h3⟩ := m_d3 hs
    cases h3
    cases w with
    | ref x => exact fun ad H locs ls he hP hD hS hl => lv_astore hx hb hd hl hn (m_st1_tl (v := .ref x)) (fun ls' hl' => k ad H locs ls' he hP hD hS hl')
    | _ => simp [m_k] at h2
  | iinc i v =>
    obtain ⟨⟨rfl, hn⟩, rfl⟩ := m_if ht
    obtain ⟨x, h1, h3⟩ := m_d4 hs
    cases h3
    intro ad H locs ls he hP hD hS hl
    obtain ⟨j, hj⟩ := m_ld_ix (ad := ad) h1
    exact lv_iinc hx hb hd hl hj rfl hn (m_st1_tl (v := .int (x + Int32.ofInt v))) (fun ls' hl' => k ad H locs ls' he hP hD hS hl')
  | _ =>
    simp only [m_tri] at ht
    repeat' split at ht
    all_goals first | (cases ht; done) | (obtain ⟨-, rfl⟩ := m_if ht; dsimp only at hI; omega) | (cases ht; dsimp only at hI; omega)
end M6

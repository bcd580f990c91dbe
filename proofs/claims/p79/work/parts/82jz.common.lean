/-! M.common by hand: Euclid's way, its depth by Fibonacci's numbers -/
section X82j
variable {fz : List (List Int32)} {Fin : Option Value → m_S → Prop} {σ : m_S} {gs : List m_Fr} {a b : Int64}
theorem x_st {pc len pc' : Nat} {I : m_I} {lv lv' : m_V} {st st' : List Value} (hF : x_F 352 pc = some (I, len)) (hs : m_step fz I (pc + len) lv st σ = some (.inl (pc', lv', st', σ))) (hw : b_win x_F fz Fin ((352, pc', lv', st') :: gs) σ) : b_win x_F fz Fin ((352, pc, lv, st) :: gs) σ := b_win_step (by simp only [m_next, hF, hs]) hw
def x_lv (a b : Int64) : m_V := [(0, .long a), (2, .long b)]
theorem x_cmR {lv : m_V} {r : Int64} (h : b_ret x_F fz Fin gs (some (.long r)) σ) : b_win x_F fz Fin ((352, 28, lv, [.long r]) :: gs) σ := by
  have hF : x_F 352 28 = some ((27, 1, 0, []), 1) := by decide +kernel
  have hs : m_step fz (27, 1, 0, []) (28 + 1) lv [.long r] σ = some (.inr (.inl (some (.long r)))) := rfl
  cases gs with
  | nil => exact b_win_end (o := (some (.long r), σ)) (by simp only [m_next, hF, hs]) h
  | cons g hs2 =>
    obtain ⟨m2, p2, l2, s2⟩ := g
    exact b_win_step (by simp only [m_next, hF, hs]) h
theorem x_cmp0 (k : Int) (x : Int64) : m_cd 3 (lg_cmp x (Int64.ofInt 0)) 0 = decide (0 ≤ x.toInt) ∧ m_cd 1 (lg_cmp x (Int64.ofInt 0)) 0 = decide (x.toInt ≠ 0) := by
  have h := a_cmpI x (Int64.ofInt 0)
  have h0 : (Int64.ofInt 0).toInt = 0 := rfl
  rw [h0] at h
  have z0 : (0 : Int32).toInt = 0 := rfl
  unfold a_sg at h
  constructor
  · show decide ((0 : Int32) ≤ lg_cmp x (Int64.ofInt 0)) = _
    rw [decide_eq_decide, Int32.le_iff_toInt_le, h, z0]
    repeat' split
    all_goals omega
  · show decide (¬ lg_cmp x (Int64.ofInt 0) = 0) = _
    rw [decide_eq_decide]
    have : (lg_cmp x (Int64.ofInt 0) = 0) ↔ (lg_cmp x (Int64.ofInt 0)).toInt = 0 := ⟨fun e => by rw [e]; rfl, fun e => Int32.toInt_inj.mp (by rw [e]; rfl)⟩
    rw [this, h]
    repeat' split
    all_goals omega
theorem x_cm0 (hw : b_win x_F fz Fin ((352, if decide (b.toInt ≠ 0) = true then 21 else 6, x_lv a b, []) :: gs) σ) : b_win x_F fz Fin ((352, 0, x_lv a b, []) :: gs) σ := by
  refine x_st (I := (2, 2, 1, [])) (len := 1) (pc' := 1) (lv' := x_lv a b) (st' := [.long b]) (by decide +kernel) rfl ?_
  refine x_st (I := (1, 0, 0, [])) (len := 1) (pc' := 2) (lv' := x_lv a b) (st' := [.long (Int64.ofInt 0), .long b]) (by decide +kernel) rfl ?_
  refine x_st (I := (8, 0, 0, [])) (len := 1) (pc' := 3) (lv' := x_lv a b) (st' := [.int (lg_cmp b (Int64.ofInt 0))]) (by decide +kernel) rfl ?_
  refine x_st (I := (11, 21, 1, [])) (len := 3) (lv' := x_lv a b) (st' := []) (by decide +kernel) (by rw [← (x_cmp0 0 b).2]; rfl) hw
theorem x_cmB (hb : b.toInt = 0) (ha : -100000000 ≤ a.toInt ∧ a.toInt ≤ 100000000) (h : ∀ r : Int64, r.toInt = a.toInt.natAbs → b_ret x_F fz Fin gs (some (.long r)) σ) : b_win x_F fz Fin ((352, 0, x_lv a b, []) :: gs) σ := by
  refine x_cm0 ?_
  rw [if_neg (by simp [hb])]
  refine x_st (I := (2, 0, 1, [])) (len := 1) (pc' := 7) (lv' := x_lv a b) (st' := [.long a]) (by decide +kernel) rfl ?_
  refine x_st (I := (1, 0, 0, [])) (len := 1) (pc' := 8) (lv' := x_lv a b) (st' := [.long (Int64.ofInt 0), .long a]) (by decide +kernel) rfl ?_
  refine x_st (I := (8, 0, 0, [])) (len := 1) (pc' := 9) (lv' := x_lv a b) (st' := [.int (lg_cmp a (Int64.ofInt 0))]) (by decide +kernel) rfl ?_
  refine x_st (I := (11, 17, 3, [])) (len := 3) (pc' := if decide (0 ≤ a.toInt) = true then 17 else 12) (lv' := x_lv a b) (st' := []) (by decide +kernel) (by rw [← (x_cmp0 0 a).1]; rfl) ?_
  by_cases hn : 0 ≤ a.toInt
  · rw [if_pos (by simpa using hn)]
    refine x_st (I := (2, 0, 1, [])) (len := 1) (pc' := 18) (lv' := x_lv a b) (st' := [.long a]) (by decide +kernel) rfl ?_
    refine x_st (I := (10, 28, 0, [])) (len := 3) (pc' := 28) (lv' := x_lv a b) (st' := [.long a]) (by decide +kernel) rfl ?_
    exact x_cmR (h a (by omega))
  · rw [if_neg (by simpa using hn)]
    refine x_st (I := (2, 0, 1, [])) (len := 1) (pc' := 13) (lv' := x_lv a b) (st' := [.long a]) (by decide +kernel) rfl ?_
    refine x_st (I := (7, 5, 0, [])) (len := 1) (pc' := 14) (lv' := x_lv a b) (st' := [.long (-a)]) (by decide +kernel) rfl ?_
    refine x_st (I := (10, 28, 0, [])) (len := 3) (pc' := 28) (lv' := x_lv a b) (st' := [.long (-a)]) (by decide +kernel) rfl ?_
    refine x_cmR (h (-a) ?_)
    rw [Int64.toInt_neg, b_bm64 (by omega) (by omega)]
    omega
theorem x_rem (a b : Int64) : (a - a / b * b).toInt = a.toInt.tmod b.toInt := by
  have h1 : (a - a / b * b).toInt = (a.toInt - a.toInt.tdiv b.toInt * b.toInt).bmod (2 ^ 64) := by
    rw [Int64.toInt_sub, Int64.toInt_mul, Int64.toInt_div, Int.sub_bmod_bmod]
    have : (a.toInt - (a.toInt.tdiv b.toInt).bmod (2 ^ 64) * b.toInt).bmod (2 ^ 64) = (a.toInt - ((a.toInt.tdiv b.toInt).bmod (2 ^ 64) * b.toInt).bmod (2 ^ 64)).bmod (2 ^ 64) := (Int.sub_bmod_bmod ..).symm
    rw [this, Int.bmod_mul_bmod, Int.sub_bmod_bmod]
  rw [h1]
  have h2 : a.toInt - a.toInt.tdiv b.toInt * b.toInt = a.toInt.tmod b.toInt := by
    have := Int.tmod_def a.toInt b.toInt
    rw [this, Int.mul_comm]
  rw [h2]
  have h3 := Int.natAbs_tmod a.toInt b.toInt
  have h4 := Nat.mod_le a.toInt.natAbs b.toInt.natAbs
  have h5 := a_i64 a
  by_cases h6 : (a.toInt.tmod b.toInt) = 9223372036854775808
  · have h7 : 0 ≤ a.toInt ∨ a.toInt < 0 := by omega
    rcases h7 with h7 | h7
    · omega
    · have h8 := Int.tmod_nonneg (a := -a.toInt) b.toInt (by omega)
      rw [Int.neg_tmod] at h8
      omega
  · exact b_bm64 (by omega) (by omega)
def x_fib : Nat → Nat
  | 0 => 1
  | 1 => 2
  | k + 2 => x_fib (k + 1) + x_fib k
def x_pre (a b : Int64) : Prop := b.toInt.natAbs ≤ 100000000 ∧ (b.toInt = 0 → 1 ≤ a.toInt.natAbs ∧ a.toInt.natAbs ≤ 100000000)
/-- one call deeper -/
theorem x_cmC (hσ : σ.length = 139) (hb : b.toInt ≠ 0) (hg : gs.length < 60) (hw : b_win x_F fz Fin ((352, 0, x_lv b (a - a / b * b), []) :: (352, 28, x_lv a b, []) :: gs) σ) : b_win x_F fz Fin ((352, 0, x_lv a b, []) :: gs) σ := by
  refine x_cm0 ?_
  rw [if_pos (by simpa using hb)]
  refine x_st (I := (2, 2, 1, [])) (len := 1) (pc' := 22) (lv' := x_lv a b) (st' := [.long b]) (by decide +kernel) rfl ?_
  refine x_st (I := (2, 0, 1, [])) (len := 1) (pc' := 23) (lv' := x_lv a b) (st' := [.long a, .long b]) (by decide +kernel) rfl ?_
  refine x_st (I := (2, 2, 1, [])) (len := 1) (pc' := 24) (lv' := x_lv a b) (st' := [.long b, .long a, .long b]) (by decide +kernel) rfl ?_
  refine x_st (I := (6, 6, 0, [])) (len := 1) (pc' := 25) (lv' := x_lv a b) (st' := [.long (a - a / b * b), .long b]) (by decide +kernel) ?_ ?_
  · have : b ≠ 0 := fun e => hb (by rw [e]; rfl)
    simp only [m_step, m_lb, if_neg this, Option.map_some]
  · have hF : x_F 352 25 = some ((24, 352, 2, [2, 4, 10]), 3) := by decide +kernel
    have hs : m_step fz (24, 352, 2, [2, 4, 10]) (25 + 3) (x_lv a b) [.long (a - a / b * b), .long b] σ = some (.inr (.inr (352, [.long b, .long (a - a / b * b)], []))) := rfl
    have hc : m_callOk (24, 352, 2, [2, 4, 10]) (x_lv a b) [.long b, .long (a - a / b * b)] [] σ = true := by
      unfold m_callOk
      rw [hσ]
      rfl
    refine b_win_step (fs' := (352, 0, x_lv b (a - a / b * b), []) :: (352, 28, x_lv a b, []) :: gs) (σ' := σ) ?_ hw
    simp only [m_next, hF, hs]
    rw [if_pos ⟨hc, hg⟩]
    rfl
theorem x_cmP (hσ : σ.length = 139) : ∀ k : Nat, (∀ (a b : Int64) (gs : List m_Fr), b.toInt.natAbs < x_fib k → x_pre a b → gs.length + (k + 1) ≤ 60 → (∀ r : Int64, 1 ≤ r.toInt → r.toInt ≤ 100000000 → b_ret x_F fz Fin gs (some (.long r)) σ) → b_win x_F fz Fin ((352, 0, x_lv a b, []) :: gs) σ) ∧
    (∀ (a b : Int64) (gs : List m_Fr), b.toInt.natAbs < x_fib (k + 1) → x_pre a b → gs.length + (k + 2) ≤ 60 → (∀ r : Int64, 1 ≤ r.toInt → r.toInt ≤ 100000000 → b_ret x_F fz Fin gs (some (.long r)) σ) → b_win x_F fz Fin ((352, 0, x_lv a b, []) :: gs) σ) := by
  have base : ∀ (a b : Int64) (gs : List m_Fr), b.toInt = 0 → x_pre a b → (∀ r : Int64, 1 ≤ r.toInt → r.toInt ≤ 100000000 → b_ret x_F fz Fin gs (some (.long r)) σ) → b_win x_F fz Fin ((352, 0, x_lv a b, []) :: gs) σ := by
    intro a b gs hb hp h
    have := hp.2 hb
    exact x_cmB hb (by omega) (fun r hr => h r (by omega) (by omega))
  have sub : ∀ a b : Int64, b.toInt ≠ 0 → x_pre a b → x_pre b (a - a / b * b) ∧ (a - a / b * b).toInt.natAbs < b.toInt.natAbs ∧ (a - a / b * b).toInt.natAbs = a.toInt.natAbs % b.toInt.natAbs := by
    intro a b hb hp
    have h1 := x_rem a b
    have h2 := Int.natAbs_tmod a.toInt b.toInt
    rw [← h1] at h2
    have h3 := Nat.mod_lt a.toInt.natAbs (y := b.toInt.natAbs) (by omega)
    refine ⟨⟨?_, fun _ => ?_⟩, by omega, h2⟩
    · have := hp.1; omega
    · have := hp.1; omega
  have step : ∀ (k : Nat), (∀ (a b : Int64) (gs : List m_Fr), b.toInt.natAbs < x_fib k → x_pre a b → gs.length + (k + 1) ≤ 60 → (∀ r : Int64, 1 ≤ r.toInt → r.toInt ≤ 100000000 → b_ret x_F fz Fin gs (some (.long r)) σ) → b_win x_F fz Fin ((352, 0, x_lv a b, []) :: gs) σ) →
      ∀ (a b : Int64) (gs : List m_Fr), b.toInt ≠ 0 → (a - a / b * b).toInt.natAbs < x_fib k → x_pre a b → gs.length + (k + 2) ≤ 60 → (∀ r : Int64, 1 ≤ r.toInt → r.toInt ≤ 100000000 → b_ret x_F fz Fin gs (some (.long r)) σ) → b_win x_F fz Fin ((352, 0, x_lv a b, []) :: gs) σ := by
    intro k ih a b gs hb hr hp hg h
    refine x_cmC hσ hb (by omega) ?_
    refine ih b (a - a / b * b) _ hr (sub a b hb hp).1 (by rw [List.length_cons]; omega) (fun r h1 h2 => ?_)
    exact x_cmR (h r h1 h2)
  intro k
  induction k with
  | zero =>
    have h0 : ∀ (a b : Int64) (gs : List m_Fr), b.toInt.natAbs < x_fib 0 → x_pre a b → gs.length + (0 + 1) ≤ 60 → (∀ r : Int64, 1 ≤ r.toInt → r.toInt ≤ 100000000 → b_ret x_F fz Fin gs (some (.long r)) σ) → b_win x_F fz Fin ((352, 0, x_lv a b, []) :: gs) σ := by
      intro a b gs hb hp hg h
      have : x_fib 0 = 1 := rfl
      exact base a b gs (by omega) hp h
    refine ⟨h0, fun a b gs hb hp hg h => ?_⟩
    by_cases e : b.toInt = 0
    · exact base a b gs e hp h
    · have h1 : x_fib (0 + 1) = 2 := rfl
      have h2 := (sub a b e hp).2.1
      have h3 : x_fib 0 = 1 := rfl
      exact step 0 h0 a b gs e (by omega) hp hg h
  | succ k ih =>
    refine ⟨ih.2, fun a b gs hb hp hg h => ?_⟩
    have hf : x_fib (k + 1 + 1) = x_fib (k + 1) + x_fib k := rfl
    by_cases e : b.toInt = 0
    · exact base a b gs e hp h
    · obtain ⟨s1, s2, s3⟩ := sub a b e hp
      by_cases hr : (a - a / b * b).toInt.natAbs < x_fib (k + 1)
      · exact step (k + 1) ih.2 a b gs e hr hp hg h
      · have hpos : 0 < x_fib (k + 1) := by
          have : ∀ j, 0 < x_fib j ∧ 0 < x_fib (j + 1) := by
            intro j
            induction j with
            | zero => exact ⟨by decide, by decide⟩
            | succ j ih => exact ⟨ih.2, by show 0 < x_fib (j + 1) + x_fib j; omega⟩
          exact (this k).2
        have e2 : (a - a / b * b).toInt ≠ 0 := by omega
        obtain ⟨t1, t2, t3⟩ := sub b (a - a / b * b) e2 s1
        refine x_cmC hσ e (by omega) ?_
        refine step k ih.1 b (a - a / b * b) _ e2 ?_ s1 (by rw [List.length_cons]; omega) (fun r h1 h2 => x_cmR (h r h1 h2))
        rw [t3, Nat.mod_eq_sub_mod (by omega)]
        have := Nat.mod_le (b.toInt.natAbs - (a - a / b * b).toInt.natAbs) (a - a / b * b).toInt.natAbs
        omega
end X82j
theorem x_v312 {N : Int} {fz : List (List Int32)} (_hZ : b_ZOk x_Z (x_G N) fz) : b_Valid x_F fz x_T (x_G N) x_k312 := by
  intro Fin ρ σ gs ws hT hH hs hok hgs hPost
  have hT1 := hT.1.1.2
  have q0 : b_gB ((-9223372036854775808), 9223372036854775807, 0) (ρ 0) := hT1 0 _ rfl
  have q1 : b_gB (1, 100000000, 0) (ρ 1) := hT1 1 _ rfl
  obtain ⟨w1, r1, rfl, g1, hs2⟩ := b_cons hs
  obtain ⟨w2, r2, rfl, g2, hs3⟩ := b_cons hs2
  cases r2 with
  | cons => exact hs3.elim
  | nil =>
    obtain ⟨a, rfl, ha⟩ := x_gv1 g1 rfl
    obtain ⟨b, rfl, hb⟩ := x_gv1 g2 rfl
    have hb2 : b.toInt = ρ 1 := by rw [hb]; simp [b_ev, b_evs]
    have hb3 := q1.1
    have hb4 := q1.2.1
    dsimp only at hb3 hb4
    have hgs2 : gs.length + 45 ≤ 60 := hgs
    refine (x_cmP hH.1 38).1 a b gs ?_ ⟨by omega, fun h => by omega⟩ (by omega) (fun r h1 h2 => ?_)
    · have : x_fib 38 = 102334155 := by decide +kernel
      omega
    · refine hPost _ _ ⟨_, List.mem_singleton.mpr rfl, fun s => if s = 2 then r.toInt else ρ s, fun s hs => ?_, ⟨⟨⟨rfl, fun s q hq => ?_⟩, fun f hf => absurd hf List.not_mem_nil⟩, fun q hq => absurd hq List.not_mem_nil⟩, hH, ⟨?_, trivial⟩, rfl, b_frame.rf⟩
      · have hs : s < 2 := hs
        dsimp only
        rw [if_neg (by omega)]
      · have hlt := b_at_lt hq
        have hlt : s < 3 := hlt
        match s, hlt with
        | 0, _ => cases hq; exact q0
        | 1, _ => cases hq; exact q1
        | 2, _ => cases hq; exact ⟨h1, h2, b_mk0 _⟩
      · refine ⟨?_, fun q hq => ?_⟩
        · simp [b_ev, b_evs]
        · rcases List.mem_singleton.mp hq with rfl
          show 2 < 3
          omega

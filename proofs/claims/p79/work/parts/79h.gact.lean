/-! hints that tell of ghosts: 5 P at 0, 6 P rises, 7 P past an event, 8 .. 11 Q and R -/
def x_lo (lv : b_Lv) (i : Nat) : Option b_L := match b_ld lv i with
  | some v => bif Nat.beq v.1 0 then some v.2 else none
  | none => none
def x_ex (lv : b_Lv) : List (Nat × Int) → Option b_L
  | [] => some (b_con 0)
  | q :: r => match x_lo lv q.1, x_ex lv r with
    | some y, some z => some (b_add z q.2 y)
    | _, _ => none
def x_exp (lv : b_Lv) (x : b_L) : Option b_L := match x_ex lv x.2 with
  | some y => some (b_adc y x.1)
  | none => none
def x_half (x : b_L) : Option b_L := bif decide (x.1 % 2 = 0) && x.2.all (fun q => decide (q.2 % 2 = 0)) then some (x.1 / 2, x.2.map fun q => (q.1, q.2 / 2)) else none
def x_is1 (N : b_N) (v : b_V) : Bool := b_le0 N v.2 1 && b_le0 N (b_sca (-1) v.2) (-1)
def x_vc (Q : Nat) : Nat := bif Nat.beq Q 140 then 74 else 116
def x_lc (Q : Nat) : Nat := bif Nat.beq Q 140 then 76 else 115
def x_ee (Q : Nat) : Int := bif Nat.beq Q 140 then 0 else 1
def x_isQ (Q : Nat) : Bool := Nat.beq Q 140 || Nat.beq Q 142
abbrev x_O : Type := Option (List (b_NF × b_M))
def x_gp0 (W : b_NF) (M : b_M) : x_O := match b_look 139 (b_con 0) M with
  | some _ => none
  | none => some [(W, (139, b_con 0, (0, b_con 0)) :: M)]
/-- a number of P at y, no less than x -/
noncomputable def x_newP (W : b_NF) (M : b_M) (x y : b_L) : List (b_NF × b_M) := (b_lrn (b_fresh W 0 28 0).1 (b_add x (-1) (b_fresh W 0 28 0).2)).map fun U => (U, (139, y, (0, (b_fresh W 0 28 0).2)) :: M)
noncomputable def x_gpm1 (W : b_NF) (M : b_M) (y : b_L) : x_O := match b_look 139 y M with
  | some _ => none
  | none => match M.find? (fun q => Nat.beq q.1 139 && b_le W (b_add q.2.1 (-1) y) 0) with
    | some q => some (x_newP W M q.2.2.2 y)
    | none => none
noncomputable def x_gpm (W : b_NF) (M : b_M) (lv : b_Lv) (x : b_L) : x_O := match x_exp lv x with
  | some y => x_gpm1 W M y
  | none => none
noncomputable def x_gpd1 (W : b_NF) (c : Nat) (y l : b_L) (t : b_V) : Bool := Nat.beq t.1 0 && (b_ge W y 0 && (b_ge W l 0 && (bif Nat.beq c 129 then b_le W l 7 && (b_le W (b_add (b_add y (-1) l) (-32) t.2) 0 && b_ge W (b_add (b_add y (-1) l) (-32) t.2) 0) else Nat.beq c 124 && (b_le W l 19 && (b_le W (b_add (b_add y (-1) l) (-32) t.2) 8 && b_ge W (b_add (b_add y (-1) l) (-32) t.2) 8)))))
def x_ix (c : Nat) (l : b_L) : b_L := bif Nat.beq c 129 then l else b_adc (b_sca 3 l) 2
noncomputable def x_gpd (W : b_NF) (M : b_M) (lv : b_Lv) (c : Nat) (x : b_L) : x_O := match x_exp lv x, x_lo lv 3 with
  | some y, some l => (match b_look 139 (b_adc y 1) M with
    | some _ => none
    | none => match b_look 139 y M, b_look c (x_ix c l) M with
      | some p, some t => bif x_gpd1 W c y l t then some (x_newP W M (b_adc p.2 1) (b_adc y 1)) else none
      | _, _ => none)
  | _, _ => none
def x_q0 (W : b_NF) (M : b_M) (lv : b_Lv) (Q : Nat) : x_O := bif x_isQ Q then (match x_lo lv 1 with
  | some s => (match b_look Q (b_sca 32 s) M with
    | some _ => none
    | none => some [(W, (Q, b_sca 32 s, (0, b_con 1)) :: M)])
  | none => none) else none
/-- slot, index, its half -/
def x_sit (lv : b_Lv) (i : Nat) : Option (b_L × b_L × b_L) := match x_lo lv 1, x_lo lv i with
  | some s, some x => (match x_half x with
    | some t => some (s, x, t)
    | none => none)
  | _, _ => none
noncomputable def x_qs (W : b_NF) (M : b_M) (lv : b_Lv) (Q : Nat) : x_O := bif x_isQ Q then (match x_sit lv 3 with
  | some z => (match b_look Q (b_adc (b_add z.2.2 32 z.1) 1) M with
    | some _ => none
    | none => match b_look Q (b_add z.2.2 32 z.1) M, b_look (x_vc Q) (b_add z.2.1 60 z.1) M with
      | some q, some v => bif x_is1 W.1 q && (Nat.beq v.1 1 && (b_le W v.2 7 && (b_ge W v.2 0 && (b_ge W z.1 0 && (b_ge W z.2.2 0 && b_le W z.2.2 30))))) then some [(W, (Q, b_adc (b_add z.2.2 32 z.1) 1, (0, b_con 1)) :: M)] else none
      | _, _ => none)
  | none => none) else none
noncomputable def x_r1 (W : b_NF) (M : b_M) (lv : b_Lv) (Q : Nat) : x_O := bif x_isQ Q then (match x_sit lv 3 with
  | some z => (match b_look (Q + 1) z.1 M with
    | some _ => none
    | none => match b_look Q (b_add z.2.2 32 z.1) M, b_look (x_lc Q) z.1 M with
      | some q, some v => bif x_is1 W.1 q && (Nat.beq v.1 0 && (b_le W (b_add v.2 (-1) z.2.1) (1 - x_ee Q) && (b_ge W z.1 0 && (b_ge W z.2.2 0 && b_le W z.2.2 31)))) then some [(W, (Q + 1, z.1, (0, b_con 1)) :: M)] else none
      | _, _ => none)
  | none => none) else none
noncomputable def x_ruv (W : b_NF) (M : b_M) (c : Nat) (x : b_L) (o : Option b_V) : List (b_NF × b_M) := match o with
  | none => [((b_fresh W 0 7 0).1, (c, x, (1, (b_fresh W 0 7 0).2)) :: M)]
  | some v => ((b_lrn W (b_neg v.2)).flatMap fun U => b_lrn U (b_adc v.2 (-7))).map fun U => (U, M)
def x_in07 (N : b_N) (o : Option b_V) : Bool := match o with
  | none => false
  | some v => b_le0 N v.2 7 && b_le0 N (b_sca (-1) v.2) 0
noncomputable def x_ru (W : b_NF) (M : b_M) (lv : b_Lv) (Q : Nat) : x_O := bif x_isQ Q then (match x_sit lv 2 with
  | some z => bif x_in07 W.1 (b_look (x_vc Q) (b_add z.2.1 60 z.1) M) then none else (match b_look (Q + 1) z.1 M, b_look (x_lc Q) z.1 M with
      | some q, some v => bif x_is1 W.1 q && (Nat.beq v.1 0 && (b_le W (b_add z.2.1 (-1) v.2) (x_ee Q - 2) && (b_ge W z.1 0 && (b_ge W z.2.2 0 && b_le W z.2.2 29)))) then some (x_ruv W M (x_vc Q) (b_add z.2.1 60 z.1) (b_look (x_vc Q) (b_add z.2.1 60 z.1) M)) else none
      | _, _ => none)
  | none => none) else none
noncomputable def x_gact (W : b_NF) (M : b_M) (lv : b_Lv) (A : b_Ac) : x_O := match A.1 with
  | 5 => x_gp0 W M
  | 6 => x_gpm W M lv A.2.2
  | 7 => x_gpd W M lv A.2.1 A.2.2
  | 8 => x_q0 W M lv A.2.1
  | 9 => x_qs W M lv A.2.1
  | 10 => x_r1 W M lv A.2.1
  | 11 => x_ru W M lv A.2.1
  | _ => none
/-- a stack value is split: below lo, each of lo .. lo + n - 1, above -/
noncomputable def x_thrL (W : b_NF) (x : b_L) (lo : Int) (n : Nat) : List b_NF := b_learn W 2 (b_adc x (-lo)) ++ (b_spl W x 0 lo n ++ b_learn W 3 (b_adc x (-(lo + (n : Int)))))
noncomputable def x_thrV (W : b_NF) (M : b_M) (v : b_V) (lo : Int) (n : Nat) : x_O := match b_lo W.1 v.2, b_hi W.1 v.2 with
  | some a, some b => bif Nat.beq v.1 0 && !(decide (a = b) || (decide (b < lo) || decide (lo + (n : Int) ≤ a))) then some ((x_thrL W v.2 lo n).map fun U => (U, M)) else none
  | _, _ => none
def x_cnt (l : List (Nat × Int)) : Nat := match l with
  | [q] => q.1
  | _ => 0
noncomputable def x_thr (W : b_NF) (M : b_M) (st : List b_V) (A : b_Ac) : x_O := match st[A.2.1]? with
  | some v => x_thrV W M v A.2.2.1 (x_cnt A.2.2.2)
  | none => none
/-- the number at a place that a local tells is split -/
noncomputable def x_spl (T : Nat → Option b_C) (W : b_NF) (M : b_M) (lv : b_Lv) (A : b_Ac) : x_O := match x_lo lv A.2.2.1.toNat with
  | some x => bif Nat.blt A.2.1 139 then (match b_get T W M A.2.1 x with
    | some U => b_spM U.1 U.2.1 U.2.2
    | none => none) else none
  | none => none
/-- a number that is known -/
def x_pt (W : b_NF) (v : b_V) : Option b_L := match b_lo W.1 v.2, b_hi W.1 v.2 with
  | some a, some b => bif decide (a = b) then some (b_con a) else none
  | _, _ => none
noncomputable def x_cmp2 (T : Nat → Option b_C) (W : b_NF) (M : b_M) (c : Nat) (x y : b_L) : x_O := match b_get T W M c x with
  | some U => (match b_get T U.1 U.2.1 c y with
    | some V => bif (Nat.beq U.2.2.1 0 && Nat.beq V.2.2.1 0) && !(b_le V.1 (b_add U.2.2.2 (-1) V.2.2.2) (-1) || (b_ge V.1 (b_add U.2.2.2 (-1) V.2.2.2) 1 || (b_le V.1 (b_add U.2.2.2 (-1) V.2.2.2) 0 && b_ge V.1 (b_add U.2.2.2 (-1) V.2.2.2) 0))) then some ((b_learn V.1 2 (b_add U.2.2.2 (-1) V.2.2.2) ++ (b_learn V.1 0 (b_add U.2.2.2 (-1) V.2.2.2) ++ b_learn V.1 4 (b_add U.2.2.2 (-1) V.2.2.2))).map fun Z => (Z, V.2.1)) else none
    | none => none)
  | none => none
/-- two numbers at places that known stack values tell: less, equal, more -/
noncomputable def x_cmp (T : Nat → Option b_C) (W : b_NF) (M : b_M) (st : List b_V) (A : b_Ac) : x_O := match st[A.2.2.1.toNat]?, st[x_cnt A.2.2.2]? with
  | some u, some v => (match x_pt W u, x_pt W v with
    | some x, some y => bif Nat.blt A.2.1 139 then x_cmp2 T W M A.2.1 x y else none
    | _, _ => none)
  | _, _ => none
noncomputable def x_acts (T : Nat → Option b_C) (W : b_NF) (M : b_M) (lv : b_Lv) (st : List b_V) : List b_Ac → x_O
  | [] => none
  | A :: r => match (bif Nat.ble A.1 4 then b_act T W M lv st A else bif Nat.beq A.1 12 then x_thr W M st A else bif Nat.beq A.1 14 then x_spl T W M lv A else bif Nat.beq A.1 15 then x_cmp T W M st A else x_gact W M lv A) with
    | some L => some L
    | none => x_acts T W M lv st r
section X79h
variable {T : Nat → Option b_C} {fz : List (List Int32)} {N : Int} {ρ : Nat → Int} {W : b_NF} {M : b_M} {σ : m_S} {lv : b_Lv} {st : List b_V} {cl : m_V} {cs : List Value}
def x_Res (N : Int) (fz : List (List Int32)) (W : b_NF) (ρ : Nat → Int) (σ : m_S) (L : List (b_NF × b_M)) : Prop := ∃ q ∈ L, ∃ ρ', b_ext W ρ q.1 ρ' ∧ b_gM (x_G N) fz q.1.1.1 ρ' σ q.2
theorem x_lo_ok (hf : b_gf W.1.1 ρ lv st cl cs) {i : Nat} {x : b_L} (h : x_lo lv i = some x) : b_u W.1.1 x := by
  unfold x_lo at h
  split at h
  · rename_i v hv
    cases e : Nat.beq v.1 0 with
    | true =>
      rw [e] at h
      cases h
      obtain ⟨w, -, g2⟩ := hf.1 _ _ hv
      exact b_gv_u g2
    | false => rw [e] at h; cases h
  · cases h
theorem x_ex_ok (hf : b_gf W.1.1 ρ lv st cl cs) : ∀ {l : List (Nat × Int)} {x : b_L}, x_ex lv l = some x → b_u W.1.1 x
  | [], x, h => by cases h; intro q hq; cases hq
  | q :: r, x, h => by
    unfold x_ex at h
    split at h
    · rename_i y z h1 h2
      cases h
      exact ((show b_gx W.1.1 ρ z (b_ev ρ z) from ⟨rfl, x_ex_ok hf h2⟩).add q.2 (show b_gx W.1.1 ρ y (b_ev ρ y) from ⟨rfl, x_lo_ok hf h1⟩)).2
    · cases h
theorem x_exp_ok (hf : b_gf W.1.1 ρ lv st cl cs) {x y : b_L} (h : x_exp lv x = some y) : b_u W.1.1 y := by
  unfold x_exp at h
  split at h
  · rename_i z h1
    cases h
    have h2 := x_ex_ok hf h1
    exact h2
  · cases h
theorem x_half_ok {n : Nat} {x y : b_L} (hx : b_u n x) (h : x_half x = some y) : 2 * b_ev ρ y = b_ev ρ x ∧ b_u n y := by
  unfold x_half at h
  cases e : decide (x.1 % 2 = 0) && x.2.all (fun q => decide (q.2 % 2 = 0)) with
  | true =>
    rw [e] at h
    cases h
    rw [Bool.and_eq_true] at e
    have e1 := of_decide_eq_true e.1
    have e2 := List.all_eq_true.mp e.2
    have key : ∀ l : List (Nat × Int), (∀ q ∈ l, q.2 % 2 = 0) → 2 * b_evs ρ (l.map fun q => (q.1, q.2 / 2)) = b_evs ρ l := by
      intro l
      induction l with
      | nil => intro _; rfl
      | cons q r ih =>
        intro h
        have h1 := h q List.mem_cons_self
        have h2 := ih (fun p hp => h p (List.mem_cons_of_mem _ hp))
        simp only [List.map_cons, b_evs]
        have h3 : 2 * (q.2 / 2 * ρ q.1) = q.2 * ρ q.1 := by
          rw [← Int.mul_assoc]
          congr 1
          omega
        omega
    constructor
    · have := key x.2 (fun q hq => of_decide_eq_true (e2 q hq))
      unfold b_ev
      dsimp only
      omega
    · intro q hq
      obtain ⟨p, h1, rfl⟩ := List.mem_map.mp hq
      exact hx p h1
  | false => rw [e] at h; cases h
theorem x_look_g (hM : b_gM (x_G N) fz W.1.1 ρ σ M) {g : Nat} {x : b_L} {v : b_V} (h1 : 139 ≤ g) (h2 : g < m_fzb) (h : b_look g x M = some v) : b_gx W.1.1 ρ v.2 (x_G N g σ (b_ev ρ x)) := by
  obtain ⟨a, g1, g2⟩ := hM _ (b_look_mem h)
  dsimp only at g1 g2
  rw [if_neg (by omega), if_pos h2] at g2
  rw [g1.1]
  exact g2.2
theorem x_look_c (hM : b_gM (x_G N) fz W.1.1 ρ σ M) {c : Nat} {x : b_L} {v : b_V} (h1 : c < 139) (h : b_look c x M = some v) : ∃ (i : Nat) (w : Value), b_ev ρ x = (i : Int) ∧ b_rd σ c i = some w ∧ b_gv W.1.1 ρ v w ∧ b_u W.1.1 x := by
  obtain ⟨a, g1, g2⟩ := hM _ (b_look_mem h)
  dsimp only at g1 g2
  rw [if_pos h1] at g2
  obtain ⟨i, e, w, g3, g4⟩ := g2
  exact ⟨i, w, by rw [g1.1, e], g3, g4, g1.2⟩
theorem x_put_g (hM : b_gM (x_G N) fz W.1.1 ρ σ M) {g : Nat} {x y : b_L} (h1 : 139 ≤ g) (h2 : g < m_fzb) (hx : b_u W.1.1 x) (hy : b_gx W.1.1 ρ y (x_G N g σ (b_ev ρ x))) : b_gM (x_G N) fz W.1.1 ρ σ ((g, x, (0, y)) :: M) := by
  intro q hq
  rcases List.mem_cons.mp hq with rfl | hq
  · refine ⟨b_ev ρ x, ⟨rfl, hx⟩, ?_⟩
    dsimp only
    rw [if_neg (by omega), if_pos h2]
    exact ⟨rfl, hy⟩
  · exact hM q hq
theorem x_one_g (hW : b_gW W ρ) (hM : b_gM (x_G N) fz W.1.1 ρ σ M) {g : Nat} {x : b_L} (h1 : 139 ≤ g) (h2 : g < m_fzb) (hx : b_u W.1.1 x) {c : Int} (hy : x_G N g σ (b_ev ρ x) = c) : x_Res N fz W ρ σ [(W, (g, x, (0, b_con c)) :: M)] :=
  ⟨_, List.mem_singleton.mpr rfl, ρ, b_ext.rf hW, x_put_g hM h1 h2 hx (by rw [hy]; exact b_gx.con c)⟩
theorem x_gp0_ok (hW : b_gW W ρ) (hM : b_gM (x_G N) fz W.1.1 ρ σ M) {L : List (b_NF × b_M)} (h : x_gp0 W M = some L) : x_Res N fz W ρ σ L := by
  unfold x_gp0 at h
  split at h
  · cases h
  · cases h
    exact x_one_g hW hM (Nat.le_refl _) (by decide) (b_gx.con (ρ := ρ) 0).2 (by rw [b_con_ev]; exact x_P_zero)
theorem x_newP_ok (hW : b_gW W ρ) (hM : b_gM (x_G N) fz W.1.1 ρ σ M) {x y : b_L} (hx : b_u W.1.1 x) (hy : b_u W.1.1 y) (h : b_ev ρ x ≤ x_P σ (b_ev ρ y)) : x_Res N fz W ρ σ (x_newP W M x y) := by
  unfold x_newP
  have hb := x_P_bd (σ := σ) (a := b_ev ρ y)
  obtain ⟨ρ1, g1, g2⟩ := b_fresh_ok hW hb.1 hb.2 (b_mk0 _)
  have hx1 := (show b_gx W.1.1 ρ x (b_ev ρ x) from ⟨rfl, hx⟩).up g1
  have hy1 := (show b_gx W.1.1 ρ y (b_ev ρ y) from ⟨rfl, hy⟩).up g1
  obtain ⟨U, k1, k2, k3⟩ := b_lrn_ok g1.2.2 (hx1.add (-1) g2) (by omega)
  refine ⟨_, List.mem_map.mpr ⟨U, k1, rfl⟩, ρ1, g1.tr (b_same k2 k3), ?_⟩
  dsimp only
  rw [k3]
  exact x_put_g (hM.up g1) (Nat.le_refl _) (by decide) hy1.2 (by rw [hy1.1]; exact g2)
theorem x_gpm_ok (hW : b_gW W ρ) (hM : b_gM (x_G N) fz W.1.1 ρ σ M) (hf : b_gf W.1.1 ρ lv st cl cs) {x : b_L} {L : List (b_NF × b_M)} (h : x_gpm W M lv x = some L) : x_Res N fz W ρ σ L := by
  unfold x_gpm at h
  split at h
  · rename_i y hy
    have hu := x_exp_ok hf hy
    unfold x_gpm1 at h
    split at h
    · cases h
    · split at h
      · rename_i q hq
        cases h
        have h1 := List.mem_of_find?_eq_some hq
        have h2 := List.find?_some hq
        rw [Bool.and_eq_true] at h2
        have e := Nat.eq_of_beq_eq_true h2.1
        have h3 := b_le_ok hW h2.2
        rw [b_add_ev] at h3
        obtain ⟨a, g1, g2⟩ := hM q h1
        rw [e, if_neg (by decide), if_pos (by decide)] at g2
        refine x_newP_ok hW hM g2.2.2 hu ?_
        rw [g2.2.1]
        show x_P σ a ≤ _
        refine x_P_mono ?_
        rw [g1.1] at h3
        omega
      · cases h
  · cases h
theorem x_gv0 {n : Nat} {v : b_V} {w : Value} (hv : b_gv n ρ v w) (h : Nat.beq v.1 0 = true) : x_iv (some w) = b_ev ρ v.2 := by
  have e := Nat.eq_of_beq_eq_true h
  obtain ⟨t, x⟩ := v
  dsimp only at e
  subst e
  unfold b_gv at hv
  split at hv
  · exact hv.1.symm
  · rename_i e; cases e
  · rename_i e; cases e
  · rename_i e; cases e
  · exact hv.elim
theorem x_gv1 {n : Nat} {v : b_V} {w : Value} (hv : b_gv n ρ v w) (h : Nat.beq v.1 1 = true) : ∃ z : Int64, w = .long z ∧ z.toInt = b_ev ρ v.2 := by
  have e := Nat.eq_of_beq_eq_true h
  obtain ⟨t, x⟩ := v
  dsimp only at e
  subst e
  unfold b_gv at hv
  split at hv
  · rename_i e; cases e
  · rename_i z _; exact ⟨z, rfl, hv.1.symm⟩
  · rename_i e; cases e
  · rename_i e; cases e
  · exact hv.elim
theorem x_gpd_ok (hW : b_gW W ρ) (hM : b_gM (x_G N) fz W.1.1 ρ σ M) (hf : b_gf W.1.1 ρ lv st cl cs) {c : Nat} {x : b_L} {L : List (b_NF × b_M)} (h : x_gpd W M lv c x = some L) : x_Res N fz W ρ σ L := by
  unfold x_gpd at h
  split at h
  · rename_i y l hy hl
    have hu := x_exp_ok hf hy
    have hul := x_lo_ok hf hl
    split at h
    · cases h
    · split at h
      · rename_i p t hp ht
        cases e : x_gpd1 W c y l t with
        | true =>
          rw [e] at h
          cases h
          unfold x_gpd1 at e
          simp only [Bool.and_eq_true] at e
          obtain ⟨e1, e2, e3, e4⟩ := e
          have e2 := b_ge_ok hW e2
          have e3 := b_ge_ok hW e3
          have hp2 := x_look_g hM (Nat.le_refl _) (by decide) hp
          have hp3 : b_ev ρ p.2 = x_P σ (b_ev ρ y) := hp2.1
          have key : ∃ ee ∈ x_evs, x_key σ ee = b_ev ρ y := by
            unfold x_ix at ht
            cases c1 : Nat.beq c 129 with
            | true =>
              rw [c1] at e4 ht
              simp only [cond_true, Bool.and_eq_true] at e4 ht
              obtain ⟨k1, k2, k3⟩ := e4
              have k1 := b_le_ok hW k1
              have k2 := b_le_ok hW k2
              have k3 := b_ge_ok hW k3
              rw [b_add_ev, b_add_ev] at k2 k3
              have cc := Nat.eq_of_beq_eq_true c1
              subst cc
              obtain ⟨i, w, g1, g2, g3, -⟩ := x_look_c hM (by decide) ht
              refine ⟨(129, i, (i : Int)), ?_, ?_⟩
              · unfold x_evs
                exact List.mem_append_left _ (List.mem_map.mpr ⟨i, List.mem_range.mpr (by omega), rfl⟩)
              · unfold x_key
                dsimp only
                rw [g2, x_gv0 g3 e1]
                omega
            | false =>
              rw [c1] at e4 ht
              simp only [cond_false, Bool.and_eq_true] at e4 ht
              obtain ⟨k0, k1, k2, k3⟩ := e4
              have k1 := b_le_ok hW k1
              have k2 := b_le_ok hW k2
              have k3 := b_ge_ok hW k3
              rw [b_add_ev, b_add_ev] at k2 k3
              have cc := Nat.eq_of_beq_eq_true k0
              subst cc
              obtain ⟨i, w, g1, g2, g3, -⟩ := x_look_c hM (by decide) ht
              rw [b_adc_ev, b_sca_ev] at g1
              refine ⟨(124, 3 * (b_ev ρ l).toNat + 2, ((b_ev ρ l).toNat : Int) + 8), ?_, ?_⟩
              · unfold x_evs
                exact List.mem_append_right _ (List.mem_map.mpr ⟨(b_ev ρ l).toNat, List.mem_range.mpr (by omega), rfl⟩)
              · unfold x_key
                dsimp only
                have : 3 * (b_ev ρ l).toNat + 2 = i := by omega
                rw [this, g2, x_gv0 g3 e1]
                omega
          obtain ⟨ee, q1, q2⟩ := key
          have := x_P_up q1 e2 q2
          refine x_newP_ok hW hM (x := b_adc p.2 1) (y := b_adc y 1) hp2.2 hu ?_
          rw [b_adc_ev, b_adc_ev, hp3]
          exact this
        | false => rw [e] at h; cases h
      · cases h
  · cases h
theorem x_sit_ok (hf : b_gf W.1.1 ρ lv st cl cs) {i : Nat} {z : b_L × b_L × b_L} (h : x_sit lv i = some z) : b_u W.1.1 z.1 ∧ b_u W.1.1 z.2.1 ∧ b_u W.1.1 z.2.2 ∧ 2 * b_ev ρ z.2.2 = b_ev ρ z.2.1 := by
  unfold x_sit at h
  split at h
  · rename_i s x h1 h2
    split at h
    · rename_i t h3
      cases h
      have k2 := x_lo_ok hf h2
      obtain ⟨k3, k4⟩ := x_half_ok (ρ := ρ) k2 h3
      exact ⟨x_lo_ok hf h1, k2, k4, k3⟩
    · cases h
  · cases h
theorem x_isQ_or {Q : Nat} (h : x_isQ Q = true) : Q = 140 ∨ Q = 142 := by
  unfold x_isQ at h
  rw [Bool.or_eq_true] at h
  rcases h with h | h
  · exact Or.inl (Nat.eq_of_beq_eq_true h)
  · exact Or.inr (Nat.eq_of_beq_eq_true h)
theorem x_G_Q {Q : Nat} (h : x_isQ Q = true) (a : Int) : x_G N Q σ a = x_Q (x_vc Q) σ a ∧ x_G N (Q + 1) σ a = x_R (x_vc Q) (x_lc Q) (x_ee Q) σ a ∧ 139 ≤ Q ∧ Q + 1 < m_fzb ∧ x_vc Q < 139 ∧ x_lc Q < 139 ∧ (x_ee Q = 0 ∨ x_ee Q = 1) := by
  rcases x_isQ_or h with rfl | rfl
  · exact ⟨rfl, rfl, by decide, by decide, by decide, by decide, Or.inl rfl⟩
  · exact ⟨rfl, rfl, by decide, by decide, by decide, by decide, Or.inr rfl⟩
theorem x_q0_ok (hW : b_gW W ρ) (hM : b_gM (x_G N) fz W.1.1 ρ σ M) (hf : b_gf W.1.1 ρ lv st cl cs) {Q : Nat} {L : List (b_NF × b_M)} (h : x_q0 W M lv Q = some L) : x_Res N fz W ρ σ L := by
  unfold x_q0 at h
  cases e : x_isQ Q with
  | true =>
    rw [e] at h
    simp only [cond_true] at h
    split at h
    · rename_i s hs
      split at h
      · cases h
      · cases h
        have hu := (show b_gx W.1.1 ρ s (b_ev ρ s) from ⟨rfl, x_lo_ok hf hs⟩).sca 32
        obtain ⟨q1, -, q2, q3, -⟩ := x_G_Q (N := N) (σ := σ) e (b_ev ρ (b_sca 32 s))
        refine x_one_g hW hM q2 (by omega) hu.2 ?_
        rw [q1, hu.1]
        exact x_Q_zero _
    · cases h
  | false => rw [e] at h; cases h
theorem x_is1_ok (hW : b_gW W ρ) {v : b_V} (h : x_is1 W.1 v = true) : b_ev ρ v.2 = 1 := by
  unfold x_is1 at h
  rw [Bool.and_eq_true] at h
  have h1 := b_le0_ok hW.1 h.1
  have h2 := b_le0_ok hW.1 h.2
  rw [b_sca_ev] at h2
  omega
theorem x_qs_ok (hW : b_gW W ρ) (hM : b_gM (x_G N) fz W.1.1 ρ σ M) (hf : b_gf W.1.1 ρ lv st cl cs) {Q : Nat} {L : List (b_NF × b_M)} (h : x_qs W M lv Q = some L) : x_Res N fz W ρ σ L := by
  unfold x_qs at h
  cases e : x_isQ Q with
  | true =>
    rw [e] at h
    simp only [cond_true] at h
    split at h
    · rename_i z hz
      obtain ⟨s, x, t⟩ := z
      obtain ⟨us, ux, ut, ht⟩ := x_sit_ok hf hz
      dsimp only at h us ux ut ht
      split at h
      · cases h
      · split at h
        · rename_i q v hq hv
          cases e2 : x_is1 W.1 q && (Nat.beq v.1 1 && (b_le W v.2 7 && (b_ge W v.2 0 && (b_ge W s 0 && (b_ge W t 0 && b_le W t 30))))) with
          | true =>
            rw [e2] at h
            cases h
            simp only [Bool.and_eq_true] at e2
            obtain ⟨k1, k2, k3, k4, k5, k6, k7⟩ := e2
            have k1 := x_is1_ok hW k1
            have k3 := b_le_ok hW k3
            have k4 := b_ge_ok hW k4
            have k5 := b_ge_ok hW k5
            have k6 := b_ge_ok hW k6
            have k7 := b_le_ok hW k7
            have hu := ((show b_gx W.1.1 ρ t (b_ev ρ t) from ⟨rfl, ut⟩).add 32 (show b_gx W.1.1 ρ s (b_ev ρ s) from ⟨rfl, us⟩))
            obtain ⟨q1, -, q2, q3, q4, -⟩ := x_G_Q (N := N) (σ := σ) e (b_ev ρ (b_adc (b_add t 32 s) 1))
            obtain ⟨p1, -⟩ := x_G_Q (N := N) (σ := σ) e (b_ev ρ (b_add t 32 s))
            have hq2 := (x_look_g hM q2 (by omega) hq).1
            rw [k1, p1, hu.1] at hq2
            have hq3 := (x_Q_at k6 (by omega)).mp hq2.symm
            obtain ⟨i, w, g1, g2, g3, -⟩ := x_look_c hM q4 hv
            rw [b_add_ev] at g1
            obtain ⟨zz, rfl, g4⟩ := x_gv1 g3 k2
            refine x_one_g hW hM q2 (by omega) (x := b_adc (b_add t 32 s) 1) hu.2 ?_
            rw [q1, b_adc_ev, hu.1]
            have e5 : b_ev ρ t + 32 * b_ev ρ s + 1 = (b_ev ρ t + 1) + 32 * b_ev ρ s := by omega
            rw [e5]
            refine (x_Q_at (by omega) (by omega)).mpr (fun u hu2 => ?_)
            by_cases hlt : (u : Int) < b_ev ρ t
            · exact hq3 u hlt
            · have : 60 * (b_ev ρ s).toNat + 2 * u = i := by omega
              rw [this]
              unfold x_ok
              rw [g2]
              simp only [Bool.and_eq_true, decide_eq_true_eq]
              omega
          | false => rw [e2] at h; cases h
        · cases h
    · cases h
  | false => rw [e] at h; cases h
theorem x_r1_ok (hW : b_gW W ρ) (hM : b_gM (x_G N) fz W.1.1 ρ σ M) (hf : b_gf W.1.1 ρ lv st cl cs) {Q : Nat} {L : List (b_NF × b_M)} (h : x_r1 W M lv Q = some L) : x_Res N fz W ρ σ L := by
  unfold x_r1 at h
  cases e : x_isQ Q with
  | true =>
    rw [e] at h
    simp only [cond_true] at h
    split at h
    · rename_i z hz
      obtain ⟨s, x, t⟩ := z
      obtain ⟨us, ux, ut, ht⟩ := x_sit_ok hf hz
      dsimp only at h us ux ut ht
      split at h
      · cases h
      · split at h
        · rename_i q v hq hv
          cases e2 : x_is1 W.1 q && (Nat.beq v.1 0 && (b_le W (b_add v.2 (-1) x) (1 - x_ee Q) && (b_ge W s 0 && (b_ge W t 0 && b_le W t 31)))) with
          | true =>
            rw [e2] at h
            cases h
            simp only [Bool.and_eq_true] at e2
            obtain ⟨k1, k2, k3, k5, k6, k7⟩ := e2
            have k1 := x_is1_ok hW k1
            have k3 := b_le_ok hW k3
            rw [b_add_ev] at k3
            have k5 := b_ge_ok hW k5
            have k6 := b_ge_ok hW k6
            have k7 := b_le_ok hW k7
            have hu := ((show b_gx W.1.1 ρ t (b_ev ρ t) from ⟨rfl, ut⟩).add 32 (show b_gx W.1.1 ρ s (b_ev ρ s) from ⟨rfl, us⟩))
            obtain ⟨-, q1, q2, q3, q4, q5, q6⟩ := x_G_Q (N := N) (σ := σ) e (b_ev ρ s)
            obtain ⟨p1, -⟩ := x_G_Q (N := N) (σ := σ) e (b_ev ρ (b_add t 32 s))
            have hq2 := (x_look_g hM q2 (by omega) hq).1
            rw [k1, p1, hu.1] at hq2
            have hq3 := (x_Q_at k6 (by omega)).mp hq2.symm
            obtain ⟨i, w, g1, g2, g3, -⟩ := x_look_c hM q5 hv
            refine x_one_g hW hM (by omega) q3 us ?_
            rw [q1]
            refine x_R_at.mpr (fun u hu2 hl => ?_)
            have : (b_ev ρ s).toNat = i := by omega
            rw [this, g2, x_gv0 g3 k2] at hl
            exact hq3 u (by omega)
          | false => rw [e2] at h; cases h
        · cases h
    · cases h
  | false => rw [e] at h; cases h
theorem x_ru_ok (hW : b_gW W ρ) (hM : b_gM (x_G N) fz W.1.1 ρ σ M) (hf : b_gf W.1.1 ρ lv st cl cs) {Q : Nat} {L : List (b_NF × b_M)} (h : x_ru W M lv Q = some L) : x_Res N fz W ρ σ L := by
  unfold x_ru at h
  cases e : x_isQ Q with
  | true =>
    rw [e] at h
    simp only [cond_true] at h
    split at h
    · rename_i z hz
      obtain ⟨s, x, t⟩ := z
      obtain ⟨us, ux, ut, ht⟩ := x_sit_ok hf hz
      dsimp only at h us ux ut ht
      cases e3 : x_in07 W.1 (b_look (x_vc Q) (b_add x 60 s) M) with
      | true => rw [e3] at h; cases h
      | false =>
        rw [e3] at h
        simp only [cond_false] at h
        split at h
        · rename_i q v hq hv
          cases e2 : x_is1 W.1 q && (Nat.beq v.1 0 && (b_le W (b_add x (-1) v.2) (x_ee Q - 2) && (b_ge W s 0 && (b_ge W t 0 && b_le W t 29)))) with
          | true =>
            rw [e2] at h
            cases h
            simp only [Bool.and_eq_true] at e2
            obtain ⟨k1, k2, k3, k5, k6, k7⟩ := e2
            have k1 := x_is1_ok hW k1
            have k3 := b_le_ok hW k3
            rw [b_add_ev] at k3
            have k5 := b_ge_ok hW k5
            have k6 := b_ge_ok hW k6
            have k7 := b_le_ok hW k7
            obtain ⟨-, q1, q2, q3, q4, q5, q6⟩ := x_G_Q (N := N) (σ := σ) e (b_ev ρ s)
            have hq2 := (x_look_g hM (by omega) q3 hq).1
            rw [k1, q1] at hq2
            obtain ⟨i, w, g1, g2, g3, -⟩ := x_look_c hM q5 hv
            have hok := x_R_at.mp hq2.symm (b_ev ρ t).toNat (by omega) (by
              have : (b_ev ρ s).toNat = i := by omega
              rw [this, g2, x_gv0 g3 k2]
              omega)
            have hx : b_gx W.1.1 ρ (b_add x 60 s) (b_ev ρ x + 60 * b_ev ρ s) := (show b_gx W.1.1 ρ x (b_ev ρ x) from ⟨rfl, ux⟩).add 60 (show b_gx W.1.1 ρ s (b_ev ρ s) from ⟨rfl, us⟩)
            have e6 : b_ev ρ x + 60 * b_ev ρ s = ((60 * (b_ev ρ s).toNat + 2 * (b_ev ρ t).toNat : Nat) : Int) := by omega
            unfold x_ok at hok
            split at hok
            · rename_i zz hzz
              simp only [Bool.and_eq_true, decide_eq_true_eq] at hok
              cases hl : b_look (x_vc Q) (b_add x 60 s) M with
              | none =>
                obtain ⟨ρ1, p1, p2⟩ := b_fresh_ok hW hok.1 hok.2 (b_mk0 _)
                refine ⟨_, List.mem_singleton.mpr rfl, ρ1, p1, ?_⟩
                intro q' hq'
                rcases List.mem_cons.mp hq' with rfl | hq'
                · refine ⟨_, hx.up p1, ?_⟩
                  dsimp only
                  rw [if_pos q4]
                  exact ⟨_, e6, _, hzz, p2⟩
                · exact (hM q' hq').up p1
              | some v2 =>
                obtain ⟨i2, w2, r1, r2, r3, -⟩ := x_look_c hM q4 hl
                rw [hx.1, e6] at r1
                have e7 : 60 * (b_ev ρ s).toNat + 2 * (b_ev ρ t).toNat = i2 := by omega
                rw [e7, r2] at hzz
                cases hzz
                have r4 : b_ev ρ v2.2 = zz.toInt := by
                  obtain ⟨t2, x2⟩ := v2
                  unfold b_gv at r3
                  split at r3
                  · rename_i e8; cases e8
                  · rename_i e8; cases e8; exact r3.1
                  · rename_i e8; cases e8
                  · rename_i e8; cases e8
                  · exact r3.elim
                have r5 : b_gx W.1.1 ρ v2.2 zz.toInt := ⟨r4, b_gv_u r3⟩
                obtain ⟨U, m1, m2, m3⟩ := b_lrn_ok hW r5.neg (by omega)
                obtain ⟨V, n1, n2, n3⟩ := b_lrn_ok m2 (y := b_adc v2.2 (-7)) (by rw [m3]; exact r5.adc (-7)) (by omega)
                have hex := b_same (W' := W) (ρ' := ρ) n2 (n3.trans m3)
                exact ⟨(V, M), List.mem_map.mpr ⟨V, List.mem_flatMap.mpr ⟨U, m1, n1⟩, rfl⟩, ρ, hex, hM.up hex⟩
            · cases hok
          | false => rw [e2] at h; cases h
        · cases h
    · cases h
  | false => rw [e] at h; cases h
theorem x_gact_ok (hW : b_gW W ρ) (hM : b_gM (x_G N) fz W.1.1 ρ σ M) (hf : b_gf W.1.1 ρ lv st cl cs) {A : b_Ac} {L : List (b_NF × b_M)} (h : x_gact W M lv A = some L) : x_Res N fz W ρ σ L := by
  unfold x_gact at h
  split at h
  · exact x_gp0_ok hW hM h
  · exact x_gpm_ok hW hM hf h
  · exact x_gpd_ok hW hM hf h
  · exact x_q0_ok hW hM hf h
  · exact x_qs_ok hW hM hf h
  · exact x_r1_ok hW hM hf h
  · exact x_ru_ok hW hM hf h
  · cases h
theorem x_thrL_ok (hW : b_gW W ρ) {x : b_L} {a lo : Int} {n : Nat} (hx : b_gx W.1.1 ρ x a) : ∃ U ∈ x_thrL W x lo n, b_gW U ρ ∧ U.1.1 = W.1.1 := by
  unfold x_thrL
  by_cases c1 : a < lo
  · obtain ⟨U, g1, g2⟩ := b_learn_ok hW (k := 2) (hx.adc (-lo)) (by show a + -lo < 0; omega)
    exact ⟨U, List.mem_append_left _ g1, g2⟩
  · by_cases c2 : a < lo + (n : Int)
    · obtain ⟨U, g1, g2⟩ := b_spl_ok hW hx (ms := 0) (fun h => absurd rfl h) n (by omega) c2
      exact ⟨U, List.mem_append_right _ (List.mem_append_left _ g1), g2⟩
    · obtain ⟨U, g1, g2⟩ := b_learn_ok hW (k := 3) (hx.adc (-(lo + (n : Int)))) (by show 0 ≤ a + -(lo + (n : Int)); omega)
      exact ⟨U, List.mem_append_right _ (List.mem_append_right _ g1), g2⟩
theorem x_thr_ok (hW : b_gW W ρ) (hM : b_gM (x_G N) fz W.1.1 ρ σ M) (hf : b_gf W.1.1 ρ lv st cl cs) {A : b_Ac} {L : List (b_NF × b_M)} (h : x_thr W M st A = some L) : x_Res N fz W ρ σ L := by
  unfold x_thr at h
  split at h
  · rename_i v hv
    obtain ⟨w, -, g2⟩ := hf.2.1.get hv
    unfold x_thrV at h
    split at h
    · rename_i a b h1 h2
      cases e : Nat.beq v.1 0 && !(decide (a = b) || (decide (b < A.2.2.1) || decide (A.2.2.1 + (x_cnt A.2.2.2 : Int) ≤ a))) with
      | true =>
        rw [e] at h
        cases h
        obtain ⟨U, k1, k2, k3⟩ := x_thrL_ok (lo := A.2.2.1) (n := x_cnt A.2.2.2) hW (show b_gx W.1.1 ρ v.2 (b_ev ρ v.2) from ⟨rfl, b_gv_u g2⟩)
        exact ⟨(U, M), List.mem_map.mpr ⟨U, k1, rfl⟩, ρ, b_same k2 k3, hM.up (b_same k2 k3)⟩
      | false => rw [e] at h; cases h
    · cases h
  · cases h
theorem x_spl_ok (hW : b_gW W ρ) (hH : b_gH T σ) (hM : b_gM (x_G N) fz W.1.1 ρ σ M) (hf : b_gf W.1.1 ρ lv st cl cs) {A : b_Ac} {L : List (b_NF × b_M)} (h : x_spl T W M lv A = some L) : x_Res N fz W ρ σ L := by
  unfold x_spl at h
  split at h
  · rename_i x hx
    have hu := x_lo_ok hf hx
    cases e : Nat.blt A.2.1 139 with
    | true =>
      rw [e] at h
      simp only [cond_true] at h
      split at h
      · rename_i U hU
        obtain ⟨U1, U2, U3⟩ := U
        obtain ⟨ρ', i, w, g1, g2, g3, g4, g5⟩ := b_get_ok hW hH hM (Nat.blt_eq.mp e) ⟨rfl, hu⟩ hU
        obtain ⟨q, q1, ρ2, q2, q3⟩ := b_spM_ok g1.2.2 g2 g5 h
        exact ⟨q, q1, ρ2, g1.tr q2, q3⟩
      · cases h
    | false => rw [e] at h; cases h
  · cases h
theorem x_pt_u {n : Nat} {v : b_V} {x : b_L} (h : x_pt W v = some x) : b_u n x := by
  unfold x_pt at h
  split at h
  · rename_i a b _ _
    cases e : decide (a = b) with
    | true =>
      rw [e] at h
      cases h
      exact (b_gx.con (ρ := fun _ => 0) a).2
    | false => rw [e] at h; cases h
  · cases h
theorem x_cmp2_ok (hW : b_gW W ρ) (hH : b_gH T σ) (hM : b_gM (x_G N) fz W.1.1 ρ σ M) {c : Nat} {x y : b_L} (hc : c < 139) (hux : b_u W.1.1 x) (huy : b_u W.1.1 y) {L : List (b_NF × b_M)} (h : x_cmp2 T W M c x y = some L) : x_Res N fz W ρ σ L := by
  unfold x_cmp2 at h
  split at h
  · rename_i U hU
    obtain ⟨U1, U2, U3⟩ := U
    obtain ⟨ρ', i, w, g1, g2, g3, g4, g5⟩ := b_get_ok hW hH hM hc ⟨rfl, hux⟩ hU
    split at h
    · rename_i V hV
      obtain ⟨V1, V2, V3⟩ := V
      have hy1 := (show b_gx W.1.1 ρ y (b_ev ρ y) from ⟨rfl, huy⟩).up g1
      obtain ⟨ρ2, j, w2, k1, k2, k3, k4, k5⟩ := b_get_ok g1.2.2 hH g2 hc hy1 hV
      dsimp only at h
      cases e2 : (Nat.beq U3.1 0 && Nat.beq V3.1 0) && !(b_le V1 (b_add U3.2 (-1) V3.2) (-1) || (b_ge V1 (b_add U3.2 (-1) V3.2) 1 || (b_le V1 (b_add U3.2 (-1) V3.2) 0 && b_ge V1 (b_add U3.2 (-1) V3.2) 0))) with
      | true =>
        rw [e2] at h
        cases h
        have q1 : b_gx V1.1.1 ρ2 U3.2 (b_ev ρ2 U3.2) := ⟨rfl, b_gv_u (g5.up k1)⟩
        have q2 : b_gx V1.1.1 ρ2 V3.2 (b_ev ρ2 V3.2) := ⟨rfl, b_gv_u k5⟩
        have q3 := q1.add (-1) q2
        obtain ⟨Z, r1, r2, r3⟩ : ∃ Z ∈ b_learn V1 2 (b_add U3.2 (-1) V3.2) ++ (b_learn V1 0 (b_add U3.2 (-1) V3.2) ++ b_learn V1 4 (b_add U3.2 (-1) V3.2)), b_gW Z ρ2 ∧ Z.1.1 = V1.1.1 := by
          by_cases c1 : b_ev ρ2 U3.2 + -1 * b_ev ρ2 V3.2 < 0
          · obtain ⟨Z, r1, r2⟩ := b_learn_ok k1.2.2 (k := 2) q3 c1
            exact ⟨Z, List.mem_append_left _ r1, r2⟩
          · by_cases c2 : b_ev ρ2 U3.2 + -1 * b_ev ρ2 V3.2 = 0
            · obtain ⟨Z, r1, r2⟩ := b_learn_ok k1.2.2 (k := 0) q3 c2
              exact ⟨Z, List.mem_append_right _ (List.mem_append_left _ r1), r2⟩
            · obtain ⟨Z, r1, r2⟩ := b_learn_ok k1.2.2 (k := 4) q3 (show 0 < b_ev ρ2 U3.2 + -1 * b_ev ρ2 V3.2 by omega)
              exact ⟨Z, List.mem_append_right _ (List.mem_append_right _ r1), r2⟩
        have hex := (g1.tr k1).tr (b_same r2 r3)
        exact ⟨(Z, V2), List.mem_map.mpr ⟨Z, r1, rfl⟩, ρ2, hex, k2.up (b_same r2 r3)⟩
      | false => rw [e2] at h; cases h
    · cases h
  · cases h
theorem x_cmp_ok (hW : b_gW W ρ) (hH : b_gH T σ) (hM : b_gM (x_G N) fz W.1.1 ρ σ M) {A : b_Ac} {L : List (b_NF × b_M)} (h : x_cmp T W M st A = some L) : x_Res N fz W ρ σ L := by
  unfold x_cmp at h
  split at h
  · split at h
    · rename_i x y hx hy
      cases e : Nat.blt A.2.1 139 with
      | true =>
        rw [e] at h
        exact x_cmp2_ok hW hH hM (Nat.blt_eq.mp e) (x_pt_u hx) (x_pt_u hy) h
      | false => rw [e] at h; cases h
    · cases h
  · cases h
theorem x_acts_ok (hW : b_gW W ρ) (hH : b_gH T σ) (hM : b_gM (x_G N) fz W.1.1 ρ σ M) (hf : b_gf W.1.1 ρ lv st cl cs) : ∀ {l : List b_Ac} {L : List (b_NF × b_M)}, x_acts T W M lv st l = some L → x_Res N fz W ρ σ L
  | [], _, h => by cases h
  | A :: r, L, h => by
    unfold x_acts at h
    split at h
    · rename_i K hK
      cases h
      cases e : Nat.ble A.1 4 with
      | true => rw [e] at hK; exact b_act_ok hW hH hM hf hK
      | false =>
        rw [e] at hK
        cases e2 : Nat.beq A.1 12 with
        | true => rw [e2] at hK; exact x_thr_ok hW hM hf hK
        | false =>
          rw [e2] at hK
          cases e3 : Nat.beq A.1 14 with
          | true => rw [e3] at hK; exact x_spl_ok hW hH hM hf hK
          | false =>
            rw [e3] at hK
            cases e4 : Nat.beq A.1 15 with
            | true => rw [e4] at hK; exact x_cmp_ok hW hH hM hK
            | false => rw [e4] at hK; exact x_gact_ok hW hM hf hK
    · exact x_acts_ok hW hH hM hf h
theorem x_hn_ok {tab : Nat → Nat → List b_Ac} : b_HnOk T (x_G N) fz (fun mid pc W M lv st => x_acts T W M lv st (tab mid pc)) := by
  intro mid pc W M lv st L ρ σ cl cs h hW hH hM hf
  exact x_acts_ok hW hH hM hf h
end X79h

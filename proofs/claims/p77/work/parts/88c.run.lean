/-! THE RUN of the law in the small machine -/
def x_Zl : List (List Int32) := [x_z_1, x_z_2, x_z_3, x_z_4, x_z_5, x_z_6, x_z_7, x_z_8, x_z_9, x_z_10, x_z_11, x_z_12, x_z_13]
theorem x_bz {j k : Nat} {z zs : List Int32} {o : Option (List Int32)} (h : (bif Nat.beq j k then some z else o) = some zs) : (j = k ∧ z = zs) ∨ o = some zs := by
  cases e : Nat.beq j k with
  | true =>
    rw [e] at h
    cases h
    exact Or.inl ⟨Nat.eq_of_beq_eq_true e, rfl⟩
  | false =>
    rw [e] at h
    exact Or.inr h
theorem x_zOk (ys : List Int32) (h : ys.length < 2147483648) : b_ZOk x_Z (x_G (ys.length : Int)) (ys :: x_Zl) := by
  refine ⟨⟨ys, rfl, h, fun σ a => rfl⟩, fun j zs h1 _ => ?_⟩
  unfold x_Z at h1
  iterate 13
    rcases x_bz h1 with ⟨rfl, rfl⟩ | h1
    · rfl
  cases h1
def x_Fin (r : Option Value) (σ : m_S) : Prop := r = some (.int 1) ∧ σ.length ≤ 3000
def x_pat0 (σ : m_S) (e : Nat × Int × Int) : Prop := e.1 < 139 ∧ 0 ≤ e.2.1 ∧ ∃ z : Int32, b_rd σ e.1 e.2.1.toNat = some (.int z) ∧ z.toInt = e.2.2
theorem x_loop {ys : List Int32} (hy : ys.length ≤ 3072) {σ : m_S} {z : Int32} (hz : z.toInt = 0) (hH : b_gH x_T σ) (h0 : ∀ e ∈ y_m0, x_pat0 σ e) : b_win x_F (ys :: x_Zl) x_Fin [(1000, 18, [(3, .int z), (2, .ref 113), (1, .ref 0), (0, .ref 1000000)], [])] σ := by
  have hZ := x_zOk ys (by omega)
  have hc := b_cuts (Fin := x_Fin) (gs := []) (σ := σ) (ρ := fun s => if s = 0 then (ys.length : Int) else 0) (x_gOk _) x_depOk hZ (x_hn_ok (tab := x_ht)) (y_Gv hZ) y_z y_cs (Nat.le_of_ble_eq_true rfl) (fun r σ' h => by
    obtain ⟨po, hp, ρ', g1, g2, g3, g4, g5, g6⟩ := h
    have hp : po ∈ [([(0, 3072, 0)], [], [], [(0, (1, []))], [])] := hp
    rcases List.mem_singleton.mp hp with rfl
    have g4 : a_all2 (b_gv 1 ρ') [(0, (1, []))] r.toList := g4
    obtain ⟨w, t, e, q1, q2⟩ := b_cons g4
    show x_Fin r σ'
    cases r with
    | none => cases e
    | some v =>
      have e : [v] = w :: t := e
      cases e
      refine ⟨?_, by rw [g3.1]; decide⟩
      unfold b_gv at q1
      cases w with
      | int x =>
        have q1 : b_gx 1 ρ' (1, []) x.toInt := q1
        have q3 : (1 : Int) = x.toInt := q1.1
        have : x = 1 := Int32.toInt_inj.mp (by rw [← q3]; rfl)
        rw [this]
      | _ => exact q1.elim)
  have hc0 := hc (ys.length + 1) (y_mk y_m0) y_c0
  refine hc0 (fun s => if s = 0 then (ys.length : Int) else 0) σ [(3, .int z), (2, .ref 113), (1, .ref 0), (0, .ref 1000000)] [] (fun _ _ => rfl) ?_ hH ?_ b_frame.rf ?_ ?_
  · refine ⟨⟨⟨rfl, fun s q hq => ?_⟩, fun f hf => ?_⟩, fun q hq => ?_⟩
    · have hlt := b_at_lt hq
      have hlt : s < 2 := hlt
      match s, hlt with
      | 0, _ => cases hq; exact ⟨by show (0 : Int) ≤ (ys.length : Int); omega, by show (ys.length : Int) ≤ 3072; omega, b_mk0 _⟩
      | 1, _ => cases hq; exact ⟨by show (0 : Int) ≤ 0; omega, by show (0 : Int) ≤ 3072; omega, b_mk0 _⟩
    · rcases List.mem_singleton.mp hf with rfl
      refine ⟨?_, fun q hq => ?_⟩
      · show 0 + ((-1) * (ys.length : Int) + (1 * 0 + 0)) ≤ 0
        omega
      · have hq : q ∈ [(0, (-1 : Int)), (1, 1)] := hq
        rcases List.mem_cons.mp hq with rfl | hq
        · show 0 < 2; omega
        · rcases List.mem_singleton.mp hq with rfl
          show 1 < 2; omega
    · have hq : q ∈ (500, (0, []), (0, (0, [(0, 1)]))) :: y_m0.map (fun e => (e.1, (e.2.1, []), (0, (e.2.2, [])))) := hq
      rcases List.mem_cons.mp hq with rfl | hq
      · refine ⟨0, ⟨rfl, fun q h => absurd h List.not_mem_nil⟩, ?_⟩
        dsimp only
        rw [if_neg (by decide), if_pos (by decide)]
        refine ⟨rfl, ?_, fun q hq => ?_⟩
        · show 0 + (1 * (ys.length : Int) + 0) = (ys.length : Int)
          omega
        · have hq : q ∈ [(0, (1 : Int))] := hq
          rcases List.mem_singleton.mp hq with rfl
          show 0 < 2; omega
      · obtain ⟨e, he, rfl⟩ := List.mem_map.mp hq
        obtain ⟨k1, k2, zz, k3, k4⟩ := h0 e he
        refine ⟨e.2.1, ⟨by simp [b_ev, b_evs], fun q h => absurd h List.not_mem_nil⟩, ?_⟩
        dsimp only
        rw [if_pos k1]
        refine ⟨e.2.1.toNat, by omega, .int zz, k3, ?_⟩
        show b_gx _ _ (e.2.2, []) zz.toInt
        exact ⟨by simp [b_ev, b_evs, k4], fun q h => absurd h List.not_mem_nil⟩
  · refine ⟨fun i v hv => ?_, trivial, rfl, rfl⟩
    have hv : b_ld [(0, (2, (1000000, []))), (1, (2, (0, []))), (2, (2, (113, []))), (3, (0, (0, [(1, 1)])))] i = some v := hv
    match i, hv with
    | 0, hv => cases hv; exact ⟨_, rfl, rfl⟩
    | 1, hv => cases hv; exact ⟨_, rfl, rfl⟩
    | 2, hv => cases hv; exact ⟨_, rfl, rfl⟩
    | 3, hv =>
      cases hv
      refine ⟨.int z, rfl, ?_, fun q hq => ?_⟩
      · show (0 : Int) + (1 * 0 + 0) = z.toInt
        rw [hz]
        rfl
      · have hq : q ∈ [(1, (1 : Int))] := hq
        rcases List.mem_singleton.mp hq with rfl
        show 1 < 2; omega
    | _ + 4, hv => cases hv
  · show (0 : Int) ≤ 0 + (1 * (ys.length : Int) + ((-1) * 0 + 0))
    omega
  · show (0 + (1 * (ys.length : Int) + ((-1) * 0 + 0))).toNat < ys.length + 1
    omega
/-- a place's number, as the constructors leave it -/
def x_pe0 (x : a_E) (i : Nat) (v : Int) : Bool := match x with
  | .inr (_, fs) => decide (fs[i]? = some (0, v, v))
  | .inl (t, n, .inl u) => Nat.blt t 3 && (Nat.blt i n && decide (u = (0, v, v)))
  | .inl (_, _, .inr vs) => decide (vs[i]? = some (0, v, v))
theorem x_pg0 {ρ : Nat → Int} {v : Int} {w : Value} (h : a_gv ρ (0, v, v) w) : ∃ z : Int32, w = .int z ∧ z.toInt = v := by
  cases w with
  | int z =>
    have h : v ≤ z.toInt ∧ z.toInt ≤ v := h
    exact ⟨z, rfl, by omega⟩
  | _ => exact h.elim
theorem x_pe0_ok {ρ : Nat → Int} {σ : m_S} {k i : Nat} {v : Int} {x : a_E} {z : m_E} (hz : σ[k]? = some z) (hg : a_ge ρ x z) (h : x_pe0 x i v = true) : ∃ y : Int32, b_rd σ k i = some (.int y) ∧ y.toInt = v := by
  unfold x_pe0 at h
  unfold b_rd
  rw [hz]
  split at h
  · rename_i ci fs
    have h := of_decide_eq_true h
    rcases z with ⟨t', xs | xs | xs⟩ | ⟨ci', gs⟩
    · exact hg.elim
    · exact hg.elim
    · exact hg.elim
    · obtain ⟨w, g1, g2⟩ := hg.2.get h
      obtain ⟨y, rfl, g3⟩ := x_pg0 g2
      exact ⟨y, g1, g3⟩
  · rename_i t n u
    simp only [Bool.and_eq_true, decide_eq_true_eq] at h
    obtain ⟨h1, h2, h3⟩ := h
    have h1 : t < 3 := Nat.blt_eq.mp h1
    have h2 : i < n := Nat.blt_eq.mp h2
    rcases z with ⟨t', xs | xs | xs⟩ | ⟨ci', gs⟩
    · obtain ⟨rfl, g1, g2, g3⟩ := hg
      have hl : i < xs.length := by omega
      have g4 := g3 _ (List.getElem_mem hl)
      rw [h3] at g4
      obtain ⟨y, g5, g6⟩ := x_pg0 g4
      cases g5
      exact ⟨xs[i], by simp [List.getElem?_eq_getElem hl], g6⟩
    · obtain ⟨rfl, g1, g2, g3⟩ := hg
      omega
    · exact hg.elim
    · exact hg.elim
  · rename_i t n vs
    have h := of_decide_eq_true h
    rcases z with ⟨t', xs | xs | xs⟩ | ⟨ci', gs⟩
    · obtain ⟨w, g1, g2⟩ := hg.2.2.2.get h
      obtain ⟨y, rfl, g3⟩ := x_pg0 g2
      rw [List.getElem?_map] at g1
      exact ⟨y, g1, g3⟩
    · obtain ⟨w, g1, g2⟩ := hg.2.2.2.get h
      obtain ⟨y, rfl, g3⟩ := x_pg0 g2
      rw [List.getElem?_map] at g1
      exact ⟨y, g1, g3⟩
    · obtain ⟨w, g1, g2⟩ := hg.2.2.2.get h
      obtain ⟨y, rfl, g3⟩ := x_pg0 g2
      rw [List.getElem?_map] at g1
      exact ⟨y, g1, g3⟩
    · exact hg.elim
def t_Z : a_Z := (0, 3072, []) :: x_Zl.map (fun zs => (zs.length, zs.length, zs.map fun a => (0, a.toInt, a.toInt)))
def t_lv : a_L := [(3, (0, 0, 0)), (2, (2, 113, 0)), (1, (2, 0, 0)), (0, (2, 1000000, 0))]
def t_S : a_Q := ([], [(1000, 0, [(0, (2, 1000000, 0))], [])], (0, []))
def t_G (Q : a_Q) : Bool := match Q.2.1 with
  | [(m, pc, lv, [])] => Nat.beq m 1000 && (Nat.beq pc 18 && (decide (lv = t_lv) && (Nat.beq Q.2.2.1 139 && ((List.range 139).all (fun k => match a_at [] Q.2.2 k, x_T k with
    | some x, some c => x_w2 c x
    | _, _ => false) && y_m0.all (fun e => Nat.blt e.1 139 && (decide (0 ≤ e.2.1) && (match a_at [] Q.2.2 e.1 with
    | some x => x_pe0 x e.2.1.toNat e.2.2
    | none => false)))))))
  | _ => false
theorem t_zeq {ρ : Nat → Int} {zs z : List Int32} (h : a_gz ρ (zs.length, zs.length, zs.map fun a => (0, a.toInt, a.toInt)) z) : z = zs := by
  obtain ⟨h1, h2, h3⟩ := h
  dsimp only at h1 h2
  apply List.ext_getElem?
  intro i
  by_cases hi : i < zs.length
  · obtain ⟨a, g1, g2⟩ := h3 i (0, zs[i].toInt, zs[i].toInt) hi (by simp [List.getElem?_map, List.getElem?_eq_getElem hi])
    have g2 : zs[i].toInt ≤ a.toInt ∧ a.toInt ≤ zs[i].toInt := g2
    rw [g1, List.getElem?_eq_getElem hi, Int32.toInt_inj.mp (show a.toInt = zs[i].toInt by omega)]
  · rw [List.getElem?_eq_none (by omega), List.getElem?_eq_none (by omega)]
theorem t_zall {ρ : Nat → Int} : ∀ {l fz : List (List Int32)}, a_all2 (a_gz ρ) (l.map (fun zs => (zs.length, zs.length, zs.map fun a => (0, a.toInt, a.toInt)))) fz → fz = l
  | [], [], _ => rfl
  | [], _ :: _, h => h.elim
  | _ :: _, [], h => h.elim
  | zs :: l, z :: fz, h => by rw [t_zeq h.1, t_zall h.2]
theorem t_G_ok (Q : a_Q) (h : t_G Q = true) : a_Good x_F t_Z [] a_P1ok Q := by
  obtain ⟨N, fs0, S⟩ := Q
  unfold t_G at h
  dsimp only at h
  split at h
  · rename_i m pc lv
    simp only [Bool.and_eq_true, decide_eq_true_eq] at h
    obtain ⟨h1, h2, h3, h4, h5, h50⟩ := h
    have e1 := Nat.eq_of_beq_eq_true h1
    have e2 := Nat.eq_of_beq_eq_true h2
    have e4 := Nat.eq_of_beq_eq_true h4
    subst e1
    subst e2
    subst h3
    intro ρ fz fs σ hz hQ
    obtain ⟨-, hf, hS⟩ := hQ
    dsimp only at hf hS
    obtain ⟨f, t, rfl, g1, g2⟩ := b_unc hf
    obtain rfl : t = [] := by
      cases t with
      | nil => rfl
      | cons => exact g2.elim
    obtain ⟨m2, p2, cl, cs⟩ := f
    obtain ⟨q1, q2, q3, q4⟩ := g1
    dsimp only at q1 q2 q3 q4
    subst q1
    subst q2
    obtain rfl : cs = [] := by
      cases cs with
      | nil => rfl
      | cons => exact q4.elim
    have q3 : a_all2 (a_gl ρ) [(3, (0, 0, 0)), (2, (2, 113, 0)), (1, (2, 0, 0)), (0, (2, 1000000, 0))] cl := q3
    obtain ⟨l3, t3, rfl, r3, q3⟩ := b_unc q3
    obtain ⟨l2, t2, rfl, r2, q3⟩ := b_unc q3
    obtain ⟨l1, t1, rfl, r1, q3⟩ := b_unc q3
    obtain ⟨l0, t0, rfl, r0, q3⟩ := b_unc q3
    obtain rfl : t0 = [] := by
      cases t0 with
      | nil => rfl
      | cons => exact q3.elim
    have rf : ∀ {i : Nat} {n : Int} {l : Nat × Value}, a_gl ρ (i, (2, n, 0)) l → ∃ j : Nat, n = (j : Int) ∧ l = (i, .ref j) := by
      intro i n l hl
      obtain ⟨a, w⟩ := l
      obtain ⟨u1, u2⟩ := hl
      dsimp only at u1 u2
      subst u1
      cases w with
      | ref j => exact ⟨j, u2, rfl⟩
      | _ => exact u2.elim
    obtain ⟨j2, u2, rfl⟩ := rf r2
    obtain ⟨j1, u1, rfl⟩ := rf r1
    obtain ⟨j0, u0, rfl⟩ := rf r0
    obtain rfl : j2 = 113 := by omega
    obtain rfl : j1 = 0 := by omega
    obtain rfl : j0 = 1000000 := by omega
    obtain ⟨a3, w3⟩ := l3
    obtain ⟨v1, v2⟩ := r3
    dsimp only at v1 v2
    subst v1
    have hz : a_all2 (a_gz ρ) ((0, 3072, []) :: x_Zl.map (fun zs => (zs.length, zs.length, zs.map fun a => (0, a.toInt, a.toInt)))) fz := hz
    cases fz with
    | nil => exact hz.elim
    | cons ys fz' =>
      have hz1 : a_gz ρ (0, 3072, []) ys := hz.1
      have hz2 := t_zall (l := x_Zl) hz.2
      subst hz2
      have hH : b_gH x_T σ := by
        refine ⟨hS.1.trans e4, fun k hk => ?_⟩
        have h6 := List.all_eq_true.mp h5 k (List.mem_range.mpr hk)
        split at h6
        · rename_i x c w1 w2
          obtain ⟨zz, w4, w5⟩ := hS.2 k x w1
          exact ⟨c, w2, x_w2_ok w4 w5 h6⟩
        · cases h6
      cases w3 with
      | int z =>
        have v2 : (0 : Int) ≤ z.toInt ∧ z.toInt ≤ 0 := v2
        refine x_loop hz1.2.1 (by omega) hH (fun e he => ?_)
        have h7 := List.all_eq_true.mp h50 e he
        simp only [Bool.and_eq_true, decide_eq_true_eq] at h7
        obtain ⟨p1, p2, p3⟩ := h7
        refine ⟨Nat.blt_eq.mp p1, p2, ?_⟩
        split at p3
        · rename_i x w1
          obtain ⟨zz, w4, w5⟩ := hS.2 e.1 x w1
          exact x_pe0_ok w4 w5 p3
        · cases p3
      | _ => exact v2.elim
  · cases h
set_option maxRecDepth 1000000 in
theorem t_e : a_ok x_F t_Z [] t_G a_one 3000 t_S = true := by decide +kernel
theorem t_run (ys : List Int32) (h : ys.length ≤ 3072) : ∃ k σ', m_exec x_F (ys :: x_Zl) k 60 1000 0 [(0, .ref m_fzb)] [] [] = some (some (.int 1), σ') ∧ σ'.length ≤ 3000 := by
  have hall : ∀ l : List (List Int32), a_all2 (a_gz fun _ => 0) (l.map (fun zs => (zs.length, zs.length, zs.map fun a => (0, a.toInt, a.toInt)))) l := by
    intro l
    induction l with
    | nil => trivial
    | cons zs l ih =>
      refine ⟨⟨Nat.le_refl _, Nat.le_refl _, fun i v hi hv => ?_⟩, ih⟩
      dsimp only at hi hv
      refine ⟨zs[i], List.getElem?_eq_getElem hi, ?_⟩
      rw [List.getElem?_map, List.getElem?_eq_getElem hi] at hv
      cases hv
      exact ⟨Int.le_refl _, Int.le_refl _⟩
  obtain ⟨n, o, h1, h2, h3⟩ := a_ok_good t_G_ok a_one_ok _ _ t_e (fun _ => 0) (ys :: x_Zl) [(1000, 0, [(0, .ref m_fzb)], [])] [] ⟨⟨Nat.zero_le _, h, fun i v hi _ => absurd hi (Nat.not_lt_zero _)⟩, hall x_Zl⟩ ⟨fun i q hq => (by cases hq), ⟨⟨rfl, rfl, ⟨⟨rfl, rfl⟩, trivial⟩, trivial⟩, trivial⟩, ⟨rfl, fun k x hk => (by cases hk)⟩⟩
  obtain ⟨k, r, σ1, h4, h5⟩ := m_go_exec n n (Nat.le_refl _) 1000 0 [(0, .ref m_fzb)] [] [] [] o h1 (by decide)
  dsimp only at h5
  subst h5
  dsimp only at h2 h3
  subst h2
  exact ⟨k, σ1, h4, h3⟩

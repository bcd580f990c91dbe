/-! THE SMALL MACHINE BESIDE THE REAL ONE -/
def m_tv (ad : Nat → Nat) (v : Value) : Value := match v with
  | .ref k => .ref (ad k)
  | w => w
def m_te (cA : Nat → ClassId) (ad : Nat → Nat) (x : m_E) : va_E := match x with
  | .inl (t, .inl xs) => .inl (cA t, xs.length, .inl (fun j => xs.getD j 0))
  | .inl (t, .inr (.inl xs)) => .inl (cA t, xs.length, .inr (.inl (fun j => xs.getD j 0)))
  | .inl (t, .inr (.inr xs)) => .inl (cA t, xs.length, .inr (.inr (.inr (.inr (fun j => (xs.getD j none).map ad)))))
  | .inr (ci, fs) => .inr (ci, fs.map (m_tv ad))
def m_w (cA : Nat → ClassId) (ad : Nat → Nat) (σ : m_S) : va_W := σ.mapIdx (fun k x => (ad k, m_te cA ad x))
def m_tl (ad : Nat → Nat) (lv : m_V) : List (Nat × Value) := lv.map (fun q => (q.1, m_tv ad q.2))
def m_ext (ad ad' : Nat → Nat) (n : Nat) : Prop := (∀ k, k < n → ad' k = ad k) ∧ ∀ k, m_fzb ≤ k → ad' k = ad k
def m_es (x : m_E) : Nat := match x with
  | .inl (_, .inl xs) => xs.length
  | .inl (_, .inr (.inl xs)) => xs.length
  | .inl (_, .inr (.inr xs)) => xs.length
  | .inr (_, fs) => fs.length
def m_sz (σ : m_S) : Nat := (σ.map m_es).sum
def m_ty (t : Nat) : FieldType := match t with
  | 0 => .int
  | 1 => .byte
  | 2 => .boolean
  | 3 => .long
  | _ => .object "MotherBench$Circuit"
def m_tys (cA : Nat → ClassId) : List (ClassId × FieldType) := (List.range 5).map (fun t => (cA t, m_ty t))
def m_isN (w : Cond) : Bool := match w with
  | .methodLinkNest _ _ _ _ => true
  | _ => false
def m_nw : List Cond := tables_1.filter m_isN
def m_Nst (U : State) : Prop := (∀ w ∈ m_nw, va_Nw w U) ∧ va_AO "MotherBench$Circuit" U
theorem m_w_at {cA : Nat → ClassId} {ad : Nat → Nat} {σ : m_S} {k : Nat} {x : m_E} (h : σ[k]? = some x) : (m_w cA ad σ)[k]? = some (ad k, m_te cA ad x) := by
  simp [m_w, h]
theorem m_w_inv {cA : Nat → ClassId} {ad : Nat → Nat} {σ : m_S} {k : Nat} {q : Nat × va_E} (h : (m_w cA ad σ)[k]? = some q) : ∃ x, σ[k]? = some x ∧ q = (ad k, m_te cA ad x) := by
  simp only [m_w, List.getElem?_mapIdx, Option.map_eq_some_iff] at h
  obtain ⟨x, h1, h2⟩ := h
  exact ⟨x, h1, h2.symm⟩
theorem m_w_len (cA : Nat → ClassId) (ad : Nat → Nat) (σ : m_S) : (m_w cA ad σ).length = σ.length := by simp [m_w]
theorem m_w_set {cA : Nat → ClassId} {ad : Nat → Nat} {σ : m_S} {k : Nat} {x : m_E} : (m_w cA ad σ).set k (ad k, m_te cA ad x) = m_w cA ad (σ.set k x) := by
  apply List.ext_getElem?
  intro i
  simp only [m_w, List.getElem?_set, List.getElem?_mapIdx, List.length_mapIdx]
  by_cases h : k = i
  · subst h
    by_cases h2 : k < σ.length <;> simp [h2]
  · simp [h]
theorem m_tv_cat (ad : Nat → Nat) (v : Value) : (m_tv ad v).category = v.category := by cases v <;> rfl
theorem m_tv_eq {ad ad' : Nat → Nat} {n : Nat} (h : m_ext ad ad' n) {v : Value} (hv : m_okv n v = true) : m_tv ad' v = m_tv ad v := by
  cases v with
  | ref k =>
    simp only [m_okv, Bool.or_eq_true, decide_eq_true_eq] at hv
    show Value.ref _ = Value.ref _
    rcases hv with h1 | h1
    · rw [h.1 k h1]
    · rw [h.2 k h1]
  | _ => rfl
theorem m_te_eq {cA : Nat → ClassId} {ad ad' : Nat → Nat} {n : Nat} (h : m_ext ad ad' n) {x : m_E} (hv : m_oke n x = true) : m_te cA ad' x = m_te cA ad x := by
  rcases x with ⟨t, xs | xs | xs⟩ | ⟨ci, fs⟩
  · rfl
  · rfl
  · show Sum.inl _ = Sum.inl _
    congr 7
    funext j
    simp only [m_oke, List.all_eq_true] at hv
    cases hj : xs[j]? with
    | none => simp [List.getD, hj]
    | some r =>
      have h1 := hv r (List.mem_of_getElem? hj)
      simp only [List.getD, hj, Option.getD_some]
      cases r with
      | none => rfl
      | some k =>
        simp only [Bool.or_eq_true, decide_eq_true_eq] at h1
        rcases h1 with h2 | h2
        · simp [h.1 k h2]
        · simp [h.2 k h2]
  · simp only [m_oke, List.all_eq_true] at hv
    show Sum.inr _ = Sum.inr _
    congr 2
    exact List.map_congr_left (fun v h1 => m_tv_eq h (hv v h1))
theorem m_tl_eq {ad ad' : Nat → Nat} {n : Nat} (h : m_ext ad ad' n) {lv : m_V} (hv : m_okl n lv = true) : m_tl ad' lv = m_tl ad lv := by
  simp only [m_okl, List.all_eq_true] at hv
  exact List.map_congr_left (fun q h1 => by rw [m_tv_eq h (hv q h1)])
theorem m_ts_eq {ad ad' : Nat → Nat} {n : Nat} (h : m_ext ad ad' n) {st : List Value} (hv : st.all (m_okv n) = true) : st.map (m_tv ad') = st.map (m_tv ad) := by
  simp only [List.all_eq_true] at hv
  exact List.map_congr_left (fun q h1 => m_tv_eq h (hv q h1))
theorem m_w_eq {cA : Nat → ClassId} {ad ad' : Nat → Nat} {σ : m_S} (h : m_ext ad ad' σ.length) (hv : σ.all (m_oke σ.length) = true) : m_w cA ad' σ = m_w cA ad σ := by
  simp only [List.all_eq_true] at hv
  apply List.ext_getElem?
  intro i
  simp only [m_w, List.getElem?_mapIdx]
  cases hi : σ[i]? with
  | none => rfl
  | some x =>
    have hl : i < σ.length := (List.getElem?_eq_some_iff.mp hi).1
    simp [h.1 i hl, m_te_eq h (hv x (List.mem_of_getElem? hi))]
theorem m_ext.rf {ad : Nat → Nat} {n : Nat} : m_ext ad ad n := ⟨fun _ _ => rfl, fun _ _ => rfl⟩
theorem m_ext.tr {a b c : Nat → Nat} {n k : Nat} (h : m_ext a b n) (h2 : m_ext b c k) (hn : n ≤ k) : m_ext a c n := ⟨fun i hi => (h2.1 i (Nat.lt_of_lt_of_le hi hn)).trans (h.1 i hi), fun i hi => (h2.2 i hi).trans (h.2 i hi)⟩
theorem m_ext.up (ad : Nat → Nat) (n q : Nat) (hn : n < m_fzb) : m_ext ad (va_up ad n q) n := ⟨fun i hi => by simp only [va_up]; rw [if_neg (by omega)], fun i hi => by simp only [va_up]; rw [if_neg (by omega)]⟩
theorem m_w_app {cA : Nat → ClassId} {ad : Nat → Nat} {σ : m_S} {q : Nat} {x : m_E} (hn : σ.length < m_fzb) (hv : σ.all (m_oke σ.length) = true) (hx : m_te cA (va_up ad σ.length q) x = m_te cA ad x) : m_w cA (va_up ad σ.length q) (σ ++ [x]) = m_w cA ad σ ++ [(q, m_te cA ad x)] := by
  have h1 : m_w cA (va_up ad σ.length q) (σ ++ [x]) = m_w cA (va_up ad σ.length q) σ ++ [(q, m_te cA (va_up ad σ.length q) x)] := by
    simp only [m_w, List.mapIdx_append, List.mapIdx_cons, List.mapIdx_nil, Nat.zero_add]
    congr 3
    simp [va_up]
  rw [h1, m_w_eq (m_ext.up ad σ.length q hn) hv, hx]
theorem m_sz_set {σ : m_S} {k : Nat} {x y : m_E} (h : σ[k]? = some y) (he : m_es x = m_es y) : m_sz (σ.set k x) = m_sz σ := by
  have h1 : (σ.set k x).map m_es = σ.map m_es := by
    apply List.ext_getElem?
    intro i
    simp only [List.getElem?_map, List.getElem?_set]
    by_cases hi : k = i
    · subst hi
      have hl : k < σ.length := (List.getElem?_eq_some_iff.mp h).1
      rw [if_pos rfl, if_pos hl, h]
      simp [he]
    · simp [hi]
  unfold m_sz
  rw [h1]
theorem m_sz_app (σ : m_S) (x : m_E) : m_sz (σ ++ [x]) = m_sz σ + m_es x := by simp [m_sz]
theorem m_in_vp {i : Int32} {n : Nat} (h : m_in i n = true) : vp_in i n := vp_in_iff.mpr (by simpa [m_in] using h)
theorem m_in_lt {i : Int32} {n : Nat} (h : m_in i n = true) : i.toNatClampNeg < n := by
  have h1 := m_in_vp h
  unfold vp_in at h1
  omega
theorem m_upd {xs : List Int32} {k : Nat} {x : Int32} (hk : k < xs.length) : upd (fun j => xs.getD j 0) k x = fun j => (xs.set k x).getD j 0 := by
  funext j
  simp only [upd, List.getD, List.getElem?_set]
  by_cases h : j = k
  · subst h; simp [hk]
  · rw [if_neg h, if_neg (fun q => h q.symm)]
theorem m_updL {xs : List Int64} {k : Nat} {x : Int64} (hk : k < xs.length) : vp_updL (fun j => xs.getD j 0) k x = fun j => (xs.set k x).getD j 0 := by
  funext j
  simp only [vp_updL, List.getD, List.getElem?_set]
  by_cases h : j = k
  · subst h; simp [hk]
  · rw [if_neg h, if_neg (fun q => h q.symm)]
theorem m_updQ {ad : Nat → Nat} {xs : List (Option Nat)} {k r : Nat} (hk : k < xs.length) : va_up (fun j => (xs.getD j none).map ad) k (some (ad r)) = fun j => ((xs.set k (some r)).getD j none).map ad := by
  funext j
  simp only [va_up, List.getD, List.getElem?_set]
  by_cases h : j = k
  · subst h; simp [hk]
  · rw [if_neg h, if_neg (fun q => h q.symm)]
theorem m_cpy_eq {α : Type} {d : α} {xs ys : List α} {sp dp n : Nat} (h2 : dp + n ≤ ys.length) : va_cpy (fun j => xs.getD j d) (fun j => ys.getD j d) sp dp n = fun j => (m_cpy d xs ys sp dp n).getD j d := by
  funext j
  simp only [m_cpy, List.getD, List.getElem?_map]
  by_cases h : j < ys.length
  · simp [List.getElem?_range h]
  · rw [List.getElem?_eq_none (by simp; omega)]
    simp only [Option.map_none, Option.getD_none]
    rw [pk_cpy_out (Or.inr (by omega)), List.getElem?_eq_none (by omega)]
    rfl
theorem m_cpy_len {α : Type} {d : α} {xs ys : List α} {sp dp n : Nat} : (m_cpy d xs ys sp dp n).length = ys.length := by simp [m_cpy]
theorem m_tl_filter {ad : Nat → Nat} {lv : m_V} {f g : Nat × Value → Bool} (h : ∀ q : Nat × Value, f (q.1, m_tv ad q.2) = g q) : (m_tl ad lv).filter f = m_tl ad (lv.filter g) := by
  induction lv with
  | nil => rfl
  | cons a r ih =>
    simp only [m_tl, List.map_cons, List.filter_cons] at ih ⊢
    rw [h a]
    by_cases hg : g a = true
    · simp only [hg, if_true, List.map_cons]; rw [ih]
    · simp only [hg, if_false]; exact ih
theorem m_st1_tl {ad : Nat → Nat} {lv : m_V} {i : Nat} {v : Value} : (i, m_tv ad v) :: (m_tl ad lv).filter (fun q => !(q.1 == i) && !(q.1 + 1 == i && q.2.category == 2)) = m_tl ad (m_st1 lv i v) := by
  rw [m_tl_filter (g := fun q => !(q.1 == i) && !(q.1 + 1 == i && q.2.category == 2)) (fun q => by simp only [m_tv_cat])]
  rfl
theorem m_st2_tl {ad : Nat → Nat} {lv : m_V} {i : Nat} {v : Value} : (i, m_tv ad v) :: (m_tl ad lv).filter (fun q => !(q.1 == i) && (!(q.1 == i + 1) && !(q.1 + 1 == i && q.2.category == 2))) = m_tl ad (m_st2 lv i v) := by
  rw [m_tl_filter (g := fun q => !(q.1 == i) && (!(q.1 == i + 1) && !(q.1 + 1 == i && q.2.category == 2))) (fun q => by simp only [m_tv_cat])]
  rfl
theorem m_ld_at {ad : Nat → Nat} {lv : m_V} {ls : Array Slot} {nL i : Nat} {w : Value} (hl : lv_has ls nL (m_tl ad lv)) (h : m_ld lv i = some w) : ls[i]? = some (.val (m_tv ad w)) := by
  obtain ⟨q, h1, h2⟩ := Option.map_eq_some_iff.mp h
  have h3 := List.mem_of_find?_eq_some h1
  have h4 := List.find?_some (p := fun q : Nat × Value => q.1 == i) h1
  have h5 := hl.2.2 (q.1, m_tv ad q.2) (List.mem_map.mpr ⟨q, h3, rfl⟩)
  rw [← h2, ← (beq_iff_eq.mp h4)]
  exact h5
theorem m_ld_ix {ad : Nat → Nat} {lv : m_V} {i : Nat} {w : Value} (h : m_ld lv i = some w) : ∃ k : Nat, (m_tl ad lv)[k]? = some (i, m_tv ad w) := by
  obtain ⟨q, h1, h2⟩ := Option.map_eq_some_iff.mp h
  have h3 := List.mem_of_find?_eq_some h1
  have h4 := List.find?_some (p := fun q : Nat × Value => q.1 == i) h1
  obtain ⟨k, hk⟩ := List.getElem?_of_mem h3
  exact ⟨k, by simp [m_tl, hk, ← h2, ← (beq_iff_eq.mp h4)]⟩
theorem m_tys_at (cA : Nat → ClassId) {t : Nat} (h : t < 5) : (m_tys cA)[t]? = some (cA t, m_ty t) := by
  simp [m_tys, List.getElem?_range h]
theorem m_lgsl (vs : List Value) : (lg_sl vs).length = (vs.map fun v => v.category).sum := by
  induction vs with
  | nil => rfl
  | cons a r ih =>
    have h1 : lg_sl (a :: r) = (if a.category = 2 then [.val a, .second] else [.val a]) ++ lg_sl r := rfl
    rw [h1, List.length_append, ih, List.map_cons, List.sum_cons]
    rcases lv_cat a with h | h <;> simp [h]
theorem m_largs (ad : Nat → Nat) (vs : List Value) : ∀ i, lv_args i (vs.map (m_tv ad)) = m_tl ad (lv_args i vs) := by
  induction vs with
  | nil => intro i; rfl
  | cons a r ih =>
    intro i
    simp only [List.map_cons, lv_args, m_tv_cat, ih]
    rfl

def m_WW (p : Program) (l : Launch) (e : Env) (R : Room) (s : State) (m : MethodId) (args : Array Value) (below : List Frame) (meth : Method) (c : Code) (Q : State → Prop) (D : va_G) (cA : Nat → ClassId) (A : Nat → Prop) (ad0 : Nat → Nat) (n0 z0 nL : Nat) (pc : Nat) (lv : m_V) (st : List Value) (σ : m_S) : Prop :=
  ∀ (ad : Nat → Nat) (H : Heap) (locs : List Loc) (ls : Array Slot), m_ext ad0 ad n0 → va_P D vwCl (m_w cA ad σ) H → va_D A (m_w cA ad σ) → va_S A s.heap H locs → lv_has ls nL (m_tl ad lv) → W p l e R s m args below meth c H locs (σ.length - n0) (m_sz σ - z0) Q (F0 m pc ls (st.map (m_tv ad)))
def m_Ft (fz : List (List Int32)) (ad0 : Nat → Nat) (A : Nat → Prop) (U : State) : Prop := fz.drop 1 = x_z_1 :: x_byt ∧ (∃ adV : Nat → Nat, x_Tx A (fun i => ad0 (m_fzb + 2 + i)) adV U U.heap) ∧ (∀ (n k : Nat) (tx : String), x_sx[n]? = some (k, tx) → vk_R "MotherBench$Reader" k tx (ad0 (m_fzb + 2 + n)) U) ∧ va_Z "MotherBench$Trial" "FACTORIALS" "[I" (.ref (ad0 (m_fzb + 1))) A U U.heap ∧ va_T .int (ad0 (m_fzb + 1)) 8 (fun j => .int (x_z_1.getD j 0)) A U U.heap
def m_Fz (fz : List (List Int32)) (ad0 : Nat → Nat) (A : Nat → Prop) (U : State) : Prop := (∀ xs : List Int32, fz[0]? = some xs → va_X (ad0 m_fzb) xs.length (fun i => xs.getD i 0) U U.heap ∧ ad0 m_fzb < U.heap.size ∧ ¬ A (ad0 m_fzb)) ∧ m_Ft fz ad0 A U
def m_Cx (p : Program) (s : State) (m : MethodId) (args : Array Value) (meth : Method) (c : Code) (D : va_G) (cA : Nat → ClassId) (A : Nat → Prop) (ad0 : Nat → Nat) (nL : Nat) (cc : ByteArray) (y : MethodName) (r : Option FieldType) (fz : List (List Int32)) : Prop :=
  p.tables.exec = Jvm.exec ∧ c.code = cc ∧ c.maxLocals = nL ∧ s.vm.findClass y.cls = some m.cls ∧ (∀ w ∈ m_G, w.before args s = true) ∧ meth.sig.returnType = r ∧ meth.locks = false ∧ (y.name = "<init>" → meth.name = "<init>") ∧ va_K D vwCl (m_tys cA) s ∧ (∀ q, s.heap.size ≤ q → A q) ∧ m_Fz fz ad0 A s ∧ m_Nst s
section M5
variable {p : Program} {l : Launch} {e : Env} {R : Room} {s : State} {m : MethodId} {args : Array Value} {below : List Frame} {meth : Method} {c : Code} {Q : State → Prop} {D : va_G} {cA : Nat → ClassId} {A : Nat → Prop} {ad0 : Nat → Nat} {n0 z0 nL : Nat} {cc : ByteArray} {fz : List (List Int32)} {y : MethodName} {r : Option FieldType}
variable {pc pc' nx k : Nat} {lv lv' : m_V} {st st' : List Value} {σ σ' : m_S} {o : m_O} {v : Int} {q : List Nat}
theorem m_d2 (hs : m_step fz (2, k, v, q) nx lv st σ = some o) : ∃ w, m_ld lv k = some w ∧ m_k w = v ∧ o = .inl (nx, lv, w :: st, σ) := by
  simp only [m_step] at hs
  split at hs
  · rename_i w h
    obtain ⟨h1, h2⟩ := m_if hs
    exact ⟨w, h, h1, h2.symm⟩
  · cases hs
theorem m_d3 (hs : m_step fz (3, k, v, q) nx lv st σ = some o) : ∃ w t, st = w :: t ∧ m_k w = v ∧ o = .inl (nx, (if v = 1 then m_st2 lv k w else m_st1 lv k w), t, σ) := by
  simp only [m_step] at hs
  split at hs
  · rename_i w t
    obtain ⟨h1, h2⟩ := m_if hs
    exact ⟨w, t, rfl, h1, h2.symm⟩
  · cases hs
theorem m_d4 (hs : m_step fz (4, k, v, q) nx lv st σ = some o) : ∃ x, m_ld lv k = some (.int x) ∧ o = .inl (nx, m_st1 lv k (.int (x + Int32.ofInt v)), st, σ) := by
  simp only [m_step] at hs
  split at hs
  · rename_i x h
    exact ⟨x, h, (Option.some.inj hs).symm⟩
  · cases hs
theorem m_d5 (hs : m_step fz (5, k, v, q) nx lv st σ = some o) : ∃ x y t z, st = .int y :: .int x :: t ∧ m_ib k x y = some z ∧ o = .inl (nx, lv, .int z :: t, σ) := by
  simp only [m_step] at hs
  split at hs
  · rename_i y x t
    obtain ⟨z, h1, h2⟩ := Option.map_eq_some_iff.mp hs
    exact ⟨x, y, t, z, rfl, h1, h2.symm⟩
  · cases hs
theorem m_d6 (hs : m_step fz (6, k, v, q) nx lv st σ = some o) : ∃ x y t z, st = .long y :: .long x :: t ∧ m_lb k x y = some z ∧ o = .inl (nx, lv, .long z :: t, σ) := by
  simp only [m_step] at hs
  split at hs
  · rename_i y x t
    obtain ⟨z, h1, h2⟩ := Option.map_eq_some_iff.mp hs
    exact ⟨x, y, t, z, rfl, h1, h2.symm⟩
  · cases hs
theorem m_d28 (hs : m_step fz (28, k, v, q) nx lv st σ = some o) : ∃ x y t z, st = .int y :: .long x :: t ∧ m_lsh k x y = some z ∧ o = .inl (nx, lv, .long z :: t, σ) := by
  simp only [m_step] at hs
  split at hs
  · rename_i y x t
    obtain ⟨z, h1, h2⟩ := Option.map_eq_some_iff.mp hs
    exact ⟨x, y, t, z, rfl, h1, h2.symm⟩
  · cases hs
theorem m_d7 (hs : m_step fz (7, k, v, q) nx lv st σ = some o) : ∃ w t z, st = w :: t ∧ m_un k w = some z ∧ o = .inl (nx, lv, z :: t, σ) := by
  simp only [m_step] at hs
  split at hs
  · rename_i w t
    obtain ⟨z, h1, h2⟩ := Option.map_eq_some_iff.mp hs
    exact ⟨w, t, z, rfl, h1, h2.symm⟩
  · cases hs
theorem m_d8 (hs : m_step fz (8, k, v, q) nx lv st σ = some o) : ∃ x y t, st = .long y :: .long x :: t ∧ o = .inl (nx, lv, .int (lg_cmp x y) :: t, σ) := by
  simp only [m_step] at hs
  split at hs
  · rename_i y x t
    exact ⟨x, y, t, rfl, (Option.some.inj hs).symm⟩
  · cases hs
theorem m_d9 (hs : m_step fz (9, k, v, q) nx lv st σ = some o) : ∃ t, m_stk k st = some t ∧ o = .inl (nx, lv, t, σ) := by
  simp only [m_step] at hs
  obtain ⟨z, h1, h2⟩ := Option.map_eq_some_iff.mp hs
  exact ⟨z, h1, h2.symm⟩
theorem m_d11 (hs : m_step fz (11, k, v, q) nx lv st σ = some o) : ∃ x t, st = .int x :: t ∧ o = .inl (if m_cd v x 0 = true then k else nx, lv, t, σ) := by
  simp only [m_step] at hs
  split at hs
  · rename_i x t
    exact ⟨x, t, rfl, (Option.some.inj hs).symm⟩
  · cases hs
theorem m_d12 (hs : m_step fz (12, k, v, q) nx lv st σ = some o) : ∃ x y t, st = .int y :: .int x :: t ∧ o = .inl (if m_cd v x y = true then k else nx, lv, t, σ) := by
  simp only [m_step] at hs
  split at hs
  · rename_i y x t
    exact ⟨x, y, t, rfl, (Option.some.inj hs).symm⟩
  · cases hs
theorem m_d13 (hs : m_step fz (13, k, v, q) nx lv st σ = some o) : ∃ x t, st = .int x :: t ∧ o = .inl (m_tsw k v q x.toInt, lv, t, σ) := by
  simp only [m_step] at hs
  split at hs
  · rename_i x t
    exact ⟨x, t, rfl, (Option.some.inj hs).symm⟩
  · cases hs
theorem m_d14 (hs : m_step fz (14, k, v, q) nx lv st σ = some o) : ∃ x t, st = .int x :: t ∧ o = .inl (m_lsw k q x.toInt, lv, t, σ) := by
  simp only [m_step] at hs
  split at hs
  · rename_i x t
    exact ⟨x, t, rfl, (Option.some.inj hs).symm⟩
  · cases hs
theorem m_d15 (hs : m_step fz (15, k, v, q) nx lv st σ = some o) : ∃ b t fs w, st = .ref b :: t ∧ σ[b]? = some (.inr (k, fs)) ∧ fs[v.toNat]? = some w ∧ o = .inl (nx, lv, w :: t, σ) := by
  simp only [m_step] at hs
  split at hs
  · rename_i b t
    split at hs
    · rename_i ci fs h1
      split at hs
      · rename_i w h2
        obtain ⟨rfl, h3⟩ := m_if hs
        exact ⟨b, t, fs, w, rfl, h1, h2, h3.symm⟩
      · cases hs
    · cases hs
  · cases hs
theorem m_d16 (hs : m_step fz (16, k, v, q) nx lv st σ = some o) : ∃ w b t fs, st = w :: .ref b :: t ∧ σ[b]? = some (.inr (k, fs)) ∧ v.toNat < fs.length ∧ m_fit (m_tyf k v.toNat) w = true ∧ o = .inl (nx, lv, t, σ.set b (.inr (k, fs.set v.toNat w))) := by
  simp only [m_step] at hs
  split at hs
  · rename_i w b t
    split at hs
    · rename_i ci fs h1
      obtain ⟨⟨rfl, h2, h3⟩, h4⟩ := m_if hs
      exact ⟨w, b, t, fs, rfl, h1, h2, h3, h4.symm⟩
    · cases hs
  · cases hs
theorem m_d18 (hs : m_step fz (18, k, v, q) nx lv st σ = some o) : ∃ i b t w, st = .int i :: .ref b :: t ∧ m_ald fz k i b σ = some w ∧ o = .inl (nx, lv, w :: t, σ) := by
  simp only [m_step] at hs
  split at hs
  · rename_i i b t
    obtain ⟨z, h1, h2⟩ := Option.map_eq_some_iff.mp hs
    exact ⟨i, b, t, z, rfl, h1, h2.symm⟩
  · cases hs
theorem m_d19 (hs : m_step fz (19, k, v, q) nx lv st σ = some o) : ∃ w i b t τ, st = w :: .int i :: .ref b :: t ∧ m_ast k w i b σ = some τ ∧ o = .inl (nx, lv, t, τ) := by
  simp only [m_step] at hs
  split at hs
  · rename_i w i b t
    obtain ⟨z, h1, h2⟩ := Option.map_eq_some_iff.mp hs
    exact ⟨w, i, b, t, z, rfl, h1, h2.symm⟩
  · cases hs
theorem m_d20 (hs : m_step fz (20, k, v, q) nx lv st σ = some o) : ∃ b t n, st = .ref b :: t ∧ m_lok k b t = true ∧ m_len fz b σ = some n ∧ o = .inl (nx, lv, .int (Int32.ofNat n) :: t, σ) := by
  simp only [m_step] at hs
  split at hs
  · rename_i b t
    split at hs
    · rename_i h0
      obtain ⟨z, h1, h2⟩ := Option.map_eq_some_iff.mp hs
      exact ⟨b, t, z, rfl, h0, h1, h2.symm⟩
    · cases hs
  · cases hs
theorem m_d40 (hs : m_step fz (40, k, v, q) nx lv st σ = some o) : (st.map fun v => v.category).sum ≤ 12 ∧ ((k = 0 ∧ ∃ x y t, st = .int y :: .int x :: t ∧ o = .inl (nx, lv, .int (if x < y then y else x) :: t, σ)) ∨ (k = 1 ∧ ∃ x y t, st = .int y :: .int x :: t ∧ o = .inl (nx, lv, .int (if y < x then y else x) :: t, σ)) ∨ (k = 6 ∧ ∃ y t, st = .long y :: t ∧ o = .inl (nx, lv, .long (if 0 < y then y else -y) :: t, σ)) ∨ (k = 4 ∧ ∃ x y t, st = .long y :: .long x :: t ∧ o = .inl (nx, lv, .long (if y < x then x else y) :: t, σ))) := by
  simp only [m_step] at hs
  by_cases h0 : (st.map fun v => v.category).sum ≤ 12
  · rw [if_pos h0] at hs
    refine ⟨h0, ?_⟩
    split at hs
    · rename_i y x t
      by_cases e : k = 0
      · rw [if_pos e] at hs
        exact Or.inl ⟨e, x, y, t, rfl, (Option.some.inj hs).symm⟩
      · rw [if_neg e] at hs
        obtain ⟨e2, h2⟩ := m_if hs
        exact Or.inr (Or.inl ⟨e2, x, y, t, rfl, h2.symm⟩)
    · rename_i y t
      by_cases e : k = 6
      · rw [if_pos e] at hs
        exact Or.inr (Or.inr (Or.inl ⟨e, y, t, rfl, (Option.some.inj hs).symm⟩))
      · rw [if_neg e] at hs
        split at hs
        · rename_i x r
          obtain ⟨e2, h2⟩ := m_if hs
          exact Or.inr (Or.inr (Or.inr ⟨e2, x, y, r, rfl, h2.symm⟩))
        · cases hs
    · cases hs
  · rw [if_neg h0] at hs
    cases hs
theorem m_d43 (hs : m_step fz (43, k, v, q) nx lv st σ = some o) : ∃ i b t xs, st = .int i :: .ref b :: t ∧ m_fzb + 2 ≤ b ∧ (t.map fun v => v.category).sum ≤ 8 ∧ fz[b - m_fzb]? = some xs ∧ m_in i xs.length = true ∧ o = .inl (nx, lv, .int (xs.getD i.toNatClampNeg 0) :: t, σ) := by
  simp only [m_step] at hs
  split at hs
  · rename_i i b t
    split at hs
    · rename_i h0
      split at hs
      · rename_i xs hxs
        obtain ⟨h1, h2⟩ := m_if hs
        exact ⟨i, b, t, xs, rfl, h0.1, h0.2, hxs, h1, h2.symm⟩
      · cases hs
    · cases hs
  · cases hs
theorem m_d21 (hs : m_step fz (21, k, v, q) nx lv st σ = some o) : m_wf lv st σ = true ∧ o = .inl (nx, lv, .ref σ.length :: st, σ ++ [.inr (k, m_def k)]) := by
  simp only [m_step] at hs
  obtain ⟨h1, h2⟩ := m_if hs
  exact ⟨h1, h2.symm⟩
theorem m_d22 (hs : m_step fz (22, k, v, q) nx lv st σ = some o) : ∃ x t z, st = .int x :: t ∧ m_wf lv t σ = true ∧ 0 ≤ x.toInt ∧ x.toInt ≤ 2000 ∧ m_new k x.toNatClampNeg = some z ∧ o = .inl (nx, lv, .ref σ.length :: t, σ ++ [z]) := by
  simp only [m_step] at hs
  split at hs
  · rename_i x t
    split at hs
    · rename_i h
      obtain ⟨z, h1, h2⟩ := Option.map_eq_some_iff.mp hs
      exact ⟨x, t, z, rfl, h.1, h.2.1, h.2.2, h1, h2.symm⟩
    · cases hs
  · cases hs
theorem m_d25 (hs : m_step fz (25, k, v, q) nx lv st σ = some o) : ∃ b t, st = .ref b :: t ∧ (t.map fun v => v.category).sum ≤ 8 ∧ o = .inl (nx, lv, t, σ) := by
  simp only [m_step] at hs
  split at hs
  · rename_i b t
    obtain ⟨h1, h2⟩ := m_if hs
    exact ⟨b, t, rfl, h1, h2.symm⟩
  · cases hs
theorem m_d26 (hs : m_step fz (26, k, v, q) nx lv st σ = some o) : ∃ n dp b1 sp b0 t τ, st = .int n :: .int dp :: .ref b1 :: .int sp :: .ref b0 :: t ∧ 0 ≤ n.toInt ∧ 0 ≤ dp.toInt ∧ 0 ≤ sp.toInt ∧ (t.map fun v => v.category).sum ≤ 8 ∧ m_acp n.toNatClampNeg dp.toNatClampNeg b1 sp.toNatClampNeg b0 σ = some τ ∧ o = .inl (nx, lv, t, τ) := by
  simp only [m_step] at hs
  split at hs
  · rename_i n dp b1 sp b0 t
    split at hs
    · rename_i h
      obtain ⟨z, h1, h2⟩ := Option.map_eq_some_iff.mp hs
      exact ⟨n, dp, b1, sp, b0, t, z, rfl, h.1, h.2.1, h.2.2.1, h.2.2.2, h1, h2.symm⟩
    · cases hs
  · cases hs
theorem m_nn {x : Int32} (h : 0 ≤ x.toInt) : ¬ x < 0 := by
  rw [Int32.lt_iff_toInt_lt, Int32.toInt_zero]
  omega
theorem m_ra {U : State} {a b : ClassId} {ty : FieldType} (h : va_RA U a ty) (h2 : va_RA U b ty) : a = b := by
  cases ty with
  | object C =>
    obtain ⟨_, _, _, _, _, h4⟩ := h
    obtain ⟨_, _, _, _, _, g4⟩ := h2
    exact Option.some.inj (h4.symm.trans g4)
  | _ => exact Option.some.inj (Eq.trans (Eq.symm h) h2)
theorem m_fit_ok {ty : FieldType} {w : Value} {ad : Nat → Nat} (h : m_fit ty w = true) : narrow ty (m_tv ad w) = m_tv ad w ∧ fits ty (m_tv ad w) = true := by
  cases ty <;> cases w <;> first | (simp [m_fit] at h; done) | exact ⟨rfl, rfl⟩
theorem m_tdef (ad : Nat → Nat) (ty : FieldType) : m_tv ad (defaultValue ty) = defaultValue ty := by cases ty <;> rfl
theorem m_tmdef (ad : Nat → Nat) (a : Nat) : (m_def a).map (m_tv ad) = m_def a := by
  simp only [m_def, List.map_map]
  exact List.map_congr_left (fun k _ => m_tdef ad _)
theorem m_arr0 {n : Nat} {cI : ClassId} {f : Nat → Value} {w : Value} (h : ∀ j, j < n → f j = w) : arrV cI n f = arrV cI n (fun _ => w) := by
  unfold arrV
  congr 2
  funext j
  exact h j.val j.isLt
theorem m_lsw_off {d : Int} {ps : List (Int × Int)} {x : Int} (h0 : 0 ≤ (pc : Int) + d) (hp : ps.all (fun q => decide (0 ≤ q.1) && decide (0 ≤ (pc : Int) + q.2)) = true) : (pc : Int) + Op.lookupswitch.offset ps d x = ((m_lsw ((pc : Int) + d).toNat (ps.flatMap (fun q => [q.1.toNat, ((pc : Int) + q.2).toNat])) x : Nat) : Int) := by
  induction ps with
  | nil =>
    simp only [List.flatMap_nil, m_lsw]
    rw [Int.toNat_of_nonneg h0]
    rfl
  | cons a t ih =>
    simp only [List.all_cons, Bool.and_eq_true, decide_eq_true_eq] at hp
    obtain ⟨⟨h1, h2⟩, h3⟩ := hp
    obtain ⟨a1, a2⟩ := a
    rw [Op.lookupswitch.offset_cons]
    simp only [List.flatMap_cons, List.cons_append, List.nil_append, m_lsw]
    rw [Int.toNat_of_nonneg h1]
    by_cases hx : a1 = x
    · rw [if_pos hx, if_pos hx, Int.toNat_of_nonneg h2]
    · rw [if_neg hx, if_neg hx]
      exact ih (by simpa using h3)

end M5

/-! VALUES BY THEIR BOUNDS: a walk of the small machine over all its runs at once -/
abbrev a_V : Type := Nat × Int × Int
abbrev a_N : Type := List (Int × Int)
abbrev a_E : Type := (Nat × Nat × (a_V ⊕ List a_V)) ⊕ (Nat × List a_V)
abbrev a_S : Type := Nat × List (Nat × a_E)
abbrev a_L : Type := List (Nat × a_V)
abbrev a_F : Type := Nat × Nat × a_L × List a_V
abbrev a_Q : Type := a_N × List a_F × a_S
abbrev a_Z : Type := List (Nat × Nat × List a_V)
def a_cat (v : a_V) : Nat := if v.1 = 1 ∨ v.1 = 5 then 2 else 1
def a_knd (v : a_V) : Int := match v.1 with
  | 0 => 0
  | 1 => 1
  | 2 => 2
  | 4 => 0
  | 5 => 1
  | 6 => 0
  | _ => 3
def a_sg (a c : Int) : Int := if c < a then 1 else if a = c then 0 else -1
def a_iv (N : a_N) (v : a_V) : Option (Int × Int) := match v.1 with
  | 0 => some (v.2.1, v.2.2)
  | 4 => N[v.2.1.toNat]?
  | 6 => match N[v.2.1.toNat]? with
    | some q => some (if v.2.2 < q.1 then (1, 1) else if q.2 < v.2.2 then (-1, -1) else if q.1 = v.2.2 ∧ q.2 = v.2.2 then (0, 0) else (-1, 1))
    | none => none
  | _ => none
def a_ll (N : a_N) (v : a_V) : Option (Int × Int) := match v.1 with
  | 1 => some (v.2.1, v.2.2)
  | 5 => N[v.2.1.toNat]?
  | _ => none
def a_ib0 (k : Nat) (x y : Int × Int) : Option (Int × Int) :=
  if x.1 = x.2 ∧ y.1 = y.2 then (m_ib k (Int32.ofInt x.1) (Int32.ofInt y.1)).map (fun z => (z.toInt, z.toInt))
  else match k with
    | 0 => some (if (-2147483648) ≤ x.1 + y.1 ∧ x.2 + y.2 ≤ 2147483647 then (x.1 + y.1, x.2 + y.2) else ((-2147483648), 2147483647))
    | 1 => some (if (-2147483648) ≤ x.1 - y.2 ∧ x.2 - y.1 ≤ 2147483647 then (x.1 - y.2, x.2 - y.1) else ((-2147483648), 2147483647))
    | 2 => some (if y.1 = y.2 ∧ 0 ≤ y.1 ∧ (-2147483648) ≤ x.1 * y.1 ∧ x.2 * y.1 ≤ 2147483647 then (x.1 * y.1, x.2 * y.1) else if x.1 = x.2 ∧ 0 ≤ x.1 ∧ (-2147483648) ≤ y.1 * x.1 ∧ y.2 * x.1 ≤ 2147483647 then (y.1 * x.1, y.2 * x.1) else ((-2147483648), 2147483647))
    | 3 => some (if 0 ≤ y.1 then (0, y.2) else if 0 ≤ x.1 then (0, x.2) else ((-2147483648), 2147483647))
    | 7 => some (if 0 ≤ x.1 then (0, x.2) else (-2147483648, 2147483647))
    | 9 => none
    | 10 => none
    | _ => if k ≤ 8 then some ((-2147483648), 2147483647) else none
def a_ib (k : Nat) (x y : Int × Int) : Option (Int × Int) := bif Nat.beq k 0 && decide (-2147483648 ≤ x.1 + y.1) && decide (x.2 + y.2 ≤ 2147483647) then some (x.1 + y.1, x.2 + y.2) else a_ib0 k x y
def a_lb (k : Nat) (x y : Int × Int) : Option (Int × Int) :=
  if x.1 = x.2 ∧ y.1 = y.2 then (m_lb k (Int64.ofInt x.1) (Int64.ofInt y.1)).map (fun z => (z.toInt, z.toInt))
  else if k ≤ 4 then some ((-9223372036854775808), 9223372036854775807) else none
def a_lsh (k : Nat) (x y : Int × Int) : Option (Int × Int) :=
  if x.1 = x.2 ∧ y.1 = y.2 then (m_lsh k (Int64.ofInt x.1) (Int32.ofInt y.1)).map (fun z => (z.toInt, z.toInt))
  else if k ≤ 1 then some ((-9223372036854775808), 9223372036854775807) else none
def a_un (N : a_N) (k : Nat) (v : a_V) : Option a_V := match k with
  | 0 => (a_iv N v).map fun q => if q.1 = q.2 then (0, (-(Int32.ofInt q.1)).toInt, (-(Int32.ofInt q.1)).toInt) else (0, (-2147483648), 2147483647)
  | 1 => if v.1 = 4 then some (5, v.2) else (a_iv N v).map fun q => (1, q.1, q.2)
  | 2 => (a_ll N v).map fun q => if (-2147483648) ≤ q.1 ∧ q.2 ≤ 2147483647 then (if v.1 = 5 then (4, v.2) else (0, q.1, q.2)) else (0, (-2147483648), 2147483647)
  | 3 => (a_iv N v).map fun q => if -128 ≤ q.1 ∧ q.2 ≤ 127 then v else (0, -128, 127)
  | 4 => (a_iv N v).map fun q => if -32768 ≤ q.1 ∧ q.2 ≤ 32767 then v else (0, -32768, 32767)
  | 5 => (a_ll N v).map fun q => if q.1 = q.2 then (1, (-(Int64.ofInt q.1)).toInt, (-(Int64.ofInt q.1)).toInt) else (1, (-9223372036854775808), 9223372036854775807)
  | _ => none
def a_lcm (N : a_N) (x y : a_V) : Option a_V := match a_ll N x, a_ll N y with
  | some p, some q => if x.1 = 5 ∧ q.1 = q.2 then some (6, x.2.1, q.1) else if q.2 < p.1 then some (0, 1, 1) else if p.2 < q.1 then some (0, -1, -1) else if p.1 = p.2 ∧ q.1 = q.2 ∧ p.1 = q.1 then some (0, 0, 0) else some (0, -1, 1)
  | _, _ => none
def a_stk (k : Nat) (st : List a_V) : Option (List a_V) := match k, st with
  | 0, a :: r => if a_cat a = 1 then some r else none
  | 1, a :: r => if a_cat a = 2 then some r else none
  | 2, a :: r => if a_cat a = 1 then some (a :: a :: r) else none
  | 3, a :: b :: r => if a_cat a = 1 ∧ a_cat b = 1 then some (a :: b :: a :: b :: r) else none
  | _, _ => none
def a_rf (k : Int) (c : Int) (q : Int × Int) : List (Int × Int) := match k with
  | 0 => if q.1 ≤ c ∧ c ≤ q.2 then [(c, c)] else []
  | 1 => if q.1 < c ∧ c < q.2 then [(q.1, c - 1), (c + 1, q.2)] else if q.1 = c ∧ q.2 = c then [] else if q.1 = c then [(q.1 + 1, q.2)] else if q.2 = c then [(q.1, q.2 - 1)] else [q]
  | 2 => if q.1 < c then [(q.1, if q.2 < c then q.2 else c - 1)] else []
  | 3 => if c ≤ q.2 then [(if q.1 < c then c else q.1, q.2)] else []
  | 4 => if c < q.2 then [(if q.1 ≤ c then c + 1 else q.1, q.2)] else []
  | _ => if q.1 ≤ c then [(q.1, if q.2 ≤ c then q.2 else c)] else []
def a_ng (k : Int) : Int := match k with
  | 0 => 1
  | 1 => 0
  | 2 => 3
  | 3 => 2
  | 4 => 5
  | _ => 4
def a_fl (k : Int) : Int := match k with
  | 0 => 0
  | 1 => 1
  | 2 => 4
  | 3 => 5
  | 4 => 2
  | _ => 3
def a_rel (k : Int) (x y : Int) : Prop := match k with
  | 0 => x = y
  | 1 => ¬ x = y
  | 2 => x < y
  | 3 => y ≤ x
  | 4 => y < x
  | _ => x ≤ y
/-- a value held against a number: what is known where it is so -/
def a_br1 (N : a_N) (k : Int) (v : a_V) (c : Int) : Option (List a_N) :=
  if v.1 = 4 then match N[v.2.1.toNat]? with
    | some q => some ((a_rf k c q).map fun q' => N.set v.2.1.toNat q')
    | none => none
  else if v.1 = 6 ∧ c = 0 then match N[v.2.1.toNat]? with
    | some q => some ((a_rf k v.2.2 q).map fun q' => N.set v.2.1.toNat q')
    | none => none
  else match a_iv N v with
    | some q => some (if (a_rf k c q).isEmpty = true then [] else [N])
    | none => none
def a_cmp (N : a_N) (k : Int) (x y : a_V) : Option (List a_N) := match a_iv N x, a_iv N y with
  | some p, some q => if q.1 = q.2 then a_br1 N k x q.1 else if p.1 = p.2 then a_br1 N (a_fl k) y p.1 else some [N]
  | _, _ => none
def a_two {α : Type} (a b : Option (List a_N)) (f g : a_N → α) : Option (List α) := match a, b with
  | some u, some w => some (u.map f ++ w.map g)
  | _, _ => none
def a_gv (ρ : Nat → Int) (v : a_V) (w : Value) : Prop := match v.1, w with
  | 0, .int x => v.2.1 ≤ x.toInt ∧ x.toInt ≤ v.2.2
  | 1, .long x => v.2.1 ≤ x.toInt ∧ x.toInt ≤ v.2.2
  | 2, .ref k => v.2.1 = (k : Int)
  | 3, .null => True
  | 4, .int x => x.toInt = ρ v.2.1.toNat
  | 5, .long x => x.toInt = ρ v.2.1.toNat
  | 6, .int x => x.toInt = a_sg (ρ v.2.1.toNat) v.2.2
  | _, _ => False
def a_gN (N : a_N) (ρ : Nat → Int) : Prop := ∀ (i : Nat) (q : Int × Int), N[i]? = some q → q.1 ≤ ρ i ∧ ρ i ≤ q.2
def a_all2 {α β : Type} (R : α → β → Prop) : List α → List β → Prop
  | [], [] => True
  | a :: as, b :: bs => R a b ∧ a_all2 R as bs
  | _, _ => False
def a_ge (ρ : Nat → Int) (x : a_E) (z : m_E) : Prop := match x, z with
  | .inl (t, n, .inl u), .inl (t', .inl xs) => t = t' ∧ t' < 3 ∧ xs.length = n ∧ ∀ a ∈ xs, a_gv ρ u (.int a)
  | .inl (t, n, .inl u), .inl (t', .inr (.inl xs)) => t = t' ∧ t' = 3 ∧ xs.length = n ∧ ∀ a ∈ xs, a_gv ρ u (.long a)
  | .inl (t, n, .inr vs), .inl (t', .inl xs) => t = t' ∧ t' < 3 ∧ xs.length = n ∧ a_all2 (a_gv ρ) vs (xs.map Value.int)
  | .inl (t, n, .inr vs), .inl (t', .inr (.inl xs)) => t = t' ∧ t' = 3 ∧ xs.length = n ∧ a_all2 (a_gv ρ) vs (xs.map Value.long)
  | .inl (t, n, .inr vs), .inl (t', .inr (.inr xs)) => t = t' ∧ t' = 4 ∧ xs.length = n ∧ a_all2 (a_gv ρ) vs (xs.map va_rf)
  | .inr (ci, fs), .inr (ci', gs) => ci = ci' ∧ a_all2 (a_gv ρ) fs gs
  | _, _ => False
def a_lku : List (Nat × a_E) → Nat → Option a_E
  | [], _ => none
  | q :: r, k => bif Nat.beq q.1 k then some q.2 else a_lku r k
/-- the cell at a place: as it was put last, or as the base has it -/
def a_at (B : List a_E) (S : a_S) (k : Nat) : Option a_E := match a_lku S.2 k with
  | some x => some x
  | none => B[k]?
def a_set (S : a_S) (k : Nat) (x : a_E) : a_S := (S.1, (k, x) :: S.2.filter (fun q => !(Nat.beq q.1 k)))
def a_push (S : a_S) (x : a_E) : a_S := (S.1 + 1, (S.1, x) :: S.2)
def a_gS (ρ : Nat → Int) (B : List a_E) (S : a_S) (σ : m_S) : Prop := σ.length = S.1 ∧ ∀ (k : Nat) (x : a_E), a_at B S k = some x → ∃ z, σ[k]? = some z ∧ a_ge ρ x z
def a_gl (ρ : Nat → Int) (x : Nat × a_V) (z : Nat × Value) : Prop := x.1 = z.1 ∧ a_gv ρ x.2 z.2
def a_gf (ρ : Nat → Int) (x : a_F) (z : m_Fr) : Prop := x.1 = z.1 ∧ x.2.1 = z.2.1 ∧ a_all2 (a_gl ρ) x.2.2.1 z.2.2.1 ∧ a_all2 (a_gv ρ) x.2.2.2 z.2.2.2
def a_gz (ρ : Nat → Int) (x : Nat × Nat × List a_V) (z : List Int32) : Prop := x.1 ≤ z.length ∧ z.length ≤ x.2.1 ∧ ∀ (i : Nat) (v : a_V), i < x.1 → x.2.2[i]? = some v → ∃ a, z[i]? = some a ∧ a_gv ρ v (.int a)
section A15
variable {α β : Type} {R : α → β → Prop} {as : List α} {bs : List β} {ρ : Nat → Int} {N : a_N} {v : a_V} {w : Value}
theorem a_all2.len : ∀ {as : List α} {bs : List β}, a_all2 R as bs → as.length = bs.length
  | [], [], _ => rfl
  | _ :: _, _ :: _, h => by simp [a_all2.len h.2]
theorem a_all2.get : ∀ {as : List α} {bs : List β} {i : Nat} {a : α}, a_all2 R as bs → as[i]? = some a → ∃ b, bs[i]? = some b ∧ R a b
  | a :: as, b :: bs, 0, _, h, e => by cases e; exact ⟨b, rfl, h.1⟩
  | a :: as, b :: bs, i + 1, x, h, e => a_all2.get (as := as) (bs := bs) (i := i) h.2 e
theorem a_all2.set : ∀ {as : List α} {bs : List β} {i : Nat} {a : α} {b : β}, a_all2 R as bs → R a b → a_all2 R (as.set i a) (bs.set i b)
  | [], [], _, _, _, _, _ => trivial
  | _ :: _, _ :: _, 0, _, _, h, e => ⟨e, h.2⟩
  | _ :: as, _ :: bs, i + 1, _, _, h, e => ⟨h.1, a_all2.set (as := as) (bs := bs) (i := i) h.2 e⟩
theorem a_all2.app : ∀ {as : List α} {bs : List β} {cs : List α} {ds : List β}, a_all2 R as bs → a_all2 R cs ds → a_all2 R (as ++ cs) (bs ++ ds)
  | [], [], _, _, _, h => h
  | _ :: as, _ :: bs, _, _, h, e => ⟨h.1, a_all2.app (as := as) (bs := bs) h.2 e⟩
theorem a_all2.rev : ∀ {as : List α} {bs : List β}, a_all2 R as bs → a_all2 R as.reverse bs.reverse
  | [], [], _ => trivial
  | _ :: as, _ :: bs, h => by
    rw [List.reverse_cons, List.reverse_cons]
    exact (a_all2.rev (as := as) (bs := bs) h.2).app ⟨h.1, trivial⟩
theorem a_all2.take : ∀ {as : List α} {bs : List β} (n : Nat), a_all2 R as bs → a_all2 R (as.take n) (bs.take n)
  | _, _, 0, _ => by simp [a_all2]
  | [], [], _ + 1, _ => trivial
  | _ :: as, _ :: bs, n + 1, h => ⟨h.1, a_all2.take (as := as) (bs := bs) n h.2⟩
theorem a_all2.drop : ∀ {as : List α} {bs : List β} (n : Nat), a_all2 R as bs → a_all2 R (as.drop n) (bs.drop n)
  | _, _, 0, h => h
  | [], [], _ + 1, _ => trivial
  | _ :: as, _ :: bs, n + 1, h => a_all2.drop (as := as) (bs := bs) n h.2
theorem a_all2.filter {f : α → Bool} {g : β → Bool} (hfg : ∀ a b, R a b → f a = g b) : ∀ {as : List α} {bs : List β}, a_all2 R as bs → a_all2 R (as.filter f) (bs.filter g)
  | [], [], _ => trivial
  | a :: as, b :: bs, h => by
    rw [List.filter_cons, List.filter_cons, hfg a b h.1]
    by_cases hb : g b = true
    · rw [if_pos hb, if_pos hb]; exact ⟨h.1, a_all2.filter hfg (as := as) (bs := bs) h.2⟩
    · rw [if_neg hb, if_neg hb]; exact a_all2.filter hfg (as := as) (bs := bs) h.2
theorem a_all2.find {f : α → Bool} {g : β → Bool} (hfg : ∀ a b, R a b → f a = g b) : ∀ {as : List α} {bs : List β} {a : α}, a_all2 R as bs → as.find? f = some a → ∃ b, bs.find? g = some b ∧ R a b
  | a :: as, b :: bs, x, h, e => by
    rw [List.find?_cons] at e
    rw [List.find?_cons, ← hfg a b h.1]
    by_cases hb : f a = true
    · rw [hb] at e ⊢; cases e; exact ⟨b, rfl, h.1⟩
    · simp only [Bool.not_eq_true] at hb
      rw [hb] at e ⊢
      exact a_all2.find hfg (as := as) (bs := bs) h.2 e
theorem a_all2.all {f : α → Bool} {g : β → Bool} (hfg : ∀ a b, R a b → f a = true → g b = true) : ∀ {as : List α} {bs : List β}, a_all2 R as bs → as.all f = true → bs.all g = true
  | [], [], _, _ => rfl
  | a :: as, b :: bs, h, e => by
    rw [List.all_cons, Bool.and_eq_true] at e ⊢
    exact ⟨hfg a b h.1 e.1, a_all2.all hfg (as := as) (bs := bs) h.2 e.2⟩
theorem a_all2.rep {a : α} : ∀ {bs : List β}, (∀ b ∈ bs, R a b) → a_all2 R (List.replicate bs.length a) bs
  | [], _ => trivial
  | b :: bs, h => ⟨h b List.mem_cons_self, a_all2.rep (bs := bs) (fun b' hb => h b' (List.mem_cons_of_mem _ hb))⟩
theorem a_all2.mem {b : β} : ∀ {as : List α} {bs : List β}, a_all2 R as bs → b ∈ bs → ∃ a ∈ as, R a b
  | [], [], _, hb => by cases hb
  | a :: as, b' :: bs, h, hb => by
    rcases List.mem_cons.mp hb with rfl | hb
    · exact ⟨a, List.mem_cons_self, h.1⟩
    · obtain ⟨x, h1, h2⟩ := a_all2.mem (as := as) (bs := bs) h.2 hb
      exact ⟨x, List.mem_cons_of_mem _ h1, h2⟩
theorem a_all2.imp {S : α → β → Prop} (hi : ∀ a b, R a b → S a b) : ∀ {as : List α} {bs : List β}, a_all2 R as bs → a_all2 S as bs
  | [], [], _ => trivial
  | _ :: as, _ :: bs, h => ⟨hi _ _ h.1, a_all2.imp hi (as := as) (bs := bs) h.2⟩
theorem a_all2.mapl {γ : Type} {S : γ → β → Prop} {f : α → γ} (hi : ∀ a b, R a b → S (f a) b) : ∀ {as : List α} {bs : List β}, a_all2 R as bs → a_all2 S (as.map f) bs
  | [], [], _ => trivial
  | _ :: as, _ :: bs, h => ⟨hi _ _ h.1, a_all2.mapl hi (as := as) (bs := bs) h.2⟩
theorem a_gv_cat (h : a_gv ρ v w) : a_cat v = w.category := by
  obtain ⟨t, a, b⟩ := v
  unfold a_gv at h
  split at h <;> first | exact h.elim | (rename_i e; dsimp only at e; subst e; rfl)
theorem a_gv_knd (h : a_gv ρ v w) : a_knd v = m_k w := by
  obtain ⟨t, a, b⟩ := v
  unfold a_gv at h
  split at h <;> first | exact h.elim | (rename_i e; dsimp only at e; subst e; rfl)
theorem a_iv_ok {q : Int × Int} (hN : a_gN N ρ) (h : a_gv ρ v w) (hq : a_iv N v = some q) : ∃ x, w = .int x ∧ q.1 ≤ x.toInt ∧ x.toInt ≤ q.2 := by
  obtain ⟨t, a, b⟩ := v
  unfold a_gv at h
  split at h
  · rename_i x e; dsimp only at e; subst e; cases hq; exact ⟨x, rfl, h⟩
  · rename_i e; dsimp only at e; subst e; cases hq
  · rename_i e; dsimp only at e; subst e; cases hq
  · rename_i e; dsimp only at e; subst e; cases hq
  · rename_i x e; dsimp only at e; subst e; exact ⟨x, rfl, by rw [h]; exact hN _ _ hq⟩
  · rename_i e; dsimp only at e; subst e; cases hq
  · rename_i x e
    dsimp only at e; subst e
    simp only [a_iv] at hq
    split at hq
    · rename_i r hr
      have h1 := hN _ _ hr
      cases hq
      refine ⟨x, rfl, ?_⟩
      rw [h]
      unfold a_sg
      dsimp only
      repeat' split
      all_goals dsimp only
      all_goals omega
    · cases hq
  · exact h.elim
theorem a_ll_ok {q : Int × Int} (hN : a_gN N ρ) (h : a_gv ρ v w) (hq : a_ll N v = some q) : ∃ x, w = .long x ∧ q.1 ≤ x.toInt ∧ x.toInt ≤ q.2 := by
  obtain ⟨t, a, b⟩ := v
  unfold a_gv at h
  split at h
  · rename_i e; dsimp only at e; subst e; cases hq
  · rename_i x e; dsimp only at e; subst e; cases hq; exact ⟨x, rfl, h⟩
  · rename_i e; dsimp only at e; subst e; cases hq
  · rename_i e; dsimp only at e; subst e; cases hq
  · rename_i e; dsimp only at e; subst e; cases hq
  · rename_i x e; dsimp only at e; subst e; exact ⟨x, rfl, by rw [h]; exact hN _ _ hq⟩
  · rename_i e; dsimp only at e; subst e; cases hq
  · exact h.elim
end A15

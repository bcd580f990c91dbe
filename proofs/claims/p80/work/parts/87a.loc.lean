/-! ONE STEP over bounds -/
def a_ld : a_L → Nat → Option a_V
  | [], _ => none
  | q :: r, i => bif Nat.beq q.1 i then some q.2 else a_ld r i
def a_c2 (v : a_V) : Bool := Nat.beq v.1 1 || Nat.beq v.1 5
def a_st1 (lv : a_L) (i : Nat) (v : a_V) : a_L := (i, v) :: lv.filter (fun q => !(Nat.beq q.1 i) && !(Nat.beq (q.1 + 1) i && a_c2 q.2))
def a_st2 (lv : a_L) (i : Nat) (v : a_V) : a_L := (i, v) :: lv.filter (fun q => !(Nat.beq q.1 i) && (!(Nat.beq q.1 (i + 1)) && !(Nat.beq (q.1 + 1) i && a_c2 q.2)))
def a_fit (ty : FieldType) (v : a_V) : Bool := match ty with
  | .int => decide (a_knd v = 0)
  | .long => decide (a_knd v = 1)
  | .object _ => decide (v.1 = 2)
  | .array _ => decide (v.1 = 2)
  | _ => false
def a_jl (N : a_N) : List a_V → Option (Int × Int)
  | [] => none
  | [v] => a_iv N v
  | v :: r => match a_iv N v, a_jl N r with
    | some p, some q => some (min p.1 q.1, max p.2 q.2)
    | _, _ => none
def a_jn (N : a_N) (u w : a_V) : Option a_V := match a_iv N u, a_iv N w with
  | some p, some q => some (0, min p.1 q.1, max p.2 q.2)
  | _, _ => match a_ll N u, a_ll N w with
    | some p, some q => some (1, min p.1 q.1, max p.2 q.2)
    | _, _ => none
def a_le1 (N : a_N) (w u : a_V) : Bool := if u.1 = 0 then (match a_iv N w with
    | some q => decide (u.2.1 ≤ q.1) && decide (q.2 ≤ u.2.2)
    | none => false) else if u.1 = 1 then (match a_ll N w with
    | some q => decide (u.2.1 ≤ q.1) && decide (q.2 ≤ u.2.2)
    | none => false) else false
def a_mj (N : a_N) (w : a_V) : List a_V → Option (List a_V)
  | [] => some []
  | v :: r => match a_jn N v w, a_mj N w r with
    | some u, some t => some (u :: t)
    | _, _ => none
def a_aget (N : a_N) (t : Nat) (arr : a_V ⊕ List a_V) (n : Nat) (ix : Int × Int) : Option a_V :=
  if 0 ≤ ix.1 ∧ ix.2 < n then match arr with
    | .inl u => some u
    | .inr vs => if ix.1 = ix.2 then vs[ix.1.toNat]? else if t < 3 then (a_jl N vs).map fun q => (0, q.1, q.2) else none
  else none
def a_ald (af : a_Z) (B : List a_E) (N : a_N) (a : Nat) (ix : Int × Int) (b : Nat) (σ : a_S) : Option a_V :=
  if m_fzb ≤ b then (if a = 0 ∧ ix.1 = ix.2 ∧ 0 ≤ ix.1 then match af[b - m_fzb]? with
    | some z => if ix.1.toNat < z.1 then z.2.2[ix.1.toNat]? else none
    | none => none else none)
  else match a_at B σ b with
    | some (.inl (t, n, arr)) => if a = 0 ∧ t = 0 ∨ a = 1 ∧ (t = 1 ∨ t = 2) ∨ a = 2 ∧ t = 3 ∨ a = 3 ∧ t = 4 then a_aget N t arr n ix else none
    | _ => none
def a_nar (B : List a_E) (N : a_N) (a t : Nat) (w : a_V) (σ : a_S) : Option a_V :=
  if a = 0 ∧ t = 0 then (a_iv N w).map fun _ => w
  else if a = 1 ∧ t = 1 then (a_iv N w).map fun q => if -128 ≤ q.1 ∧ q.2 ≤ 127 then w else (0, -128, 127)
  else if a = 1 ∧ t = 2 then (a_iv N w).map fun q => if 0 ≤ q.1 ∧ q.2 ≤ 1 then w else (0, 0, 1)
  else if a = 2 ∧ t = 3 then (a_ll N w).map fun _ => w
  else if a = 3 ∧ t = 4 ∧ w.1 = 2 ∧ 0 ≤ w.2.1 then match a_at B σ (w.2.1.toNat) with
    | some (.inr (1, _)) => some w
    | _ => none
  else none
def a_aput (N : a_N) (t : Nat) (arr : a_V ⊕ List a_V) (n : Nat) (ix : Int × Int) (w : a_V) : Option (a_V ⊕ List a_V) := match arr with
  | .inl u => if a_le1 N w u = true then some (.inl u) else if ix.1 = ix.2 ∧ n ≤ 64 then some (.inr ((List.replicate n u).set ix.1.toNat w)) else (a_jn N u w).map Sum.inl
  | .inr vs => if ix.1 = ix.2 then some (.inr (vs.set ix.1.toNat w)) else if t < 3 then (a_mj N w vs).map Sum.inr else none
def a_ast (B : List a_E) (N : a_N) (a : Nat) (w : a_V) (ix : Int × Int) (b : Nat) (σ : a_S) : Option a_S := match a_at B σ b with
  | some (.inl (t, n, arr)) => if 0 ≤ ix.1 ∧ ix.2 < n then match a_nar B N a t w σ with
    | some w' => (a_aput N t arr n ix w').map fun r => a_set σ b (.inl (t, n, r))
    | none => none else none
  | _ => none
def a_len (af : a_Z) (B : List a_E) (b : Nat) (σ : a_S) : Option (Int × Int) :=
  if m_fzb ≤ b then (af[b - m_fzb]?).map fun z => ((z.1 : Int), (z.2.1 : Int))
  else match a_at B σ b with
    | some (.inl (_, n, _)) => some ((n : Int), (n : Int))
    | _ => none
def a_okv (n : Nat) (v : a_V) : Bool := if v.1 = 2 then decide (v.2.1 < n) || decide ((m_fzb : Int) ≤ v.2.1) else true
def a_oke (n : Nat) (x : a_E) : Bool := match x with
  | .inl (_, _, .inl _) => true
  | .inl (t, _, .inr vs) => decide (t < 4) || vs.all (a_okv n)
  | .inr (_, fs) => fs.all (a_okv n)
def a_okl (n : Nat) (lv : a_L) : Bool := lv.all (fun q => a_okv n q.2)
def a_wf (B : List a_E) (lv : a_L) (st : List a_V) (σ : a_S) : Bool := decide (σ.1 < m_fzb) && a_okl σ.1 lv && st.all (a_okv σ.1) && (List.range σ.1).all (fun k => match a_at B σ k with
  | some x => a_oke σ.1 x
  | none => false)
def a_newa (t n : Nat) : Option a_E := match t with
  | 0 => some (.inl (0, n, .inl (0, 0, 0)))
  | 1 => some (.inl (1, n, .inl (0, 0, 0)))
  | 2 => some (.inl (2, n, .inl (0, 0, 0)))
  | 3 => some (.inl (3, n, .inl (1, 0, 0)))
  | 4 => some (.inl (4, n, .inr (List.replicate n (3, 0, 0))))
  | _ => none
def a_dv (ty : FieldType) : a_V := match ty with
  | .long => (1, 0, 0)
  | .object _ => (3, 0, 0)
  | .array _ => (3, 0, 0)
  | _ => (0, 0, 0)
def a_dok (ty : FieldType) : Bool := match ty with
  | .float => false
  | .double => false
  | _ => true
def a_acp (B : List a_E) (N : a_N) (n dp b1 sp b0 : Nat) (σ : a_S) : Option a_S := match a_at B σ b0, a_at B σ b1 with
  | some (.inl (t, n0, .inl u)), some (.inl (t', n1, .inl u')) => if t = t' ∧ (t = 0 ∨ t = 3) ∧ sp + n ≤ n0 ∧ dp + n ≤ n1 then (if a_le1 N u u' = true then some σ else (a_jn N u' u).map fun j => a_set σ b1 (.inl (t', n1, .inl j))) else none
  | _, _ => none
abbrev a_R : Type := a_N × Nat × a_L × List a_V × a_S
def a_cases (N : a_N) (s : Nat) (lo : Int) (k : Nat) : List a_N := (List.range k).map fun (j : Nat) => N.set s (lo + j, lo + j)
def a_tsw (N : a_N) (v : a_V) (q : Int × Int) (lv : a_L) (r : List a_V) (σ : a_S) : Nat → List Nat → List a_R
  | _, [] => []
  | j, t :: ts => (if q.1 ≤ j ∧ (j : Int) ≤ q.2 then [((if v.1 = 4 then N.set v.2.1.toNat ((j : Int), (j : Int)) else N), t, lv, r, σ)] else []) ++ a_tsw N v q lv r σ (j + 1) ts
def a_mp (f : a_N → Option (List a_N)) : List a_N → Option (List a_N)
  | [] => some []
  | M :: r => match f M, a_mp f r with
    | some u, some w => some (u ++ w)
    | _, _ => none
def a_nes (v : a_V) : List a_N → List Nat → Option (List a_N)
  | Ms, k :: _ :: ts => match a_mp (fun M => a_br1 M 1 v k) Ms with
    | some L => a_nes v L ts
    | none => none
  | Ms, _ => some Ms
def a_eqs (N : a_N) (v : a_V) (lv : a_L) (r : List a_V) (σ : a_S) : List Nat → Option (List a_R)
  | k :: t :: ts => match a_br1 N 0 v k, a_eqs N v lv r σ ts with
    | some u, some L => some (u.map (fun M => (M, t, lv, r, σ)) ++ L)
    | _, _ => none
  | _ => some []
def a_lsw (d : Nat) (v : a_V) (lv : a_L) (r : List a_V) (σ : a_S) (N : a_N) (l : List Nat) : Option (List a_R) := match a_eqs N v lv r σ l, a_nes v [N] l with
  | some A, some B => some (A ++ B.map fun M => (M, d, lv, r, σ))
  | _, _ => none
def a_h0 (N : a_N) (v : Int) (nx : Nat) (lv : a_L) (st : List a_V) (σ : a_S) : Option (List a_R) := if -2147483648 ≤ v ∧ v ≤ 2147483647 then some [(N, nx, lv, (0, v, v) :: st, σ)] else none
def a_h1 (N : a_N) (v : Int) (nx : Nat) (lv : a_L) (st : List a_V) (σ : a_S) : Option (List a_R) := if -9223372036854775808 ≤ v ∧ v ≤ 9223372036854775807 then some [(N, nx, lv, (1, v, v) :: st, σ)] else none
def a_h2 (N : a_N) (a : Nat) (v : Int) (nx : Nat) (lv : a_L) (st : List a_V) (σ : a_S) : Option (List a_R) := match a_ld lv a with
    | some w => if a_knd w = v then some [(N, nx, lv, w :: st, σ)] else none
    | none => none
def a_h3 (N : a_N) (a : Nat) (v : Int) (nx : Nat) (lv : a_L) (st : List a_V) (σ : a_S) : Option (List a_R) := match st with
    | w :: r => if a_knd w = v then some [(N, nx, (if v = 1 then a_st2 lv a w else a_st1 lv a w), r, σ)] else none
    | [] => none
def a_h4 (N : a_N) (a : Nat) (v : Int) (nx : Nat) (lv : a_L) (st : List a_V) (σ : a_S) : Option (List a_R) := match a_ld lv a with
    | some w => match a_iv N w with
      | some q => if -2147483648 ≤ v ∧ v ≤ 2147483647 then (a_ib 0 q (v, v)).map fun z => [(N, nx, a_st1 lv a (0, z.1, z.2), st, σ)] else none
      | none => none
    | none => none
def a_h5 (N : a_N) (a : Nat) (nx : Nat) (lv : a_L) (st : List a_V) (σ : a_S) : Option (List a_R) := match st with
    | y :: x :: r => match a_iv N x, a_iv N y with
      | some p, some q => (a_ib a p q).map fun z => [(N, nx, lv, (0, z.1, z.2) :: r, σ)]
      | _, _ => none
    | _ => none
def a_h6 (N : a_N) (a : Nat) (nx : Nat) (lv : a_L) (st : List a_V) (σ : a_S) : Option (List a_R) := match st with
    | y :: x :: r => match a_ll N x, a_ll N y with
      | some p, some q => (a_lb a p q).map fun z => [(N, nx, lv, (1, z.1, z.2) :: r, σ)]
      | _, _ => none
    | _ => none
def a_h7 (N : a_N) (a : Nat) (nx : Nat) (lv : a_L) (st : List a_V) (σ : a_S) : Option (List a_R) := match st with
    | w :: r => (a_un N a w).map fun z => [(N, nx, lv, z :: r, σ)]
    | [] => none
def a_h8 (N : a_N) (nx : Nat) (lv : a_L) (st : List a_V) (σ : a_S) : Option (List a_R) := match st with
    | y :: x :: r => (a_lcm N x y).map fun z => [(N, nx, lv, z :: r, σ)]
    | _ => none
def a_h9 (N : a_N) (a : Nat) (nx : Nat) (lv : a_L) (st : List a_V) (σ : a_S) : Option (List a_R) := (a_stk a st).map fun r => [(N, nx, lv, r, σ)]
def a_h10 (N : a_N) (a : Nat) (lv : a_L) (st : List a_V) (σ : a_S) : Option (List a_R) := some [(N, a, lv, st, σ)]
def a_h11 (N : a_N) (a : Nat) (v : Int) (nx : Nat) (lv : a_L) (st : List a_V) (σ : a_S) : Option (List a_R) := match st with
    | x :: r => a_two (a_br1 N v x 0) (a_br1 N (a_ng v) x 0) (fun M => (M, a, lv, r, σ)) (fun M => (M, nx, lv, r, σ))
    | _ => none
def a_h12 (N : a_N) (a : Nat) (v : Int) (nx : Nat) (lv : a_L) (st : List a_V) (σ : a_S) : Option (List a_R) := match st with
    | y :: x :: r => a_two (a_cmp N v x y) (a_cmp N (a_ng v) x y) (fun M => (M, a, lv, r, σ)) (fun M => (M, nx, lv, r, σ))
    | _ => none
def a_h13 (N : a_N) (a : Nat) (v : Int) (l : List Nat) (lv : a_L) (st : List a_V) (σ : a_S) : Option (List a_R) := match st with
    | x :: r => match a_iv N x with
      | some q => if v < 0 then none else match a_br1 N 2 x v, a_br1 N 3 x (v + l.length) with
        | some u, some w => some ((u.map fun M => (M, a, lv, r, σ)) ++ ((w.map fun M => (M, a, lv, r, σ)) ++ a_tsw N x q lv r σ v.toNat l))
        | _, _ => none
      | none => none
    | _ => none
def a_h14 (N : a_N) (a : Nat) (l : List Nat) (lv : a_L) (st : List a_V) (σ : a_S) : Option (List a_R) := match st with
    | x :: r => match a_iv N x with
      | some _ => a_lsw a x lv r σ N l
      | none => none
    | _ => none
def a_h15 (B : List a_E) (N : a_N) (a : Nat) (v : Int) (nx : Nat) (lv : a_L) (st : List a_V) (σ : a_S) : Option (List a_R) := match st with
    | b :: r => if b.1 = 2 ∧ 0 ≤ b.2.1 then match a_at B σ (b.2.1.toNat) with
      | some (.inr (ci, fs)) => match fs[v.toNat]? with
        | some w => if ci = a then some [(N, nx, lv, w :: r, σ)] else none
        | none => none
      | _ => none else none
    | _ => none
def a_h16 (B : List a_E) (N : a_N) (a : Nat) (v : Int) (nx : Nat) (lv : a_L) (st : List a_V) (σ : a_S) : Option (List a_R) := match st with
    | w :: b :: r => if b.1 = 2 ∧ 0 ≤ b.2.1 then match a_at B σ (b.2.1.toNat) with
      | some (.inr (ci, fs)) => if ci = a ∧ v.toNat < fs.length ∧ a_fit (m_tyf ci v.toNat) w = true then some [(N, nx, lv, r, a_set σ b.2.1.toNat (.inr (ci, fs.set v.toNat w)))] else none
      | _ => none else none
    | _ => none
def a_h18 (B : List a_E) (af : a_Z) (N : a_N) (a : Nat) (pc : Nat) (nx : Nat) (lv : a_L) (st : List a_V) (σ : a_S) : Option (List a_R) := match st with
    | i :: b :: r => if (b.1 = 2 ∧ 0 ≤ b.2.1) ∧ b.2.1 < 1000000 then match a_iv N i with
      | some q => if a = 3 ∧ i.1 = 4 ∧ q.1 < q.2 ∧ q.2 ≤ q.1 + 8 then some ((a_cases N i.2.1.toNat q.1 (q.2 - q.1 + 1).toNat).map fun M => (M, pc, lv, st, σ))
        else (a_ald af B N a q b.2.1.toNat σ).map fun w => [(N, nx, lv, w :: r, σ)]
      | none => none else none
    | _ => none
def a_h19 (B : List a_E) (N : a_N) (a : Nat) (nx : Nat) (lv : a_L) (st : List a_V) (σ : a_S) : Option (List a_R) := match st with
    | w :: i :: b :: r => if b.1 = 2 ∧ 0 ≤ b.2.1 then match a_iv N i with
      | some q => (a_ast B N a w q b.2.1.toNat σ).map fun τ => [(N, nx, lv, r, τ)]
      | none => none else none
    | _ => none
def a_h20 (B : List a_E) (af : a_Z) (N : a_N) (a : Nat) (nx : Nat) (lv : a_L) (st : List a_V) (σ : a_S) : Option (List a_R) := match st with
    | b :: r => if (b.1 = 2 ∧ 0 ≤ b.2.1) ∧ b.2.1 < 1000000 ∧ a = 0 then match a_len af B b.2.1.toNat σ with
      | some q => if q.2 ≤ 2147483647 then some [(N, nx, lv, (0, q.1, q.2) :: r, σ)] else none
      | none => none else none
    | _ => none
def a_h21 (B : List a_E) (N : a_N) (a : Nat) (nx : Nat) (lv : a_L) (st : List a_V) (σ : a_S) : Option (List a_R) := if a_wf B lv st σ = true ∧ (List.range (m_nf a)).all (fun k => a_dok (m_tyf a k)) = true then some [(N, nx, lv, (2, (σ.1 : Int), 0) :: st, a_push σ (.inr (a, (List.range (m_nf a)).map (fun k => a_dv (m_tyf a k)))))] else none
def a_h22 (B : List a_E) (N : a_N) (a : Nat) (nx : Nat) (lv : a_L) (st : List a_V) (σ : a_S) : Option (List a_R) := match st with
    | x :: r => match a_iv N x with
      | some q => if a_wf B lv r σ = true ∧ q.1 = q.2 ∧ 0 ≤ q.1 ∧ q.1 ≤ 2000 then (a_newa a q.1.toNat).map fun z => [(N, nx, lv, (2, (σ.1 : Int), 0) :: r, a_push σ z)] else none
      | none => none
    | _ => none
def a_h25 (N : a_N) (nx : Nat) (lv : a_L) (st : List a_V) (σ : a_S) : Option (List a_R) := match st with
    | b :: r => if b.1 = 2 ∧ (r.map a_cat).sum ≤ 8 then some [(N, nx, lv, r, σ)] else none
    | _ => none
def a_h26 (B : List a_E) (N : a_N) (nx : Nat) (lv : a_L) (st : List a_V) (σ : a_S) : Option (List a_R) := match st with
    | n :: dp :: b1 :: sp :: b0 :: r => match a_iv N n, a_iv N dp, a_iv N sp with
      | some qn, some qd, some qs => if b1.1 = 2 ∧ 0 ≤ b1.2.1 ∧ b0.1 = 2 ∧ 0 ≤ b0.2.1 ∧ qn.1 = qn.2 ∧ 0 ≤ qn.1 ∧ qd.1 = qd.2 ∧ 0 ≤ qd.1 ∧ qs.1 = qs.2 ∧ 0 ≤ qs.1 ∧ (r.map a_cat).sum ≤ 8 then (a_acp B N qn.1.toNat qd.1.toNat b1.2.1.toNat qs.1.toNat b0.2.1.toNat σ).map fun τ => [(N, nx, lv, r, τ)] else none
      | _, _, _ => none
    | _ => none
def a_h28 (N : a_N) (a : Nat) (nx : Nat) (lv : a_L) (st : List a_V) (σ : a_S) : Option (List a_R) := match st with
    | y :: x :: r => match a_ll N x, a_iv N y with
      | some p, some q => (a_lsh a p q).map fun z => [(N, nx, lv, (1, z.1, z.2) :: r, σ)]
      | _, _ => none
    | _ => none
def a_loc (af : a_Z) (B : List a_E) (N : a_N) (I : m_I) (pc nx : Nat) (lv : a_L) (st : List a_V) (σ : a_S) : Option (List a_R) :=
  bif Nat.ble I.1 28 then (bif Nat.ble I.1 14 then (bif Nat.ble I.1 7 then (bif Nat.ble I.1 3 then (bif Nat.ble I.1 1 then (bif Nat.ble I.1 0 then a_h0 N I.2.2.1 nx lv st σ else a_h1 N I.2.2.1 nx lv st σ) else (bif Nat.ble I.1 2 then a_h2 N I.2.1 I.2.2.1 nx lv st σ else a_h3 N I.2.1 I.2.2.1 nx lv st σ)) else (bif Nat.ble I.1 5 then (bif Nat.ble I.1 4 then a_h4 N I.2.1 I.2.2.1 nx lv st σ else a_h5 N I.2.1 nx lv st σ) else (bif Nat.ble I.1 6 then a_h6 N I.2.1 nx lv st σ else a_h7 N I.2.1 nx lv st σ))) else (bif Nat.ble I.1 11 then (bif Nat.ble I.1 9 then (bif Nat.ble I.1 8 then a_h8 N nx lv st σ else a_h9 N I.2.1 nx lv st σ) else (bif Nat.ble I.1 10 then a_h10 N I.2.1 lv st σ else a_h11 N I.2.1 I.2.2.1 nx lv st σ)) else (bif Nat.ble I.1 13 then (bif Nat.ble I.1 12 then a_h12 N I.2.1 I.2.2.1 nx lv st σ else a_h13 N I.2.1 I.2.2.1 I.2.2.2 lv st σ) else a_h14 N I.2.1 I.2.2.2 lv st σ))) else (bif Nat.ble I.1 21 then (bif Nat.ble I.1 18 then (bif Nat.ble I.1 16 then (bif Nat.ble I.1 15 then a_h15 B N I.2.1 I.2.2.1 nx lv st σ else a_h16 B N I.2.1 I.2.2.1 nx lv st σ) else (bif Nat.ble I.1 17 then none else a_h18 B af N I.2.1 pc nx lv st σ)) else (bif Nat.ble I.1 20 then (bif Nat.ble I.1 19 then a_h19 B N I.2.1 nx lv st σ else a_h20 B af N I.2.1 nx lv st σ) else a_h21 B N I.2.1 nx lv st σ)) else (bif Nat.ble I.1 25 then (bif Nat.ble I.1 23 then (bif Nat.ble I.1 22 then a_h22 B N I.2.1 nx lv st σ else none) else (bif Nat.ble I.1 24 then none else a_h25 N nx lv st σ)) else (bif Nat.ble I.1 27 then (bif Nat.ble I.1 26 then a_h26 B N nx lv st σ else none) else a_h28 N I.2.1 nx lv st σ)))) else none

/-! THE SMALL MACHINE: cells by their places, instructions as numbers; what the kit's rows say of the real one, said once for all programs -/
abbrev m_E : Type := (Nat × (List Int32 ⊕ (List Int64 ⊕ List (Option Nat)))) ⊕ (Nat × List Value)
abbrev m_S : Type := List m_E
abbrev m_V : Type := List (Nat × Value)
abbrev m_I : Type := Nat × Nat × Int × List Nat
abbrev m_O : Type := (Nat × m_V × List Value × m_S) ⊕ (Option Value ⊕ (Nat × List Value × List Value))
abbrev m_fzb : Nat := 1000000
def m_k (v : Value) : Int := match v with
  | .int _ => 0
  | .long _ => 1
  | .ref _ => 2
  | _ => 3
def m_ld (lv : m_V) (i : Nat) : Option Value := (lv.find? (fun q => q.1 == i)).map (fun q => q.2)
def m_st1 (lv : m_V) (i : Nat) (v : Value) : m_V := (i, v) :: lv.filter (fun q => !(q.1 == i) && !(q.1 + 1 == i && q.2.category == 2))
def m_st2 (lv : m_V) (i : Nat) (v : Value) : m_V := (i, v) :: lv.filter (fun q => !(q.1 == i) && (!(q.1 == i + 1) && !(q.1 + 1 == i && q.2.category == 2)))
def m_ib (k : Nat) (x y : Int32) : Option Int32 := match k with
  | 0 => some (x + y)
  | 1 => some (x - y)
  | 2 => some (x * y)
  | 3 => some (x &&& y)
  | 4 => some (x ||| y)
  | 5 => some (x ^^^ y)
  | 6 => some (x <<< (y &&& 31))
  | 7 => some (x >>> (y &&& 31))
  | 8 => some ((x.toUInt32 >>> (y.toUInt32 &&& Int32.toUInt32 31)).toInt32)
  | 9 => if y = 0 then none else some (x / y)
  | 10 => if y = 0 then none else some (x - x / y * y)
  | _ => none
def m_lb (k : Nat) (x y : Int64) : Option Int64 := match k with
  | 0 => some (x + y)
  | 1 => some (x - y)
  | 2 => some (x * y)
  | 3 => some (x &&& y)
  | 4 => some (x ||| y)
  | 5 => if y = 0 then none else some (x / y)
  | 6 => if y = 0 then none else some (x - x / y * y)
  | _ => none
def m_lsh (k : Nat) (x : Int64) (y : Int32) : Option Int64 := match k with
  | 0 => some (x <<< (y.toInt64 &&& 63))
  | 1 => some (x >>> (y.toInt64 &&& 63))
  | _ => none
def m_un (k : Nat) (v : Value) : Option Value := match k, v with
  | 0, .int x => some (.int (-x))
  | 1, .int x => some (.long x.toInt64)
  | 2, .long x => some (.int x.toInt32)
  | 3, .int x => some (.int x.toInt8.toInt32)
  | 4, .int x => some (.int x.toInt16.toInt32)
  | 5, .long x => some (.long (-x))
  | _, _ => none
def m_stk (k : Nat) (st : List Value) : Option (List Value) := match k, st with
  | 0, a :: r => if a.category = 1 then some r else none
  | 1, a :: r => if a.category = 2 then some r else none
  | 2, a :: r => if a.category = 1 then some (a :: a :: r) else none
  | 3, a :: b :: r => if a.category = 1 ∧ b.category = 1 then some (a :: b :: a :: b :: r) else none
  | _, _ => none
def m_cd (k : Int) (x y : Int32) : Bool := match k with
  | 0 => decide (x = y)
  | 1 => decide (¬ x = y)
  | 2 => decide (x < y)
  | 3 => decide (y ≤ x)
  | 4 => decide (y < x)
  | _ => decide (x ≤ y)
def m_tsw (d : Nat) (lo : Int) (l : List Nat) (x : Int) : Nat := if x < lo then d else (l[(x - lo).toNat]?).getD d
def m_lsw (d : Nat) (l : List Nat) (x : Int) : Nat := match l with
  | k :: t :: r => if (k : Int) = x then t else m_lsw d r x
  | _ => d
def m_in (i : Int32) (n : Nat) : Bool := decide (0 ≤ i.toInt ∧ i.toInt < n)
def m_fit (ty : FieldType) (v : Value) : Bool := match ty, v with
  | .int, .int _ => true
  | .long, .long _ => true
  | .object _, .ref _ => true
  | .array _, .ref _ => true
  | _, _ => false
def m_ald (fz : List (List Int32)) (a : Nat) (i : Int32) (b : Nat) (σ : m_S) : Option Value :=
  if m_fzb ≤ b then match fz[b - m_fzb]? with
    | some xs => if (a = 0 ∧ m_in i xs.length = true) ∧ b < m_fzb + 2 then some (.int (xs.getD i.toNatClampNeg 0)) else none
    | none => none
  else match σ[b]? with
    | some (.inl (t, .inl xs)) => if (a = 0 ∧ t = 0 ∨ a = 1 ∧ (t = 1 ∨ t = 2)) ∧ m_in i xs.length = true then some (.int (xs.getD i.toNatClampNeg 0)) else none
    | some (.inl (t, .inr (.inl xs))) => if a = 2 ∧ t = 3 ∧ m_in i xs.length = true then some (.long (xs.getD i.toNatClampNeg 0)) else none
    | some (.inl (t, .inr (.inr xs))) => if a = 3 ∧ t = 4 ∧ m_in i xs.length = true then some (va_rf (xs.getD i.toNatClampNeg none)) else none
    | _ => none
def m_ast (a : Nat) (w : Value) (i : Int32) (b : Nat) (σ : m_S) : Option m_S :=
  match σ[b]?, w with
    | some (.inl (t, .inl xs)), .int x => if m_in i xs.length = true then (if a = 0 ∧ t = 0 then some (σ.set b (.inl (t, .inl (xs.set i.toNatClampNeg x)))) else if a = 1 ∧ t = 1 then some (σ.set b (.inl (t, .inl (xs.set i.toNatClampNeg (vp_nar .byte x))))) else if a = 1 ∧ t = 2 then some (σ.set b (.inl (t, .inl (xs.set i.toNatClampNeg (vp_nar .boolean x))))) else none) else none
    | some (.inl (t, .inr (.inl xs))), .long x => if a = 2 ∧ t = 3 ∧ m_in i xs.length = true then some (σ.set b (.inl (t, .inr (.inl (xs.set i.toNatClampNeg x))))) else none
    | some (.inl (t, .inr (.inr xs))), .ref r => match σ[r]? with
      | some (.inr (ci, _)) => if ci = 1 ∧ a = 3 ∧ t = 4 ∧ m_in i xs.length = true then some (σ.set b (.inl (t, .inr (.inr (xs.set i.toNatClampNeg (some r)))))) else none
      | _ => none
    | _, _ => none
def m_len (fz : List (List Int32)) (b : Nat) (σ : m_S) : Option Nat :=
  if m_fzb ≤ b then (fz[b - m_fzb]?).map List.length
  else match σ[b]? with
    | some (.inl (t, .inl xs)) => if t < 3 then some xs.length else none
    | some (.inl (t, .inr (.inl xs))) => if t = 3 then some xs.length else none
    | some (.inl (t, .inr (.inr xs))) => if t = 4 then some xs.length else none
    | _ => none
/-- length of a row (a = 0), of a text (a = 1) -/
def m_lok (a b : Nat) (r : List Value) : Bool := (Nat.beq a 0 && Nat.blt b (m_fzb + 2)) || (Nat.beq a 1 && (Nat.ble (m_fzb + 2) b && Nat.ble ((r.map fun v => v.category).sum) 8))
def m_okv (n : Nat) (v : Value) : Bool := match v with
  | .ref k => decide (k < n) || decide (m_fzb ≤ k)
  | _ => true
def m_oke (n : Nat) (e : m_E) : Bool := match e with
  | .inl (_, .inr (.inr xs)) => xs.all (fun r => match r with
    | some k => decide (k < n) || decide (m_fzb ≤ k)
    | none => true)
  | .inl _ => true
  | .inr (_, fs) => fs.all (m_okv n)
def m_okl (n : Nat) (lv : m_V) : Bool := lv.all (fun q => m_okv n q.2)
def m_wf (lv : m_V) (st : List Value) (σ : m_S) : Bool := decide (σ.length < m_fzb) && m_okl σ.length lv && st.all (m_okv σ.length) && σ.all (m_oke σ.length)
def m_cpy {α : Type} (d : α) (xs ys : List α) (sp dp n : Nat) : List α := (List.range ys.length).map (fun k => va_cpy (fun j => xs.getD j d) (fun j => ys.getD j d) sp dp n k)
def m_acp (n dp b1 sp b0 : Nat) (σ : m_S) : Option m_S := match σ[b0]?, σ[b1]? with
  | some (.inl (t, .inl xs)), some (.inl (t', .inl ys)) => if t = 0 ∧ t' = 0 ∧ sp + n ≤ xs.length ∧ dp + n ≤ ys.length then some (σ.set b1 (.inl (t', .inl (m_cpy 0 xs ys sp dp n)))) else none
  | some (.inl (t, .inr (.inl xs))), some (.inl (t', .inr (.inl ys))) => if t = 3 ∧ t' = 3 ∧ sp + n ≤ xs.length ∧ dp + n ≤ ys.length then some (σ.set b1 (.inl (t', .inr (.inl (m_cpy 0 xs ys sp dp n))))) else none
  | _, _ => none
def m_new (t n : Nat) : Option m_E := match t with
  | 0 => some (.inl (0, .inl (List.replicate n 0)))
  | 1 => some (.inl (1, .inl (List.replicate n 0)))
  | 2 => some (.inl (2, .inl (List.replicate n 0)))
  | 3 => some (.inl (3, .inr (.inl (List.replicate n 0))))
  | 4 => some (.inl (4, .inr (.inr (List.replicate n none))))
  | _ => none
def m_def (a : Nat) : List Value := (List.range (m_nf a)).map (fun k => defaultValue (m_tyf a k))
def m_step (fz : List (List Int32)) (I : m_I) (nx : Nat) (lv : m_V) (st : List Value) (σ : m_S) : Option m_O :=
  match I.1 with
  | 0 => some (.inl (nx, lv, .int (Int32.ofInt I.2.2.1) :: st, σ))
  | 1 => some (.inl (nx, lv, .long (Int64.ofInt I.2.2.1) :: st, σ))
  | 2 => match m_ld lv I.2.1 with
    | some w => if m_k w = I.2.2.1 then some (.inl (nx, lv, w :: st, σ)) else none
    | none => none
  | 3 => match st with
    | w :: r => if m_k w = I.2.2.1 then some (.inl (nx, (if I.2.2.1 = 1 then m_st2 lv I.2.1 w else m_st1 lv I.2.1 w), r, σ)) else none
    | [] => none
  | 4 => match m_ld lv I.2.1 with
    | some (.int x) => some (.inl (nx, m_st1 lv I.2.1 (.int (x + Int32.ofInt I.2.2.1)), st, σ))
    | _ => none
  | 5 => match st with
    | .int y :: .int x :: r => (m_ib I.2.1 x y).map fun z => .inl (nx, lv, .int z :: r, σ)
    | _ => none
  | 6 => match st with
    | .long y :: .long x :: r => (m_lb I.2.1 x y).map fun z => .inl (nx, lv, .long z :: r, σ)
    | _ => none
  | 7 => match st with
    | w :: r => (m_un I.2.1 w).map fun z => .inl (nx, lv, z :: r, σ)
    | [] => none
  | 8 => match st with
    | .long y :: .long x :: r => some (.inl (nx, lv, .int (lg_cmp x y) :: r, σ))
    | _ => none
  | 9 => (m_stk I.2.1 st).map fun r => .inl (nx, lv, r, σ)
  | 10 => some (.inl (I.2.1, lv, st, σ))
  | 11 => match st with
    | .int x :: r => some (.inl (if m_cd I.2.2.1 x 0 = true then I.2.1 else nx, lv, r, σ))
    | _ => none
  | 12 => match st with
    | .int y :: .int x :: r => some (.inl (if m_cd I.2.2.1 x y = true then I.2.1 else nx, lv, r, σ))
    | _ => none
  | 13 => match st with
    | .int x :: r => some (.inl (m_tsw I.2.1 I.2.2.1 I.2.2.2 x.toInt, lv, r, σ))
    | _ => none
  | 14 => match st with
    | .int x :: r => some (.inl (m_lsw I.2.1 I.2.2.2 x.toInt, lv, r, σ))
    | _ => none
  | 15 => match st with
    | .ref b :: r => match σ[b]? with
      | some (.inr (ci, fs)) => match fs[I.2.2.1.toNat]? with
        | some w => if ci = I.2.1 then some (.inl (nx, lv, w :: r, σ)) else none
        | none => none
      | _ => none
    | _ => none
  | 16 => match st with
    | w :: .ref b :: r => match σ[b]? with
      | some (.inr (ci, fs)) => if ci = I.2.1 ∧ I.2.2.1.toNat < fs.length ∧ m_fit (m_tyf ci I.2.2.1.toNat) w = true then some (.inl (nx, lv, r, σ.set b (.inr (ci, fs.set I.2.2.1.toNat w)))) else none
      | _ => none
    | _ => none
  | 18 => match st with
    | .int i :: .ref b :: r => (m_ald fz I.2.1 i b σ).map fun w => .inl (nx, lv, w :: r, σ)
    | _ => none
  | 19 => match st with
    | w :: .int i :: .ref b :: r => (m_ast I.2.1 w i b σ).map fun τ => .inl (nx, lv, r, τ)
    | _ => none
  | 20 => match st with
    | .ref b :: r => if m_lok I.2.1 b r = true then (m_len fz b σ).map fun k => .inl (nx, lv, .int (Int32.ofNat k) :: r, σ) else none
    | _ => none
  | 21 => if m_wf lv st σ = true then some (.inl (nx, lv, .ref σ.length :: st, σ ++ [.inr (I.2.1, m_def I.2.1)])) else none
  | 22 => match st with
    | .int x :: r => if m_wf lv r σ = true ∧ 0 ≤ x.toInt ∧ x.toInt ≤ 2000 then (m_new I.2.1 x.toNatClampNeg).map fun e => .inl (nx, lv, .ref σ.length :: r, σ ++ [e]) else none
    | _ => none
  | 24 => if I.2.2.1 = 2 ∨ I.2.2.1 = 5 then (if I.2.2.2.getD 0 0 ≤ st.length then some (.inr (.inr (I.2.1, (st.take (I.2.2.2.getD 0 0)).reverse, st.drop (I.2.2.2.getD 0 0)))) else none)
    else match st.drop (I.2.2.2.getD 0 0) with
      | .ref b :: r => match σ[b]? with
        | some (.inr (ci, _)) => if ci = I.2.2.2.getD 2 0 then some (.inr (.inr (I.2.1, .ref b :: (st.take (I.2.2.2.getD 0 0)).reverse, r))) else none
        | _ => none
      | _ => none
  | 25 => match st with
    | .ref _ :: r => if (r.map fun v => v.category).sum ≤ 8 then some (.inl (nx, lv, r, σ)) else none
    | _ => none
  | 26 => match st with
    | .int n :: .int dp :: .ref b1 :: .int sp :: .ref b0 :: r => if 0 ≤ n.toInt ∧ 0 ≤ dp.toInt ∧ 0 ≤ sp.toInt ∧ (r.map fun v => v.category).sum ≤ 8 then (m_acp n.toNatClampNeg dp.toNatClampNeg b1 sp.toNatClampNeg b0 σ).map fun τ => .inl (nx, lv, r, τ) else none
    | _ => none
  | 27 => match I.2.1, st with
    | 0, [.int x] => some (.inr (.inl (some (.int x))))
    | 1, [.long x] => some (.inr (.inl (some (.long x))))
    | 2, [] => some (.inr (.inl none))
    | 3, [.int x] => if x = 0 ∨ x = 1 then some (.inr (.inl (some (.int x)))) else none
    | _, _ => none
  | 28 => match st with
    | .int y :: .long x :: r => (m_lsh I.2.1 x y).map fun z => .inl (nx, lv, .long z :: r, σ)
    | _ => none
  | 40 => if (st.map fun v => v.category).sum ≤ 12 then (match st with
    | .int y :: .int x :: r => if I.2.1 = 0 then some (.inl (nx, lv, .int (if x < y then y else x) :: r, σ)) else if I.2.1 = 1 then some (.inl (nx, lv, .int (if y < x then y else x) :: r, σ)) else none
    | .long y :: r => if I.2.1 = 6 then some (.inl (nx, lv, .long (if 0 < y then y else -y) :: r, σ)) else match r with
      | .long x :: q => if I.2.1 = 4 then some (.inl (nx, lv, .long (if y < x then x else y) :: q, σ)) else none
      | _ => none
    | _ => none) else none
  | 41 => some (.inl (nx, lv, .ref (m_fzb + I.2.1) :: st, σ))
  | 43 => match st with
    | .int i :: .ref b :: r => if m_fzb + 2 ≤ b ∧ (r.map fun v => v.category).sum ≤ 8 then (match fz[b - m_fzb]? with
      | some xs => if m_in i xs.length = true then some (.inl (nx, lv, .int (xs.getD i.toNatClampNeg 0) :: r, σ)) else none
      | none => none) else none
    | _ => none
  | _ => none
def m_callOk (I : m_I) (lv : m_V) (as rest : List Value) (σ : m_S) : Bool := decide (σ.length < m_fzb) && m_okl σ.length lv && rest.all (m_okv σ.length) && decide ((rest.map fun v => v.category).sum ≤ 8) && decide ((as.map fun v => v.category).sum ≤ I.2.2.2.getD 1 0)
def m_exec (F : Nat → Nat → Option (m_I × Nat)) (fz : List (List Int32)) : Nat → Nat → Nat → Nat → m_V → List Value → m_S → Option (Option Value × m_S)
  | 0, _, _, _, _, _, _ => none
  | n + 1, d, mid, pc, lv, st, σ => match F mid pc with
    | none => none
    | some (I, len) => match m_step fz I (pc + len) lv st σ with
      | none => none
      | some (.inl (pc', lv', st', σ')) => m_exec F fz n d mid pc' lv' st' σ'
      | some (.inr (.inl r)) => some (r, σ)
      | some (.inr (.inr (mid', as, rest))) => match d with
        | 0 => none
        | d' + 1 => if m_callOk I lv as rest σ = true then match m_exec F fz n d' mid' 0 (lv_args 0 as) [] σ with
            | none => none
            | some (r, σ') => m_exec F fz n (d' + 1) mid (pc + len) lv (r.toList ++ rest) σ'
          else none

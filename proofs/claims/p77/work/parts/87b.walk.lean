/-! THE WALK over bounds -/
def a_args : Nat → List a_V → a_L
  | _, [] => []
  | i, v :: vs => (i, v) :: a_args (if a_cat v = 2 then i + 2 else i + 1) vs
def a_callOk (I : m_I) (lv : a_L) (as rest : List a_V) (σ : a_S) : Bool := decide (σ.1 < m_fzb) && a_okl σ.1 lv && rest.all (a_okv σ.1) && decide ((rest.map a_cat).sum ≤ 8) && decide ((as.map a_cat).sum ≤ I.2.2.2.getD 1 0)
def a_cl (B : List a_E) (I : m_I) (st : List a_V) (σ : a_S) : Option (List a_V × List a_V) :=
  if I.2.2.1 = 2 ∨ I.2.2.1 = 5 then (if I.2.2.2.getD 0 0 ≤ st.length then some ((st.take (I.2.2.2.getD 0 0)).reverse, st.drop (I.2.2.2.getD 0 0)) else none)
  else match st.drop (I.2.2.2.getD 0 0) with
    | b :: r => if b.1 = 2 ∧ 0 ≤ b.2.1 then match a_at B σ b.2.1.toNat with
      | some (.inr (ci, _)) => if ci = I.2.2.2.getD 2 0 then some (b :: (st.take (I.2.2.2.getD 0 0)).reverse, r) else none
      | _ => none else none
    | _ => none
def a_rt (N : a_N) (k : Nat) (st : List a_V) : Option (Option a_V) := match k, st with
  | 0, [v] => if a_knd v = 0 then some (some v) else none
  | 1, [v] => if a_knd v = 1 then some (some v) else none
  | 2, [] => some none
  | 3, [v] => match a_iv N v with
    | some q => if 0 ≤ q.1 ∧ q.2 ≤ 1 then some (some v) else none
    | none => none
  | _, _ => none
def a_nx24 (B : List a_E) (N : a_N) (σ : a_S) (I : m_I) (mid nx : Nat) (lv : a_L) (st : List a_V) (gs : List a_F) : Option (List a_Q ⊕ (Option a_V × a_N × a_S)) := match a_cl B I st σ with
  | some (as, rest) => if a_callOk I lv as rest σ = true ∧ gs.length < 60 then some (.inl [(N, (I.2.1, 0, a_args 0 as, []) :: (mid, nx, lv, rest) :: gs, σ)]) else none
  | none => none
def a_nx27 (N : a_N) (σ : a_S) (k : Nat) (st : List a_V) (gs : List a_F) : Option (List a_Q ⊕ (Option a_V × a_N × a_S)) := match a_rt N k st with
  | some r => match gs with
    | [] => some (.inr (r, N, σ))
    | (m2, p2, l2, s2) :: hs => some (.inl [(N, (m2, p2, l2, r.toList ++ s2) :: hs, σ)])
  | none => none
def a_back (mid : Nat) (gs : List a_F) (r : a_R) : a_Q := (r.1, (mid, r.2.1, r.2.2.1, r.2.2.2.1) :: gs, r.2.2.2.2)
def a_nx (af : a_Z) (B : List a_E) (N : a_N) (σ : a_S) (I : m_I) (mid pc nx : Nat) (lv : a_L) (st : List a_V) (gs : List a_F) : Option (List a_Q ⊕ (Option a_V × a_N × a_S)) := match a_loc af B N I pc nx lv st σ with
  | some L => some (.inl (L.map (a_back mid gs)))
  | none => none
def a_next (F : Nat → Nat → Option (m_I × Nat)) (af : a_Z) (B : List a_E) (Q : a_Q) : Option (List a_Q ⊕ (Option a_V × a_N × a_S)) := match Q.2.1 with
  | [] => none
  | (mid, pc, lv, st) :: gs => match F mid pc with
    | none => none
    | some (I, len) => bif Nat.beq I.1 24 then a_nx24 B Q.1 Q.2.2 I mid (pc + len) lv st gs else bif Nat.beq I.1 27 then a_nx27 Q.1 Q.2.2 I.2.1 st gs else a_nx af B Q.1 Q.2.2 I mid pc (pc + len) lv st gs
/-- 'G': states that are known to be good -/
noncomputable def a_ok (F : Nat → Nat → Option (m_I × Nat)) (af : a_Z) (B : List a_E) (G : a_Q → Bool) (fin : Option a_V → a_N → a_S → Bool) (n : Nat) : a_Q → Bool :=
  Nat.rec (motive := fun _ => a_Q → Bool) (fun _ => false) (fun _ ih Q => bif G Q then true else match a_next F af B Q with
    | none => false
    | some (.inl L) => L.all ih
    | some (.inr (v, N, S)) => fin v N S) n
def a_one (v : Option a_V) (N : a_N) (S : a_S) : Bool := match v with
  | some w => match a_iv N w with
    | some q => decide (q.1 = 1) && decide (q.2 = 1) && Nat.ble S.1 3000
    | none => false
  | none => false
def a_noG (_ : a_Q) : Bool := false

def m_ck1 (k : Nat) (q : Nat × (m_I × Nat)) : Bool := match m_me k with
  | some (y, b, n, r) => match decode b q.1 with
    | .ok (ins, len) => decide (len = q.2.2) && decide (m_tri y n r q.1 ins len = some q.2.1)
    | .error _ => false
  | none => false
abbrev m_T : Type := List (List (Nat × (m_I × Nat)))

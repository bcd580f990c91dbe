def m_ck1 (k : Nat) (q : Nat × (m_I × Nat)) : Bool := match m_me k with
  | some (y, b, n, r) => match decode b q.1 with
    | .ok (ins, len) => decide (len = q.2.2) && decide (m_tri y n r q.1 ins len = some q.2.1)
    | .error _ => false
  | none => false
def x_ck (k p : Nat) (o : Option (m_I × Nat)) : Bool := match o with
  | some q => m_ck1 k (p, q)
  | none => true
def x_good (m p : Nat) (o : Option (m_I × Nat)) : Prop := ∀ q, o = some q → m_ck1 m (p, q) = true
theorem x_gn {m p : Nat} : x_good m p none := fun _ h => nomatch h
theorem x_b {c : Bool} {x y : Option (m_I × Nat)} {m p : Nat} (h1 : c = true → x_good m p x) (h2 : c = false → x_good m p y) : x_good m p (bif c then x else y) := by
  cases c with
  | true => exact h1 rfl
  | false => exact h2 rfl
theorem x_ckg {m k p : Nat} {o : Option (m_I × Nat)} (hm : Nat.beq m k = true) (h : x_ck k p o = true) : x_good m p o := by
  intro q hq
  rw [hq] at h
  rw [Nat.eq_of_beq_eq_true hm]
  exact h
theorem x_gk {k n : Nat} {f : Nat → Option (m_I × Nat)} (h0 : ∀ p, Nat.blt p n = false → f p = none) (ho : (List.range n).all (fun p => x_ck k p (f p)) = true) {m p : Nat} (hm : Nat.beq m k = true) : x_good m p (f p) := by
  by_cases hp : p < n
  · exact x_ckg hm (List.all_eq_true.mp ho p (List.mem_range.mpr hp))
  · rw [h0 p (by
      cases e : Nat.blt p n with
      | true => exact absurd (Nat.blt_eq.mp e) hp
      | false => rfl)]
    exact x_gn
theorem x_gL {k n J : Nat} {f : Nat → Option (m_I × Nat)} (h0 : ∀ p, Nat.blt p n = false → f p = none) (hJ : n ≤ 40 * J) (ho : ∀ j, j < J → (List.range 40).all (fun r => x_ck k (40 * j + r) (f (40 * j + r))) = true) {m p : Nat} (hm : Nat.beq m k = true) : x_good m p (f p) := by
  by_cases hp : p < n
  · have h1 := List.all_eq_true.mp (ho (p / 40) (by omega)) (p % 40) (List.mem_range.mpr (by omega))
    have e : 40 * (p / 40) + p % 40 = p := by omega
    rw [e] at h1
    exact x_ckg hm h1
  · rw [h0 p (by
      cases e : Nat.blt p n with
      | true => exact absurd (Nat.blt_eq.mp e) hp
      | false => rfl)]
    exact x_gn
set_option maxRecDepth 100000 in
theorem x_o0 : (List.range 151).all (fun p => x_ck 0 p (x_c0 p)) = true := by decide +kernel
theorem x_g0 {m p : Nat} : Nat.beq m 0 = true → x_good m p (x_c0 p) := x_gk (n := 151) (fun p h => by unfold x_c0; rw [h]; rfl) x_o0
set_option maxRecDepth 100000 in
theorem x_o1 : (List.range 30).all (fun p => x_ck 1 p (x_c1 p)) = true := by decide +kernel
theorem x_g1 {m p : Nat} : Nat.beq m 1 = true → x_good m p (x_c1 p) := x_gk (n := 30) (fun p h => by unfold x_c1; rw [h]; rfl) x_o1
set_option maxRecDepth 100000 in
theorem x_o2 : (List.range 77).all (fun p => x_ck 2 p (x_c2 p)) = true := by decide +kernel
theorem x_g2 {m p : Nat} : Nat.beq m 2 = true → x_good m p (x_c2 p) := x_gk (n := 77) (fun p h => by unfold x_c2; rw [h]; rfl) x_o2
set_option maxRecDepth 100000 in
theorem x_o3 : (List.range 138).all (fun p => x_ck 3 p (x_c3 p)) = true := by decide +kernel
theorem x_g3 {m p : Nat} : Nat.beq m 3 = true → x_good m p (x_c3 p) := x_gk (n := 138) (fun p h => by unfold x_c3; rw [h]; rfl) x_o3
set_option maxRecDepth 100000 in
theorem x_o4 : (List.range 17).all (fun p => x_ck 4 p (x_c4 p)) = true := by decide +kernel
theorem x_g4 {m p : Nat} : Nat.beq m 4 = true → x_good m p (x_c4 p) := x_gk (n := 17) (fun p h => by unfold x_c4; rw [h]; rfl) x_o4
set_option maxRecDepth 100000 in
theorem x_o5 : (List.range 61).all (fun p => x_ck 5 p (x_c5 p)) = true := by decide +kernel
theorem x_g5 {m p : Nat} : Nat.beq m 5 = true → x_good m p (x_c5 p) := x_gk (n := 61) (fun p h => by unfold x_c5; rw [h]; rfl) x_o5
set_option maxRecDepth 100000 in
theorem x_o6 : (List.range 10).all (fun p => x_ck 6 p (x_c6 p)) = true := by decide +kernel
theorem x_g6 {m p : Nat} : Nat.beq m 6 = true → x_good m p (x_c6 p) := x_gk (n := 10) (fun p h => by unfold x_c6; rw [h]; rfl) x_o6
set_option maxRecDepth 100000 in
theorem x_o7 : (List.range 44).all (fun p => x_ck 7 p (x_c7 p)) = true := by decide +kernel
theorem x_g7 {m p : Nat} : Nat.beq m 7 = true → x_good m p (x_c7 p) := x_gk (n := 44) (fun p h => by unfold x_c7; rw [h]; rfl) x_o7
set_option maxRecDepth 100000 in
theorem x_o8 : (List.range 32).all (fun p => x_ck 8 p (x_c8 p)) = true := by decide +kernel
theorem x_g8 {m p : Nat} : Nat.beq m 8 = true → x_good m p (x_c8 p) := x_gk (n := 32) (fun p h => by unfold x_c8; rw [h]; rfl) x_o8
set_option maxRecDepth 100000 in
theorem x_o9 : (List.range 21).all (fun p => x_ck 9 p (x_c9 p)) = true := by decide +kernel
theorem x_g9 {m p : Nat} : Nat.beq m 9 = true → x_good m p (x_c9 p) := x_gk (n := 21) (fun p h => by unfold x_c9; rw [h]; rfl) x_o9
set_option maxRecDepth 100000 in
theorem x_o10 : (List.range 62).all (fun p => x_ck 10 p (x_c10 p)) = true := by decide +kernel
theorem x_g10 {m p : Nat} : Nat.beq m 10 = true → x_good m p (x_c10 p) := x_gk (n := 62) (fun p h => by unfold x_c10; rw [h]; rfl) x_o10
set_option maxRecDepth 100000 in
theorem x_o11 : (List.range 19).all (fun p => x_ck 11 p (x_c11 p)) = true := by decide +kernel
theorem x_g11 {m p : Nat} : Nat.beq m 11 = true → x_good m p (x_c11 p) := x_gk (n := 19) (fun p h => by unfold x_c11; rw [h]; rfl) x_o11
set_option maxRecDepth 100000 in
theorem x_o12 : (List.range 47).all (fun p => x_ck 12 p (x_c12 p)) = true := by decide +kernel
theorem x_g12 {m p : Nat} : Nat.beq m 12 = true → x_good m p (x_c12 p) := x_gk (n := 47) (fun p h => by unfold x_c12; rw [h]; rfl) x_o12
set_option maxRecDepth 100000 in
theorem x_o13 : (List.range 27).all (fun p => x_ck 13 p (x_c13 p)) = true := by decide +kernel
theorem x_g13 {m p : Nat} : Nat.beq m 13 = true → x_good m p (x_c13 p) := x_gk (n := 27) (fun p h => by unfold x_c13; rw [h]; rfl) x_o13
set_option maxRecDepth 100000 in
theorem x_o14 : (List.range 47).all (fun p => x_ck 14 p (x_c14 p)) = true := by decide +kernel
theorem x_g14 {m p : Nat} : Nat.beq m 14 = true → x_good m p (x_c14 p) := x_gk (n := 47) (fun p h => by unfold x_c14; rw [h]; rfl) x_o14
set_option maxRecDepth 100000 in
theorem x_o15 : (List.range 72).all (fun p => x_ck 15 p (x_c15 p)) = true := by decide +kernel
theorem x_g15 {m p : Nat} : Nat.beq m 15 = true → x_good m p (x_c15 p) := x_gk (n := 72) (fun p h => by unfold x_c15; rw [h]; rfl) x_o15
set_option maxRecDepth 100000 in
theorem x_o16 : (List.range 49).all (fun p => x_ck 16 p (x_c16 p)) = true := by decide +kernel
theorem x_g16 {m p : Nat} : Nat.beq m 16 = true → x_good m p (x_c16 p) := x_gk (n := 49) (fun p h => by unfold x_c16; rw [h]; rfl) x_o16
set_option maxRecDepth 100000 in
theorem x_o17 : (List.range 21).all (fun p => x_ck 17 p (x_c17 p)) = true := by decide +kernel
theorem x_g17 {m p : Nat} : Nat.beq m 17 = true → x_good m p (x_c17 p) := x_gk (n := 21) (fun p h => by unfold x_c17; rw [h]; rfl) x_o17
set_option maxRecDepth 100000 in
theorem x_o18 : (List.range 147).all (fun p => x_ck 18 p (x_c18 p)) = true := by decide +kernel
theorem x_g18 {m p : Nat} : Nat.beq m 18 = true → x_good m p (x_c18 p) := x_gk (n := 147) (fun p h => by unfold x_c18; rw [h]; rfl) x_o18
set_option maxRecDepth 100000 in
theorem x_o19 : (List.range 18).all (fun p => x_ck 19 p (x_c19 p)) = true := by decide +kernel
theorem x_g19 {m p : Nat} : Nat.beq m 19 = true → x_good m p (x_c19 p) := x_gk (n := 18) (fun p h => by unfold x_c19; rw [h]; rfl) x_o19
set_option maxRecDepth 100000 in
theorem x_o20 : (List.range 18).all (fun p => x_ck 20 p (x_c20 p)) = true := by decide +kernel
theorem x_g20 {m p : Nat} : Nat.beq m 20 = true → x_good m p (x_c20 p) := x_gk (n := 18) (fun p h => by unfold x_c20; rw [h]; rfl) x_o20
set_option maxRecDepth 100000 in
theorem x_o21 : (List.range 46).all (fun p => x_ck 21 p (x_c21 p)) = true := by decide +kernel
theorem x_g21 {m p : Nat} : Nat.beq m 21 = true → x_good m p (x_c21 p) := x_gk (n := 46) (fun p h => by unfold x_c21; rw [h]; rfl) x_o21
set_option maxRecDepth 100000 in
theorem x_o22 : (List.range 18).all (fun p => x_ck 22 p (x_c22 p)) = true := by decide +kernel
theorem x_g22 {m p : Nat} : Nat.beq m 22 = true → x_good m p (x_c22 p) := x_gk (n := 18) (fun p h => by unfold x_c22; rw [h]; rfl) x_o22
set_option maxRecDepth 100000 in
theorem x_o23 : (List.range 81).all (fun p => x_ck 23 p (x_c23 p)) = true := by decide +kernel
theorem x_g23 {m p : Nat} : Nat.beq m 23 = true → x_good m p (x_c23 p) := x_gk (n := 81) (fun p h => by unfold x_c23; rw [h]; rfl) x_o23
set_option maxRecDepth 100000 in
theorem x_o24 : (List.range 11).all (fun p => x_ck 24 p (x_c24 p)) = true := by decide +kernel
theorem x_g24 {m p : Nat} : Nat.beq m 24 = true → x_good m p (x_c24 p) := x_gk (n := 11) (fun p h => by unfold x_c24; rw [h]; rfl) x_o24
set_option maxRecDepth 100000 in
theorem x_o25 : (List.range 123).all (fun p => x_ck 25 p (x_c25 p)) = true := by decide +kernel
theorem x_g25 {m p : Nat} : Nat.beq m 25 = true → x_good m p (x_c25 p) := x_gk (n := 123) (fun p h => by unfold x_c25; rw [h]; rfl) x_o25
set_option maxRecDepth 100000 in
theorem x_o26 : (List.range 66).all (fun p => x_ck 26 p (x_c26 p)) = true := by decide +kernel
theorem x_g26 {m p : Nat} : Nat.beq m 26 = true → x_good m p (x_c26 p) := x_gk (n := 66) (fun p h => by unfold x_c26; rw [h]; rfl) x_o26
set_option maxRecDepth 100000 in
theorem x_o27 : (List.range 31).all (fun p => x_ck 27 p (x_c27 p)) = true := by decide +kernel
theorem x_g27 {m p : Nat} : Nat.beq m 27 = true → x_good m p (x_c27 p) := x_gk (n := 31) (fun p h => by unfold x_c27; rw [h]; rfl) x_o27
set_option maxRecDepth 100000 in
theorem x_o28 : (List.range 65).all (fun p => x_ck 28 p (x_c28 p)) = true := by decide +kernel
theorem x_g28 {m p : Nat} : Nat.beq m 28 = true → x_good m p (x_c28 p) := x_gk (n := 65) (fun p h => by unfold x_c28; rw [h]; rfl) x_o28
set_option maxRecDepth 100000 in
theorem x_o29 : (List.range 18).all (fun p => x_ck 29 p (x_c29 p)) = true := by decide +kernel
theorem x_g29 {m p : Nat} : Nat.beq m 29 = true → x_good m p (x_c29 p) := x_gk (n := 18) (fun p h => by unfold x_c29; rw [h]; rfl) x_o29
set_option maxRecDepth 100000 in
theorem x_o30 : (List.range 66).all (fun p => x_ck 30 p (x_c30 p)) = true := by decide +kernel
theorem x_g30 {m p : Nat} : Nat.beq m 30 = true → x_good m p (x_c30 p) := x_gk (n := 66) (fun p h => by unfold x_c30; rw [h]; rfl) x_o30
set_option maxRecDepth 100000 in
theorem x_o31 : (List.range 111).all (fun p => x_ck 31 p (x_c31 p)) = true := by decide +kernel
theorem x_g31 {m p : Nat} : Nat.beq m 31 = true → x_good m p (x_c31 p) := x_gk (n := 111) (fun p h => by unfold x_c31; rw [h]; rfl) x_o31
set_option maxRecDepth 100000 in
theorem x_o32 : (List.range 143).all (fun p => x_ck 32 p (x_c32 p)) = true := by decide +kernel
theorem x_g32 {m p : Nat} : Nat.beq m 32 = true → x_good m p (x_c32 p) := x_gk (n := 143) (fun p h => by unfold x_c32; rw [h]; rfl) x_o32
set_option maxRecDepth 100000 in
theorem x_o33 : (List.range 116).all (fun p => x_ck 33 p (x_c33 p)) = true := by decide +kernel
theorem x_g33 {m p : Nat} : Nat.beq m 33 = true → x_good m p (x_c33 p) := x_gk (n := 116) (fun p h => by unfold x_c33; rw [h]; rfl) x_o33
set_option maxRecDepth 100000 in
theorem x_o34 : (List.range 200).all (fun p => x_ck 34 p (x_c34 p)) = true := by decide +kernel
theorem x_g34 {m p : Nat} : Nat.beq m 34 = true → x_good m p (x_c34 p) := x_gk (n := 200) (fun p h => by unfold x_c34; rw [h]; rfl) x_o34
set_option maxRecDepth 100000 in
theorem x_o35 : (List.range 20).all (fun p => x_ck 35 p (x_c35 p)) = true := by decide +kernel
theorem x_g35 {m p : Nat} : Nat.beq m 35 = true → x_good m p (x_c35 p) := x_gk (n := 20) (fun p h => by unfold x_c35; rw [h]; rfl) x_o35
set_option maxRecDepth 100000 in
theorem x_o36 : (List.range 157).all (fun p => x_ck 36 p (x_c36 p)) = true := by decide +kernel
theorem x_g36 {m p : Nat} : Nat.beq m 36 = true → x_good m p (x_c36 p) := x_gk (n := 157) (fun p h => by unfold x_c36; rw [h]; rfl) x_o36
set_option maxRecDepth 100000 in
theorem x_o37 : (List.range 50).all (fun p => x_ck 37 p (x_c37 p)) = true := by decide +kernel
theorem x_g37 {m p : Nat} : Nat.beq m 37 = true → x_good m p (x_c37 p) := x_gk (n := 50) (fun p h => by unfold x_c37; rw [h]; rfl) x_o37
set_option maxRecDepth 100000 in
theorem x_o38 : (List.range 259).all (fun p => x_ck 38 p (x_c38 p)) = true := by decide +kernel
theorem x_g38 {m p : Nat} : Nat.beq m 38 = true → x_good m p (x_c38 p) := x_gk (n := 259) (fun p h => by unfold x_c38; rw [h]; rfl) x_o38
set_option maxRecDepth 100000 in
theorem x_o39 : (List.range 9).all (fun p => x_ck 39 p (x_c39 p)) = true := by decide +kernel
theorem x_g39 {m p : Nat} : Nat.beq m 39 = true → x_good m p (x_c39 p) := x_gk (n := 9) (fun p h => by unfold x_c39; rw [h]; rfl) x_o39
set_option maxRecDepth 100000 in
theorem x_o40 : (List.range 16).all (fun p => x_ck 40 p (x_c40 p)) = true := by decide +kernel
theorem x_g40 {m p : Nat} : Nat.beq m 40 = true → x_good m p (x_c40 p) := x_gk (n := 16) (fun p h => by unfold x_c40; rw [h]; rfl) x_o40
set_option maxRecDepth 100000 in
theorem x_o41 : (List.range 63).all (fun p => x_ck 41 p (x_c41 p)) = true := by decide +kernel
theorem x_g41 {m p : Nat} : Nat.beq m 41 = true → x_good m p (x_c41 p) := x_gk (n := 63) (fun p h => by unfold x_c41; rw [h]; rfl) x_o41
set_option maxRecDepth 100000 in
theorem x_o42 : (List.range 53).all (fun p => x_ck 42 p (x_c42 p)) = true := by decide +kernel
theorem x_g42 {m p : Nat} : Nat.beq m 42 = true → x_good m p (x_c42 p) := x_gk (n := 53) (fun p h => by unfold x_c42; rw [h]; rfl) x_o42

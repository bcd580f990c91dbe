/-! READING AND WRITING a place of the typed heap -/
def b_span (a b : Nat) : Nat := (2 ^ (b - a) - 1) <<< a
/-- the set of what x can be (bits one up), 0 where it isn't known -/
def b_mset (N : b_N) (x : b_L) : Nat := match x.2 with
  | [] => bif decide (-1 ≤ x.1) && decide (x.1 ≤ 126) then b_span (x.1 + 1).toNat (x.1 + 2).toNat else 0
  | [q] => bif decide (x.1 = 0) && decide (q.2 = 1) then (match b_at N q.1 with
      | some b => bif Nat.beq b.2.2 0 then (bif decide (-1 ≤ b.1) && decide (b.2.1 ≤ 126) then b_span (b.1 + 1).toNat (b.2.1 + 2).toNat else 0) else b.2.2 &&& b_span (b.1 + 1).toNat (b.2.1 + 2).toNat
      | none => 0) else (match b_lo N x, b_hi N x with
      | some a, some b => bif decide (a = b) && (decide (-1 ≤ a) && decide (a ≤ 126)) then b_span (a + 1).toNat (a + 2).toNat else 0
      | _, _ => 0)
  | _ => match b_lo N x, b_hi N x with
      | some a, some b => bif decide (a = b) && (decide (-1 ≤ a) && decide (a ≤ 126)) then b_span (a + 1).toNat (a + 2).toNat else 0
      | _, _ => 0
def b_inm (N : b_N) (x : b_L) (mk : Nat) : Bool := bif Nat.beq mk 0 then true else !(Nat.beq (b_mset N x) 0) && Nat.beq (b_mset N x &&& mk) (b_mset N x)
noncomputable def b_inB (W : b_NF) (x : b_L) (q : b_B) : Bool := b_le W x q.2.1 && (b_ge W x q.1 && b_inm W.1 x q.2.2)
noncomputable def b_inb (W : b_NF) (x : b_L) (n : Nat) : Bool := b_le W x ((n : Int) - 1) && b_ge W x 0
noncomputable def b_get (T : Nat → Option b_C) (W : b_NF) (M : b_M) (cell : Nat) (x : b_L) : Option (b_NF × b_M × b_V) := match b_look cell x M with
  | some v => some (W, M, v)
  | none => match T cell with
    | some c => bif b_inb W x c.2.2.1 then (match b_tyat c x with
      | some t => bif Nat.beq t.1 2 then some (W, M, (2, (t.2.1, []))) else some ((b_fresh W t.2.1 t.2.2.1 t.2.2.2).1, (cell, x, (t.1, (b_fresh W t.2.1 t.2.2.1 t.2.2.2).2)) :: M, (t.1, (b_fresh W t.2.1 t.2.2.1 t.2.2.2).2))
      | none => none) else none
    | none => none
def b_kill (dep : Nat → Nat → Bool) (cell : Nat) (x : b_L) (M : b_M) : b_M := M.filter fun q => bif Nat.beq q.1 cell then (match (b_add q.2.1 (-1) x).2 with
    | [] => !(decide ((b_add q.2.1 (-1) x).1 = 0))
    | _ => false) else !(dep q.1 cell)
def b_tys (c : b_C) (x : b_L) : List b_T := match c.2.2.2.2 with
  | [t] => [t]
  | l => match b_res c.2.2.2.1 x with
    | some r => match l[r]? with
      | some t => [t]
      | none => l
    | none => l
def b_wok (Wr : Nat → Nat → Bool) (c : b_C) (cell : Nat) (x : b_L) : Bool := bif Nat.beq c.1 0 then (match x.2 with
      | [] => Wr cell x.1.toNat
      | _ => false) else Wr cell 0
/-- place x of a cell gets a number (tag 0 int, 1 long) -/
noncomputable def b_put (T : Nat → Option b_C) (dep Wr : Nat → Nat → Bool) (W : b_NF) (M : b_M) (cell : Nat) (x : b_L) (tag : Nat) (y : b_L) : Option b_M := match T cell with
  | some c => bif (b_tys c x).all (fun t => Nat.beq t.1 tag && b_inB W y t.2) && b_wok Wr c cell x then some ((cell, x, (tag, y)) :: b_kill dep cell x M) else none
  | none => none
/-- rows: all of a row may be written, or nothing -/
def b_WrOk (T : Nat → Option b_C) (Wr : Nat → Nat → Bool) : Prop := ∀ k c, T k = some c → c.1 = 1 → ∀ i, Wr k i = Wr k 0
def b_GOk (G : b_G) (dep : Nat → Nat → Bool) : Prop := ∀ g σ σ', (∀ c, dep g c = true → ∀ i, b_rd σ' c i = b_rd σ c i) → ∀ a, G g σ' a = G g σ a
def b_DepOk (dep : Nat → Nat → Bool) : Prop := ∀ g c, g < 139 → dep g c = false
/-- one place is written, all else stays -/
def b_upd (σ : m_S) (k i : Nat) (w : Value) (σ' : m_S) : Prop := σ'.length = σ.length ∧ (∀ k' i', b_rd σ' k' i' = if k' = k ∧ i' = i then some w else b_rd σ k' i') ∧ ∀ (k' : Nat) (z : m_E), σ[k']? = some z → ∃ z', σ'[k']? = some z' ∧ ∀ c, b_sh c z → b_sh c z'
section B64
variable {ρ ρ' : Nat → Int} {W W' : b_NF} {G : b_G} {fz : List (List Int32)} {σ σ' : m_S} {M : b_M} {n : Nat} {T : Nat → Option b_C} {dep Wr : Nat → Nat → Bool}
theorem b_span_ok {a b j : Nat} (h : a < b) : Nat.testBit (b_span a b) j = true ↔ a ≤ j ∧ j < b := by
  unfold b_span
  rw [Nat.testBit_shiftLeft, Nat.testBit_two_pow_sub_one]
  simp only [Bool.and_eq_true, decide_eq_true_eq]
  omega
theorem b_mset_ok (hN : b_gN W.1 ρ) {x : b_L} (h0 : b_mset W.1 x ≠ 0) : ∃ j : Nat, Nat.testBit (b_mset W.1 x) j = true ∧ b_ev ρ x = (j : Int) - 1 := by
  have key : ∀ a b : Int, b_lo W.1 x = some a → b_hi W.1 x = some b → (bif decide (a = b) && (decide (-1 ≤ a) && decide (a ≤ 126)) then b_span (a + 1).toNat (a + 2).toNat else 0) ≠ 0 → ∃ j : Nat, Nat.testBit (bif decide (a = b) && (decide (-1 ≤ a) && decide (a ≤ 126)) then b_span (a + 1).toNat (a + 2).toNat else 0) j = true ∧ b_ev ρ x = (j : Int) - 1 := by
    intro a b ha hb h
    have g1 := b_lo_ok hN ha
    have g2 := b_hi_ok hN hb
    cases e : decide (a = b) && (decide (-1 ≤ a) && decide (a ≤ 126)) with
    | true =>
      simp only [Bool.and_eq_true, decide_eq_true_eq] at e
      refine ⟨(a + 1).toNat, ?_, by omega⟩
      simp only [cond_true]
      exact (b_span_ok (by omega)).mpr ⟨Nat.le_refl _, by omega⟩
    | false => rw [e] at h; exact absurd rfl h
  unfold b_mset at h0 ⊢
  split at h0
  · rename_i e
    cases e1 : decide (-1 ≤ x.1) && decide (x.1 ≤ 126) with
    | true =>
      simp only [Bool.and_eq_true, decide_eq_true_eq] at e1
      refine ⟨(x.1 + 1).toNat, ?_, ?_⟩
      · simp only [cond_true]
        exact (b_span_ok (by omega)).mpr ⟨Nat.le_refl _, by omega⟩
      · unfold b_ev; rw [e]; simp only [b_evs]; omega
    | false => rw [e1] at h0; exact absurd rfl h0
  · rename_i q e
    cases e1 : decide (x.1 = 0) && decide (q.2 = 1) with
    | true =>
      rw [e1] at h0
      simp only [Bool.and_eq_true, decide_eq_true_eq] at e1
      simp only [cond_true] at h0 ⊢
      have hx : b_ev ρ x = ρ q.1 := by unfold b_ev; rw [e, e1.1]; simp only [b_evs, e1.2]; omega
      split at h0
      · rename_i b hb
        obtain ⟨g1, g2, g3⟩ := hN.2 _ _ hb
        cases e2 : Nat.beq b.2.2 0 with
        | true =>
          rw [e2] at h0
          cases e3 : decide (-1 ≤ b.1) && decide (b.2.1 ≤ 126) with
          | true =>
            simp only [Bool.and_eq_true, decide_eq_true_eq] at e3
            refine ⟨(ρ q.1 + 1).toNat, ?_, by omega⟩
            simp only [cond_true]
            exact (b_span_ok (by omega)).mpr ⟨by omega, by omega⟩
          | false => rw [e3] at h0; exact absurd rfl h0
        | false =>
          have hne : b.2.2 ≠ 0 := fun h9 => by rw [h9] at e2; cases e2
          obtain ⟨j, g4, g5⟩ := g3 hne
          refine ⟨j, ?_, by omega⟩
          simp only [cond_false]
          rw [Nat.testBit_and, g4, (b_span_ok (by omega)).mpr ⟨by omega, by omega⟩]
          rfl
      · exact absurd rfl h0
    | false =>
      rw [e1] at h0
      simp only [cond_false] at h0 ⊢
      split at h0
      · rename_i a b ha hb
        exact key a b ha hb h0
      · exact absurd rfl h0
  · split at h0
    · rename_i a b ha hb
      exact key a b ha hb h0
    · exact absurd rfl h0
theorem b_inm_ok (hN : b_gN W.1 ρ) {x : b_L} {mk : Nat} (h : b_inm W.1 x mk = true) : b_mk mk (b_ev ρ x) := by
  intro hm
  unfold b_inm at h
  have : Nat.beq mk 0 = false := by
    cases e : Nat.beq mk 0 with
    | true => exact absurd (Nat.eq_of_beq_eq_true e) hm
    | false => rfl
  rw [this] at h
  simp only [cond_false, Bool.and_eq_true, Bool.not_eq_true'] at h
  have h1 : b_mset W.1 x ≠ 0 := fun h9 => by rw [h9] at h; simp at h
  obtain ⟨j, g1, g2⟩ := b_mset_ok hN h1
  refine ⟨j, ?_, g2⟩
  have h2 := Nat.eq_of_beq_eq_true h.2
  rw [← h2, Nat.testBit_and, Bool.and_eq_true] at g1
  exact g1.2
theorem b_inB_ok (hW : b_gW W ρ) {x : b_L} {q : b_B} (h : b_inB W x q = true) : b_gB q (b_ev ρ x) := by
  unfold b_inB at h
  simp only [Bool.and_eq_true] at h
  exact ⟨b_ge_ok hW h.2.1, b_le_ok hW h.1, b_inm_ok hW.1 h.2.2⟩
theorem b_inb_ok (hW : b_gW W ρ) {x : b_L} {m : Nat} (h : b_inb W x m = true) : ∃ i : Nat, b_ev ρ x = (i : Int) ∧ i < m := by
  unfold b_inb at h
  simp only [Bool.and_eq_true] at h
  have h1 := b_le_ok hW h.1
  have h2 := b_ge_ok hW h.2
  exact ⟨(b_ev ρ x).toNat, by omega, by omega⟩
theorem b_get_ok (hW : b_gW W ρ) (hH : b_gH T σ) (hM : b_gM G fz W.1.1 ρ σ M) {cell : Nat} {x : b_L} {a : Int} (hc : cell < 139) (hx : b_gx W.1.1 ρ x a) {W' : b_NF} {M' : b_M} {v : b_V} (h : b_get T W M cell x = some (W', M', v)) :
    ∃ (ρ' : Nat → Int) (i : Nat) (w : Value), b_ext W ρ W' ρ' ∧ b_gM G fz W'.1.1 ρ' σ M' ∧ a = (i : Int) ∧ b_rd σ cell i = some w ∧ b_gv W'.1.1 ρ' v w := by
  unfold b_get at h
  split at h
  · rename_i v' hl
    cases h
    obtain ⟨a', g1, g2⟩ := hM _ (b_look_mem hl)
    dsimp only at g1 g2
    rw [if_pos hc] at g2
    obtain ⟨i, e, w, g3, g4⟩ := g2
    exact ⟨ρ, i, w, b_ext.rf hW, hM, by rw [← hx.1, g1.1, e], g3, g4⟩
  · split at h
    · rename_i c hT
      cases h1 : b_inb W x c.2.2.1 with
      | true =>
        rw [h1] at h
        simp only [cond_true] at h
        obtain ⟨i, h2, h3⟩ := b_inb_ok hW h1
        obtain ⟨c', h4, h5⟩ := hH.2 cell hc
        rw [hT] at h4
        cases h4
        split at h
        · rename_i t ht
          obtain ⟨w, g1, g2⟩ := b_tyat_ok h5 h3 h2 ht
          cases h6 : Nat.beq t.1 2 with
          | true =>
            rw [h6] at h
            cases h
            have e := Nat.eq_of_beq_eq_true h6
            refine ⟨ρ, i, w, b_ext.rf hW, hM, by rw [← hx.1, h2], g1, ?_⟩
            obtain ⟨t1, lo, hi, mk⟩ := t
            dsimp only at e
            subst e
            unfold b_gt at g2
            split at g2
            · rename_i e; cases e
            · rename_i e; cases e
            · unfold b_gv; dsimp only at g2 ⊢; rw [g2.1]; rfl
            · exact g2.elim
          | false =>
            rw [h6] at h
            cases h
            have hb : ∃ z, (b_gB t.2 z ∧ (∀ n ρ y, b_gx n ρ y z → b_gv n ρ (t.1, y) w)) := by
              obtain ⟨t1, tq⟩ := t
              unfold b_gt at g2
              split at g2
              · rename_i z e; dsimp only at e; subst e; exact ⟨z.toInt, g2, fun n ρ y hy => hy⟩
              · rename_i z e; dsimp only at e; subst e; exact ⟨z.toInt, g2, fun n ρ y hy => hy⟩
              · rename_i e; dsimp only at e; subst e; cases h6
              · exact g2.elim
            obtain ⟨z, q1, q2⟩ := hb
            obtain ⟨ρ', he, hy⟩ := b_fresh_ok hW q1.1 q1.2.1 q1.2.2
            refine ⟨ρ', i, w, he, ?_, by rw [← hx.1, h2], g1, q2 _ _ _ hy⟩
            intro q hq
            rcases List.mem_cons.mp hq with rfl | hq
            · refine ⟨a, hx.up he, ?_⟩
              dsimp only
              rw [if_pos hc]
              exact ⟨i, by rw [← hx.1, h2], w, g1, q2 _ _ _ hy⟩
            · exact (hM q hq).up he
        · cases h
      | false => rw [h1] at h; cases h
    · cases h
end B64

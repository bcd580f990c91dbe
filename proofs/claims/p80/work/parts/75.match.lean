/-! TEMPLATES: a state with symbols of its own (bounds, facts, locals, stack, memory), which a state that arrives is held against. A symbol is bound where it stands first, alone, in locals, stack, memory. -/
abbrev b_Tp : Type := List b_B × b_F × b_Lv × List b_V × b_M
def b_toN (l : List b_B) : b_N := (l.length, l.reverse)
def b_sbs (θ : List b_L) : List (Nat × Int) → Option b_L
  | [] => some (b_con 0)
  | q :: r => match θ[q.1]?, b_sbs θ r with
    | some y, some z => some (b_add z q.2 y)
    | _, _ => none
def b_sub (θ : List b_L) (x : b_L) : Option b_L := match b_sbs θ x.2 with
  | some z => some (b_adc z x.1)
  | none => none
def b_dv (cf res : Int) (x : b_L) : b_L := ((x.1 - res) / cf, x.2.map fun q => (q.1, q.2 / cf))
def b_nw (θ : List b_L) (v u : b_V) : List b_L := match v.2.2 with
  | [q] => bif Nat.beq q.1 θ.length then θ ++ [b_dv q.2 v.2.1 u.2] else θ
  | _ => θ
def b_mtL (lv : b_Lv) : List b_L → b_Lv → Option (List b_L)
  | θ, [] => some θ
  | θ, q :: r => match b_ld lv q.1 with
    | some u => b_mtL lv (b_nw θ q.2 u) r
    | none => none
def b_mtS : List b_L → List b_V → List b_V → Option (List b_L)
  | θ, [], [] => some θ
  | θ, v :: r, u :: t => b_mtS (b_nw θ v u) r t
  | _, _, _ => none
noncomputable def b_get2 (T : Nat → Option b_C) (W : b_NF) (M : b_M) (cell : Nat) (x : b_L) : Option (b_NF × b_M × b_V) := bif Nat.blt cell 139 then b_get T W M cell x else match b_look cell x M with
  | some v => some (W, M, v)
  | none => none
noncomputable def b_mtM (T : Nat → Option b_C) : b_NF → b_M → List b_L → b_M → Option (b_NF × b_M × List b_L)
  | W, M, θ, [] => some (W, M, θ)
  | W, M, θ, q :: r => match b_sub θ q.2.1 with
    | some y => match b_get2 T W M q.1 y with
      | some U => b_mtM T U.1 U.2.1 (b_nw θ q.2.2 U.2.2) r
      | none => none
    | none => none
def b_zero (N : b_N) (x : b_L) : Bool := b_le0 N x 0 && b_le0 N (b_sca (-1) x) 0
def b_eqv (N : b_N) (θ : List b_L) (v u : b_V) : Bool := bif Nat.beq v.1 u.1 then (bif Nat.ble v.1 1 then (match b_sub θ v.2 with
    | some y => b_zero N (b_add y (-1) u.2)
    | none => false) else Nat.beq v.1 2 && decide (v.2 = u.2)) else false
def b_ckL (N : b_N) (θ : List b_L) (lv : b_Lv) : b_Lv → Bool
  | [] => true
  | q :: r => (match b_ld lv q.1 with
    | some u => b_eqv N θ q.2 u
    | none => false) && b_ckL N θ lv r
def b_ckS (N : b_N) (θ : List b_L) : List b_V → List b_V → Bool
  | [], [] => true
  | v :: r, u :: t => b_eqv N θ v u && b_ckS N θ r t
  | _, _ => false
def b_ckM (N : b_N) (θ : List b_L) (M : b_M) : b_M → Bool
  | [] => true
  | q :: r => (match b_sub θ q.2.1 with
    | some y => (match b_look q.1 y M with
      | some u => b_eqv N θ q.2.2 u
      | none => false)
    | none => false) && b_ckM N θ M r
noncomputable def b_ckB (W : b_NF) : List b_L → List b_B → Bool
  | [], [] => true
  | x :: xs, q :: qs => b_inB W x q && b_ckB W xs qs
  | _, _ => false
noncomputable def b_ckF (W : b_NF) (θ : List b_L) : b_F → Bool
  | [] => true
  | f :: r => (match b_sub θ f with
    | some y => b_le W y 0
    | none => false) && b_ckF W θ r
/-- a quick look, for nothing but speed -/
def b_fast (N : b_N) (lv : b_Lv) : b_Lv → Bool
  | [] => true
  | q :: r => (match q.2.2.2 with
    | [] => (match b_ld lv q.1 with
      | some u => b_zero N (b_add q.2.2 (-1) u.2)
      | none => false)
    | _ => true) && b_fast N lv r
noncomputable def b_match2 (T : Nat → Option b_C) (W : b_NF) (M : b_M) (lv : b_Lv) (st : List b_V) (θ : List b_L) (tp : b_Tp) : Option (b_NF × b_M × List b_L) := bif b_fast W.1 lv tp.2.2.1 then (match b_mtM T W M θ tp.2.2.2.2 with
    | some U => bif b_ckL U.1.1 U.2.2 lv tp.2.2.1 && (b_ckS U.1.1 U.2.2 tp.2.2.2.1 st && (b_ckM U.1.1 U.2.2 U.2.1 tp.2.2.2.2 && (b_ckB U.1 U.2.2 tp.1 && b_ckF U.1 U.2.2 tp.2.1))) then some U else none
    | none => none) else none
noncomputable def b_match (T : Nat → Option b_C) (W : b_NF) (M : b_M) (lv : b_Lv) (st : List b_V) (θ0 : List b_L) (tp : b_Tp) : Option (b_NF × b_M × List b_L) := match b_mtL lv θ0 tp.2.2.1 with
  | some θ1 => match b_mtS θ1 tp.2.2.2.1 st with
    | some θ2 => b_match2 T W M lv st θ2 tp
    | none => none
  | none => none
def b_ul (n : Nat) (x : b_L) : Bool := x.2.all fun q => Nat.blt q.1 n
/-- the template uses its own symbols alone -/
def b_tpu (tp : b_Tp) : Bool := tp.2.1.all (b_ul tp.1.length) && (tp.2.2.1.all (fun q => b_ul tp.1.length q.2.2) && (tp.2.2.2.1.all (fun v => b_ul tp.1.length v.2) && tp.2.2.2.2.all (fun q => b_ul tp.1.length q.2.1 && b_ul tp.1.length q.2.2.2)))
def b_rt (ρ : Nat → Int) (θ : List b_L) (s : Nat) : Int := b_ev ρ (θ.getD s (b_con 0))
def b_pre (θ0 θ : List b_L) : Prop := ∀ (s : Nat) (y : b_L), θ0[s]? = some y → θ[s]? = some y
def b_ua (n : Nat) (θ : List b_L) : Prop := ∀ y ∈ θ, b_u n y
section B75
variable {T : Nat → Option b_C} {G : b_G} {fz : List (List Int32)} {ρ ρ' : Nat → Int} {W : b_NF} {M : b_M} {cl : m_V} {cs : List Value} {σ : m_S} {lv : b_Lv} {st : List b_V} {n : Nat} {θ : List b_L}
theorem b_ul_ok {x : b_L} (h : b_ul n x = true) : b_u n x := fun q hq => Nat.blt_eq.mp (List.all_eq_true.mp h q hq)
theorem b_pre.tr {θ1 θ2 θ3 : List b_L} (h : b_pre θ1 θ2) (g : b_pre θ2 θ3) : b_pre θ1 θ3 := fun s y hy => g s y (h s y hy)
theorem b_nw_ok {v u : b_V} (hθ : b_ua n θ) (hu : b_u n u.2) : b_ua n (b_nw θ v u) ∧ b_pre θ (b_nw θ v u) := by
  unfold b_nw
  split
  · rename_i q hq
    refine b_bif (P := fun θ' => b_ua n θ' ∧ b_pre θ θ') (fun _ => ⟨?_, ?_⟩) (fun _ => ⟨hθ, fun _ _ h => h⟩)
    · intro y hy
      rcases List.mem_append.mp hy with h | h
      · exact hθ y h
      · rw [List.mem_singleton.mp h]
        intro p hp
        obtain ⟨r, h1, rfl⟩ := List.mem_map.mp hp
        exact hu r h1
    · intro s y hy
      rw [List.getElem?_append_left (List.getElem?_eq_some_iff.mp hy).1]
      exact hy
  · exact ⟨hθ, fun _ _ h => h⟩
theorem b_gv_u {v : b_V} {w : Value} (h : b_gv n ρ v w) : b_u n v.2 := by
  obtain ⟨t, x⟩ := v
  unfold b_gv at h
  split at h
  · exact h.2
  · exact h.2
  · dsimp only at h; rw [h]; intro q hq; cases hq
  · obtain ⟨a, h1, -⟩ := h; exact h1.2
  · exact h.elim
theorem b_mtL_ok (hl : b_gl n ρ lv cl) : ∀ {l : b_Lv} {θ θ' : List b_L}, b_ua n θ → b_mtL lv θ l = some θ' → b_ua n θ' ∧ b_pre θ θ'
  | [], θ, θ', hθ, h => by cases h; exact ⟨hθ, fun _ _ h => h⟩
  | q :: r, θ, θ', hθ, h => by
    unfold b_mtL at h
    split at h
    · rename_i u hu
      obtain ⟨w, -, h2⟩ := hl _ _ hu
      obtain ⟨g1, g2⟩ := b_nw_ok (v := q.2) hθ (b_gv_u h2)
      obtain ⟨g3, g4⟩ := b_mtL_ok hl g1 h
      exact ⟨g3, g2.tr g4⟩
    · cases h
theorem b_mtS_ok : ∀ {l st : List b_V} {cs : List Value} {θ θ' : List b_L}, a_all2 (b_gv n ρ) st cs → b_ua n θ → b_mtS θ l st = some θ' → b_ua n θ' ∧ b_pre θ θ'
  | [], [], _, θ, θ', _, hθ, h => by cases h; exact ⟨hθ, fun _ _ h => h⟩
  | v :: r, u :: t, cs, θ, θ', hs, hθ, h => by
    obtain ⟨w, cs', rfl, g1, g2⟩ := b_cons hs
    obtain ⟨g3, g4⟩ := b_nw_ok (v := v) hθ (b_gv_u g1)
    obtain ⟨g5, g6⟩ := b_mtS_ok (l := r) (st := t) g2 g3 h
    exact ⟨g5, g4.tr g6⟩
theorem b_ua.up {W' : b_NF} (he : b_ext W ρ W' ρ') (h : b_ua W.1.1 θ) : b_ua W'.1.1 θ := fun y hy q hq => Nat.lt_of_lt_of_le (h y hy q hq) he.1
theorem b_rt_ok {s : Nat} {y : b_L} (hθ : b_ua n θ) (h : θ[s]? = some y) : b_gx n ρ y (b_rt ρ θ s) := by
  refine ⟨?_, hθ y (List.mem_of_getElem? h)⟩
  unfold b_rt
  simp [List.getD, h]
theorem b_sbs_ok (hθ : b_ua n θ) : ∀ {l : List (Nat × Int)} {z : b_L}, b_sbs θ l = some z → b_gx n ρ z (b_evs (b_rt ρ θ) l)
  | [], z, h => by cases h; exact b_gx.con 0
  | q :: r, z, h => by
    unfold b_sbs at h
    split at h
    · rename_i y w h1 h2
      cases h
      have g := (b_sbs_ok hθ h2).add q.2 (b_rt_ok hθ h1)
      have e : b_evs (b_rt ρ θ) (q :: r) = b_evs (b_rt ρ θ) r + q.2 * b_rt ρ θ q.1 := by simp only [b_evs]; omega
      rw [e]
      exact g
    · cases h
theorem b_sub_ok (hθ : b_ua n θ) {x y : b_L} (h : b_sub θ x = some y) : b_gx n ρ y (b_ev (b_rt ρ θ) x) := by
  unfold b_sub at h
  split at h
  · rename_i z hz
    cases h
    have g := (b_sbs_ok (ρ := ρ) hθ hz).adc x.1
    have e : b_ev (b_rt ρ θ) x = b_evs (b_rt ρ θ) x.2 + x.1 := by simp only [b_ev]; omega
    rw [e]
    exact g
  · cases h
theorem b_sbs_pre {θ' : List b_L} (hp : b_pre θ θ') : ∀ {l : List (Nat × Int)} {z : b_L}, b_sbs θ l = some z → b_sbs θ' l = some z
  | [], z, h => h
  | q :: r, z, h => by
    unfold b_sbs at h ⊢
    split at h
    · rename_i y w h1 h2
      rw [hp _ _ h1, b_sbs_pre hp h2]
      exact h
    · cases h
theorem b_sub_pre {θ' : List b_L} (hp : b_pre θ θ') {x y : b_L} (h : b_sub θ x = some y) : b_sub θ' x = some y := by
  unfold b_sub at h ⊢
  split at h
  · rename_i z hz
    rw [b_sbs_pre hp hz]
    exact h
  · cases h
theorem b_zero_ok (hN : b_gN W.1 ρ) {x : b_L} (h : b_zero W.1 x = true) : b_ev ρ x = 0 := by
  unfold b_zero at h
  rw [Bool.and_eq_true] at h
  have h1 := b_le0_ok hN h.1
  have h2 := b_le0_ok hN h.2
  rw [b_sca_ev] at h2
  omega
/-- the template's value stands for what the arriving value stands for -/
theorem b_eqv_ok {θ' : List b_L} {m : Nat} (hN : b_gN W.1 ρ) (hθ : b_ua W.1.1 θ') (hp : b_pre θ θ') {v u : b_V} {w : Value} (hv : b_u m v.2) (hu : b_gv W.1.1 ρ u w) (h : b_eqv W.1 θ v u = true) : b_gv m (b_rt ρ θ') v w := by
  unfold b_eqv at h
  cases e : Nat.beq v.1 u.1 with
  | true =>
    rw [e] at h
    have e := Nat.eq_of_beq_eq_true e
    simp only [cond_true] at h
    cases e2 : Nat.ble v.1 1 with
    | true =>
      rw [e2] at h
      simp only [cond_true] at h
      have e2 : v.1 ≤ 1 := Nat.le_of_ble_eq_true e2
      split at h
      · rename_i y hy
        have g1 := b_sub_ok (ρ := ρ) hθ (b_sub_pre hp hy)
        have key : ∀ a, b_gx W.1.1 ρ u.2 a → b_gx m (b_rt ρ θ') v.2 a := by
          intro a ha
          have g2 := b_zero_ok hN h
          rw [(g1.add (-1) ha).1] at g2
          exact ⟨by omega, hv⟩
        obtain ⟨t, x⟩ := v
        obtain ⟨t', x'⟩ := u
        dsimp only at e e2 key
        subst e
        unfold b_gv at hu ⊢
        dsimp only at hu ⊢
        split at hu
        · exact key _ hu
        · exact key _ hu
        · omega
        · omega
        · exact hu.elim
      · cases h
    | false =>
      rw [e2] at h
      simp only [cond_false, Bool.and_eq_true, decide_eq_true_eq] at h
      have h1 := Nat.eq_of_beq_eq_true h.1
      obtain ⟨t, x⟩ := v
      obtain ⟨t', x'⟩ := u
      dsimp only at e h1 h
      subst e
      subst h1
      unfold b_gv at hu ⊢
      dsimp only at hu ⊢
      split at hu
      · rename_i e3; cases e3
      · rename_i e3; cases e3
      · show x = _
        rw [h.2]; exact hu
      · rename_i e3; cases e3
      · exact hu.elim
  | false => rw [e] at h; cases h
theorem b_ckL_ok {θ' : List b_L} {m : Nat} (hN : b_gN W.1 ρ) (hθ : b_ua W.1.1 θ') (hp : b_pre θ θ') (hl : b_gl W.1.1 ρ lv cl) : ∀ {l : b_Lv}, (∀ q ∈ l, b_u m q.2.2) → b_ckL W.1 θ lv l = true → b_gl m (b_rt ρ θ') l cl
  | [], _, _ => fun i v h => by cases h
  | q :: r, hu, h => by
    unfold b_ckL at h
    rw [Bool.and_eq_true] at h
    intro i v hv
    unfold b_ld at hv
    cases e : Nat.beq q.1 i with
    | true =>
      rw [e] at hv
      cases hv
      have h1 := h.1
      split at h1
      · rename_i u hu2
        obtain ⟨w, g1, g2⟩ := hl _ _ hu2
        rw [Nat.eq_of_beq_eq_true e] at g1
        exact ⟨w, g1, b_eqv_ok hN hθ hp (hu q List.mem_cons_self) g2 h1⟩
      · cases h1
    | false =>
      rw [e] at hv
      exact b_ckL_ok hN hθ hp hl (fun p hp2 => hu p (List.mem_cons_of_mem _ hp2)) h.2 i v hv
theorem b_ckS_ok {θ' : List b_L} {m : Nat} (hN : b_gN W.1 ρ) (hθ : b_ua W.1.1 θ') (hp : b_pre θ θ') : ∀ {l st : List b_V} {cs : List Value}, (∀ v ∈ l, b_u m v.2) → a_all2 (b_gv W.1.1 ρ) st cs → b_ckS W.1 θ l st = true → a_all2 (b_gv m (b_rt ρ θ')) l cs
  | [], [], [], _, _, _ => trivial
  | [], [], _ :: _, _, h, _ => h.elim
  | v :: r, u :: t, cs, hu, hs, h => by
    obtain ⟨w, cs', rfl, g1, g2⟩ := b_cons hs
    unfold b_ckS at h
    rw [Bool.and_eq_true] at h
    exact ⟨b_eqv_ok hN hθ hp (hu v List.mem_cons_self) g1 h.1, b_ckS_ok hN hθ hp (fun p hp2 => hu p (List.mem_cons_of_mem _ hp2)) g2 h.2⟩
theorem b_ckM_ok {m : Nat} (hN : b_gN W.1 ρ) (hθ : b_ua W.1.1 θ) (hM : b_gM G fz W.1.1 ρ σ M) : ∀ {l : b_M}, (∀ q ∈ l, b_u m q.2.1 ∧ b_u m q.2.2.2) → b_ckM W.1 θ M l = true → b_gM G fz m (b_rt ρ θ) σ l
  | [], _, _ => fun q h => by cases h
  | p :: r, hu, h => by
    unfold b_ckM at h
    rw [Bool.and_eq_true] at h
    intro q hq
    rcases List.mem_cons.mp hq with rfl | hq
    · have h1 := h.1
      split at h1
      · rename_i y hy
        split at h1
        · rename_i u hl
          obtain ⟨a, g1, g2⟩ := hM _ (b_look_mem hl)
          dsimp only at g1 g2
          have g3 := b_sub_ok (ρ := ρ) hθ hy
          obtain ⟨u1, u2⟩ := hu q List.mem_cons_self
          have ea : b_ev (b_rt ρ θ) q.2.1 = a := by rw [← g3.1, g1.1]
          refine ⟨a, ⟨ea, u1⟩, ?_⟩
          by_cases c1 : q.1 < 139
          · rw [if_pos c1] at g2 ⊢
            obtain ⟨i, e1, w, g4, g5⟩ := g2
            exact ⟨i, e1, w, g4, b_eqv_ok hN hθ (fun _ _ h => h) u2 g5 h1⟩
          · rw [if_neg c1] at g2 ⊢
            by_cases c2 : q.1 < m_fzb
            · rw [if_pos c2] at g2 ⊢
              have g6 : b_gv W.1.1 ρ u (.int (Int32.ofInt 0)) ∨ True := Or.inr trivial
              unfold b_eqv at h1
              cases e : Nat.beq q.2.2.1 u.1 with
              | true =>
                rw [e] at h1
                have e := Nat.eq_of_beq_eq_true e
                rw [g2.1] at e
                have : Nat.ble q.2.2.1 1 = true := by rw [e]; rfl
                rw [this] at h1
                simp only [cond_true] at h1
                split at h1
                · rename_i y2 hy2
                  have k1 := b_sub_ok (ρ := ρ) hθ hy2
                  have k2 := b_zero_ok hN h1
                  rw [(k1.add (-1) g2.2).1] at k2
                  exact ⟨e, by omega, u2⟩
                · cases h1
              | false => rw [e] at h1; cases h1
            · rw [if_neg c2] at g2 ⊢
              obtain ⟨i, e1, zs, z, g4, g5, g6⟩ := g2
              exact ⟨i, e1, zs, z, g4, g5, b_eqv_ok hN hθ (fun _ _ h => h) u2 g6 h1⟩
        · cases h1
      · cases h1
    · exact b_ckM_ok hN hθ hM (fun p hp2 => hu p (List.mem_cons_of_mem _ hp2)) h.2 q hq
theorem b_ckB_ok (hW : b_gW W ρ) : ∀ {θ : List b_L} {l : List b_B}, b_ckB W θ l = true → θ.length = l.length ∧ ∀ (s : Nat) (q : b_B), l[s]? = some q → b_gB q (b_rt ρ θ s)
  | [], [], _ => ⟨rfl, fun s q h => by cases h⟩
  | x :: xs, p :: qs, h => by
    unfold b_ckB at h
    rw [Bool.and_eq_true] at h
    obtain ⟨g1, g2⟩ := b_ckB_ok hW h.2
    refine ⟨by simp [g1], fun s q hq => ?_⟩
    match s, hq with
    | 0, hq => cases hq; exact b_inB_ok hW h.1
    | s + 1, hq => exact g2 s q hq
theorem b_ckF_ok (hW : b_gW W ρ) (hθ : b_ua W.1.1 θ) : ∀ {l : b_F}, b_ckF W θ l = true → ∀ f ∈ l, b_ev (b_rt ρ θ) f ≤ 0
  | [], _, f, hf => by cases hf
  | g :: r, h, f, hf => by
    unfold b_ckF at h
    rw [Bool.and_eq_true] at h
    rcases List.mem_cons.mp hf with rfl | hf
    · have h1 := h.1
      split at h1
      · rename_i y hy
        have k1 := b_sub_ok (ρ := ρ) hθ hy
        have k2 := b_le_ok hW h1
        rw [k1.1] at k2
        exact k2
      · cases h1
    · exact b_ckF_ok hW hθ h.2 f hf
theorem b_toN_at (l : List b_B) (s : Nat) : b_at (b_toN l) s = l[s]? := by
  unfold b_at b_toN
  dsimp only
  cases e : Nat.blt s l.length with
  | true =>
    have h := Nat.blt_eq.mp e
    simp only [cond_true]
    rw [List.getElem?_reverse (by omega)]
    congr 1
    omega
  | false =>
    simp only [cond_false]
    have h : ¬ s < l.length := fun h9 => by rw [Nat.blt_eq.mpr h9] at e; cases e
    exact (List.getElem?_eq_none_iff.mpr (by omega)).symm
end B75

/-! CONTRACTS: number of the method, height of its frames, what holds ahead (arguments as the stack), places written, what holds behind (one of several; the first symbols are the entry's) -/
abbrev b_K : Type := Nat × Nat × b_Tp × List (Nat × Nat) × List b_Tp
def b_wrf (wr : List (Nat × Nat)) (k i : Nat) : Bool := wr.any fun p => Nat.beq p.1 k && (Nat.beq p.2 0 || Nat.beq p.2 (i + 1))
def b_win (F : Nat → Nat → Option (m_I × Nat)) (fz : List (List Int32)) (Fin : Option Value → m_S → Prop) (fs : List m_Fr) (σ : m_S) : Prop := ∃ n o, m_go F fz n fs σ = some o ∧ Fin o.1 o.2
def b_ret (F : Nat → Nat → Option (m_I × Nat)) (fz : List (List Int32)) (Fin : Option Value → m_S → Prop) (gs : List m_Fr) (r : Option Value) (σ : m_S) : Prop := match gs with
  | [] => Fin r σ
  | g :: hs => b_win F fz Fin ((g.1, g.2.1, g.2.2.1, r.toList ++ g.2.2.2) :: hs) σ
def b_out (T : Nat → Option b_C) (G : b_G) (fz : List (List Int32)) (g : Nat) (ρ : Nat → Int) (σ : m_S) (wr : List (Nat × Nat)) (po : b_Tp) (r : Option Value) (σ' : m_S) : Prop :=
  ∃ ρ', b_agr g ρ ρ' ∧ b_gT G fz ρ' σ' po ∧ b_gH T σ' ∧ a_all2 (b_gv po.1.length ρ') po.2.2.2.1 r.toList ∧ r.toList.all (m_okv 139) = true ∧ b_frame (b_wrf wr) σ σ'
def b_Valid (F : Nat → Nat → Option (m_I × Nat)) (fz : List (List Int32)) (T : Nat → Option b_C) (G : b_G) (c : b_K) : Prop :=
  ∀ (Fin : Option Value → m_S → Prop) (ρ : Nat → Int) (σ : m_S) (gs : List m_Fr) (ws : List Value), b_gT G fz ρ σ c.2.2.1 → b_gH T σ → a_all2 (b_gv c.2.2.1.1.length ρ) c.2.2.1.2.2.2.1 ws → ws.all (m_okv 139) = true → gs.length + c.2.1 ≤ 60 →
    (∀ r σ', (∃ po ∈ c.2.2.2.2, b_out T G fz c.2.2.1.1.length ρ σ c.2.2.2.1 po r σ') → b_ret F fz Fin gs r σ') → b_win F fz Fin ((c.1, 0, lv_args 0 ws, []) :: gs) σ
def b_keep (dep : Nat → Nat → Bool) (wr : List (Nat × Nat)) (M : b_M) : b_M := M.filter fun q => !(wr.any fun p => (Nat.beq p.1 q.1 && (Nat.beq p.2 0 || (match q.2.1.2 with
  | [] => decide (q.2.1.1 + 1 = (p.2 : Int))
  | _ => true))) || dep q.1 p.1)
def b_exts : b_NF → List b_L → List b_B → b_NF × List b_L
  | W, θ, [] => (W, θ)
  | W, θ, q :: r => b_exts (b_fresh W q.1 q.2.1 q.2.2).1 (θ ++ [(b_fresh W q.1 q.2.1 q.2.2).2]) r
def b_setm (W : b_NF) (x : b_L) (mk : Nat) : b_NF := match x.2 with
  | [e] => bif decide (x.1 = 0) && decide (e.2 = 1) then (match b_at W.1 e.1 with
    | some b => (b_sb W.1 e.1 (b.1, b.2.1, bif Nat.beq b.2.2 0 then mk else b.2.2 &&& mk), W.2)
    | none => W) else W
  | _ => W
noncomputable def b_lrB (W : b_NF) (x : b_L) (p q : b_B) : List b_NF :=
  (bif decide (p.1 < q.1) then b_lrn (bif Nat.beq p.2.2 q.2.2 then W else b_setm W x q.2.2) (b_adc (b_neg x) q.1) else [bif Nat.beq p.2.2 q.2.2 then W else b_setm W x q.2.2]).flatMap fun U => bif decide (q.2.1 < p.2.1) then b_lrn U (b_adc x (-q.2.1)) else [U]
noncomputable def b_lrBs : b_NF → List b_L → List b_B → List b_B → List b_NF
  | W, x :: xs, p :: ps, q :: qs => (b_lrB W x p q).flatMap fun U => b_lrBs U xs ps qs
  | W, _, _, _ => [W]
noncomputable def b_lrF (θ : List b_L) : b_F → List b_NF → Option (List b_NF)
  | [], L => some L
  | f :: r, L => match b_sub θ f with
    | some y => b_lrF θ r (L.flatMap fun U => b_lrn U y)
    | none => none
def b_sbV (θ : List b_L) : List b_V → Option (List b_V)
  | [] => some []
  | v :: r => bif Nat.ble v.1 1 then (match b_sub θ v.2, b_sbV θ r with
    | some y, some t => some ((v.1, y) :: t)
    | _, _ => none) else none
def b_sbM (θ : List b_L) : b_M → Option b_M
  | [] => some []
  | q :: r => bif Nat.ble q.2.2.1 1 then (match b_sub θ q.2.1, b_sub θ q.2.2.2, b_sbM θ r with
    | some x, some y, some t => some ((q.1, x, (q.2.2.1, y)) :: t)
    | _, _, _ => none) else none
/-- the caller's states behind a call, for one of what may hold then -/
noncomputable def b_app (dep : Nat → Nat → Bool) (W : b_NF) (M : b_M) (θ : List b_L) (pN : List b_B) (wr : List (Nat × Nat)) (po : b_Tp) : Option (List (b_NF × b_M × List b_V)) :=
  match b_lrF (b_exts W θ (po.1.drop pN.length)).2 po.2.1 (b_lrBs (b_exts W θ (po.1.drop pN.length)).1 θ pN po.1), b_sbM (b_exts W θ (po.1.drop pN.length)).2 po.2.2.2.2, b_sbV (b_exts W θ (po.1.drop pN.length)).2 po.2.2.2.1 with
  | some L, some M1, some t => some (L.map fun U => (U, M1 ++ b_keep dep wr M, t))
  | _, _, _ => none
section B77
variable {T : Nat → Option b_C} {G : b_G} {fz : List (List Int32)} {dep : Nat → Nat → Bool} {ρ : Nat → Int} {W : b_NF} {M : b_M} {σ σ' : m_S} {θ : List b_L} {wr : List (Nat × Nat)}
theorem b_keep_ok {n : Nat} (hG : b_GOk G dep) (hM : b_gM G fz n ρ σ M) (hf : b_frame (b_wrf wr) σ σ') : b_gM G fz n ρ σ' (b_keep dep wr M) := by
  intro q hq
  obtain ⟨h1, h2⟩ := List.mem_filter.mp hq
  simp only [Bool.not_eq_true'] at h2
  have h3 := List.any_eq_false.mp h2
  obtain ⟨a, g1, g2⟩ := hM q h1
  refine ⟨a, g1, ?_⟩
  by_cases c1 : q.1 < 139
  · rw [if_pos c1] at g2 ⊢
    obtain ⟨i, e1, w, g3, g4⟩ := g2
    refine ⟨i, e1, w, ?_, g4⟩
    rw [hf q.1 i, g3]
    unfold b_wrf
    refine List.any_eq_false.mpr (fun p hp h9 => h3 p hp ?_)
    rw [Bool.and_eq_true, Bool.or_eq_true] at h9
    rw [Bool.or_eq_true]
    left
    rw [Bool.and_eq_true, Bool.or_eq_true]
    refine ⟨h9.1, ?_⟩
    rcases h9.2 with h | h
    · exact Or.inl h
    · right
      split
      · rename_i e2
        have h4 := g1.1
        unfold b_ev at h4
        rw [e2] at h4
        simp only [b_evs, Int.add_zero] at h4
        have h5 := Nat.eq_of_beq_eq_true h
        simp only [decide_eq_true_eq]
        omega
      · rfl
  · rw [if_neg c1] at g2 ⊢
    by_cases c2 : q.1 < m_fzb
    · rw [if_pos c2] at g2 ⊢
      rw [hG q.1 σ σ' (fun c hc i' => hf c i' ?_) a]
      · exact g2
      · unfold b_wrf
        refine List.any_eq_false.mpr (fun p hp h9 => h3 p hp ?_)
        rw [Bool.and_eq_true] at h9
        rw [Bool.or_eq_true]
        right
        rw [Nat.eq_of_beq_eq_true h9.1]
        exact hc
    · rw [if_neg c2] at g2 ⊢
      exact g2
theorem b_exts_ok {ρc : Nat → Int} : ∀ {l : List b_B} {W : b_NF} {θ : List b_L} {ρ : Nat → Int}, b_gW W ρ → b_ua W.1.1 θ → (∀ s, s < θ.length → b_rt ρ θ s = ρc s) → (∀ (j : Nat) (q : b_B), l[j]? = some q → b_gB q (ρc (θ.length + j))) →
    ∃ ρ', b_ext W ρ (b_exts W θ l).1 ρ' ∧ b_ua (b_exts W θ l).1.1.1 (b_exts W θ l).2 ∧ b_pre θ (b_exts W θ l).2 ∧ (b_exts W θ l).2.length = θ.length + l.length ∧ ∀ s, s < θ.length + l.length → b_rt ρ' (b_exts W θ l).2 s = ρc s
  | [], W, θ, ρ, hW, hθ, hs, _ => ⟨ρ, b_ext.rf hW, hθ, fun _ _ h => h, rfl, hs⟩
  | q :: r, W, θ, ρ, hW, hθ, hs, hl => by
    have h0 := hl 0 q rfl
    obtain ⟨ρ1, g1, g2⟩ := b_fresh_ok hW h0.1 h0.2.1 h0.2.2
    have hua : b_ua (b_fresh W q.1 q.2.1 q.2.2).1.1.1 (θ ++ [(b_fresh W q.1 q.2.1 q.2.2).2]) := by
      intro y hy
      rcases List.mem_append.mp hy with h | h
      · exact hθ.up g1 y h
      · rw [List.mem_singleton.mp h]; exact g2.2
    have hpre : b_pre θ (θ ++ [(b_fresh W q.1 q.2.1 q.2.2).2]) := fun s y hy => by
      rw [List.getElem?_append_left (List.getElem?_eq_some_iff.mp hy).1]; exact hy
    have hs1 : ∀ s, s < (θ ++ [(b_fresh W q.1 q.2.1 q.2.2).2]).length → b_rt ρ1 (θ ++ [(b_fresh W q.1 q.2.1 q.2.2).2]) s = ρc s := by
      intro s hlt
      rw [List.length_append, List.length_singleton] at hlt
      by_cases c : s < θ.length
      · rw [← hs s c]
        have e1 : θ[s]? = some θ[s] := List.getElem?_eq_getElem c
        have e2 := hpre s _ e1
        rw [← (b_rt_ok (ρ := ρ1) hua e2).1, ← (b_rt_ok (ρ := ρ) hθ e1).1]
        exact (((show b_gx W.1.1 ρ θ[s] (b_ev ρ θ[s]) from ⟨rfl, hθ _ (List.getElem_mem c)⟩)).up g1).1
      · have : s = θ.length := by omega
        subst this
        unfold b_rt
        simp only [List.getD, List.getElem?_append_right (Nat.le_refl _), Nat.sub_self, List.getElem?_cons_zero, Option.getD_some]
        exact g2.1
    obtain ⟨ρ2, k1, k2, k3, k4, k5⟩ := b_exts_ok (l := r) g1.2.2 hua hs1 (fun j p hp => by
      have := hl (j + 1) p hp
      rw [List.length_append, List.length_singleton]
      have e : θ.length + 1 + j = θ.length + (j + 1) := by omega
      rw [e]; exact this)
    refine ⟨ρ2, g1.tr k1, k2, hpre.tr k3, ?_, fun s hlt => k5 s ?_⟩
    · show (b_exts _ _ r).2.length = _
      rw [k4, List.length_append, List.length_singleton, List.length_cons]
      omega
    · rw [List.length_append, List.length_singleton]
      rw [List.length_cons] at hlt
      omega
theorem b_setm_ok (hW : b_gW W ρ) {x : b_L} {a : Int} {mk : Nat} (hx : b_gx W.1.1 ρ x a) (hm : b_mk mk a) : b_gW (b_setm W x mk) ρ ∧ (b_setm W x mk).1.1 = W.1.1 := by
  unfold b_setm
  split
  · rename_i e he
    cases e1 : decide (x.1 = 0) && decide (e.2 = 1) with
    | true =>
      simp only [Bool.and_eq_true, decide_eq_true_eq] at e1
      simp only [cond_true]
      have ha : a = ρ e.1 := by
        rw [← hx.1]; unfold b_ev; rw [he, e1.1]; simp only [b_evs, e1.2]; omega
      split
      · rename_i b hb
        obtain ⟨g1, g2, g3⟩ := hW.1.2 _ _ hb
        refine ⟨⟨b_sb_ok hW.1 (b_at_lt hb) ⟨g1, g2, ?_⟩, hW.2⟩, rfl⟩
        rw [ha] at hm
        dsimp only
        cases e2 : Nat.beq b.2.2 0 with
        | true => exact hm
        | false =>
          simp only [cond_false]
          intro hne
          have hb0 : b.2.2 ≠ 0 := fun h9 => by rw [h9] at e2; cases e2
          obtain ⟨j, p1, p2⟩ := g3 hb0
          have hmk : mk ≠ 0 := fun h9 => by rw [h9] at hne; simp at hne
          obtain ⟨j2, p3, p4⟩ := hm hmk
          have : j = j2 := by omega
          subst this
          exact ⟨j, by rw [Nat.testBit_and, p1, p3]; rfl, p2⟩
      · exact ⟨hW, rfl⟩
    | false => exact ⟨hW, rfl⟩
  · exact ⟨hW, rfl⟩
theorem b_lrB_ok (hW : b_gW W ρ) {x : b_L} {a : Int} {p q : b_B} (hx : b_gx W.1.1 ρ x a) (hq : b_gB q a) : ∃ U ∈ b_lrB W x p q, b_gW U ρ ∧ U.1.1 = W.1.1 := by
  unfold b_lrB
  have h0 : ∀ V : b_NF, V = (bif Nat.beq p.2.2 q.2.2 then W else b_setm W x q.2.2) → b_gW V ρ ∧ V.1.1 = W.1.1 := by
    intro V hV
    rw [hV]
    exact b_bif (P := fun V : b_NF => b_gW V ρ ∧ V.1.1 = W.1.1) (fun _ => ⟨hW, rfl⟩) (fun _ => b_setm_ok hW hx hq.2.2)
  obtain ⟨V, hV⟩ : ∃ V, V = (bif Nat.beq p.2.2 q.2.2 then W else b_setm W x q.2.2) := ⟨_, rfl⟩
  obtain ⟨h1, h2⟩ := h0 V hV
  rw [← hV]
  have hxV : b_gx V.1.1 ρ x a := by rw [h2]; exact hx
  obtain ⟨U, g1, g2, g3⟩ : ∃ U ∈ (bif decide (p.1 < q.1) then b_lrn V (b_adc (b_neg x) q.1) else [V]), b_gW U ρ ∧ U.1.1 = V.1.1 := by
    refine b_bif (P := fun l : List b_NF => ∃ U ∈ l, b_gW U ρ ∧ U.1.1 = V.1.1) (fun _ => b_lrn_ok h1 (hxV.neg.adc q.1) (by have := hq.1; omega)) (fun _ => ⟨V, List.mem_singleton.mpr rfl, h1, rfl⟩)
  obtain ⟨U2, k1, k2, k3⟩ : ∃ U2 ∈ (bif decide (q.2.1 < p.2.1) then b_lrn U (b_adc x (-q.2.1)) else [U]), b_gW U2 ρ ∧ U2.1.1 = U.1.1 := by
    refine b_bif (P := fun l : List b_NF => ∃ U2 ∈ l, b_gW U2 ρ ∧ U2.1.1 = U.1.1) (fun _ => b_lrn_ok g2 (by rw [g3]; exact hxV.adc (-q.2.1)) (by have := hq.2.1; omega)) (fun _ => ⟨U, List.mem_singleton.mpr rfl, g2, rfl⟩)
  exact ⟨U2, List.mem_flatMap.mpr ⟨U, g1, k1⟩, k2, by rw [k3, g3, h2]⟩
theorem b_lrBs_ok : ∀ {xs : List b_L} {ps qs : List b_B} {W : b_NF}, b_gW W ρ → b_ua W.1.1 xs → (∀ (s : Nat) (q : b_B) (x : b_L), qs[s]? = some q → xs[s]? = some x → b_gB q (b_ev ρ x)) → ∃ U ∈ b_lrBs W xs ps qs, b_gW U ρ ∧ U.1.1 = W.1.1
  | [], _, _, W, hW, _, _ => ⟨W, by unfold b_lrBs; exact List.mem_singleton.mpr rfl, hW, rfl⟩
  | _ :: _, [], _, W, hW, _, _ => ⟨W, by unfold b_lrBs; exact List.mem_singleton.mpr rfl, hW, rfl⟩
  | _ :: _, _ :: _, [], W, hW, _, _ => ⟨W, by unfold b_lrBs; exact List.mem_singleton.mpr rfl, hW, rfl⟩
  | x :: xs, p :: ps, q :: qs, W, hW, hu, hq => by
    unfold b_lrBs
    obtain ⟨U, g1, g2, g3⟩ := b_lrB_ok (p := p) hW ⟨rfl, hu x List.mem_cons_self⟩ (hq 0 q x rfl rfl)
    obtain ⟨V, k1, k2, k3⟩ := b_lrBs_ok (xs := xs) (ps := ps) (qs := qs) g2 (by rw [g3]; exact fun y hy => hu y (List.mem_cons_of_mem _ hy)) (fun s q' x' h1 h2 => hq (s + 1) q' x' h1 h2)
    exact ⟨V, List.mem_flatMap.mpr ⟨U, g1, k1⟩, k2, k3.trans g3⟩
theorem b_lrF_ok {n : Nat} {ρc : Nat → Int} : ∀ {l : b_F} {L L' : List b_NF}, (∃ U ∈ L, b_gW U ρ ∧ U.1.1 = n) → (∀ f y, f ∈ l → b_sub θ f = some y → ∃ a, b_gx n ρ y a ∧ a ≤ 0) → b_lrF θ l L = some L' → ∃ U ∈ L', b_gW U ρ ∧ U.1.1 = n
  | [], L, L', hL, _, h => by cases h; exact hL
  | f :: r, L, L', hL, hf, h => by
    unfold b_lrF at h
    split at h
    · rename_i y hy
      obtain ⟨U, g1, g2, g3⟩ := hL
      obtain ⟨a, k1, k2⟩ := hf f y List.mem_cons_self hy
      obtain ⟨V, q1, q2, q3⟩ := b_lrn_ok g2 (by rw [g3]; exact k1) k2
      exact b_lrF_ok (ρc := ρc) ⟨V, List.mem_flatMap.mpr ⟨U, g1, q1⟩, q2, q3.trans g3⟩ (fun f' y' h1 h2 => hf f' y' (List.mem_cons_of_mem _ h1) h2) h
    · cases h
end B77

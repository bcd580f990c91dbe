/-! THE WALK of a method between its cuts -/
abbrev b_Fr : Type := Nat × Nat × b_Lv × List b_V
abbrev b_Q : Type := b_NF × b_M × List b_Fr
abbrev b_Cu : Type := Nat × b_Tp × b_L
abbrev b_Hn : Type := Nat → Nat → b_NF → b_M → b_Lv → List b_V → Option (List (b_NF × b_M))
def b_ids (g : Nat) : List b_L := (List.range g).map b_sym
def b_cl (T : Nat → Option b_C) (I : m_I) (st : List b_V) : Option (List b_V × List b_V) :=
  bif decide (I.2.2.1 = 2) || decide (I.2.2.1 = 5) then (bif Nat.ble (I.2.2.2.getD 0 0) st.length then some ((st.take (I.2.2.2.getD 0 0)).reverse, st.drop (I.2.2.2.getD 0 0)) else none)
  else match st.drop (I.2.2.2.getD 0 0) with
    | b :: r => bif b_rf b then (match T b.2.1.toNat with
      | some c => bif Nat.beq c.1 0 && Nat.beq c.2.1 (I.2.2.2.getD 2 0) then some (b :: (st.take (I.2.2.2.getD 0 0)).reverse, r) else none
      | none => none) else none
    | [] => none
def b_args : Nat → List b_V → b_Lv
  | _, [] => []
  | i, v :: vs => (i, v) :: b_args (bif Nat.beq v.1 1 then i + 2 else i + 1) vs
def b_isub (wrc wr : List (Nat × Nat)) : Bool := wrc.all fun p => wr.any fun r => Nat.beq r.1 p.1 && (Nat.beq r.2 0 || (Nat.beq r.2 p.2 && !(Nat.beq p.2 0)))
noncomputable def b_apps (dep : Nat → Nat → Bool) (W : b_NF) (M : b_M) (θ : List b_L) (pN : List b_B) (wr : List (Nat × Nat)) : List b_Tp → Option (List (b_NF × b_M × List b_V))
  | [] => some []
  | po :: r => match b_app dep W M θ pN wr po, b_apps dep W M θ pN wr r with
    | some L, some K => some (L ++ K)
    | _, _ => none
/-- by the first contract of that method that is met -/
noncomputable def b_byK (T : Nat → Option b_C) (dep : Nat → Nat → Bool) (wr : List (Nat × Nat)) (room h : Nat) (W : b_NF) (M : b_M) (mid : Nat) (as : List b_V) : List b_K → Option (List (b_NF × b_M × List b_V))
  | [] => none
  | k :: r => bif Nat.beq k.1 mid then (match b_match T W M [] as [] k.2.2.1 with
      | some U => bif Nat.ble (k.2.1 + room) h && (b_isub k.2.2.2.1 wr && (b_tpu k.2.2.1 && k.2.2.2.2.all (fun po => Nat.ble k.2.2.1.1.length po.1.length))) then b_apps dep U.1 U.2.1 U.2.2 k.2.2.1.1 k.2.2.2.1 k.2.2.2.2 else none
      | none => b_byK T dep wr room h W M mid as r) else b_byK T dep wr room h W M mid as r
noncomputable def b_rok (W : b_NF) (k : Nat) (st : List b_V) : Bool := match k, st with
  | 0, [v] => decide (b_knd v = 0)
  | 1, [v] => decide (b_knd v = 1)
  | 2, [] => true
  | 3, [v] => Nat.beq v.1 0 && (b_le W v.2 1 && b_ge W v.2 0)
  | _, _ => false
noncomputable def b_adv (F : Nat → Nat → Option (m_I × Nat)) (T : Nat → Option b_C) (Z : Nat → Option (List Int32)) (dep : Nat → Nat → Bool) (hn : b_Hn) (Γ : List b_K) (wr : List (Nat × Nat)) (h g : Nat) (posts : List b_Tp) (ih : b_Q → Bool) (Q : b_Q) : Bool := match Q.2.2 with
  | [] => false
  | f :: gs => match hn f.1 f.2.1 Q.1 Q.2.1 f.2.2.1 f.2.2.2 with
    | some L => L.all fun q => ih (q.1, q.2, f :: gs)
    | none => match F f.1 f.2.1 with
      | none => false
      | some Il => bif Nat.beq Il.1.1 24 then (match b_cl T Il.1 f.2.2.2 with
          | some ar => bif Nat.ble (b_cats ar.2) 8 && (Nat.ble (b_cats ar.1) (Il.1.2.2.2.getD 1 0) && Nat.ble (gs.length + 1) h) then (bif Γ.any (fun k => Nat.beq k.1 Il.1.2.1) then (match b_byK T dep wr (gs.length + 1) h Q.1 Q.2.1 Il.1.2.1 ar.1 Γ with
                | some L => L.all fun q => ih (q.1, q.2.1, (f.1, f.2.1 + Il.2, f.2.2.1, q.2.2 ++ ar.2) :: gs)
                | none => false) else Nat.ble (gs.length + 2) h && ih (Q.1, Q.2.1, (Il.1.2.1, 0, b_args 0 ar.1, []) :: (f.1, f.2.1 + Il.2, f.2.2.1, ar.2) :: gs)) else false
          | none => false)
        else bif Nat.beq Il.1.1 27 then b_rok Q.1 Il.1.2.1 f.2.2.2 && (match gs with
          | [] => posts.any fun po => b_tpu po && (match b_match T Q.1 Q.2.1 [] f.2.2.2 (b_ids g) po with
            | some _ => true
            | none => false)
          | f2 :: hs => ih (Q.1, Q.2.1, (f2.1, f2.2.1, f2.2.2.1, f.2.2.2 ++ f2.2.2.2) :: hs))
        else match b_loc T Z dep (b_wrf wr) Q.1 Q.2.1 Il.1 (f.2.1 + Il.2) f.2.2.1 f.2.2.2 with
          | some L => L.all fun r => ih (r.1, r.2.1, (f.1, r.2.2.1, r.2.2.2.1, r.2.2.2.2) :: gs)
          | none => false
noncomputable def b_arr (T : Nat → Option b_C) (g : Nat) (rk : Option b_L) (Q : b_Q) (lv : b_Lv) (st : List b_V) (C : b_Cu) : Bool := match b_match T Q.1 Q.2.1 lv st (b_ids g) C.2.1 with
  | some U => (match b_sub U.2.2 C.2.2 with
    | some y => b_ge U.1 y 0 && (match rk with
      | some r0 => b_le U.1 (b_add y (-1) r0) (-1)
      | none => true)
    | none => false)
  | none => false
noncomputable def b_atc (T : Nat → Option b_C) (mid g : Nat) (rk : Option b_L) (cuts : List b_Cu) (Q : b_Q) : Option Bool := match Q.2.2 with
  | [f] => bif Nat.beq f.1 mid && cuts.any (fun C => Nat.beq C.1 f.2.1) then some (cuts.any fun C => Nat.beq C.1 f.2.1 && (b_tpu C.2.1 && b_arr T g rk Q f.2.2.1 f.2.2.2 C)) else none
  | _ => none
noncomputable def b_walk (F : Nat → Nat → Option (m_I × Nat)) (T : Nat → Option b_C) (Z : Nat → Option (List Int32)) (dep : Nat → Nat → Bool) (hn : b_Hn) (Γ : List b_K) (wr : List (Nat × Nat)) (mid h g : Nat) (posts : List b_Tp) (cuts : List b_Cu) (rk : Option b_L) (n : Nat) : b_Q → Bool :=
  Nat.rec (motive := fun _ => b_Q → Bool) (fun _ => false) (fun _ ih Q => match b_atc T mid g rk cuts Q with
    | some b => b
    | none => b_adv F T Z dep hn Γ wr h g posts ih Q) n
/-- what hints may do: a state that knows no less, one of several -/
def b_HnOk (T : Nat → Option b_C) (G : b_G) (fz : List (List Int32)) (hn : b_Hn) : Prop := ∀ mid pc W M lv st L ρ σ cl cs, hn mid pc W M lv st = some L → b_gW W ρ → b_gH T σ → b_gM G fz W.1.1 ρ σ M → b_gf W.1.1 ρ lv st cl cs → ∃ q ∈ L, ∃ ρ', b_ext W ρ q.1 ρ' ∧ b_gM G fz q.1.1.1 ρ' σ q.2
def b_gfr (n : Nat) (ρ : Nat → Int) (x : b_Fr) (z : m_Fr) : Prop := x.1 = z.1 ∧ x.2.1 = z.2.1 ∧ b_gf n ρ x.2.2.1 x.2.2.2 z.2.2.1 z.2.2.2
/-- from here all goes well, whatever the numbers are that agree with those of the start -/
def b_Good (F : Nat → Nat → Option (m_I × Nat)) (fz : List (List Int32)) (T : Nat → Option b_C) (G : b_G) (wr : List (Nat × Nat)) (Fin : Option Value → m_S → Prop) (gs : List m_Fr) (σ0 : m_S) (n1 : Nat) (ρ1 : Nat → Int) (Q : b_Q) : Prop :=
  ∀ ρ σ cfs, b_agr n1 ρ1 ρ → n1 ≤ Q.1.1.1 → b_gW Q.1 ρ → b_gH T σ → b_gM G fz Q.1.1.1 ρ σ Q.2.1 → a_all2 (b_gfr Q.1.1.1 ρ) Q.2.2 cfs → b_frame (b_wrf wr) σ0 σ → b_win F fz Fin (cfs ++ gs) σ
section B79
variable {F : Nat → Nat → Option (m_I × Nat)} {T : Nat → Option b_C} {Z : Nat → Option (List Int32)} {G : b_G} {fz : List (List Int32)} {dep : Nat → Nat → Bool} {hn : b_Hn} {Γ : List b_K} {wr : List (Nat × Nat)} {h g : Nat} {posts : List b_Tp} {cuts : List b_Cu} {Fin : Option Value → m_S → Prop} {gs : List m_Fr} {σ0 : m_S} {n1 : Nat} {ρ1 : Nat → Int}
theorem b_win_step {fs fs' : List m_Fr} {σ σ' : m_S} (hs : m_next F fz fs σ = some (.inl (fs', σ'))) (hw : b_win F fz Fin fs' σ') : b_win F fz Fin fs σ := by
  obtain ⟨n, o, h1, h2⟩ := hw
  refine ⟨n + 1, o, ?_, h2⟩
  simp only [m_go, hs]
  exact h1
theorem b_win_end {fs : List m_Fr} {σ : m_S} {o : Option Value × m_S} (hs : m_next F fz fs σ = some (.inr o)) (hf : Fin o.1 o.2) : b_win F fz Fin fs σ := by
  refine ⟨1, o, ?_, hf⟩
  simp only [m_go, hs]
theorem b_frame.tr {Wr : Nat → Nat → Bool} {a b c : m_S} (h1 : b_frame Wr a b) (h2 : b_frame Wr b c) : b_frame Wr a c := fun k i hk => (h2 k i hk).trans (h1 k i hk)
theorem b_gfr.up {W W' : b_NF} {ρ ρ' : Nat → Int} {x : b_Fr} {z : m_Fr} (he : b_ext W ρ W' ρ') (h : b_gfr W.1.1 ρ x z) : b_gfr W'.1.1 ρ' x z := ⟨h.1, h.2.1, h.2.2.up he⟩
theorem b_agr.tr {n m : Nat} {a b c : Nat → Int} (h1 : b_agr n a b) (h2 : b_agr m b c) (hn : n ≤ m) : b_agr n a c := fun s hs => (h2 s (Nat.lt_of_lt_of_le hs hn)).trans (h1 s hs)
theorem b_isub_ok {wrc : List (Nat × Nat)} (h : b_isub wrc wr = true) {k i : Nat} (hk : b_wrf wrc k i = true) : b_wrf wr k i = true := by
  unfold b_wrf at hk ⊢
  obtain ⟨p, h1, h2⟩ := List.any_eq_true.mp hk
  obtain ⟨r, h3, h4⟩ := List.any_eq_true.mp (List.all_eq_true.mp h p h1)
  refine List.any_eq_true.mpr ⟨r, h3, ?_⟩
  simp only [Bool.and_eq_true, Bool.or_eq_true, Bool.not_eq_true'] at h2 h4 ⊢
  have e1 := Nat.eq_of_beq_eq_true h2.1
  have e2 := Nat.eq_of_beq_eq_true h4.1
  refine ⟨by rw [e2, e1]; exact Nat.beq_refl k, ?_⟩
  rcases h4.2 with h5 | ⟨h5, h6⟩
  · exact Or.inl h5
  · right
    rcases h2.2 with h7 | h7
    · rw [h7] at h6; cases h6
    · rw [Nat.eq_of_beq_eq_true h5]; exact h7
theorem b_apps_ok {W : b_NF} {M : b_M} {θ : List b_L} {pN : List b_B} {wrc : List (Nat × Nat)} {ρ : Nat → Int} {σ σ' : m_S} {r : Option Value} (hG : b_GOk G dep) (hW : b_gW W ρ) (hM : b_gM G fz W.1.1 ρ σ M) (hθ : b_ua W.1.1 θ) (hlen : θ.length = pN.length) : ∀ {l : List b_Tp} {L : List (b_NF × b_M × List b_V)}, l.all (fun po => Nat.ble pN.length po.1.length) = true → (∃ po ∈ l, b_out T G fz pN.length (b_rt ρ θ) σ wrc po r σ') → b_apps dep W M θ pN wrc l = some L → ∃ q ∈ L, ∃ ρ', b_ext W ρ q.1 ρ' ∧ b_gM G fz q.1.1.1 ρ' σ' q.2.1 ∧ a_all2 (b_gv q.1.1.1 ρ') q.2.2 r.toList
  | [], _, _, ⟨_, hp, _⟩, _ => by cases hp
  | p :: l, L, ha, ⟨po, hp, ho⟩, h => by
    rw [List.all_cons, Bool.and_eq_true] at ha
    unfold b_apps at h
    split at h
    · rename_i L1 L2 h1 h2
      cases h
      rcases List.mem_cons.mp hp with rfl | hp
      · obtain ⟨q, g1, g2⟩ := b_app_ok hG hW hM hθ hlen (Nat.le_of_ble_eq_true ha.1) ho h1
        exact ⟨q, List.mem_append_left _ g1, g2⟩
      · obtain ⟨q, g1, g2⟩ := b_apps_ok hG hW hM hθ hlen ha.2 ⟨po, hp, ho⟩ h2
        exact ⟨q, List.mem_append_right _ g1, g2⟩
    · cases h
end B79

/-! a call by its contract: the caller's states behind it -/
section B78
variable {T : Nat → Option b_C} {G : b_G} {fz : List (List Int32)} {dep : Nat → Nat → Bool} {ρ ρc : Nat → Int} {W : b_NF} {M : b_M} {σ σ' : m_S} {θ : List b_L} {wr : List (Nat × Nat)} {n m : Nat}
theorem b_ev_rt (hs : ∀ s, s < m → b_rt ρ θ s = ρc s) {x : b_L} (hx : b_u m x) : b_ev (b_rt ρ θ) x = b_ev ρc x := by
  unfold b_ev
  rw [b_evs_agr (ρ := ρc) (ρ' := b_rt ρ θ) (n := m) hs hx]
theorem b_sub_gx (hθ : b_ua n θ) (hs : ∀ s, s < m → b_rt ρ θ s = ρc s) {x y : b_L} {a : Int} (hx : b_gx m ρc x a) (h : b_sub θ x = some y) : b_gx n ρ y a := by
  have := b_sub_ok (ρ := ρ) hθ h
  rw [b_ev_rt hs hx.2, hx.1] at this
  exact this
theorem b_sub_gv (hθ : b_ua n θ) (hs : ∀ s, s < m → b_rt ρ θ s = ρc s) {v : b_V} {y : b_L} {w : Value} (ht : Nat.ble v.1 1 = true) (hv : b_gv m ρc v w) (h : b_sub θ v.2 = some y) : b_gv n ρ (v.1, y) w := by
  have ht := Nat.le_of_ble_eq_true ht
  obtain ⟨t, x⟩ := v
  unfold b_gv at hv ⊢
  dsimp only at hv h ht ⊢
  split at hv
  · exact b_sub_gx hθ hs hv h
  · exact b_sub_gx hθ hs hv h
  · omega
  · omega
  · exact hv.elim
theorem b_sbV_ok (hθ : b_ua n θ) (hs : ∀ s, s < m → b_rt ρ θ s = ρc s) : ∀ {l t : List b_V} {cs : List Value}, a_all2 (b_gv m ρc) l cs → b_sbV θ l = some t → a_all2 (b_gv n ρ) t cs
  | [], t, [], _, h => by cases h; trivial
  | [], _, _ :: _, h, _ => h.elim
  | v :: r, t, cs, hv, h => by
    obtain ⟨w, cs', rfl, g1, g2⟩ := b_cons hv
    unfold b_sbV at h
    cases e : Nat.ble v.1 1 with
    | true =>
      rw [e] at h
      simp only [cond_true] at h
      split at h
      · rename_i y t' h1 h2
        cases h
        exact ⟨b_sub_gv hθ hs e g1 h1, b_sbV_ok hθ hs g2 h2⟩
      · cases h
    | false => rw [e] at h; cases h
theorem b_sbM_ok (hθ : b_ua n θ) (hs : ∀ s, s < m → b_rt ρ θ s = ρc s) : ∀ {l t : b_M}, b_gM G fz m ρc σ l → b_sbM θ l = some t → b_gM G fz n ρ σ t
  | [], t, _, h => by cases h; intro q hq; cases hq
  | p :: r, t, hM, h => by
    unfold b_sbM at h
    cases e : Nat.ble p.2.2.1 1 with
    | true =>
      rw [e] at h
      simp only [cond_true] at h
      split at h
      · rename_i x y t' h1 h2 h3
        cases h
        intro q hq
        rcases List.mem_cons.mp hq with rfl | hq
        · obtain ⟨a, g1, g2⟩ := hM p List.mem_cons_self
          refine ⟨a, b_sub_gx hθ hs g1 h1, ?_⟩
          dsimp only
          by_cases c1 : p.1 < 139
          · rw [if_pos c1] at g2 ⊢
            obtain ⟨i, e1, w, g3, g4⟩ := g2
            exact ⟨i, e1, w, g3, b_sub_gv hθ hs e g4 h2⟩
          · rw [if_neg c1] at g2 ⊢
            by_cases c2 : p.1 < m_fzb
            · rw [if_pos c2] at g2 ⊢
              exact ⟨g2.1, b_sub_gx hθ hs g2.2 h2⟩
            · rw [if_neg c2] at g2 ⊢
              obtain ⟨i, e1, zs, z, g4, g5, g6⟩ := g2
              exact ⟨i, e1, zs, z, g4, g5, b_sub_gv hθ hs e g6 h2⟩
        · exact b_sbM_ok hθ hs (fun q hq => hM q (List.mem_cons_of_mem _ hq)) h3 q hq
      · cases h
    | false => rw [e] at h; cases h
theorem b_app_ok {pN : List b_B} {po : b_Tp} {r : Option Value} {L : List (b_NF × b_M × List b_V)} (hG : b_GOk G dep) (hW : b_gW W ρ) (hM : b_gM G fz W.1.1 ρ σ M) (hθ : b_ua W.1.1 θ) (hlen : θ.length = pN.length) (hpo : pN.length ≤ po.1.length) (ho : b_out T G fz pN.length (b_rt ρ θ) σ wr po r σ') (h : b_app dep W M θ pN wr po = some L) :
    ∃ q ∈ L, ∃ ρ', b_ext W ρ q.1 ρ' ∧ b_gM G fz q.1.1.1 ρ' σ' q.2.1 ∧ a_all2 (b_gv q.1.1.1 ρ') q.2.2 r.toList := by
  obtain ⟨ρc, o1, ⟨⟨o2, o3⟩, o4⟩, o5, o6, o7, o8⟩ := ho
  have hN : ∀ (s : Nat) (q : b_B), po.1[s]? = some q → b_gB q (ρc s) := fun s q hq => o2.2 s q (by rw [b_toN_at]; exact hq)
  obtain ⟨ρ1, g1, g2, g3, g4, g5⟩ := b_exts_ok (ρc := ρc) (l := po.1.drop pN.length) hW hθ (fun s hs => (o1 s (by omega)).symm) (fun j q hq => by
    rw [List.getElem?_drop] at hq
    rw [hlen]
    exact hN _ q hq)
  have hm : θ.length + (po.1.drop pN.length).length = po.1.length := by rw [List.length_drop]; omega
  rw [hm] at g4 g5
  unfold b_app at h
  split at h
  · rename_i L1 M1 t h1 h2 h3
    cases h
    have hB := b_lrBs_ok (ps := pN) (qs := po.1) g1.2.2 (hθ.up g1) (fun s q x hq hx => by
      have hs : s < θ.length := (List.getElem?_eq_some_iff.mp hx).1
      have e1 := b_rt_ok (ρ := ρ1) g2 (g3 s x hx)
      rw [g5 s (by omega)] at e1
      rw [e1.1]
      exact hN s q hq)
    obtain ⟨U, k1, k2, k3⟩ := b_lrF_ok (ρc := ρc) hB (fun f y hf hy => by
      obtain ⟨p1, p2⟩ := o3 f hf
      exact ⟨b_ev ρc f, b_sub_gx g2 g5 ⟨rfl, p2⟩ hy, p1⟩) h1
    have he : b_ext (b_exts W θ (po.1.drop pN.length)).1 ρ1 U ρ1 := ⟨by rw [k3]; exact Nat.le_refl _, fun _ _ => rfl, k2⟩
    refine ⟨_, List.mem_map.mpr ⟨U, k1, rfl⟩, ρ1, g1.tr he, ?_, ?_⟩
    · intro q hq
      rcases List.mem_append.mp hq with hq | hq
      · exact ((b_sbM_ok g2 g5 o4 h2) q hq).up he
      · exact (b_keep_ok hG (hM.up (g1.tr he)) o8) q hq
    · exact b_all2.up he (b_sbV_ok g2 g5 o6 h3)
  · cases h
end B78

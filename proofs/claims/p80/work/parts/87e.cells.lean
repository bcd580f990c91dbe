/-! the step over bounds is right: arrays, new cells -/
section A21
variable {ρ : Nat → Int} {N : a_N} {B : List a_E} {S : a_S} {σ : m_S} {lv : a_L} {lv' : m_V} {st : List a_V} {st' : List Value}
variable {fz : List (List Int32)} {af : a_Z} {pc nx a : Nat} {v : Int} {l : List Nat} {L : List a_R}
theorem a_jl_ok (hN : a_gN N ρ) : ∀ {vs : List a_V} {q : Int × Int} {x : a_V} {w : Value}, a_jl N vs = some q → x ∈ vs → a_gv ρ x w → ∃ X, w = .int X ∧ q.1 ≤ X.toInt ∧ X.toInt ≤ q.2
  | [y], q, x, w, h, hx, hg => by
    rw [List.mem_singleton.mp hx] at hg
    exact a_iv_ok hN hg h
  | y :: z :: r, q, x, w, h, hx, hg => by
    rw [a_jl] at h
    split at h
    · rename_i p q' hp hq'
      cases h
      rcases List.mem_cons.mp hx with rfl | hx
      · obtain ⟨X, rfl, h1, h2⟩ := a_iv_ok hN hg hp
        exact ⟨X, rfl, by dsimp only; omega, by dsimp only; omega⟩
      · obtain ⟨X, rfl, h1, h2⟩ := a_jl_ok hN hq' hx hg
        exact ⟨X, rfl, by dsimp only; omega, by dsimp only; omega⟩
    · cases h
    · exact fun h => by cases h
theorem a_jn_ok {u w z : a_V} {W : Value} (hN : a_gN N ρ) (h : a_jn N u w = some z) (hu : a_gv ρ u W ∨ a_gv ρ w W) : a_gv ρ z W := by
  unfold a_jn at h
  split at h
  · rename_i p q hp hq
    cases h
    rcases hu with hu | hu
    · obtain ⟨X, rfl, h1, h2⟩ := a_iv_ok hN hu hp
      show min p.1 q.1 ≤ X.toInt ∧ X.toInt ≤ max p.2 q.2
      omega
    · obtain ⟨X, rfl, h1, h2⟩ := a_iv_ok hN hu hq
      show min p.1 q.1 ≤ X.toInt ∧ X.toInt ≤ max p.2 q.2
      omega
  · split at h
    · rename_i p q hp hq
      cases h
      rcases hu with hu | hu
      · obtain ⟨X, rfl, h1, h2⟩ := a_ll_ok hN hu hp
        show min p.1 q.1 ≤ X.toInt ∧ X.toInt ≤ max p.2 q.2
        omega
      · obtain ⟨X, rfl, h1, h2⟩ := a_ll_ok hN hu hq
        show min p.1 q.1 ≤ X.toInt ∧ X.toInt ≤ max p.2 q.2
        omega
    · cases h
theorem a_le1_ok {w u : a_V} {W : Value} (hN : a_gN N ρ) (h : a_le1 N w u = true) (hw : a_gv ρ w W) : a_gv ρ u W := by
  obtain ⟨t, b, d⟩ := u
  unfold a_le1 at h
  dsimp only at h
  split at h
  · rename_i e
    subst e
    split at h
    · rename_i q hq
      simp only [Bool.and_eq_true, decide_eq_true_eq] at h
      obtain ⟨X, rfl, h1, h2⟩ := a_iv_ok hN hw hq
      show b ≤ X.toInt ∧ X.toInt ≤ d
      omega
    · cases h
  · split at h
    · rename_i e
      subst e
      split at h
      · rename_i q hq
        simp only [Bool.and_eq_true, decide_eq_true_eq] at h
        obtain ⟨X, rfl, h1, h2⟩ := a_ll_ok hN hw hq
        show b ≤ X.toInt ∧ X.toInt ≤ d
        omega
      · cases h
    · cases h
theorem a_mj_ok {w : a_V} (hN : a_gN N ρ) : ∀ {vs us : List a_V} {ws : List Value}, a_mj N w vs = some us → a_all2 (a_gv ρ) vs ws → a_all2 (a_gv ρ) us ws
  | [], us, [], h, _ => by cases h; trivial
  | x :: vs, us, y :: ws, h, g => by
    unfold a_mj at h
    split at h
    · rename_i u t hu ht
      cases h
      exact ⟨a_jn_ok hN hu (Or.inl g.1), a_mj_ok hN ht g.2⟩
    · cases h
theorem a_mj_set {w : a_V} {W : Value} (hN : a_gN N ρ) (hW : a_gv ρ w W) : ∀ {vs us : List a_V} {ws : List Value} (i : Nat), a_mj N w vs = some us → a_all2 (a_gv ρ) vs ws → a_all2 (a_gv ρ) us (ws.set i W)
  | [], us, [], _, h, _ => by cases h; trivial
  | x :: vs, us, y :: ws, i, h, g => by
    unfold a_mj at h
    split at h
    · rename_i u t hu ht
      cases h
      cases i with
      | zero => exact ⟨a_jn_ok hN hu (Or.inr hW), a_mj_ok hN ht g.2⟩
      | succ i => exact ⟨a_jn_ok hN hu (Or.inl g.1), a_mj_set hN hW i ht g.2⟩
    · cases h
theorem a_inb {X : Int32} {q : Int × Int} {n : Nat} (h : q.1 ≤ X.toInt ∧ X.toInt ≤ q.2) (hq : 0 ≤ q.1 ∧ q.2 < n) : m_in X n = true ∧ X.toNatClampNeg < n ∧ X.toInt = X.toNatClampNeg := by
  have e : X.toNatClampNeg = X.toInt.toNat := rfl
  refine ⟨by simp only [m_in, decide_eq_true_eq]; omega, by rw [e]; omega, by rw [e]; omega⟩
theorem a_getD {α : Type} {xs : List α} {k : Nat} {d : α} (h : k < xs.length) : xs[k]? = some (xs.getD k d) := by
  rw [List.getD, List.getElem?_eq_getElem h]
  rfl
theorem a_ald_ok {X : Int32} {q : Int × Int} {b : Nat} {w : a_V} (hN : a_gN N ρ) (hz : a_all2 (a_gz ρ) af fz) (hS : a_gS ρ B S σ) (hX : q.1 ≤ X.toInt ∧ X.toInt ≤ q.2) (hbf : b < m_fzb) (h : a_ald af B N a q b S = some w) : ∃ u, m_ald fz a X b σ = some u ∧ a_gv ρ w u := by
  unfold a_ald at h
  unfold m_ald
  split at h
  · rename_i hb
    exact absurd hb (Nat.not_le.mpr hbf)
  · rename_i hb
    rw [if_neg hb]
    split at h
    · rename_i t n arr hat
      split at h
      · rename_i hty
        obtain ⟨z, h1, h2⟩ := hS.2 _ _ hat
        rw [h1]
        unfold a_aget at h
        split at h
        · rename_i hq
          split at h
          · rename_i u
            cases h
            rcases z with ⟨t', xs | xs | xs⟩ | ⟨ci', gs⟩
            · obtain ⟨rfl, g1, g2, g3⟩ := h2
              obtain ⟨k1, k2, k3⟩ := a_inb (n := xs.length) hX (by rw [g2]; exact hq)
              dsimp only
              rw [if_pos ⟨by omega, k1⟩]
              exact ⟨_, rfl, g3 _ (List.mem_of_getElem? (a_getD k2))⟩
            · obtain ⟨rfl, g1, g2, g3⟩ := h2
              obtain ⟨k1, k2, k3⟩ := a_inb (n := xs.length) hX (by rw [g2]; exact hq)
              dsimp only
              rw [if_pos ⟨by omega, by omega, k1⟩]
              exact ⟨_, rfl, g3 _ (List.mem_of_getElem? (a_getD k2))⟩
            · exact h2.elim
            · exact h2.elim
          · rename_i vs
            split at h
            · rename_i hex
              have e2 : X.toNatClampNeg = q.1.toNat := by show X.toInt.toNat = _; congr 1; omega
              rcases z with ⟨t', xs | xs | xs⟩ | ⟨ci', gs⟩
              · obtain ⟨rfl, g1, g2, g3⟩ := h2
                obtain ⟨k1, k2, k3⟩ := a_inb (n := xs.length) hX (by rw [g2]; exact hq)
                obtain ⟨y, h3, h4⟩ := g3.get h
                dsimp only
                rw [if_pos ⟨by omega, k1⟩]
                refine ⟨_, rfl, ?_⟩
                rw [← e2, List.getElem?_map, a_getD (d := 0) k2] at h3
                cases h3
                exact h4
              · obtain ⟨rfl, g1, g2, g3⟩ := h2
                obtain ⟨k1, k2, k3⟩ := a_inb (n := xs.length) hX (by rw [g2]; exact hq)
                obtain ⟨y, h3, h4⟩ := g3.get h
                dsimp only
                rw [if_pos ⟨by omega, by omega, k1⟩]
                refine ⟨_, rfl, ?_⟩
                rw [← e2, List.getElem?_map, a_getD (d := 0) k2] at h3
                cases h3
                exact h4
              · obtain ⟨rfl, g1, g2, g3⟩ := h2
                obtain ⟨k1, k2, k3⟩ := a_inb (n := xs.length) hX (by rw [g2]; exact hq)
                obtain ⟨y, h3, h4⟩ := g3.get h
                dsimp only
                rw [if_pos ⟨by omega, by omega, k1⟩]
                refine ⟨_, rfl, ?_⟩
                rw [← e2, List.getElem?_map, a_getD (d := none) k2] at h3
                cases h3
                exact h4
              · exact h2.elim
            · split at h
              · rename_i ht3
                obtain ⟨q', h3, rfl⟩ := Option.map_eq_some_iff.mp h
                rcases z with ⟨t', xs | xs | xs⟩ | ⟨ci', gs⟩
                · obtain ⟨rfl, g1, g2, g3⟩ := h2
                  obtain ⟨k1, k2, k3⟩ := a_inb (n := xs.length) hX (by rw [g2]; exact hq)
                  dsimp only
                  rw [if_pos ⟨by omega, k1⟩]
                  refine ⟨_, rfl, ?_⟩
                  obtain ⟨x, m1, m2⟩ := g3.mem (List.mem_map.mpr ⟨_, List.mem_of_getElem? (a_getD (d := 0) k2), rfl⟩)
                  obtain ⟨Y, e, m3⟩ := a_jl_ok hN h3 m1 m2
                  cases e
                  exact m3
                · obtain ⟨rfl, g1, g2, g3⟩ := h2
                  omega
                · obtain ⟨rfl, g1, g2, g3⟩ := h2
                  omega
                · exact h2.elim
              · cases h
        · cases h
      · cases h
    · cases h
theorem a_h18_ok (hN : a_gN N ρ) (hz : a_all2 (a_gz ρ) af fz) (hl : a_all2 (a_gl ρ) lv lv') (ht : a_all2 (a_gv ρ) st st') (hS : a_gS ρ B S σ) (h : a_h18 B af N a pc nx lv st S = some L) : a_Post ρ B fz (18, a, v, l) pc nx lv' st' σ L := by
  unfold a_h18 at h
  split at h
  · rename_i i b r
    split at h
    · rename_i hb
      split at h
      · rename_i q hq
        split at h
        · rename_i hsp
          cases h
          have ht0 := ht
          obtain ⟨w1, t, rfl, g1, ht1⟩ := a_uncons ht
          obtain ⟨X, rfl, g3⟩ := a_iv_ok hN g1 hq
          refine ⟨_, List.mem_map.mpr ⟨N.set i.2.1.toNat (q.1 + ((X.toInt - q.1).toNat : Int), q.1 + ((X.toInt - q.1).toNat : Int)), List.mem_map.mpr ⟨(X.toInt - q.1).toNat, List.mem_range.mpr (by omega), rfl⟩, rfl⟩, ?_, Or.inl ⟨rfl, hl, ht0, hS⟩⟩
          have h9 := a_sym hN g1 (j := q.1 + ((X.toInt - q.1).toNat : Int)) (by omega)
          rw [if_pos hsp.2.1] at h9
          exact h9
        · obtain ⟨w, h1, rfl⟩ := Option.map_eq_some_iff.mp h
          obtain ⟨w1, t, rfl, g1, ht1⟩ := a_uncons ht
          obtain ⟨w2, t, rfl, g2, ht2⟩ := a_uncons ht1
          rw [a_ref g2 hb.1]
          obtain ⟨X, rfl, g3⟩ := a_iv_ok hN g1 hq
          obtain ⟨u, h2, h3⟩ := a_ald_ok hN hz hS g3 (show b.2.1.toNat < m_fzb by have := hb.2; unfold m_fzb; omega) h1
          refine a_P1 (st1 := u :: t) hN ?_ hl ⟨h3, ht2⟩ hS
          simp only [m_step, h2, Option.map_some]
      · cases h
    · cases h
  · cases h
theorem a_len_ok {b : Nat} {q : Int × Int} (hz : a_all2 (a_gz ρ) af fz) (hS : a_gS ρ B S σ) (h : a_len af B b S = some q) : ∃ k : Nat, m_len fz b σ = some k ∧ q.1 ≤ (k : Int) ∧ (k : Int) ≤ q.2 := by
  unfold a_len at h
  unfold m_len
  split at h
  · rename_i hb
    rw [if_pos hb]
    obtain ⟨z, h1, rfl⟩ := Option.map_eq_some_iff.mp h
    obtain ⟨xs, h2, g1, g2, g3⟩ := hz.get h1
    rw [h2]
    exact ⟨xs.length, rfl, by dsimp only; omega, by dsimp only; omega⟩
  · rename_i hb
    rw [if_neg hb]
    split at h
    · rename_i t n arr hat
      cases h
      obtain ⟨z, h1, h2⟩ := hS.2 _ _ hat
      rw [h1]
      rcases arr with u | vs
      · rcases z with ⟨t', xs | xs | xs⟩ | ⟨ci', gs⟩
        · obtain ⟨rfl, g1, g2, g3⟩ := h2
          dsimp only
          rw [if_pos g1]
          exact ⟨_, rfl, by omega, by omega⟩
        · obtain ⟨rfl, g1, g2, g3⟩ := h2
          dsimp only
          rw [if_pos g1]
          exact ⟨_, rfl, by omega, by omega⟩
        · exact h2.elim
        · exact h2.elim
      · rcases z with ⟨t', xs | xs | xs⟩ | ⟨ci', gs⟩
        · obtain ⟨rfl, g1, g2, g3⟩ := h2
          dsimp only
          rw [if_pos g1]
          exact ⟨_, rfl, by omega, by omega⟩
        · obtain ⟨rfl, g1, g2, g3⟩ := h2
          dsimp only
          rw [if_pos g1]
          exact ⟨_, rfl, by omega, by omega⟩
        · obtain ⟨rfl, g1, g2, g3⟩ := h2
          dsimp only
          rw [if_pos g1]
          exact ⟨_, rfl, by omega, by omega⟩
        · exact h2.elim
    · cases h
theorem a_h20_ok (hN : a_gN N ρ) (hz : a_all2 (a_gz ρ) af fz) (hl : a_all2 (a_gl ρ) lv lv') (ht : a_all2 (a_gv ρ) st st') (hS : a_gS ρ B S σ) (h : a_h20 B af N a nx lv st S = some L) : a_Post ρ B fz (20, a, v, l) pc nx lv' st' σ L := by
  unfold a_h20 at h
  split at h
  · rename_i b r
    split at h
    · rename_i hb
      split at h
      · rename_i q hq
        obtain ⟨h9, rfl⟩ := m_if h
        obtain ⟨w1, t, rfl, g1, ht1⟩ := a_uncons ht
        rw [a_ref g1 hb.1]
        have hlo : m_lok a b.2.1.toNat t = true := by
          unfold m_lok
          rw [hb.2.2, Nat.blt_eq.mpr (show b.2.1.toNat < m_fzb + 2 by have := hb.2.1; unfold m_fzb; omega)]
          rfl
        obtain ⟨k, h1, h2⟩ := a_len_ok hz hS hq
        refine a_P1 (st1 := .int (Int32.ofNat k) :: t) hN ?_ hl ⟨?_, ht1⟩ hS
        · simp only [m_step, h1, Option.map_some]
          rw [if_pos hlo]
        · show q.1 ≤ (Int32.ofNat k).toInt ∧ (Int32.ofNat k).toInt ≤ q.2
          have e : (Int32.ofNat k).toInt = (k : Int) := nI_toInt (by omega)
          rw [e]
          exact h2
      · cases h
    · cases h
  · cases h
end A21

section M12
variable {p : Program} {l : Launch} {e : Env} {R : Room} {s : State} {m : MethodId} {args : Array Value} {below : List Frame} {meth : Method} {c : Code} {Q : State → Prop} {D : va_G} {cA : Nat → ClassId} {A : Nat → Prop} {ad0 : Nat → Nat} {n0 z0 nL : Nat} {cc : ByteArray} {fz : List (List Int32)} {y : MethodName} {r : Option FieldType}
variable {pc pc' len nx : Nat} {lv lv' : m_V} {st st' : List Value} {σ σ' σ1 : m_S} {ins : Instr} {I : m_I} {v : Option Value}
def m_retOk (b : ByteArray) (r : Option FieldType) (pc : Nat) (v : Option Value) : Prop :=
  (∃ x, v = some (.int x) ∧ r = some .int ∧ decode b pc = .ok (.ireturn, 1)) ∨ (∃ x, v = some (.int x) ∧ r = some .boolean ∧ (x = 0 ∨ x = 1) ∧ decode b pc = .ok (.ireturn, 1)) ∨ (∃ x, v = some (.long x) ∧ r = some .long ∧ decode b pc = .ok (.lreturn, 1)) ∨ (v = none ∧ r = none ∧ decode b pc = .ok (.return_, 1))
def m_End (p : Program) (l : Launch) (e : Env) (R : Room) (s : State) (m : MethodId) (args : Array Value) (below : List Frame) (meth : Method) (c : Code) (Q : State → Prop) (D : va_G) (cA : Nat → ClassId) (A : Nat → Prop) (ad0 : Nat → Nat) (n0 z0 nL : Nat) (b : ByteArray) (r : Option FieldType) (v : Option Value) (σ : m_S) : Prop :=
  ∀ (ad : Nat → Nat) (H : Heap) (locs : List Loc) (ls : Array Slot) (pc : Nat), m_ext ad0 ad n0 → va_P D vwCl (m_w cA ad σ) H → va_D A (m_w cA ad σ) → va_S A s.heap H locs → m_retOk b r pc v → W p l e R s m args below meth c H locs (σ.length - n0) (m_sz σ - z0) Q (F0 m pc ls v.toList)
def m_pure (v : Option Value) : Prop := v = none ∨ (∃ x, v = some (.int x)) ∨ ∃ x, v = some (.long x)
theorem m_pure.tv (h : m_pure v) (ad : Nat → Nat) : v.toList.map (m_tv ad) = v.toList := by
  rcases h with rfl | ⟨x, rfl⟩ | ⟨x, rfl⟩ <;> rfl
theorem m_step_ret (hs : m_step fz I nx lv st σ = some (.inr (.inl v))) : ∃ k w q, I = (27, k, w, q) ∧ st = v.toList ∧ ((k = 0 ∧ ∃ x, v = some (.int x)) ∨ (k = 1 ∧ ∃ x, v = some (.long x)) ∨ (k = 2 ∧ v = none) ∨ (k = 3 ∧ ∃ x, v = some (.int x) ∧ (x = 0 ∨ x = 1))) := by
  obtain ⟨op, a, w, q⟩ := I
  match op, hs with
  | 0, hs => cases hs
  | 1, hs => cases hs
  | 2, hs => obtain ⟨_, _, _, h⟩ := m_d2 hs; cases h
  | 3, hs => obtain ⟨_, _, _, _, h⟩ := m_d3 hs; cases h
  | 4, hs => obtain ⟨_, _, h⟩ := m_d4 hs; cases h
  | 5, hs => obtain ⟨_, _, _, _, _, _, h⟩ := m_d5 hs; cases h
  | 6, hs => obtain ⟨_, _, _, _, _, _, h⟩ := m_d6 hs; cases h
  | 7, hs => obtain ⟨_, _, _, _, _, h⟩ := m_d7 hs; cases h
  | 8, hs => obtain ⟨_, _, _, _, h⟩ := m_d8 hs; cases h
  | 9, hs => obtain ⟨_, _, h⟩ := m_d9 hs; cases h
  | 10, hs => cases hs
  | 11, hs => obtain ⟨_, _, _, h⟩ := m_d11 hs; cases h
  | 12, hs => obtain ⟨_, _, _, _, h⟩ := m_d12 hs; cases h
  | 13, hs => obtain ⟨_, _, _, h⟩ := m_d13 hs; cases h
  | 14, hs => obtain ⟨_, _, _, h⟩ := m_d14 hs; cases h
  | 15, hs => obtain ⟨_, _, _, _, _, _, _, h⟩ := m_d15 hs; cases h
  | 16, hs => obtain ⟨_, _, _, _, _, h1, _, _, h⟩ := m_d16 hs; cases h
  | 17, hs => cases hs
  | 18, hs => obtain ⟨_, _, _, _, _, _, h⟩ := m_d18 hs; cases h
  | 19, hs => obtain ⟨_, _, _, _, _, _, h1, h⟩ := m_d19 hs; cases h
  | 20, hs => obtain ⟨_, _, _, _, _, _, h⟩ := m_d20 hs; cases h
  | 21, hs => obtain ⟨_, h⟩ := m_d21 hs; cases h
  | 22, hs => obtain ⟨_, _, _, _, _, _, _, _, h⟩ := m_d22 hs; cases h
  | 23, hs => cases hs
  | 24, hs =>
    simp only [m_step] at hs
    repeat' split at hs
    all_goals first | (cases hs; done) | (simp at hs; done)
  | 25, hs => obtain ⟨_, _, _, _, h⟩ := m_d25 hs; cases h
  | 26, hs => obtain ⟨_, _, _, _, _, _, _, _, _, _, _, _, h1, h⟩ := m_d26 hs; cases h
  | 27, hs =>
    refine ⟨a, w, q, rfl, ?_⟩
    simp only [m_step] at hs
    split at hs
    · cases hs; exact ⟨rfl, Or.inl ⟨rfl, _, rfl⟩⟩
    · cases hs; exact ⟨rfl, Or.inr (Or.inl ⟨rfl, _, rfl⟩)⟩
    · cases hs; exact ⟨rfl, Or.inr (Or.inr (Or.inl ⟨rfl, rfl⟩))⟩
    · obtain ⟨h1, h2⟩ := m_if hs
      cases h2
      exact ⟨rfl, Or.inr (Or.inr (Or.inr ⟨rfl, _, rfl, h1⟩))⟩
    · cases hs
  | 28, hs => obtain ⟨_, _, _, _, _, _, h⟩ := m_d28 hs; cases h
  | 29, hs => cases hs
  | 30, hs => cases hs
  | 31, hs => cases hs
  | 32, hs => cases hs
  | 33, hs => cases hs
  | 34, hs => cases hs
  | 35, hs => cases hs
  | 36, hs => cases hs
  | 37, hs => cases hs
  | 38, hs => cases hs
  | 39, hs => cases hs
  | 40, hs => rcases (m_d40 hs).2 with ⟨_, _, _, _, _, h⟩ | ⟨_, _, _, _, _, h⟩ | ⟨_, _, _, _, h⟩ | ⟨_, _, _, _, _, h⟩ <;> cases h
  | 41, hs => cases hs
  | 42, hs => cases hs
  | 43, hs => obtain ⟨_, _, _, _, _, _, _, _, _, h⟩ := m_d43 hs; cases h
  | _ + 44, hs => cases hs
theorem m_step_call {mid : Nat} {as rest : List Value} (hs : m_step fz I nx lv st σ = some (.inr (.inr (mid, as, rest)))) : ∃ w q, I = (24, mid, w, q) ∧
    (((w = 2 ∨ w = 5) ∧ q.getD 0 0 ≤ st.length ∧ as = (st.take (q.getD 0 0)).reverse ∧ rest = st.drop (q.getD 0 0)) ∨ (¬ (w = 2 ∨ w = 5) ∧ ∃ b fs, st.drop (q.getD 0 0) = .ref b :: rest ∧ σ[b]? = some (.inr (q.getD 2 0, fs)) ∧ as = .ref b :: (st.take (q.getD 0 0)).reverse)) := by
  obtain ⟨op, a, w, q⟩ := I
  match op, hs with
  | 0, hs => cases hs
  | 1, hs => cases hs
  | 2, hs => obtain ⟨_, _, _, h⟩ := m_d2 hs; cases h
  | 3, hs => obtain ⟨_, _, _, _, h⟩ := m_d3 hs; cases h
  | 4, hs => obtain ⟨_, _, h⟩ := m_d4 hs; cases h
  | 5, hs => obtain ⟨_, _, _, _, _, _, h⟩ := m_d5 hs; cases h
  | 6, hs => obtain ⟨_, _, _, _, _, _, h⟩ := m_d6 hs; cases h
  | 7, hs => obtain ⟨_, _, _, _, _, h⟩ := m_d7 hs; cases h
  | 8, hs => obtain ⟨_, _, _, _, h⟩ := m_d8 hs; cases h
  | 9, hs => obtain ⟨_, _, h⟩ := m_d9 hs; cases h
  | 10, hs => cases hs
  | 11, hs => obtain ⟨_, _, _, h⟩ := m_d11 hs; cases h
  | 12, hs => obtain ⟨_, _, _, _, h⟩ := m_d12 hs; cases h
  | 13, hs => obtain ⟨_, _, _, h⟩ := m_d13 hs; cases h
  | 14, hs => obtain ⟨_, _, _, h⟩ := m_d14 hs; cases h
  | 15, hs => obtain ⟨_, _, _, _, _, _, _, h⟩ := m_d15 hs; cases h
  | 16, hs => obtain ⟨_, _, _, _, _, h1, _, _, h⟩ := m_d16 hs; cases h
  | 17, hs => cases hs
  | 18, hs => obtain ⟨_, _, _, _, _, _, h⟩ := m_d18 hs; cases h
  | 19, hs => obtain ⟨_, _, _, _, _, _, h1, h⟩ := m_d19 hs; cases h
  | 20, hs => obtain ⟨_, _, _, _, _, _, h⟩ := m_d20 hs; cases h
  | 21, hs => obtain ⟨_, h⟩ := m_d21 hs; cases h
  | 22, hs => obtain ⟨_, _, _, _, _, _, _, _, h⟩ := m_d22 hs; cases h
  | 23, hs => cases hs
  | 24, hs =>
    simp only [m_step] at hs
    split at hs
    · rename_i h1
      obtain ⟨h2, h3⟩ := m_if hs
      cases h3
      exact ⟨w, q, rfl, Or.inl ⟨h1, h2, rfl, rfl⟩⟩
    · rename_i h1
      split at hs
      · rename_i b t h2
        split at hs
        · rename_i ci fs h3
          obtain ⟨rfl, h5⟩ := m_if hs
          cases h5
          exact ⟨w, q, rfl, Or.inr ⟨h1, b, fs, h2, h3, rfl⟩⟩
        · cases hs
      · cases hs
  | 25, hs => obtain ⟨_, _, _, _, h⟩ := m_d25 hs; cases h
  | 26, hs => obtain ⟨_, _, _, _, _, _, _, _, _, _, _, _, h1, h⟩ := m_d26 hs; cases h
  | 27, hs =>
    simp only [m_step] at hs
    repeat' split at hs
    all_goals first | (cases hs; done) | (simp at hs; done)
  | 28, hs => obtain ⟨_, _, _, _, _, _, h⟩ := m_d28 hs; cases h
  | 29, hs => cases hs
  | 30, hs => cases hs
  | 31, hs => cases hs
  | 32, hs => cases hs
  | 33, hs => cases hs
  | 34, hs => cases hs
  | 35, hs => cases hs
  | 36, hs => cases hs
  | 37, hs => cases hs
  | 38, hs => cases hs
  | 39, hs => cases hs
  | 40, hs => rcases (m_d40 hs).2 with ⟨_, _, _, _, _, h⟩ | ⟨_, _, _, _, _, h⟩ | ⟨_, _, _, _, h⟩ | ⟨_, _, _, _, _, h⟩ <;> cases h
  | 41, hs => cases hs
  | 42, hs => cases hs
  | 43, hs => obtain ⟨_, _, _, _, _, _, _, _, _, h⟩ := m_d43 hs; cases h
  | _ + 44, hs => cases hs
theorem m_exec_pure {F : Nat → Nat → Option (m_I × Nat)} : ∀ (n d mid pc : Nat) (lv : m_V) (st : List Value) (σ : m_S) (r : Option Value) (σ' : m_S), m_exec F fz n d mid pc lv st σ = some (r, σ') → m_pure r := by
  intro n
  induction n with
  | zero => intro d mid pc lv st σ r σ' h; cases h
  | succ n ih =>
    intro d mid pc lv st σ r σ' h
    simp only [m_exec] at h
    split at h
    · cases h
    · rename_i I len hF
      split at h
      · cases h
      · rename_i pc1 lv1 st1 σ1 hs
        exact ih _ _ _ _ _ _ _ _ h
      · rename_i hs
        cases h
        obtain ⟨_, _, _, _, _, h1⟩ := m_step_ret hs
        rcases h1 with ⟨-, x, h⟩ | ⟨-, x, h⟩ | ⟨-, h⟩ | ⟨-, x, h, -⟩
        · exact Or.inr (Or.inl ⟨x, h⟩)
        · exact Or.inr (Or.inr ⟨x, h⟩)
        · exact Or.inl h
        · exact Or.inr (Or.inl ⟨x, h⟩)
      · rename_i mid1 as rest hs
        split at h
        · cases h
        · rename_i d1
          split at h
          · split at h
            · cases h
            · rename_i r1 σ1 h1
              exact ih _ _ _ _ _ _ _ _ h
          · cases h
def m_Pc (fz : List (List Int32)) (D : va_G) (cA : Nat → ClassId) (ad : Nat → Nat) (σ : m_S) (as : List Value) (sz : Nat) : Array Value → State → Prop := va_Pc (as.map (m_tv ad)) (fun U => U.heap.size = sz ∧ va_P D vwCl (m_w cA ad σ) U.heap ∧ va_K D vwCl (m_tys cA) U ∧ va_D (fun _ => True) (m_w cA ad σ) ∧ m_Fz fz ad (va_A (m_w cA ad σ) sz) U ∧ m_Nst U)
def m_Qc (D : va_G) (cA : Nat → ClassId) (ad : Nat → Nat) (σ : m_S) (sz : Nat) (v : Option Value) (σ1 : m_S) : Array Value → State → Outcome → State → Prop := fun _ st oc t => oc = .returned v ∧ (∃ ad', m_ext ad ad' σ.length ∧ va_P D vwCl (m_w cA ad' σ1) t.heap ∧ va_D (va_A (m_w cA ad σ) sz) (m_w cA ad' σ1)) ∧ va_F (va_A (m_w cA ad σ) sz) st t
theorem m_nw_form {w : Cond} (h : w ∈ m_nw) : ∃ a i x q, w = .methodLinkNest a i x q := by
  have h1 := (List.mem_filter.mp h).2
  cases w <;> first | exact ⟨_, _, _, _, rfl⟩ | (simp [m_isN] at h1)
theorem m_Nst.warm {U : State} (h : m_Nst s) (hW : s.WarmedH U.vm) : m_Nst U := ⟨fun w hw => by
  obtain ⟨a, i, x, q, rfl⟩ := m_nw_form hw
  exact va_Nw.warmM hW (h.1 _ hw), h.2.moved hW.alike⟩
theorem m_Nst.same {U : State} (h : m_Nst s) (hv : s.vm = U.vm) : m_Nst U := ⟨fun w hw => by
  obtain ⟨a, i, x, q, rfl⟩ := m_nw_form hw
  exact va_Nw.same rfl hv (h.1 _ hw), h.2.moved (by rw [hv]; exact Vm.Alike.refl _)⟩
theorem m_blind {ad : Nat → Nat} {as : List Value} {sz : Nat} : FrameBlind (m_Pc fz D cA ad σ as sz) := fun a U g mk q => by
  obtain ⟨q0, q1, qP, qK, qD, ⟨qF, qt, ⟨adV, qT⟩, qR, qZ, qV⟩, qN⟩ := q
  exact ⟨q0, q1, qP, va_K.moved (u := U) (U := U.calling g mk a) (Vm.Alike.refl U.vm) qK, qD, ⟨fun xs h => ⟨va_X.moved (u := U) (U := U.calling g mk a) (Vm.Alike.refl U.vm) (qF xs h).1, (qF xs h).2⟩, qt, ⟨adV, x_Tx.moved (u := U) (U := U.calling g mk a) (Vm.Alike.refl U.vm) qT⟩, fun n k tx h => vk_R.same (u := U) (U := U.calling g mk a) rfl (qR n k tx h), va_Z.moved (u := U) (U := U.calling g mk a) (Vm.Alike.refl U.vm) qZ, va_T.moved (u := U) (U := U.calling g mk a) (Vm.Alike.refl U.vm) qV⟩, qN.same rfl⟩
theorem m_pre (K : m_Cx p s m args meth c D cA A ad0 nL cc y r fz) {ad : Nat → Nat} {H : Heap} {locs : List Loc} (he : m_ext ad0 ad n0) (hP : va_P D vwCl (m_w cA ad σ) H) (hD : va_D A (m_w cA ad σ)) (hS : va_S A s.heap H locs) (as : List Value) : ∀ U : State, U.heap = H → s.WarmedH U.vm → m_Pc fz D cA ad σ as H.size (as.map (m_tv ad)).toArray U := by
  obtain ⟨hx, hb, hml, hown, hts, hr, hlocks, hnm, hK, hA, ⟨hFz, ht0, ⟨adV, hT⟩, hR, hZ, hV⟩, hN⟩ := K
  intro U hU hW
  have hin : ∀ q, va_A (m_w cA ad σ) H.size q → A q := fun q h9 => by
    rcases h9 with ⟨i, x, hi⟩ | h9
    · exact hD.2 i _ hi
    · exact hA q (Nat.le_trans hS.1 h9)
  have hq : ∀ a : Nat, a < s.heap.size → ¬ A a → U.heap[a]? = s.heap[a]? := fun a h1 h2 => by rw [hU]; exact hS.2.1 a h1 h2
  have had : (fun i => ad (m_fzb + 2 + i)) = fun i => ad0 (m_fzb + 2 + i) := funext fun i => he.2 _ (by omega)
  refine ⟨rfl, by rw [hU], by rw [hU]; exact hP, va_K.moved hW.alike hK, hD.weaken (fun _ _ _ _ => trivial), ⟨fun xs h => ?_, ht0, ⟨adV, ?_⟩, fun n k tx h => ?_, ?_, ?_⟩, hN.warm hW⟩
  · obtain ⟨f1, f2, f3⟩ := hFz xs h
    rw [he.2 _ (Nat.le_refl _)]
    refine ⟨va_X.moved hW.alike ?_, by rw [hU]; exact Nat.lt_of_lt_of_le f2 hS.1, fun h9 => f3 (hin _ h9)⟩
    rw [hU]
    exact f1.kept (hS.2.1 _ f2 f3)
  · rw [had]
    exact ((hT.kept hq).moved hW.alike).narrow hin
  · rw [he.2 _ (by omega)]
    exact (hR n k tx h).warm hW
  · rw [he.2 _ (by omega)]
    exact ((hZ.kept hq).moved hW.alike).narrow hin
  · rw [he.2 _ (by omega)]
    exact ((hV.kept hq).moved hW.alike).narrow hin
/-- behind a call -/
theorem m_after {ad : Nat → Nat} {H : Heap} {locs : List Loc} {ls : Array Slot} {st0 rest : List Value} {a : Array Value} (K : m_Cx p s m args meth c D cA A ad0 nL cc y r fz) (hle : m_le σ σ1) (hn0 : n0 ≤ σ.length) (hz0 : z0 ≤ m_sz σ) (hv : m_pure v) (hok1 : m_okl σ.length lv = true) (hok2 : rest.all (m_okv σ.length) = true) (k : m_WW p l e R s m args below meth c Q D cA A ad0 n0 z0 nL (pc + 3) lv (v.toList ++ rest) σ1)
    (hrun : va_Run p l e R s m args below meth c H locs (σ.length - n0) (m_sz σ - z0) (σ1.length - σ.length) (m_sz σ1 - m_sz σ) (F0 m pc ls st0) (rest.map (m_tv ad)) (m_Qc D cA ad σ H.size v σ1 a) (va_A (m_w cA ad σ) H.size)) (he : m_ext ad0 ad n0) (hD : va_D A (m_w cA ad σ)) (hS : va_S A s.heap H locs) (hl : lv_has ls nL (m_tl ad lv)) : W p l e R s m args below meth c H locs (σ.length - n0) (m_sz σ - z0) Q (F0 m pc ls st0) := by
  obtain ⟨hx, hb, hml, hown, hts, hr, hlocks, hnm, hK, hA, hFz, hN⟩ := K
  intro T hT X
  obtain ⟨v', st₀, t, T', L, h0, X', hL, e1, e2, ⟨hv', ⟨ad', g1, g2, g3⟩, hz, hk⟩, stp⟩ := hrun T hT X
  cases hv'
  rw [h0] at hz hk
  have hin : ∀ q, va_A (m_w cA ad σ) H.size q → A q := fun q h9 => by
    rcases h9 with ⟨i, x, hi⟩ | h9
    · exact hD.2 i _ hi
    · exact hA q (Nat.le_trans hS.1 h9)
  have hS1 : va_S A s.heap T'.heap (locs ++ L) := ⟨Nat.le_trans hS.1 (by rw [e1]; exact hz), fun q h1 h2 => by rw [e1, hk q (Nat.lt_of_lt_of_le h1 hS.1) (fun z => h2 (hin q z))]; exact hS.2.1 q h1 h2, fun q hq => by
      rcases List.mem_append.mp hq with h | h
      · exact hS.2.2 q h
      · exact hin _ (hL q h)⟩
  have hW := k ad' T'.heap (locs ++ L) ls (he.tr g1 hn0) (by rw [e1]; exact g2) (g3.weaken (fun _ _ _ h => hin _ h)) hS1 (by rw [m_tl_eq g1 hok1]; exact hl)
  have e3 : σ1.length - n0 = σ.length - n0 + (σ1.length - σ.length) := by have := hle.1; omega
  have e4 : m_sz σ1 - z0 = m_sz σ - z0 + (m_sz σ1 - m_sz σ) := by have := hle.2; omega
  rw [e3, e4, List.map_append, hv.tv, m_ts_eq g1 hok2] at hW
  obtain ⟨t2, a1, b1⟩ := hW T' rfl X'
  exact ⟨t2, stp t2 a1, b1⟩
end M12

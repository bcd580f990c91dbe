def m_me (k : Nat) : Option (MethodName × ByteArray × Nat × Option FieldType) := if k = 1000 then some (x, code, maxLocals, ret) else m_cw k
def m_FOk (F : Nat → Nat → Option (m_I × Nat)) : Prop := ∀ (mid pc : Nat) (I : m_I) (len : Nat), F mid pc = some (I, len) → ∃ (y : MethodName) (b : ByteArray) (n : Nat) (r : Option FieldType) (ins : Instr), m_me mid = some (y, b, n, r) ∧ decode b pc = .ok (ins, len) ∧ m_tri y n r pc ins len = some I
def m_rm (d mc ms : Nat) : Room := { frames := d + 5, cells := mc, slots := ms, locals := 200 * (d + 1) }
/-- what the small machine does, the real one does -/
def m_Sim (F : Nat → Nat → Option (m_I × Nat)) (fz : List (List Int32)) (n : Nat) : Prop :=
  ∀ (d mid pc : Nat) (lv : m_V) (st : List Value) (σ : m_S) (v : Option Value) (σ' : m_S), m_exec F fz n d mid pc lv st σ = some (v, σ') →
  ∀ (p : Program) (l : Launch) (e : Env) (R : Room) (s : State) (m : MethodId) (args : Array Value) (below : List Frame) (meth : Method) (c : Code) (Q : State → Prop) (D : va_G) (cA : Nat → ClassId) (A : Nat → Prop) (ad0 : Nat → Nat) (n0 z0 nL : Nat) (cc : ByteArray) (y : MethodName) (r : Option FieldType),
  m_me mid = some (y, cc, nL, r) → m_Cx p s m args meth c D cA A ad0 nL cc y r fz → n0 ≤ σ.length → z0 ≤ m_sz σ → σ'.length - n0 ≤ R.cells → m_sz σ' - z0 ≤ R.slots → d + 5 ≤ R.frames → 200 * (d + 1) ≤ R.locals → m_End p l e R s m args below meth c Q D cA A ad0 n0 z0 nL cc r v σ' → m_WW p l e R s m args below meth c Q D cA A ad0 n0 z0 nL pc lv st σ
section M13
variable {F : Nat → Nat → Option (m_I × Nat)} {fz : List (List Int32)} {n d : Nat} {σ σ1 : m_S} {v : Option Value} {l : Launch}
theorem m_cw_in {k : Nat} {y : MethodName} {b : ByteArray} {n : Nat} {r : Option FieldType} (h : m_cw k = some (y, b, n, r)) : Jvm.Cond.code y b n r ∈ m_G := by
  unfold m_cw at h
  split at h
  · split at h
    · rename_i h1
      cases h
      exact List.mem_filter.mpr ⟨m_wd_in h1, rfl⟩
    · cases h
  · cases h
set_option maxHeartbeats 4000000 in
theorem m_met (IH : m_Sim F fz n) {mid : Nat} {as : List Value} (hex : m_exec F fz n d mid 0 (lv_args 0 as) [] σ = some (v, σ1)) (hm1 : mid ≠ 1000) {y : MethodName} {b : ByteArray} {nL : Nat} {r : Option FieldType} (hm : m_cw mid = some (y, b, nL, r)) (hpl : plainName y.cls = true) (has : (as.map fun v => v.category).sum ≤ nL) (D : va_G) (cA : Nat → ClassId) (ad : Nat → Nat) (sz : Nat) :
    Met l y (.code y b nL r :: m_G) (m_rm d (σ1.length - σ.length) (m_sz σ1 - m_sz σ)) (m_Pc fz D cA ad σ as sz) (m_Qc D cA ad σ sz v σ1) (σ1.length - σ.length) (m_sz σ1 - m_sz σ) (va_A (m_w cA ad σ) sz) := by
  refine Met.ofW (cc := b) (maxL := nL) (ret := r) hpl rfl ?_
  intro p e s m args below meth c s₁ B hml hv
  obtain ⟨rfl, rfl, hP, hK, hD0, hFz, hN⟩ := hv
  have hts := atoms_spec (ws := Jvm.Cond.code y b nL r :: m_G) B.pre
  have K : m_Cx p s m ((as.map (m_tv ad)).toArray) meth c D cA (va_A (m_w cA ad σ) s.heap.size) ad nL b y r fz := ⟨B.exec, B.bytes, hml, findClass_of_methodNamed B.named, fun w hw => hts w (List.mem_cons_of_mem _ hw), B.returns, B.notSynchronized, fun h9 => (name_of_methodNamed B.named B.method).1.trans h9, hK, fun q h => Or.inr h, hFz, hN⟩
  have hD := hD0.self (sz := s.heap.size)
  have hlocks := B.notSynchronized
  have hme : m_me mid = some (y, b, nL, r) := by unfold m_me; rw [if_neg hm1]; exact hm
  have hW := IH d mid 0 (lv_args 0 as) [] σ v σ1 hex p l e (m_rm d (σ1.length - σ.length) (m_sz σ1 - m_sz σ)) s m ((as.map (m_tv ad)).toArray) below meth c (MQ below (m_Qc D cA ad σ s.heap.size v σ1) ((as.map (m_tv ad)).toArray) s (σ1.length - σ.length) (m_sz σ1 - m_sz σ) (va_A (m_w cA ad σ) s.heap.size)) D cA (va_A (m_w cA ad σ) s.heap.size) ad σ.length (m_sz σ) nL b y r hme K (Nat.le_refl _) (Nat.le_refl _) (Nat.le_refl _) (Nat.le_refl _) (Nat.le_refl _) (Nat.le_refl _) ?_
  · have hl := lv_entry (as.map (m_tv ad)) (n := nL) (by rw [m_lgsl, List.map_map]; simpa [Function.comp_def, m_tv_cat] using has)
    rw [m_largs] at hl
    have h := hW ad s.heap [] _ m_ext.rf hP hD va_S.rf hl
    rw [Nat.sub_self, Nat.sub_self] at h
    rw [lg_entry_eq]
    exact h
  · intro ad' H locs ls pc he hP1 hD1 hS1 hrt
    have hq : ∀ t : State, t.heap = H → s.WarmedH t.vm → m_Qc D cA ad σ s.heap.size v σ1 ((as.map (m_tv ad)).toArray) s (.returned v) t := fun t ht _ => ⟨rfl, ⟨ad', he, by rw [ht]; exact hP1, hD1⟩, hS1.F ht⟩
    rcases hrt with ⟨x, rfl, rfl, hdc⟩ | ⟨x, rfl, rfl, hx01, hdc⟩ | ⟨x, rfl, rfl, hdc⟩ | ⟨rfl, rfl, hdc⟩
    · exact W.iret B.exec B.bytes B.returns hq hS1.2.2 hdc
    · exact W.zret B.exec B.bytes B.returns (by rcases hx01 with rfl | rfl <;> rfl) hq hS1.2.2 hdc
    · exact W.lret B.exec B.bytes B.returns hq hS1.2.2 hdc
    · exact W.vret B.exec B.bytes B.returns hq hS1.2.2 hdc
set_option maxHeartbeats 8000000 in
theorem m_sim (hF : m_FOk F) (hlk : m_lkAll) (hcl : m_clsOk) (hg : m_glob) (h1000 : ∀ k y b n r, m_cw k = some (y, b, n, r) → k ≠ 1000) : ∀ n, m_Sim F fz n := by
  intro n
  induction n with
  | zero => intro d mid pc lv st σ v σ' h; cases h
  | succ n IH =>
    intro d mid pc lv st σ v σ' h p l e R s m args below meth c Q D cA A ad0 n0 z0 nL cc y r hme K hn0 hz0 hRc hRs hRf hRl hE
    simp only [m_exec] at h
    split at h
    · cases h
    · rename_i I len hFI
      obtain ⟨y', b', n', r', ins, hme', hd, ht⟩ := hF _ _ _ _ hFI
      rw [hme] at hme'
      cases hme'
      split at h
      · cases h
      · rename_i pc1 lv1 st1 σ1 hs
        have hle := m_step_le hs
        have hle2 := m_exec_le _ _ _ _ _ _ _ _ _ h
        exact m_one K hlk hcl hg hd ht hs hn0 hz0 (by have := hle2.1; omega) (by have := hle2.2; omega) (by omega) (by omega) (IH _ _ _ _ _ _ _ _ h p l e R s m args below meth c Q D cA A ad0 n0 z0 nL cc y r hme K (Nat.le_trans hn0 hle.1) (Nat.le_trans hz0 hle.2) hRc hRs hRf hRl hE)
      · rename_i v1 hs
        cases h
        intro ad H locs ls he hP hD hS hl
        obtain ⟨k, w, q, rfl, rfl, hk⟩ := m_step_ret hs
        have hp : m_pure v := by
          rcases hk with ⟨-, x, h⟩ | ⟨-, x, h⟩ | ⟨-, h⟩ | ⟨-, x, h, -⟩
          · exact Or.inr (Or.inl ⟨x, h⟩)
          · exact Or.inr (Or.inr ⟨x, h⟩)
          · exact Or.inl h
          · exact Or.inr (Or.inl ⟨x, h⟩)
        rw [hp.tv]
        refine hE ad H locs ls pc he hP hD hS ?_
        cases ins with
        | ireturn =>
          simp only [m_tri] at ht
          split at ht
          · obtain ⟨rfl, h2⟩ := m_if ht
            cases h2
            rcases hk with ⟨-, x, h⟩ | ⟨h9, -⟩ | ⟨h9, -⟩ | ⟨h9, -⟩
            · exact Or.inl ⟨x, h, rfl, hd⟩
            all_goals exact absurd h9 (by decide)
          · obtain ⟨rfl, h2⟩ := m_if ht
            cases h2
            rcases hk with ⟨h9, -⟩ | ⟨h9, -⟩ | ⟨h9, -⟩ | ⟨-, x, h, h3⟩
            · exact absurd h9 (by decide)
            · exact absurd h9 (by decide)
            · exact absurd h9 (by decide)
            · exact Or.inr (Or.inl ⟨x, h, rfl, h3, hd⟩)
          · cases ht
        | lreturn =>
          simp only [m_tri] at ht
          split at ht
          · obtain ⟨rfl, h2⟩ := m_if ht
            cases h2
            rcases hk with ⟨h9, -⟩ | ⟨-, x, h⟩ | ⟨h9, -⟩ | ⟨h9, -⟩
            · exact absurd h9 (by decide)
            · exact Or.inr (Or.inr (Or.inl ⟨x, h, rfl, hd⟩))
            · exact absurd h9 (by decide)
            · exact absurd h9 (by decide)
          · cases ht
        | return_ =>
          simp only [m_tri] at ht
          split at ht
          · obtain ⟨rfl, h2⟩ := m_if ht
            cases h2
            rcases hk with ⟨h9, -⟩ | ⟨h9, -⟩ | ⟨-, h⟩ | ⟨h9, -⟩
            · exact absurd h9 (by decide)
            · exact absurd h9 (by decide)
            · exact Or.inr (Or.inr (Or.inr ⟨h, rfl, hd⟩))
            · exact absurd h9 (by decide)
          · cases ht
        | _ =>
          simp only [m_tri] at ht
          repeat' split at ht
          all_goals first | (cases ht; done) | (obtain ⟨-, h2⟩ := m_if ht; cases h2; done)
      · rename_i mid1 as rest hs
        split at h
        · cases h
        · rename_i d1
          split at h
          · rename_i hco
            split at h
            · cases h
            · rename_i r1 σ1 h1
              have hle := m_exec_le _ _ _ _ _ _ _ _ _ h1
              have hle2 := m_exec_le _ _ _ _ _ _ _ _ _ h
              have hpu := m_exec_pure _ _ _ _ _ _ _ _ _ h1
              obtain ⟨w, q, rfl, hsc⟩ := m_step_call hs
              simp only [m_callOk, Bool.and_eq_true, decide_eq_true_eq] at hco
              obtain ⟨⟨⟨⟨c1, c2⟩, c3⟩, c4⟩, c5⟩ := hco
              have goal2 : ∀ (i : Nat), m_lkx y.cls i = some (24, mid1, w, q) → len = 3 → ((w = 0 ∨ w = 3) ∧ decode cc pc = .ok (.invokevirtual i, 3) ∨ (w = 1 ∨ w = 4) ∧ decode cc pc = .ok (.invokespecial i, 3) ∨ (w = 2 ∨ w = 5) ∧ decode cc pc = .ok (.invokestatic i, 3)) → m_WW p l e R s m args below meth c Q D cA A ad0 n0 z0 nL pc lv st σ := by
                intro i hli hlen hkind
                subst hlen
                obtain ⟨y2, b2, n2, r2, np, cy, e1, e2, e3, e4, e5, e6, e7, e8, e9, e10, e11, e12, e13⟩ := hlk _ _ _ hli
                dsimp only at e1 e2 e9 e10 e11 e12 e13
                subst e2
                have k2 := IH _ _ _ _ _ _ _ _ h p l e R s m args below meth c Q D cA A ad0 n0 z0 nL cc y r hme K (Nat.le_trans hn0 hle.1) (Nat.le_trans hz0 hle.2) hRc hRs hRf hRl hE
                intro ad H locs ls he hP hD hS hl
                have hM := m_met (l := l) IH h1 (h1000 _ _ _ _ _ e1) e1 e7 c5 D cA ad H.size
                have hcd := m_cw_in e1
                obtain ⟨hx, hb, hml, hown, hts, hr, hlocks, hnm, hK, hA, hFz, hN⟩ := id K
                have hfix : CallFix p m c cc nL s args m_G y.cls := ⟨hx, hb, hml, hown, hts⟩
                have hrm : (m_rm d1 (σ1.length - σ.length) (m_sz σ1 - m_sz σ)).frames + 1 ≤ R.frames ∧ 8 + (n2 + 11) + (m_rm d1 (σ1.length - σ.length) (m_sz σ1 - m_sz σ)).locals ≤ R.locals := by
                  simp only [m_rm]
                  omega
                have hroom : 2 * (F0 m pc ls (st.map (m_tv ad))).monitorRoom + ((rest.map (m_tv ad)).map fun v => v.category).sum ≤ 8 := lv_room (by simpa [List.map_map, Function.comp_def, m_tv_cat] using c4)
                have hcap : σ.length - n0 + (σ1.length - σ.length) ≤ R.cells ∧ m_sz σ - z0 + (m_sz σ1 - m_sz σ) ≤ R.slots := by
                  have a1 := hle.1
                  have a2 := hle.2
                  have a3 := hle2.1
                  have a4 := hle2.2
                  omega
                have hpre := m_pre K he hP hD hS as
                have hB : (Jvm.Cond.methodLink y.cls i y2).before args s = true → CallB R s args y.cls i y2 b2 n2 r2 (.code y2 b2 n2 r2 :: m_G) (m_rm d1 (σ1.length - σ.length) (m_sz σ1 - m_sz σ)) (σ1.length - σ.length) (m_sz σ1 - m_sz σ) np := fun h9 => callB_of np hts (m_goodG hcd) rfl rfl rfl (hts _ e8) h9 ⟨e4, e5, e6⟩ hrm
                have hC : (Jvm.Cond.methodLinkNest y.cls i y2 "MotherBench") ∈ m_nw → va_CN R s args y.cls i y2 "MotherBench" b2 n2 r2 (.code y2 b2 n2 r2 :: m_G) (m_rm d1 (σ1.length - σ.length) (m_sz σ1 - m_sz σ)) (σ1.length - σ.length) (m_sz σ1 - m_sz σ) np := fun h9 => va_cnB np hts (m_goodG hcd) rfl rfl rfl (hN.1 _ h9) (hts _ e8) ⟨e4, e5, e6⟩ hrm
                rcases hsc with ⟨hw, s1, s2, s3⟩ | ⟨hw, b, fs, s1, s2, s3⟩
                · have hd3 : decode cc pc = .ok (.invokestatic i, 3) := by
                    rcases hkind with ⟨h9, -⟩ | ⟨h9, -⟩ | ⟨-, h9⟩
                    · omega
                    · omega
                    · exact h9
                  have hstk : st.map (m_tv ad) = (as.map (m_tv ad)).reverse ++ rest.map (m_tv ad) := by
                    rw [s2, s3, ← List.map_reverse, List.reverse_reverse, ← List.map_append, List.take_append_drop]
                  have hlen2 : (as.map (m_tv ad)).length = np := by
                    rw [s2, List.length_map, List.length_reverse, List.length_take]
                    exact Nat.min_eq_left s1
                  rcases hw with hw | hw
                  · exact m_after K hle hn0 hz0 hpu c2 c3 k2 (va_runS hfix hM ⟨hB (hts _ (e9 (by omega))), hts _ (e13 (by omega))⟩ ⟨m_blind, hpre⟩ rfl hlen2 hl.1 hstk hroom hd3 hcap) he hD hS hl
                  · exact m_after K hle hn0 hz0 hpu c2 c3 k2 (va_runSN hfix hM ⟨hC (e10 (by omega)), hts _ (e13 (by omega)), trivial⟩ ⟨m_blind, hpre⟩ rfl hlen2 hl.1 hstk hroom hd3 hcap) he hD hS hl
                · have hstk : st.map (m_tv ad) = ((st.take np).reverse.map (m_tv ad)).reverse ++ .ref (ad b) :: rest.map (m_tv ad) := by
                    rw [← List.map_reverse, List.reverse_reverse]
                    have h9 : (.ref (ad b) :: rest.map (m_tv ad)) = (st.drop np).map (m_tv ad) := by
                      have h8 : st.drop np = .ref b :: rest := s1
                      rw [h8]
                      rfl
                    rw [h9, ← List.map_append, List.take_append_drop]
                  have hlen2 : ((st.take np).reverse.map (m_tv ad)).length = np := by
                    rw [List.length_map, List.length_reverse, List.length_take]
                    have h8 : st.drop np = .ref b :: rest := s1
                    have h7 : (st.drop np).length = rest.length + 1 := by rw [h8]; rfl
                    rw [List.length_drop] at h7
                    omega
                  have has : as.map (m_tv ad) = .ref (ad b) :: (st.take np).reverse.map (m_tv ad) := by
                    rw [s3]
                    rfl
                  rw [has] at hpre
                  rcases hkind with ⟨h9, hd3⟩ | ⟨h9, hd3⟩ | ⟨h9, -⟩
                  · obtain ⟨f1, f2, qc, f3, f4⟩ := e11 h9
                    have hrecv := va_recv hK hP f3 (m_w_at s2)
                    rw [f4] at hrecv
                    rcases h9 with h9 | h9
                    · exact m_after K hle hn0 hz0 hpu c2 c3 k2 (va_runV hfix hM ⟨hB (hts _ (e9 (by omega))), hts _ f1, hts _ f2⟩ ⟨m_blind, hrecv, hpre⟩ rfl hlen2 hl.1 hstk hroom hd3 hcap) he hD hS hl
                    · exact m_after K hle hn0 hz0 hpu c2 c3 k2 (va_runVN hfix hM ⟨hC (e10 (by omega)), hts _ f1, hts _ f2⟩ ⟨m_blind, hrecv, hpre⟩ rfl hlen2 hl.1 hstk hroom hd3 hcap) he hD hS hl
                  · obtain ⟨f1, f2, f3⟩ := e12 h9
                    subst f3
                    rcases h9 with h9 | h9
                    · exact m_after K hle hn0 hz0 hpu c2 c3 k2 (va_runI hfix hM ⟨hB (hts _ (e9 (by omega))), f1, hts _ f2⟩ ⟨m_blind, hpre⟩ rfl hlen2 hl.1 hstk hroom hd3 hcap) he hD hS hl
                    · exact m_after K hle hn0 hz0 hpu c2 c3 k2 (va_runIN hfix hM ⟨hC (e10 (by omega)), f1, hts _ f2⟩ ⟨m_blind, hpre⟩ rfl hlen2 hl.1 hstk hroom hd3 hcap) he hD hS hl
                  · exact absurd h9 hw
              cases ins with
              | invokevirtual i =>
                simp only [m_tri] at ht
                split at ht
                · rename_i a k q2 hli
                  obtain ⟨⟨rfl, h8⟩, h9⟩ := m_if ht
                  cases h9
                  exact goal2 i hli rfl (Or.inl ⟨h8, hd⟩)
                · obtain ⟨-, h9⟩ := m_if ht
                  cases h9
                · obtain ⟨-, h9⟩ := m_if ht
                  cases h9
                · cases ht
              | invokespecial i =>
                simp only [m_tri] at ht
                split at ht
                · rename_i a k q2 hli
                  obtain ⟨⟨rfl, h8⟩, h9⟩ := m_if ht
                  cases h9
                  exact goal2 i hli rfl (Or.inr (Or.inl ⟨h8, hd⟩))
                · obtain ⟨-, h9⟩ := m_if ht
                  cases h9
                · cases ht
              | invokestatic i =>
                simp only [m_tri] at ht
                split at ht
                · rename_i a k q2 hli
                  obtain ⟨⟨rfl, h8⟩, h9⟩ := m_if ht
                  cases h9
                  exact goal2 i hli rfl (Or.inr (Or.inr ⟨h8, hd⟩))
                · obtain ⟨-, h9⟩ := m_if ht
                  cases h9
                · obtain ⟨-, h9⟩ := m_if ht
                  cases h9
                · cases ht
              | _ =>
                simp only [m_tri] at ht
                repeat' split at ht
                all_goals first | (cases ht; done) | (obtain ⟨-, h2⟩ := m_if ht; cases h2; done)
          · cases h
end M13

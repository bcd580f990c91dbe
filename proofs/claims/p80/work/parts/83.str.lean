/-! TEXTS: the JDK's own methods of String, by hand -/
def x_byt : List (List Int32) := [[109, 111, 116, 104, 101, 114], [107, 105, 110], [99, 97, 117, 115, 101], [99, 105, 114, 99, 117, 105, 116], [100, 97, 121, 115], [108, 97, 119], [111, 100, 100, 115], [115, 116, 114, 105, 99, 116], [119, 97, 121, 115], [119, 101, 105, 103, 104, 115], [115, 105, 103, 110, 115], [97, 116]]
def x_len : List Nat := [6, 3, 5, 7, 4, 3, 4, 6, 4, 6, 5, 2]
def x_sx : List (Nat × String) := [(53, "mother"), (62, "kin"), (67, "cause"), (79, "circuit"), (85, "days"), (93, "law"), (97, "odds"), (104, "strict"), (109, "ways"), (121, "weighs"), (125, "signs"), (129, "at")]
theorem m_inG {w : Cond} {i : Nat} (h : m_wd i = some w) (hg : goodWord w = true) : w ∈ m_G := List.mem_filter.mpr ⟨m_wd_in h, hg⟩
theorem m_goodG {y : MethodName} {b : ByteArray} {n : Nat} {r : Option FieldType} (h : Jvm.Cond.code y b n r ∈ m_G) : GoodIn m_G (.code y b n r :: m_G) := fun w hw => by
  rcases List.mem_cons.mp hw with rfl | hw
  · exact ⟨h, good_of_word (List.mem_filter.mp h).2⟩
  · exact ⟨hw, good_of_word (List.mem_filter.mp hw).2⟩
def x_lkx : List ((String × Nat) × m_I) := [(("MotherBench$Reader", 162), (40, 1, 0, [])), (("MotherBench$Reader", 136), (20, 1, 0, [])), (("MotherBench$Reader", 142), (43, 0, 0, [])), (("MotherBench$Circuit", 76), (40, 0, 0, [])), (("MotherBench", 406), (40, 1, 0, [])), (("MotherBench", 411), (40, 0, 0, [])), (("MotherBench$Court", 147), (40, 1, 0, [])), (("MotherBench$Court", 153), (40, 0, 0, [])), (("MotherBench$Trial", 83), (40, 0, 0, [])), (("MotherBench$Rows", 26), (40, 0, 0, [])), (("MotherBench$Seen", 84), (40, 0, 0, [])), (("MotherBench$Fraction", 13), (40, 6, 0, [])), (("MotherBench$Fraction", 23), (40, 4, 0, [])), (("MotherBench$Trial", 101), (41, 1, 0, [])), (("MotherBench$Reader", 53), (41, 2, 0, [])), (("MotherBench$Reader", 62), (41, 3, 0, [])), (("MotherBench$Reader", 67), (41, 4, 0, [])), (("MotherBench$Reader", 79), (41, 5, 0, [])), (("MotherBench$Reader", 85), (41, 6, 0, [])), (("MotherBench$Reader", 93), (41, 7, 0, [])), (("MotherBench$Reader", 97), (41, 8, 0, [])), (("MotherBench$Reader", 104), (41, 9, 0, [])), (("MotherBench$Reader", 109), (41, 10, 0, [])), (("MotherBench$Reader", 121), (41, 11, 0, [])), (("MotherBench$Reader", 125), (41, 12, 0, [])), (("MotherBench$Reader", 129), (41, 13, 0, []))]
/-- links of Math, texts, FACTORIALS beside the others -/
def m_lkx (o : String) (i : Nat) : Option m_I := match m_lk o i with
  | some I => some I
  | none => x_lkx.lookup (o, i)
def x_Tx (A : Nat → Prop) (adK adV : Nat → Nat) (U : State) (H : Heap) : Prop := vk_S 12 x_len x_byt adK adV A U H ∧ va_Z "java/lang/String" "COMPACT_STRINGS" "Z" (.int 1) A U H ∧ va_Zq "jdk/internal/util/Preconditions" "SIOOBE_FORMATTER" "Ljava/util/function/BiFunction;" A U H
theorem x_Tx.moved {A : Nat → Prop} {adK adV : Nat → Nat} {u U : State} {H : Heap} (hvm : u.vm.Alike U.vm) (h : x_Tx A adK adV u H) : x_Tx A adK adV U H := ⟨h.1.moved hvm, h.2.1.moved hvm, h.2.2.moved hvm⟩
theorem x_Tx.kept {A : Nat → Prop} {adK adV : Nat → Nat} {U : State} {H H1 : Heap} (h : x_Tx A adK adV U H) (hq : ∀ a : Nat, a < H.size → ¬ A a → H1[a]? = H[a]?) : x_Tx A adK adV U H1 := ⟨h.1.kept hq, h.2.1.kept hq, h.2.2.kept hq⟩
theorem x_Tx.narrow {A B : Nat → Prop} {adK adV : Nat → Nat} {U : State} {H : Heap} (h : x_Tx A adK adV U H) (hAB : ∀ q, B q → A q) : x_Tx B adK adV U H := ⟨h.1.narrow hAB, h.2.1.narrow hAB, h.2.2.narrow hAB⟩
def x_no : Nat → Prop := fun _ => False
def x_Pt (av : List Value) (adK adV : Nat → Nat) : Array Value → State → Prop := va_Pc av (fun U => x_Tx x_no adK adV U U.heap)
theorem x_blind {av : List Value} {adK adV : Nat → Nat} : FrameBlind (x_Pt av adK adV) := fun a U g mk q => ⟨q.1, x_Tx.moved (u := U) (U := U.calling g mk a) (Vm.Alike.refl U.vm) q.2⟩
def x_Qt (v : Option Value) : Array Value → State → Outcome → State → Prop := fun _ st oc t => oc = .returned v ∧ t.heap = st.heap
section XST
variable {p : Program} {l : Launch} {e : Env} {R : Room} {s : State} {m : MethodId} {args : Array Value} {below : List Frame} {meth : Method} {c : Code} {H : Heap} {locs : List Loc} {cells slots : Nat} {Q : State → Prop}
variable {pc : Nat} {ls : Array Slot} {rest st0 : List Value} {a : Array Value}
theorem x_cs {v : Option Value} (hr : va_Run p l e R s m args below meth c H locs cells slots 0 0 (F0 m pc ls st0) rest (x_Qt v a) (fun _ => False))
    (kk : W p l e R s m args below meth c H locs cells slots Q (F0 m (pc + 3) ls (v.toList ++ rest))) : W p l e R s m args below meth c H locs cells slots Q (F0 m pc ls st0) := by
  intro T hT X
  obtain ⟨v', st₀, t, T', L, h0, X', hL, e1, e2, ⟨hv, hh⟩, st⟩ := hr T hT X
  cases hv
  obtain ⟨t2, a1, b1⟩ := kk T' (by rw [e1, hh, h0]) (Stand.forget X' (fun q h => (hL q h).elim))
  exact ⟨t2, st t2 a1, b1⟩
end XST
def x_rm (k w : Nat) : Room := { frames := k, cells := 0, slots := 0, locals := w }
def x_yPre : MethodName := ⟨"jdk/internal/util/Preconditions", "checkIndex", "(IILjava/util/function/BiFunction;)I"⟩
def x_yChk : MethodName := ⟨"java/lang/String", "checkIndex", "(II)V"⟩
def x_ySl1 : MethodName := ⟨"java/lang/StringLatin1", "charAt", "([BI)C"⟩
def x_yLat : MethodName := ⟨"java/lang/String", "isLatin1", "()Z"⟩
def x_yCha : MethodName := ⟨"java/lang/String", "charAt", "(I)C"⟩
def x_yCod : MethodName := ⟨"java/lang/String", "coder", "()B"⟩
def x_yLen : MethodName := ⟨"java/lang/String", "length", "()I"⟩
theorem x_wPre : Jvm.Cond.code x_yPre prog_20_method_11_code 3 (some .int) ∈ m_G := m_inG (i := 3020) (by decide +kernel) rfl
theorem x_wChk : Jvm.Cond.code x_yChk prog_15_method_155_code 2 none ∈ m_G := m_inG (i := 3015) (by decide +kernel) rfl
theorem x_wSl1 : Jvm.Cond.code x_ySl1 prog_16_method_2_code 2 (some .char) ∈ m_G := m_inG (i := 3012) (by decide +kernel) rfl
theorem x_wLat : Jvm.Cond.code x_yLat prog_15_method_154_code 1 (some .boolean) ∈ m_G := m_inG (i := 3009) (by decide +kernel) rfl
theorem x_wCha : Jvm.Cond.code x_yCha prog_15_method_56_code 2 (some .char) ∈ m_G := m_inG (i := 3005) (by decide +kernel) rfl
theorem x_wCod : Jvm.Cond.code x_yCod prog_15_method_152_code 1 (some .byte) ∈ m_G := m_inG (i := 2239) (by decide +kernel) rfl
theorem x_wLen : Jvm.Cond.code x_yLen prog_15_method_54_code 1 (some .int) ∈ m_G := m_inG (i := 2235) (by decide +kernel) rfl
theorem x_mPre (l : Launch) (i n : Int32) (v : Value) (adK adV : Nat → Nat) (hc : v.category = 1) (h0 : ¬ i < 0) (h1 : i < n) : Met l x_yPre (.code x_yPre prog_20_method_11_code 3 (some .int) :: m_G) (x_rm 0 0) (x_Pt [.int i, .int n, v] adK adV) (x_Qt (some (.int i))) 0 0 (fun _ => False) := by
  refine Met.ofW (cc := prog_20_method_11_code) (maxL := 3) (ret := some .int) (by decide) rfl ?_
  intro p e s m args below meth c s₁ B hml hv
  obtain ⟨rfl, hT⟩ := hv
  have hT : x_Tx x_no adK adV s s.heap := hT
  have hl := lv_entry [.int i, .int n, v] (n := 3) (by rw [show lg_sl [.int i, .int n, v] = [.val (.int i), .val (.int n)] ++ lg_sl [v] from rfl]; simp [lg_sl, hc])
  rw [lg_entry_eq]
  have hl1 := lv_at hl 0 rfl
  have hl2 := lv_at hl 1 rfl
  refine lv_iload_n B.exec B.bytes (k := 0) (i := 0) (by decide +kernel) rfl hl1 ?_
  refine lv_if_lt B.exec B.bytes (off := 8) (tgt := 9) (by decide +kernel) (by decide) (fun h => absurd h h0) (fun _ => ?_)
  refine lv_iload_n B.exec B.bytes (k := 0) (i := 0) (by decide +kernel) rfl hl1 ?_
  refine lv_iload_n B.exec B.bytes (k := 1) (i := 1) (by decide +kernel) rfl hl2 ?_
  refine lv_icmp_lt B.exec B.bytes (off := 10) (tgt := 16) (by decide +kernel) (by decide) (fun _ => ?_) (fun h => absurd h1 h)
  refine lv_iload_n B.exec B.bytes (k := 0) (i := 0) (by decide +kernel) rfl hl1 ?_
  exact W.iret B.exec B.bytes B.returns (fun t ht _ => ⟨rfl, ht⟩) (fun q h => absurd h List.not_mem_nil) (by decide +kernel)
theorem x_cat1 {v : Value} (h : v = .null ∨ ∃ t, v = .ref t) : v.category = 1 := by
  rcases h with rfl | ⟨t, rfl⟩ <;> rfl
theorem x_mChk (l : Launch) (i n : Int32) (adK adV : Nat → Nat) (h0 : ¬ i < 0) (h1 : i < n) : Met l x_yChk (.code x_yChk prog_15_method_155_code 2 none :: m_G) (x_rm 1 22) (x_Pt [.int i, .int n] adK adV) (x_Qt none) 0 0 (fun _ => False) := by
  refine Met.ofW (cc := prog_15_method_155_code) (maxL := 2) (ret := none) (by decide) rfl ?_
  intro p e s m args below meth c s₁ B hml hv
  obtain ⟨rfl, hT⟩ := hv
  have hT : x_Tx x_no adK adV s s.heap := hT
  have hts := atoms_spec (ws := Jvm.Cond.code x_yChk prog_15_method_155_code 2 none :: m_G) B.pre
  have htg : ∀ w ∈ m_G, w.before #[.int i, .int n] s = true := fun w hw => hts w (List.mem_cons_of_mem _ hw)
  have hown := findClass_of_methodNamed B.named
  have hl := lv_entry [.int i, .int n] (n := 2) (Nat.le_refl _)
  rw [lg_entry_eq]
  have hl1 := lv_at hl 0 rfl
  have hl2 := lv_at hl 1 rfl
  have hsz := hl.1
  have hS : va_S x_no s.heap s.heap [] := va_S.rf
  refine lv_iload_n B.exec B.bytes (k := 0) (i := 0) (by decide +kernel) rfl hl1 ?_
  refine lv_iload_n B.exec B.bytes (k := 1) (i := 1) (by decide +kernel) rfl hl2 ?_
  have hfl := htg _ (m_inG (i := 3016) (w := .fieldLink "java/lang/String" 1053 "jdk/internal/util/Preconditions" "SIOOBE_FORMATTER" "Ljava/util/function/BiFunction;") (by decide +kernel) rfl)
  obtain ⟨v, hv, hZ⟩ : ∃ v : Value, (v = .null ∨ ∃ t, v = .ref t) ∧ va_Z "jdk/internal/util/Preconditions" "SIOOBE_FORMATTER" "Ljava/util/function/BiFunction;" v x_no s s.heap := by
    rcases hT.2.2 with h | ⟨t, h⟩
    · exact ⟨.null, Or.inl rfl, h⟩
    · exact ⟨.ref t, Or.inr ⟨t, rfl⟩, h⟩
  refine va_gets B.exec B.bytes hZ hS hown hfl (fun _ h => h) (by decide +kernel) ?_
  have hM := x_mPre l i n v adK adV (x_cat1 hv) h0 h1
  have hfix : CallFix p m c prog_15_method_155_code 2 s #[.int i, .int n] m_G "java/lang/String" := ⟨B.exec, B.bytes, hml, hown, htg⟩
  have hlk := htg _ (m_inG (i := 3018) (w := .methodLink "java/lang/String" 1059 x_yPre) (by decide +kernel) rfl)
  have hst := htg _ (m_inG (i := 3019) (w := .static x_yPre) (by decide +kernel) rfl)
  have hin := htg _ (m_inG (i := 1016) (w := .initialized "jdk/internal/util/Preconditions") (by decide +kernel) rfl)
  refine x_cs (v := some (.int i)) (rest := []) (va_runS hfix hM ⟨callB_of 3 htg (m_goodG x_wPre) rfl rfl rfl hin hlk ⟨by decide, by decide, by decide +kernel⟩ ⟨Nat.le_of_ble_eq_true rfl, Nat.le_of_ble_eq_true rfl⟩, hst⟩ ⟨x_blind, fun U hU hW => ⟨rfl, by show x_Tx x_no adK adV U U.heap; rw [hU]; exact hT.moved hW.alike⟩⟩ rfl rfl hsz rfl (lv_room (Nat.le_of_ble_eq_true rfl)) (show decode prog_15_method_155_code 5 = .ok (.invokestatic 1059, 3) from by decide +kernel) ⟨Nat.le_refl _, Nat.le_refl _⟩) ?_
  refine lv_pop B.exec B.bytes (by decide +kernel) rfl ?_
  exact W.vret B.exec B.bytes B.returns (fun t ht _ => ⟨rfl, ht⟩) (fun q h => absurd h List.not_mem_nil) (by decide +kernel)
theorem x_lat {A : Nat → Prop} {adK adV : Nat → Nat} {i : Nat} {U : State} {H : Heap} (h : x_Tx A adK adV U H) (hi : i < 12) : va_OF "java/lang/String" "coder" "B" (.int 0) (adK i) A U H ∧ va_OF "java/lang/String" "value" "[B" (.ref (adV i)) (adK i) A U H ∧ va_T .byte (adV i) (x_len.getD i 0) (fun j => .int ((x_byt.getD i []).getD j 0)) A U H := (h.1.1 i hi).2
theorem x_mLat (l : Launch) (i : Nat) (hi : i < 12) (adK adV : Nat → Nat) : Met l x_yLat (.code x_yLat prog_15_method_154_code 1 (some .boolean) :: m_G) (x_rm 0 0) (x_Pt [.ref (adK i)] adK adV) (x_Qt (some (.int 1))) 0 0 (fun _ => False) := by
  refine Met.ofW (cc := prog_15_method_154_code) (maxL := 1) (ret := some .boolean) (by decide) rfl ?_
  intro p e s m args below meth c s₁ B hml hv
  obtain ⟨rfl, hT⟩ := hv
  have hT : x_Tx x_no adK adV s s.heap := hT
  have hts := atoms_spec (ws := Jvm.Cond.code x_yLat prog_15_method_154_code 1 (some .boolean) :: m_G) B.pre
  have htg : ∀ w ∈ m_G, w.before #[.ref (adK i)] s = true := fun w hw => hts w (List.mem_cons_of_mem _ hw)
  have hown := findClass_of_methodNamed B.named
  have hl := lv_entry [.ref (adK i)] (n := 1) (Nat.le_refl _)
  rw [lg_entry_eq]
  have hl1 := lv_at hl 0 rfl
  have hS : va_S x_no s.heap s.heap [] := va_S.rf
  have hfl := htg _ (m_inG (i := 3000) (w := .fieldLink "java/lang/String" 38 "java/lang/String" "COMPACT_STRINGS" "Z") (by decide +kernel) rfl)
  have hfc := htg _ (m_inG (i := 9201) (w := .fieldLink "java/lang/String" 15 "java/lang/String" "coder" "B") (by decide +kernel) rfl)
  refine va_gets B.exec B.bytes hT.2.1 hS hown hfl (fun _ h => h) (by decide +kernel) ?_
  refine lv_if_eq B.exec B.bytes (off := 14) (tgt := 17) (by decide +kernel) (by decide) (fun h => absurd h (by decide)) (fun _ => ?_)
  refine lv_aload_n B.exec B.bytes (k := 0) (i := 0) (by decide +kernel) rfl hl1 ?_
  refine vk_getf B.exec B.bytes (x_lat hT hi).1 hS hown hfc (fun _ h => h) (by decide +kernel) ?_
  refine lv_if_ne B.exec B.bytes (off := 7) (tgt := 17) (by decide +kernel) (by decide) (fun h => absurd rfl h) (fun _ => ?_)
  refine lv_iconst B.exec B.bytes (n := 1) (v := 1) (by decide +kernel) rfl ?_
  refine lv_goto B.exec B.bytes (off := 4) (tgt := 18) (by decide +kernel) (by decide) ?_
  exact W.zret B.exec B.bytes B.returns rfl (fun t ht _ => ⟨rfl, ht⟩) (fun q h => absurd h List.not_mem_nil) (by decide +kernel)
theorem x_mCod (l : Launch) (i : Nat) (hi : i < 12) (adK adV : Nat → Nat) : Met l x_yCod (.code x_yCod prog_15_method_152_code 1 (some .byte) :: m_G) (x_rm 0 0) (x_Pt [.ref (adK i)] adK adV) (x_Qt (some (.int 0))) 0 0 (fun _ => False) := by
  refine Met.ofW (cc := prog_15_method_152_code) (maxL := 1) (ret := some .byte) (by decide) rfl ?_
  intro p e s m args below meth c s₁ B hml hv
  obtain ⟨rfl, hT⟩ := hv
  have hT : x_Tx x_no adK adV s s.heap := hT
  have hts := atoms_spec (ws := Jvm.Cond.code x_yCod prog_15_method_152_code 1 (some .byte) :: m_G) B.pre
  have htg : ∀ w ∈ m_G, w.before #[.ref (adK i)] s = true := fun w hw => hts w (List.mem_cons_of_mem _ hw)
  have hown := findClass_of_methodNamed B.named
  have hl := lv_entry [.ref (adK i)] (n := 1) (Nat.le_refl _)
  rw [lg_entry_eq]
  have hl1 := lv_at hl 0 rfl
  have hS : va_S x_no s.heap s.heap [] := va_S.rf
  have hfl := htg _ (m_inG (i := 3000) (w := .fieldLink "java/lang/String" 38 "java/lang/String" "COMPACT_STRINGS" "Z") (by decide +kernel) rfl)
  have hfc := htg _ (m_inG (i := 9201) (w := .fieldLink "java/lang/String" 15 "java/lang/String" "coder" "B") (by decide +kernel) rfl)
  refine va_gets B.exec B.bytes hT.2.1 hS hown hfl (fun _ h => h) (by decide +kernel) ?_
  refine lv_if_eq B.exec B.bytes (off := 10) (tgt := 13) (by decide +kernel) (by decide) (fun h => absurd h (by decide)) (fun _ => ?_)
  refine lv_aload_n B.exec B.bytes (k := 0) (i := 0) (by decide +kernel) rfl hl1 ?_
  refine vk_getf B.exec B.bytes (x_lat hT hi).1 hS hown hfc (fun _ h => h) (by decide +kernel) ?_
  refine lv_goto B.exec B.bytes (off := 4) (tgt := 14) (by decide +kernel) (by decide) ?_
  exact W.zret B.exec B.bytes B.returns rfl (fun t ht _ => ⟨rfl, ht⟩) (fun q h => absurd h List.not_mem_nil) (by decide +kernel)
theorem x_lens : ∀ i, i < 12 → (x_len.getD i 0 = (x_byt.getD i []).length ∧ (x_byt.getD i []).length < 100 ∧ Int32.ofNat (x_len.getD i 0) >>> ((0 : Int32) &&& 31) = Int32.ofNat (x_len.getD i 0) ∧ ∀ b ∈ x_byt.getD i [], ((b &&& 255).toUInt32 % 65536).toInt32 = b ∧ narrow .char (.int b) = .int b) := by decide +kernel
theorem x_mLen (l : Launch) (i : Nat) (hi : i < 12) (adK adV : Nat → Nat) : Met l x_yLen (.code x_yLen prog_15_method_54_code 1 (some .int) :: m_G) (x_rm 1 20) (x_Pt [.ref (adK i)] adK adV) (x_Qt (some (.int (Int32.ofNat (x_len.getD i 0))))) 0 0 (fun _ => False) := by
  refine Met.ofW (cc := prog_15_method_54_code) (maxL := 1) (ret := some .int) (by decide) rfl ?_
  intro p e s m args below meth c s₁ B hml hv
  obtain ⟨rfl, hT⟩ := hv
  have hT : x_Tx x_no adK adV s s.heap := hT
  have hts := atoms_spec (ws := Jvm.Cond.code x_yLen prog_15_method_54_code 1 (some .int) :: m_G) B.pre
  have htg : ∀ w ∈ m_G, w.before #[.ref (adK i)] s = true := fun w hw => hts w (List.mem_cons_of_mem _ hw)
  have hown := findClass_of_methodNamed B.named
  have hl := lv_entry [.ref (adK i)] (n := 1) (Nat.le_refl _)
  rw [lg_entry_eq]
  have hl1 := lv_at hl 0 rfl
  have hsz := hl.1
  have hS : va_S x_no s.heap s.heap [] := va_S.rf
  have hfv := htg _ (m_inG (i := 9200) (w := .fieldLink "java/lang/String" 9 "java/lang/String" "value" "[B") (by decide +kernel) rfl)
  refine lv_aload_n B.exec B.bytes (k := 0) (i := 0) (by decide +kernel) rfl hl1 ?_
  refine vk_getf B.exec B.bytes (x_lat hT hi).2.1 hS hown hfv (fun _ h => h) (by decide +kernel) ?_
  refine va_tlen B.exec B.bytes (x_lat hT hi).2.2 hS rfl (by decide +kernel) ?_
  refine lv_aload_n B.exec B.bytes (k := 0) (i := 0) (by decide +kernel) rfl hl1 ?_
  have hM := x_mCod l i hi adK adV
  have hfix : CallFix p m c prog_15_method_54_code 1 s #[.ref (adK i)] m_G "java/lang/String" := ⟨B.exec, B.bytes, hml, hown, htg⟩
  have hlk := htg _ (m_inG (i := 2236) (w := .methodLink "java/lang/String" 335 x_yCod) (by decide +kernel) rfl)
  have hiv := htg _ (m_inG (i := 2237) (w := .instanceMethod x_yCod) (by decide +kernel) rfl)
  have hse := htg _ (m_inG (i := 2238) (w := .selects "java/lang/String" x_yCod x_yCod) (by decide +kernel) rfl)
  have hin := htg _ (m_inG (i := 1014) (w := .initialized "java/lang/String") (by decide +kernel) rfl)
  refine x_cs (v := some (.int 0)) (rest := [.int (Int32.ofNat (x_len.getD i 0))]) (va_runV (As := []) hfix hM ⟨callB_of 0 htg (m_goodG x_wCod) rfl rfl rfl hin hlk ⟨by decide, by decide, by decide +kernel⟩ ⟨Nat.le_of_ble_eq_true rfl, Nat.le_of_ble_eq_true rfl⟩, hiv, hse⟩ ⟨x_blind, vk_recv hT.1 hi hS, fun U hU hW => ⟨rfl, by show x_Tx x_no adK adV U U.heap; rw [hU]; exact hT.moved hW.alike⟩⟩ rfl rfl hsz rfl (lv_room (Nat.le_of_ble_eq_true rfl)) (show decode prog_15_method_54_code 6 = .ok (.invokevirtual 335, 3) from by decide +kernel) ⟨Nat.le_refl _, Nat.le_refl _⟩) ?_
  refine lv_ishr B.exec B.bytes (by decide +kernel) ?_
  rw [(x_lens i hi).2.2.1]
  exact W.iret B.exec B.bytes B.returns (fun t ht _ => ⟨rfl, ht⟩) (fun q h => absurd h List.not_mem_nil) (by decide +kernel)
theorem x_getmem {l : List Int32} {j : Nat} (h : j < l.length) : l.getD j 0 ∈ l := by
  have h9 : l.getD j 0 = l[j] := by simp [List.getD, List.getElem?_eq_getElem h]
  rw [h9]
  exact List.getElem_mem h
theorem x_nn {j : Nat} (h : j < 100) : ¬ (Int32.ofNat j) < 0 ∧ (Int32.ofNat j).toNatClampNeg = j := by
  have : ∀ j, j < 100 → (¬ (Int32.ofNat j) < 0 ∧ (Int32.ofNat j).toNatClampNeg = j) := by decide +kernel
  exact this j h
theorem x_lt {j n : Nat} (hn : n < 100) (h : j < n) : Int32.ofNat j < Int32.ofNat n := by
  have : ∀ n, n < 100 → ∀ j, j < n → Int32.ofNat j < Int32.ofNat n := by decide +kernel
  exact this n hn j h
theorem x_mSl1 (l : Launch) (i j : Nat) (hi : i < 12) (hj : j < (x_byt.getD i []).length) (adK adV : Nat → Nat) : Met l x_ySl1 (.code x_ySl1 prog_16_method_2_code 2 (some .char) :: m_G) (x_rm 2 43) (x_Pt [.ref (adV i), .int (Int32.ofNat j)] adK adV) (x_Qt (some (.int ((x_byt.getD i []).getD j 0)))) 0 0 (fun _ => False) := by
  obtain ⟨b1, b2, b3, b4⟩ := x_lens i hi
  obtain ⟨n1, n2⟩ := x_nn (Nat.lt_trans hj b2)
  refine Met.ofW (cc := prog_16_method_2_code) (maxL := 2) (ret := some .char) (by decide) rfl ?_
  intro p e s m args below meth c s₁ B hml hv
  obtain ⟨rfl, hT⟩ := hv
  have hT : x_Tx x_no adK adV s s.heap := hT
  have hts := atoms_spec (ws := Jvm.Cond.code x_ySl1 prog_16_method_2_code 2 (some .char) :: m_G) B.pre
  have htg : ∀ w ∈ m_G, w.before #[.ref (adV i), .int (Int32.ofNat j)] s = true := fun w hw => hts w (List.mem_cons_of_mem _ hw)
  have hown := findClass_of_methodNamed B.named
  have hl := lv_entry [.ref (adV i), .int (Int32.ofNat j)] (n := 2) (Nat.le_refl _)
  rw [lg_entry_eq]
  have hl1 := lv_at hl 0 rfl
  have hl2 := lv_at hl 1 rfl
  have hsz := hl.1
  have hS : va_S x_no s.heap s.heap [] := va_S.rf
  refine lv_iload_n B.exec B.bytes (k := 1) (i := 1) (by decide +kernel) rfl hl2 ?_
  refine lv_aload_n B.exec B.bytes (k := 0) (i := 0) (by decide +kernel) rfl hl1 ?_
  refine va_tlen B.exec B.bytes (x_lat hT hi).2.2 hS rfl (by decide +kernel) ?_
  have hM := x_mChk l (Int32.ofNat j) (Int32.ofNat (x_len.getD i 0)) adK adV n1 (by rw [b1]; exact x_lt b2 hj)
  have hfix : CallFix p m c prog_16_method_2_code 2 s #[.ref (adV i), .int (Int32.ofNat j)] m_G "java/lang/StringLatin1" := ⟨B.exec, B.bytes, hml, hown, htg⟩
  have hlk := htg _ (m_inG (i := 3013) (w := .methodLink "java/lang/StringLatin1" 9 x_yChk) (by decide +kernel) rfl)
  have hst := htg _ (m_inG (i := 3014) (w := .static x_yChk) (by decide +kernel) rfl)
  have hin := htg _ (m_inG (i := 1014) (w := .initialized "java/lang/String") (by decide +kernel) rfl)
  refine x_cs (v := none) (rest := []) (va_runS hfix hM ⟨callB_of 2 htg (m_goodG x_wChk) rfl rfl rfl hin hlk ⟨by decide, by decide, by decide +kernel⟩ ⟨Nat.le_of_ble_eq_true rfl, Nat.le_of_ble_eq_true rfl⟩, hst⟩ ⟨x_blind, fun U hU hW => ⟨rfl, by show x_Tx x_no adK adV U U.heap; rw [hU]; exact hT.moved hW.alike⟩⟩ rfl rfl hsz rfl (lv_room (Nat.le_of_ble_eq_true rfl)) (show decode prog_16_method_2_code 3 = .ok (.invokestatic 9, 3) from by decide +kernel) ⟨Nat.le_refl _, Nat.le_refl _⟩) ?_
  refine lv_aload_n B.exec B.bytes (k := 0) (i := 0) (by decide +kernel) rfl hl1 ?_
  refine lv_iload_n B.exec B.bytes (k := 1) (i := 1) (by decide +kernel) rfl hl2 ?_
  refine va_tb B.exec B.bytes (x_lat hT hi).2.2 hS (i := Int32.ofNat j) (vp_in_iff.mpr ?_) (v := .int ((x_byt.getD i []).getD j 0)) (by rw [n2]) (by decide +kernel) ?_
  · have q1 : (Int32.ofNat j).toInt = (j : Int) := b_of32 (by omega)
    rw [q1, b1]
    omega
  refine lv_sipush B.exec B.bytes (n := 255) (v := 255) (by decide +kernel) (by decide) ?_
  refine lv_iand B.exec B.bytes (by decide +kernel) ?_
  have hmem := x_getmem hj
  obtain ⟨k1, k2⟩ := b4 _ hmem
  refine lv_i2c B.exec B.bytes (by decide +kernel) k1 ?_
  exact W.zret B.exec B.bytes B.returns k2 (fun t ht _ => ⟨rfl, ht⟩) (fun q h => absurd h List.not_mem_nil) (by decide +kernel)
theorem x_mCha (l : Launch) (i j : Nat) (hi : i < 12) (hj : j < (x_byt.getD i []).length) (adK adV : Nat → Nat) : Met l x_yCha (.code x_yCha prog_15_method_56_code 2 (some .char) :: m_G) (x_rm 3 64) (x_Pt [.ref (adK i), .int (Int32.ofNat j)] adK adV) (x_Qt (some (.int ((x_byt.getD i []).getD j 0)))) 0 0 (fun _ => False) := by
  obtain ⟨b1, b2, b3, b4⟩ := x_lens i hi
  refine Met.ofW (cc := prog_15_method_56_code) (maxL := 2) (ret := some .char) (by decide) rfl ?_
  intro p e s m args below meth c s₁ B hml hv
  obtain ⟨rfl, hT⟩ := hv
  have hT : x_Tx x_no adK adV s s.heap := hT
  have hts := atoms_spec (ws := Jvm.Cond.code x_yCha prog_15_method_56_code 2 (some .char) :: m_G) B.pre
  have htg : ∀ w ∈ m_G, w.before #[.ref (adK i), .int (Int32.ofNat j)] s = true := fun w hw => hts w (List.mem_cons_of_mem _ hw)
  have hown := findClass_of_methodNamed B.named
  have hl := lv_entry [.ref (adK i), .int (Int32.ofNat j)] (n := 2) (Nat.le_refl _)
  rw [lg_entry_eq]
  have hl1 := lv_at hl 0 rfl
  have hl2 := lv_at hl 1 rfl
  have hsz := hl.1
  have hS : va_S x_no s.heap s.heap [] := va_S.rf
  have hfix : CallFix p m c prog_15_method_56_code 2 s #[.ref (adK i), .int (Int32.ofNat j)] m_G "java/lang/String" := ⟨B.exec, B.bytes, hml, hown, htg⟩
  have hfv := htg _ (m_inG (i := 9200) (w := .fieldLink "java/lang/String" 9 "java/lang/String" "value" "[B") (by decide +kernel) rfl)
  have hlk := htg _ (m_inG (i := 3006) (w := .methodLink "java/lang/String" 492 x_yLat) (by decide +kernel) rfl)
  have hiv := htg _ (m_inG (i := 3007) (w := .instanceMethod x_yLat) (by decide +kernel) rfl)
  have hse := htg _ (m_inG (i := 3008) (w := .selects "java/lang/String" x_yLat x_yLat) (by decide +kernel) rfl)
  have hin := htg _ (m_inG (i := 1014) (w := .initialized "java/lang/String") (by decide +kernel) rfl)
  refine lv_aload_n B.exec B.bytes (k := 0) (i := 0) (by decide +kernel) rfl hl1 ?_
  refine x_cs (v := some (.int 1)) (rest := []) (va_runV (As := []) hfix (x_mLat l i hi adK adV) ⟨callB_of 0 htg (m_goodG x_wLat) rfl rfl rfl hin hlk ⟨by decide, by decide, by decide +kernel⟩ ⟨Nat.le_of_ble_eq_true rfl, Nat.le_of_ble_eq_true rfl⟩, hiv, hse⟩ ⟨x_blind, vk_recv hT.1 hi hS, fun U hU hW => ⟨rfl, by show x_Tx x_no adK adV U U.heap; rw [hU]; exact hT.moved hW.alike⟩⟩ rfl rfl hsz rfl (lv_room (Nat.le_of_ble_eq_true rfl)) (show decode prog_15_method_56_code 1 = .ok (.invokevirtual 492, 3) from by decide +kernel) ⟨Nat.le_refl _, Nat.le_refl _⟩) ?_
  refine lv_if_eq B.exec B.bytes (x := 1) (off := 12) (tgt := 16) (by decide +kernel) (by decide) (fun h => absurd h (by decide)) (fun _ => ?_)
  refine lv_aload_n B.exec B.bytes (k := 0) (i := 0) (by decide +kernel) rfl hl1 ?_
  refine vk_getf B.exec B.bytes (x_lat hT hi).2.1 hS hown hfv (fun _ h => h) (by decide +kernel) ?_
  refine lv_iload_n B.exec B.bytes (k := 1) (i := 1) (by decide +kernel) rfl hl2 ?_
  have hlk2 := htg _ (m_inG (i := 3010) (w := .methodLink "java/lang/String" 495 x_ySl1) (by decide +kernel) rfl)
  have hst2 := htg _ (m_inG (i := 3011) (w := .static x_ySl1) (by decide +kernel) rfl)
  have hin2 := htg _ (m_inG (i := 1015) (w := .initialized "java/lang/StringLatin1") (by decide +kernel) rfl)
  refine x_cs (v := some (.int ((x_byt.getD i []).getD j 0))) (rest := []) (va_runS hfix (x_mSl1 l i j hi hj adK adV) ⟨callB_of 2 htg (m_goodG x_wSl1) rfl rfl rfl hin2 hlk2 ⟨by decide, by decide, by decide +kernel⟩ ⟨Nat.le_of_ble_eq_true rfl, Nat.le_of_ble_eq_true rfl⟩, hst2⟩ ⟨x_blind, fun U hU hW => ⟨rfl, by show x_Tx x_no adK adV U U.heap; rw [hU]; exact hT.moved hW.alike⟩⟩ rfl rfl hsz rfl (lv_room (Nat.le_of_ble_eq_true rfl)) (show decode prog_15_method_56_code 12 = .ok (.invokestatic 495, 3) from by decide +kernel) ⟨Nat.le_refl _, Nat.le_refl _⟩) ?_
  have hmem := x_getmem hj
  exact W.zret B.exec B.bytes B.returns (b4 _ hmem).2 (fun t ht _ => ⟨rfl, ht⟩) (fun q h => absurd h List.not_mem_nil) (by decide +kernel)

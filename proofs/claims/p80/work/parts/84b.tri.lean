/-! INSTRUCTIONS AS NUMBERS, and what must stand in the tables for them -/
def m_cc (k : ClassFile.Cond) : Int := match k with
  | .eq => 0
  | .ne => 1
  | .lt => 2
  | .ge => 3
  | .gt => 4
  | .le => 5
def m_fin (a k : Nat) : Bool := match vwCl[a]? with
  | some q => (q.2.1 k).2.2.2
  | none => false
def m_fdc (a k : Nat) : String := match vwCl[a]? with
  | some q => (q.2.1 k).1
  | none => ""
def m_mn (a : Nat) : MethodName := match a with
  | 0 => Lib.Math.max.name
  | 1 => Lib.Math.min.name
  | 4 => Lib.MathLoose.max_long.x
  | _ => Lib.MathLoose.abs_long.x
def m_tri (y : MethodName) (n : Nat) (r : Option FieldType) (pc : Nat) (ins : Instr) (len : Nat) : Option m_I := match ins with
  | .iconst v => if len = 1 then some (0, 0, v, []) else none
  | .bipush v => if len = 2 then some (0, 0, (Int8.ofInt v).toInt32.toInt, []) else none
  | .sipush v => if len = 3 then some (0, 0, (Int16.ofInt v).toInt32.toInt, []) else none
  | .ldc i => match m_lkx y.cls i with
    | some (0, _, v, _) => if len = 2 then some (0, 0, v, []) else none
    | some (41, j, _, _) => if len = 2 ∧ 2 ≤ j then some (41, j, 0, []) else none
    | _ => none
  | .ldc_w i => match m_lkx y.cls i with
    | some (0, _, v, _) => if len = 3 then some (0, 0, v, []) else none
    | _ => none
  | .ldc2_w i => match m_lkx y.cls i with
    | some (1, _, v, _) => if len = 3 then some (1, 0, v, []) else none
    | _ => none
  | .lconst k => if len = 1 then some (1, 0, (k.val : Int), []) else none
  | .iload_n k => if len = 1 then some (2, k.val, 0, []) else none
  | .iload i => if len = 2 then some (2, i, 0, []) else none
  | .lload_n k => if len = 1 then some (2, k.val, 1, []) else none
  | .lload i => if len = 2 then some (2, i, 1, []) else none
  | .aload_n k => if len = 1 then some (2, k.val, 2, []) else none
  | .aload i => if len = 2 then some (2, i, 2, []) else none
  | .istore_n k => if len = 1 ∧ k.val < n then some (3, k.val, 0, []) else none
  | .istore i => if len = 2 ∧ i < n then some (3, i, 0, []) else none
  | .lstore_n k => if len = 1 ∧ k.val + 1 < n then some (3, k.val, 1, []) else none
  | .lstore i => if len = 2 ∧ i + 1 < n then some (3, i, 1, []) else none
  | .astore_n k => if len = 1 ∧ k.val < n then some (3, k.val, 2, []) else none
  | .astore i => if len = 2 ∧ i < n then some (3, i, 2, []) else none
  | .iinc i v => if len = 3 ∧ i < n then some (4, i, v, []) else none
  | .iadd => if len = 1 then some (5, 0, 0, []) else none
  | .isub => if len = 1 then some (5, 1, 0, []) else none
  | .imul => if len = 1 then some (5, 2, 0, []) else none
  | .iand => if len = 1 then some (5, 3, 0, []) else none
  | .ior => if len = 1 then some (5, 4, 0, []) else none
  | .ixor => if len = 1 then some (5, 5, 0, []) else none
  | .ishl => if len = 1 then some (5, 6, 0, []) else none
  | .ishr => if len = 1 then some (5, 7, 0, []) else none
  | .iushr => if len = 1 then some (5, 8, 0, []) else none
  | .idiv => if len = 1 then some (5, 9, 0, []) else none
  | .irem => if len = 1 then some (5, 10, 0, []) else none
  | .ladd => if len = 1 then some (6, 0, 0, []) else none
  | .lsub => if len = 1 then some (6, 1, 0, []) else none
  | .lmul => if len = 1 then some (6, 2, 0, []) else none
  | .land => if len = 1 then some (6, 3, 0, []) else none
  | .lor => if len = 1 then some (6, 4, 0, []) else none
  | .ldiv => if len = 1 then some (6, 5, 0, []) else none
  | .lrem => if len = 1 then some (6, 6, 0, []) else none
  | .lshl => if len = 1 then some (28, 0, 0, []) else none
  | .lshr => if len = 1 then some (28, 1, 0, []) else none
  | .ineg => if len = 1 then some (7, 0, 0, []) else none
  | .i2l => if len = 1 then some (7, 1, 0, []) else none
  | .l2i => if len = 1 then some (7, 2, 0, []) else none
  | .i2b => if len = 1 then some (7, 3, 0, []) else none
  | .i2s => if len = 1 then some (7, 4, 0, []) else none
  | .lneg => if len = 1 then some (7, 5, 0, []) else none
  | .lcmp => if len = 1 then some (8, 0, 0, []) else none
  | .pop => if len = 1 then some (9, 0, 0, []) else none
  | .pop2 => if len = 1 then some (9, 1, 0, []) else none
  | .dup => if len = 1 then some (9, 2, 0, []) else none
  | .dup2 => if len = 1 then some (9, 3, 0, []) else none
  | .iaload => if len = 1 then some (18, 0, 0, []) else none
  | .baload => if len = 1 then some (18, 1, 0, []) else none
  | .laload => if len = 1 then some (18, 2, 0, []) else none
  | .aaload => if len = 1 then some (18, 3, 0, []) else none
  | .iastore => if len = 1 then some (19, 0, 0, []) else none
  | .bastore => if len = 1 then some (19, 1, 0, []) else none
  | .lastore => if len = 1 then some (19, 2, 0, []) else none
  | .aastore => if len = 1 then some (19, 3, 0, []) else none
  | .arraylength => if len = 1 then some (20, 0, 0, []) else none
  | .goto off => if len = 3 ∧ 0 ≤ (pc : Int) + off then some (10, ((pc : Int) + off).toNat, 0, []) else none
  | .ifCond k off => if len = 3 ∧ 0 ≤ (pc : Int) + off then some (11, ((pc : Int) + off).toNat, m_cc k, []) else none
  | .if_icmp k off => if len = 3 ∧ 0 ≤ (pc : Int) + off then some (12, ((pc : Int) + off).toNat, m_cc k, []) else none
  | .tableswitch d lo hi offs => if 0 ≤ (pc : Int) + d ∧ hi = lo + offs.size - 1 ∧ offs.toList.all (fun o => decide (0 ≤ (pc : Int) + o)) = true then some (13, ((pc : Int) + d).toNat, lo, offs.toList.map (fun o => ((pc : Int) + o).toNat)) else none
  | .lookupswitch d ps => if 0 ≤ (pc : Int) + d ∧ (ps.toList.zip (ps.toList.drop 1)).all (fun (a, next) => a.1 < next.1) = true ∧ ps.toList.all (fun q => decide (0 ≤ q.1) && decide (0 ≤ (pc : Int) + q.2)) = true then some (14, ((pc : Int) + d).toNat, 0, ps.toList.flatMap (fun q => [q.1.toNat, ((pc : Int) + q.2).toNat])) else none
  | .getstatic i => match m_lkx y.cls i with
    | some (41, j, _, _) => if len = 3 ∧ j = 1 then some (41, j, 0, []) else none
    | _ => none
  | .getfield i => match m_lkx y.cls i with
    | some (15, a, k, _) => if len = 3 then some (15, a, k, []) else none
    | _ => none
  | .putfield i => match m_lkx y.cls i with
    | some (15, a, k, _) => if len = 3 ∧ (m_fin a k.toNat = false ∨ (y.name = "<init>" ∧ m_fdc a k.toNat = y.cls)) then some (16, a, k, []) else none
    | _ => none
  | .new i => match m_lkx y.cls i with
    | some (21, a, _, _) => if len = 3 then some (21, a, 0, []) else none
    | _ => none
  | .newarray t => match t with
    | .int => if len = 2 then some (22, 0, 0, []) else none
    | .byte => if len = 2 then some (22, 1, 0, []) else none
    | .boolean => if len = 2 then some (22, 2, 0, []) else none
    | .long => if len = 2 then some (22, 3, 0, []) else none
    | _ => none
  | .anewarray i => match m_lkx y.cls i with
    | some (21, a, _, _) => if len = 3 ∧ a = 1 then some (22, 4, 0, []) else none
    | _ => none
  | .invokevirtual i => match m_lkx y.cls i with
    | some (24, a, k, q) => if len = 3 ∧ (k = 0 ∨ k = 3) then some (24, a, k, q) else none
    | some (20, _, _, _) => if len = 3 then some (20, 1, 0, []) else none
    | some (43, _, _, _) => if len = 3 then some (43, 0, 0, []) else none
    | _ => none
  | .invokespecial i => match m_lkx y.cls i with
    | some (24, a, k, q) => if len = 3 ∧ (k = 1 ∨ k = 4) then some (24, a, k, q) else none
    | some (25, _, _, _) => if len = 3 then some (25, 0, 0, []) else none
    | _ => none
  | .invokestatic i => match m_lkx y.cls i with
    | some (24, a, k, q) => if len = 3 ∧ (k = 2 ∨ k = 5) then some (24, a, k, q) else none
    | some (26, _, _, _) => if len = 3 then some (26, 0, 0, []) else none
    | some (40, a, _, _) => if len = 3 then some (40, a, 0, []) else none
    | _ => none
  | .ireturn => match r with
    | some .int => if len = 1 then some (27, 0, 0, []) else none
    | some .boolean => if len = 1 then some (27, 3, 0, []) else none
    | _ => none
  | .lreturn => match r with
    | some .long => if len = 1 then some (27, 1, 0, []) else none
    | _ => none
  | .return_ => match r with
    | none => if len = 1 then some (27, 2, 0, []) else none
    | _ => none
  | _ => none
def m_lkOk (o : String) (i : Nat) (I : m_I) : Prop := match I.1 with
  | 0 => Jvm.Cond.constant o i (Int32.ofInt I.2.2.1) ∈ m_G
  | 1 => Jvm.Cond.constantLong o i (Int64.ofInt I.2.2.1) ∈ m_G
  | 15 => ∃ q : vw_C, vwCl[I.2.1]? = some q ∧ I.2.2.1.toNat < q.2.2 ∧ Jvm.Cond.fieldLink o i (q.2.1 I.2.2.1.toNat).1 (q.2.1 I.2.2.1.toNat).2.1 (q.2.1 I.2.2.1.toNat).2.2.1 ∈ m_G
  | 21 => ∃ q : vw_C, vwCl[I.2.1]? = some q ∧ Jvm.Cond.classLink o i q.1 ∈ m_G
  | 24 => ∃ (y : MethodName) (b : ByteArray) (n : Nat) (r : Option FieldType) (np cy : Nat), m_cw I.2.1 = some (y, b, n, r) ∧ I.2.2.2 = [np, n, cy] ∧ n ≤ 100 ∧ y.cls ≠ "java/lang/invoke/MethodHandle" ∧ y.cls ≠ "java/lang/invoke/VarHandle" ∧ (parseMethodDescriptor y.desc).map (fun d => d.parameters.length) = some np ∧ plainName y.cls = true ∧ Jvm.Cond.initialized y.cls ∈ m_G ∧
      ((I.2.2.1 = 0 ∨ I.2.2.1 = 1 ∨ I.2.2.1 = 2) → Jvm.Cond.methodLink o i y ∈ m_G) ∧ ((I.2.2.1 = 3 ∨ I.2.2.1 = 4 ∨ I.2.2.1 = 5) → Jvm.Cond.methodLinkNest o i y "MotherBench" ∈ m_nw) ∧
      ((I.2.2.1 = 0 ∨ I.2.2.1 = 3) → Jvm.Cond.instanceMethod y ∈ m_G ∧ Jvm.Cond.selects y.cls y y ∈ m_G ∧ ∃ q : vw_C, vwCl[cy]? = some q ∧ q.1 = y.cls) ∧ ((I.2.2.1 = 1 ∨ I.2.2.1 = 4) → y.name = "<init>" ∧ Jvm.Cond.instanceMethod y ∈ m_G ∧ r = none) ∧ ((I.2.2.1 = 2 ∨ I.2.2.1 = 5) → Jvm.Cond.static y ∈ m_G)
  | 25 => Jvm.Cond.methodLink o i objectInit ∈ m_G
  | 26 => Jvm.Cond.methodLink o i arraycopyName ∈ m_G
  | 40 => Jvm.Cond.methodLink o i (m_mn I.2.1) ∈ m_G
  | 41 => (I.2.1 = 1 ∧ Jvm.Cond.fieldLink o i "MotherBench$Trial" "FACTORIALS" "[I" ∈ m_G) ∨ ∃ (n : Nat) (tx : String), I.2.1 = n + 2 ∧ o = "MotherBench$Reader" ∧ x_sx[n]? = some (i, tx)
  | 43 => Jvm.Cond.methodLink o i x_yCha ∈ m_G
  | 20 => Jvm.Cond.methodLink o i x_yLen ∈ m_G
  | _ => True
def m_lkAll : Prop := ∀ (o : String) (i : Nat) (I : m_I), m_lkx o i = some I → m_lkOk o i I
def m_clsOk : Prop := ∀ (a : Nat) (C : String) (T : u_T) (N : Nat), vwCl[a]? = some (C, T, N) → (∀ w ∈ u_ws C T N, w ∈ m_G) ∧ (∀ k, k < N → parseFieldDescriptor (T k).2.2.1 = some (m_tyf a k)) ∧ (∀ a, a < N → ∀ b, b < N → a ≠ b → (T a).2.1 ≠ (T b).2.1) ∧ N = m_nf a ∧ Jvm.Cond.instantiable C N ∈ m_G ∧ Jvm.Cond.initialized C ∈ m_G
def m_glob : Prop := (∀ t, t < 4 → Jvm.Cond.arrayClass (m_ty t) ∈ m_G) ∧ Jvm.Cond.instanceMethod objectInit ∈ m_G ∧ Jvm.Cond.code objectInit ⟨#[0xb1]⟩ 1 none ∈ m_G ∧ Jvm.Cond.native arraycopyName ∈ m_G ∧ Jvm.Cond.static arraycopyName ∈ m_G ∧ Jvm.Cond.initialized "java/lang/System" ∈ m_G
theorem m_if {α : Type} {P : Prop} {d : Decidable P} {a b : α} (h : (if P then some a else none) = some b) : P ∧ a = b := by
  by_cases hp : P
  · rw [if_pos hp] at h; exact ⟨hp, Option.some.inj h⟩
  · rw [if_neg hp] at h; cases h

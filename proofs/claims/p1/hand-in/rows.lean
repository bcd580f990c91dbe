section
-- ===== PART A: goes FIRST, ahead of the names: the tables' words, and 'selects' of the private methods out of them =====
/-- a private method of a class that the tables say can be made, by its rows of tables_1 -/
def lw_okq (q : MethodName × Nat) : Prop := (q.1.cls ≠ "java/lang/invoke/MethodHandle" ∧ q.1.cls ≠ "java/lang/invoke/VarHandle") ∧ Cond.instantiable q.1.cls q.2 ∈ tables_1 ∧ Cond.privateMethod q.1 ∈ tables_1 ∧ Cond.instanceMethod q.1 ∈ tables_1
theorem lw_p0 : lw_okq (⟨"MotherBench$Reader", "step", "()V"⟩, 9) := ⟨⟨by decide +kernel, by decide +kernel⟩, List.mem_of_getElem? (i := 29) (by decide +kernel), List.mem_of_getElem? (i := 429) (by decide +kernel), List.mem_of_getElem? (i := 430) (by decide +kernel)⟩
theorem lw_p1 : lw_okq (⟨"MotherBench$Reader", "isBlank", "(B)Z"⟩, 9) := ⟨⟨by decide +kernel, by decide +kernel⟩, List.mem_of_getElem? (i := 29) (by decide +kernel), List.mem_of_getElem? (i := 433) (by decide +kernel), List.mem_of_getElem? (i := 434) (by decide +kernel)⟩
theorem lw_p2 : lw_okq (⟨"MotherBench$Reader", "isLetter", "(B)Z"⟩, 9) := ⟨⟨by decide +kernel, by decide +kernel⟩, List.mem_of_getElem? (i := 29) (by decide +kernel), List.mem_of_getElem? (i := 437) (by decide +kernel), List.mem_of_getElem? (i := 438) (by decide +kernel)⟩
theorem lw_p3 : lw_okq (⟨"MotherBench$Reader", "stepWord", "()V"⟩, 9) := ⟨⟨by decide +kernel, by decide +kernel⟩, List.mem_of_getElem? (i := 29) (by decide +kernel), List.mem_of_getElem? (i := 441) (by decide +kernel), List.mem_of_getElem? (i := 442) (by decide +kernel)⟩
theorem lw_p4 : lw_okq (⟨"MotherBench$Reader", "isDigit", "(B)Z"⟩, 9) := ⟨⟨by decide +kernel, by decide +kernel⟩, List.mem_of_getElem? (i := 29) (by decide +kernel), List.mem_of_getElem? (i := 445) (by decide +kernel), List.mem_of_getElem? (i := 446) (by decide +kernel)⟩
theorem lw_p5 : lw_okq (⟨"MotherBench$Reader", "stepNumber", "()V"⟩, 9) := ⟨⟨by decide +kernel, by decide +kernel⟩, List.mem_of_getElem? (i := 29) (by decide +kernel), List.mem_of_getElem? (i := 449) (by decide +kernel), List.mem_of_getElem? (i := 450) (by decide +kernel)⟩
theorem lw_p6 : lw_okq (⟨"MotherBench$Reader", "readLine", "()V"⟩, 9) := ⟨⟨by decide +kernel, by decide +kernel⟩, List.mem_of_getElem? (i := 29) (by decide +kernel), List.mem_of_getElem? (i := 456) (by decide +kernel), List.mem_of_getElem? (i := 457) (by decide +kernel)⟩
theorem lw_p7 : lw_okq (⟨"MotherBench$Reader", "readCircuit", "()V"⟩, 9) := ⟨⟨by decide +kernel, by decide +kernel⟩, List.mem_of_getElem? (i := 29) (by decide +kernel), List.mem_of_getElem? (i := 460) (by decide +kernel), List.mem_of_getElem? (i := 461) (by decide +kernel)⟩
theorem lw_p8 : lw_okq (⟨"MotherBench$Reader", "takeWord", "(Ljava/lang/String;)V"⟩, 9) := ⟨⟨by decide +kernel, by decide +kernel⟩, List.mem_of_getElem? (i := 29) (by decide +kernel), List.mem_of_getElem? (i := 465) (by decide +kernel), List.mem_of_getElem? (i := 466) (by decide +kernel)⟩
theorem lw_p9 : lw_okq (⟨"MotherBench$Reader", "isWord", "(Ljava/lang/String;)Z"⟩, 9) := ⟨⟨by decide +kernel, by decide +kernel⟩, List.mem_of_getElem? (i := 29) (by decide +kernel), List.mem_of_getElem? (i := 469) (by decide +kernel), List.mem_of_getElem? (i := 470) (by decide +kernel)⟩
theorem lw_p10 : lw_okq (⟨"MotherBench$Reader", "accuse", "(II)V"⟩, 9) := ⟨⟨by decide +kernel, by decide +kernel⟩, List.mem_of_getElem? (i := 29) (by decide +kernel), List.mem_of_getElem? (i := 521) (by decide +kernel), List.mem_of_getElem? (i := 522) (by decide +kernel)⟩
theorem lw_p11 : lw_okq (⟨"MotherBench$Reader", "takeNumber", "(II)I"⟩, 9) := ⟨⟨by decide +kernel, by decide +kernel⟩, List.mem_of_getElem? (i := 29) (by decide +kernel), List.mem_of_getElem? (i := 526) (by decide +kernel), List.mem_of_getElem? (i := 527) (by decide +kernel)⟩
theorem lw_p12 : lw_okq (⟨"MotherBench$Reader", "readMother", "()V"⟩, 9) := ⟨⟨by decide +kernel, by decide +kernel⟩, List.mem_of_getElem? (i := 29) (by decide +kernel), List.mem_of_getElem? (i := 533) (by decide +kernel), List.mem_of_getElem? (i := 534) (by decide +kernel)⟩
theorem lw_p13 : lw_okq (⟨"MotherBench$Reader", "readKin", "()V"⟩, 9) := ⟨⟨by decide +kernel, by decide +kernel⟩, List.mem_of_getElem? (i := 29) (by decide +kernel), List.mem_of_getElem? (i := 540) (by decide +kernel), List.mem_of_getElem? (i := 541) (by decide +kernel)⟩
theorem lw_p14 : lw_okq (⟨"MotherBench$Reader", "readCause", "()V"⟩, 9) := ⟨⟨by decide +kernel, by decide +kernel⟩, List.mem_of_getElem? (i := 29) (by decide +kernel), List.mem_of_getElem? (i := 545) (by decide +kernel), List.mem_of_getElem? (i := 546) (by decide +kernel)⟩
theorem lw_p15 : lw_okq (⟨"MotherBench", "refresh", "()V"⟩, 10) := ⟨⟨by decide +kernel, by decide +kernel⟩, List.mem_of_getElem? (i := 21) (by decide +kernel), List.mem_of_getElem? (i := 559) (by decide +kernel), List.mem_of_getElem? (i := 560) (by decide +kernel)⟩
def lw_privs_1 : List (MethodName × Nat) := [(⟨"MotherBench$Reader", "step", "()V"⟩, 9), (⟨"MotherBench$Reader", "isBlank", "(B)Z"⟩, 9), (⟨"MotherBench$Reader", "isLetter", "(B)Z"⟩, 9), (⟨"MotherBench$Reader", "stepWord", "()V"⟩, 9), (⟨"MotherBench$Reader", "isDigit", "(B)Z"⟩, 9), (⟨"MotherBench$Reader", "stepNumber", "()V"⟩, 9), (⟨"MotherBench$Reader", "readLine", "()V"⟩, 9), (⟨"MotherBench$Reader", "readCircuit", "()V"⟩, 9), (⟨"MotherBench$Reader", "takeWord", "(Ljava/lang/String;)V"⟩, 9), (⟨"MotherBench$Reader", "isWord", "(Ljava/lang/String;)Z"⟩, 9), (⟨"MotherBench$Reader", "accuse", "(II)V"⟩, 9), (⟨"MotherBench$Reader", "takeNumber", "(II)I"⟩, 9), (⟨"MotherBench$Reader", "readMother", "()V"⟩, 9), (⟨"MotherBench$Reader", "readKin", "()V"⟩, 9), (⟨"MotherBench$Reader", "readCause", "()V"⟩, 9), (⟨"MotherBench", "refresh", "()V"⟩, 10)]
theorem lw_r1 : ∀ q ∈ lw_privs_1, lw_okq q := List.forall_mem_cons.mpr ⟨lw_p0, List.forall_mem_cons.mpr ⟨lw_p1, List.forall_mem_cons.mpr ⟨lw_p2, List.forall_mem_cons.mpr ⟨lw_p3, List.forall_mem_cons.mpr ⟨lw_p4, List.forall_mem_cons.mpr ⟨lw_p5, List.forall_mem_cons.mpr ⟨lw_p6, List.forall_mem_cons.mpr ⟨lw_p7, List.forall_mem_cons.mpr ⟨lw_p8, List.forall_mem_cons.mpr ⟨lw_p9, List.forall_mem_cons.mpr ⟨lw_p10, List.forall_mem_cons.mpr ⟨lw_p11, List.forall_mem_cons.mpr ⟨lw_p12, List.forall_mem_cons.mpr ⟨lw_p13, List.forall_mem_cons.mpr ⟨lw_p14, List.forall_mem_cons.mpr ⟨lw_p15, fun _ h => absurd h List.not_mem_nil⟩⟩⟩⟩⟩⟩⟩⟩⟩⟩⟩⟩⟩⟩⟩⟩
theorem lw_p16 : lw_okq (⟨"MotherBench$Court", "addEvent", "(III)V"⟩, 19) := ⟨⟨by decide +kernel, by decide +kernel⟩, List.mem_of_getElem? (i := 183) (by decide +kernel), List.mem_of_getElem? (i := 567) (by decide +kernel), List.mem_of_getElem? (i := 568) (by decide +kernel)⟩
theorem lw_p17 : lw_okq (⟨"MotherBench$Court", "choose", "(I)I"⟩, 19) := ⟨⟨by decide +kernel, by decide +kernel⟩, List.mem_of_getElem? (i := 183) (by decide +kernel), List.mem_of_getElem? (i := 585) (by decide +kernel), List.mem_of_getElem? (i := 586) (by decide +kernel)⟩
theorem lw_p18 : lw_okq (⟨"MotherBench$Court", "leastBusy", "(I)I"⟩, 19) := ⟨⟨by decide +kernel, by decide +kernel⟩, List.mem_of_getElem? (i := 183) (by decide +kernel), List.mem_of_getElem? (i := 589) (by decide +kernel), List.mem_of_getElem? (i := 590) (by decide +kernel)⟩
theorem lw_p19 : lw_okq (⟨"MotherBench$Court", "hear", "(III)V"⟩, 19) := ⟨⟨by decide +kernel, by decide +kernel⟩, List.mem_of_getElem? (i := 183) (by decide +kernel), List.mem_of_getElem? (i := 593) (by decide +kernel), List.mem_of_getElem? (i := 594) (by decide +kernel)⟩
theorem lw_p20 : lw_okq (⟨"MotherBench$Court", "changeByLaw", "(III)I"⟩, 19) := ⟨⟨by decide +kernel, by decide +kernel⟩, List.mem_of_getElem? (i := 183) (by decide +kernel), List.mem_of_getElem? (i := 609) (by decide +kernel), List.mem_of_getElem? (i := 610) (by decide +kernel)⟩
theorem lw_p21 : lw_okq (⟨"MotherBench", "isMother", "(I)Z"⟩, 10) := ⟨⟨by decide +kernel, by decide +kernel⟩, List.mem_of_getElem? (i := 21) (by decide +kernel), List.mem_of_getElem? (i := 626) (by decide +kernel), List.mem_of_getElem? (i := 627) (by decide +kernel)⟩
theorem lw_p22 : lw_okq (⟨"MotherBench", "isCause", "(I)Z"⟩, 10) := ⟨⟨by decide +kernel, by decide +kernel⟩, List.mem_of_getElem? (i := 21) (by decide +kernel), List.mem_of_getElem? (i := 638) (by decide +kernel), List.mem_of_getElem? (i := 639) (by decide +kernel)⟩
theorem lw_p23 : lw_okq (⟨"MotherBench$Court", "findingOf", "(II)I"⟩, 19) := ⟨⟨by decide +kernel, by decide +kernel⟩, List.mem_of_getElem? (i := 183) (by decide +kernel), List.mem_of_getElem? (i := 686) (by decide +kernel), List.mem_of_getElem? (i := 687) (by decide +kernel)⟩
theorem lw_p24 : lw_okq (⟨"MotherBench", "isDay", "(I)Z"⟩, 10) := ⟨⟨by decide +kernel, by decide +kernel⟩, List.mem_of_getElem? (i := 21) (by decide +kernel), List.mem_of_getElem? (i := 718) (by decide +kernel), List.mem_of_getElem? (i := 719) (by decide +kernel)⟩
theorem lw_p25 : lw_okq (⟨"MotherBench", "isHearingDay", "(I)Z"⟩, 10) := ⟨⟨by decide +kernel, by decide +kernel⟩, List.mem_of_getElem? (i := 21) (by decide +kernel), List.mem_of_getElem? (i := 832) (by decide +kernel), List.mem_of_getElem? (i := 833) (by decide +kernel)⟩
theorem lw_p26 : lw_okq (⟨"MotherBench$Panels", "isPanel", "(I)Z"⟩, 2) := ⟨⟨by decide +kernel, by decide +kernel⟩, List.mem_of_getElem? (i := 249) (by decide +kernel), List.mem_of_getElem? (i := 890) (by decide +kernel), List.mem_of_getElem? (i := 891) (by decide +kernel)⟩
theorem lw_p27 : lw_okq (⟨"MotherBench$Panels", "letOff", "(II)I"⟩, 2) := ⟨⟨by decide +kernel, by decide +kernel⟩, List.mem_of_getElem? (i := 249) (by decide +kernel), List.mem_of_getElem? (i := 943) (by decide +kernel), List.mem_of_getElem? (i := 944) (by decide +kernel)⟩
theorem lw_p28 : lw_okq (⟨"MotherBench", "gatherSeen", "(II)I"⟩, 10) := ⟨⟨by decide +kernel, by decide +kernel⟩, List.mem_of_getElem? (i := 21) (by decide +kernel), List.mem_of_getElem? (i := 991) (by decide +kernel), List.mem_of_getElem? (i := 992) (by decide +kernel)⟩
theorem lw_p29 : lw_okq (⟨"MotherBench", "rowTrouble", "(I)I"⟩, 10) := ⟨⟨by decide +kernel, by decide +kernel⟩, List.mem_of_getElem? (i := 21) (by decide +kernel), List.mem_of_getElem? (i := 999) (by decide +kernel), List.mem_of_getElem? (i := 1000) (by decide +kernel)⟩
theorem lw_p30 : lw_okq (⟨"MotherBench$Seen", "isAsSeen", "(I)Z"⟩, 5) := ⟨⟨by decide +kernel, by decide +kernel⟩, List.mem_of_getElem? (i := 327) (by decide +kernel), List.mem_of_getElem? (i := 1028) (by decide +kernel), List.mem_of_getElem? (i := 1029) (by decide +kernel)⟩
theorem lw_p31 : lw_okq (⟨"MotherBench$Fraction", "greatestDivisor", "(JJ)J"⟩, 2) := ⟨⟨by decide +kernel, by decide +kernel⟩, List.mem_of_getElem? (i := 272) (by decide +kernel), List.mem_of_getElem? (i := 1121) (by decide +kernel), List.mem_of_getElem? (i := 1122) (by decide +kernel)⟩
def lw_privs_2 : List (MethodName × Nat) := [(⟨"MotherBench$Court", "addEvent", "(III)V"⟩, 19), (⟨"MotherBench$Court", "choose", "(I)I"⟩, 19), (⟨"MotherBench$Court", "leastBusy", "(I)I"⟩, 19), (⟨"MotherBench$Court", "hear", "(III)V"⟩, 19), (⟨"MotherBench$Court", "changeByLaw", "(III)I"⟩, 19), (⟨"MotherBench", "isMother", "(I)Z"⟩, 10), (⟨"MotherBench", "isCause", "(I)Z"⟩, 10), (⟨"MotherBench$Court", "findingOf", "(II)I"⟩, 19), (⟨"MotherBench", "isDay", "(I)Z"⟩, 10), (⟨"MotherBench", "isHearingDay", "(I)Z"⟩, 10), (⟨"MotherBench$Panels", "isPanel", "(I)Z"⟩, 2), (⟨"MotherBench$Panels", "letOff", "(II)I"⟩, 2), (⟨"MotherBench", "gatherSeen", "(II)I"⟩, 10), (⟨"MotherBench", "rowTrouble", "(I)I"⟩, 10), (⟨"MotherBench$Seen", "isAsSeen", "(I)Z"⟩, 5), (⟨"MotherBench$Fraction", "greatestDivisor", "(JJ)J"⟩, 2)]
theorem lw_r2 : ∀ q ∈ lw_privs_2, lw_okq q := List.forall_mem_cons.mpr ⟨lw_p16, List.forall_mem_cons.mpr ⟨lw_p17, List.forall_mem_cons.mpr ⟨lw_p18, List.forall_mem_cons.mpr ⟨lw_p19, List.forall_mem_cons.mpr ⟨lw_p20, List.forall_mem_cons.mpr ⟨lw_p21, List.forall_mem_cons.mpr ⟨lw_p22, List.forall_mem_cons.mpr ⟨lw_p23, List.forall_mem_cons.mpr ⟨lw_p24, List.forall_mem_cons.mpr ⟨lw_p25, List.forall_mem_cons.mpr ⟨lw_p26, List.forall_mem_cons.mpr ⟨lw_p27, List.forall_mem_cons.mpr ⟨lw_p28, List.forall_mem_cons.mpr ⟨lw_p29, List.forall_mem_cons.mpr ⟨lw_p30, List.forall_mem_cons.mpr ⟨lw_p31, fun _ h => absurd h List.not_mem_nil⟩⟩⟩⟩⟩⟩⟩⟩⟩⟩⟩⟩⟩⟩⟩⟩
theorem lw_p32 : lw_okq (⟨"MotherBench", "areTwoCauses", "(II)Z"⟩, 10) := ⟨⟨by decide +kernel, by decide +kernel⟩, List.mem_of_getElem? (i := 21) (by decide +kernel), List.mem_of_getElem? (i := 1136) (by decide +kernel), List.mem_of_getElem? (i := 1137) (by decide +kernel)⟩
theorem lw_p33 : lw_okq (⟨"MotherBench", "isChoice", "(I)Z"⟩, 10) := ⟨⟨by decide +kernel, by decide +kernel⟩, List.mem_of_getElem? (i := 21) (by decide +kernel), List.mem_of_getElem? (i := 1156) (by decide +kernel), List.mem_of_getElem? (i := 1157) (by decide +kernel)⟩
theorem lw_p34 : lw_okq (⟨"MotherBench$Chances", "weightOf", "(I)J"⟩, 2) := ⟨⟨by decide +kernel, by decide +kernel⟩, List.mem_of_getElem? (i := 350) (by decide +kernel), List.mem_of_getElem? (i := 1171) (by decide +kernel), List.mem_of_getElem? (i := 1172) (by decide +kernel)⟩
theorem lw_p35 : lw_okq (⟨"MotherBench$Chances", "weightOfAll", "()J"⟩, 2) := ⟨⟨by decide +kernel, by decide +kernel⟩, List.mem_of_getElem? (i := 350) (by decide +kernel), List.mem_of_getElem? (i := 1177) (by decide +kernel), List.mem_of_getElem? (i := 1178) (by decide +kernel)⟩
theorem lw_p36 : lw_okq (⟨"MotherBench$Rows", "cut", "(JI)J"⟩, 3) := ⟨⟨by decide +kernel, by decide +kernel⟩, List.mem_of_getElem? (i := 310) (by decide +kernel), List.mem_of_getElem? (i := 1289) (by decide +kernel), List.mem_of_getElem? (i := 1290) (by decide +kernel)⟩
theorem lw_p37 : lw_okq (⟨"MotherBench$Rows", "holds", "(III)Z"⟩, 3) := ⟨⟨by decide +kernel, by decide +kernel⟩, List.mem_of_getElem? (i := 310) (by decide +kernel), List.mem_of_getElem? (i := 1305) (by decide +kernel), List.mem_of_getElem? (i := 1306) (by decide +kernel)⟩
theorem lw_p38 : lw_okq (⟨"MotherBenchModel", "four", "(I)V"⟩, 43) := ⟨⟨by decide +kernel, by decide +kernel⟩, List.mem_of_getElem? (i := 1310) (by decide +kernel), List.mem_of_getElem? (i := 1473) (by decide +kernel), List.mem_of_getElem? (i := 1474) (by decide +kernel)⟩
theorem lw_p39 : lw_okq (⟨"MotherBenchModel", "clears", "()V"⟩, 43) := ⟨⟨by decide +kernel, by decide +kernel⟩, List.mem_of_getElem? (i := 1310) (by decide +kernel), List.mem_of_getElem? (i := 1489) (by decide +kernel), List.mem_of_getElem? (i := 1490) (by decide +kernel)⟩
theorem lw_p40 : lw_okq (⟨"MotherBenchModel", "tells", "(II)V"⟩, 43) := ⟨⟨by decide +kernel, by decide +kernel⟩, List.mem_of_getElem? (i := 1310) (by decide +kernel), List.mem_of_getElem? (i := 1493) (by decide +kernel), List.mem_of_getElem? (i := 1494) (by decide +kernel)⟩
theorem lw_p41 : lw_okq (⟨"MotherBenchModel", "begins", "()V"⟩, 43) := ⟨⟨by decide +kernel, by decide +kernel⟩, List.mem_of_getElem? (i := 1310) (by decide +kernel), List.mem_of_getElem? (i := 1497) (by decide +kernel), List.mem_of_getElem? (i := 1498) (by decide +kernel)⟩
theorem lw_p42 : lw_okq (⟨"MotherBenchModel", "next", "()V"⟩, 43) := ⟨⟨by decide +kernel, by decide +kernel⟩, List.mem_of_getElem? (i := 1310) (by decide +kernel), List.mem_of_getElem? (i := 1501) (by decide +kernel), List.mem_of_getElem? (i := 1502) (by decide +kernel)⟩
theorem lw_p43 : lw_okq (⟨"MotherBenchModel", "isByte", "(III)Z"⟩, 43) := ⟨⟨by decide +kernel, by decide +kernel⟩, List.mem_of_getElem? (i := 1310) (by decide +kernel), List.mem_of_getElem? (i := 1505) (by decide +kernel), List.mem_of_getElem? (i := 1506) (by decide +kernel)⟩
theorem lw_p44 : lw_okq (⟨"MotherBenchModel", "isGood", "()Z"⟩, 43) := ⟨⟨by decide +kernel, by decide +kernel⟩, List.mem_of_getElem? (i := 1310) (by decide +kernel), List.mem_of_getElem? (i := 1514) (by decide +kernel), List.mem_of_getElem? (i := 1515) (by decide +kernel)⟩
theorem lw_p45 : lw_okq (⟨"MotherBenchModel", "asks", "(J)V"⟩, 43) := ⟨⟨by decide +kernel, by decide +kernel⟩, List.mem_of_getElem? (i := 1310) (by decide +kernel), List.mem_of_getElem? (i := 1519) (by decide +kernel), List.mem_of_getElem? (i := 1520) (by decide +kernel)⟩
theorem lw_p46 : lw_okq (⟨"MotherBenchModel", "takesWord", "(J)Z"⟩, 43) := ⟨⟨by decide +kernel, by decide +kernel⟩, List.mem_of_getElem? (i := 1310) (by decide +kernel), List.mem_of_getElem? (i := 1523) (by decide +kernel), List.mem_of_getElem? (i := 1524) (by decide +kernel)⟩
theorem lw_p47 : lw_okq (⟨"MotherBenchModel", "is", "(J)Z"⟩, 43) := ⟨⟨by decide +kernel, by decide +kernel⟩, List.mem_of_getElem? (i := 1310) (by decide +kernel), List.mem_of_getElem? (i := 1527) (by decide +kernel), List.mem_of_getElem? (i := 1528) (by decide +kernel)⟩
def lw_privs_3 : List (MethodName × Nat) := [(⟨"MotherBench", "areTwoCauses", "(II)Z"⟩, 10), (⟨"MotherBench", "isChoice", "(I)Z"⟩, 10), (⟨"MotherBench$Chances", "weightOf", "(I)J"⟩, 2), (⟨"MotherBench$Chances", "weightOfAll", "()J"⟩, 2), (⟨"MotherBench$Rows", "cut", "(JI)J"⟩, 3), (⟨"MotherBench$Rows", "holds", "(III)Z"⟩, 3), (⟨"MotherBenchModel", "four", "(I)V"⟩, 43), (⟨"MotherBenchModel", "clears", "()V"⟩, 43), (⟨"MotherBenchModel", "tells", "(II)V"⟩, 43), (⟨"MotherBenchModel", "begins", "()V"⟩, 43), (⟨"MotherBenchModel", "next", "()V"⟩, 43), (⟨"MotherBenchModel", "isByte", "(III)Z"⟩, 43), (⟨"MotherBenchModel", "isGood", "()Z"⟩, 43), (⟨"MotherBenchModel", "asks", "(J)V"⟩, 43), (⟨"MotherBenchModel", "takesWord", "(J)Z"⟩, 43), (⟨"MotherBenchModel", "is", "(J)Z"⟩, 43)]
theorem lw_r3 : ∀ q ∈ lw_privs_3, lw_okq q := List.forall_mem_cons.mpr ⟨lw_p32, List.forall_mem_cons.mpr ⟨lw_p33, List.forall_mem_cons.mpr ⟨lw_p34, List.forall_mem_cons.mpr ⟨lw_p35, List.forall_mem_cons.mpr ⟨lw_p36, List.forall_mem_cons.mpr ⟨lw_p37, List.forall_mem_cons.mpr ⟨lw_p38, List.forall_mem_cons.mpr ⟨lw_p39, List.forall_mem_cons.mpr ⟨lw_p40, List.forall_mem_cons.mpr ⟨lw_p41, List.forall_mem_cons.mpr ⟨lw_p42, List.forall_mem_cons.mpr ⟨lw_p43, List.forall_mem_cons.mpr ⟨lw_p44, List.forall_mem_cons.mpr ⟨lw_p45, List.forall_mem_cons.mpr ⟨lw_p46, List.forall_mem_cons.mpr ⟨lw_p47, fun _ h => absurd h List.not_mem_nil⟩⟩⟩⟩⟩⟩⟩⟩⟩⟩⟩⟩⟩⟩⟩⟩
theorem lw_p48 : lw_okq (⟨"MotherBenchModel", "fails", "(I)V"⟩, 43) := ⟨⟨by decide +kernel, by decide +kernel⟩, List.mem_of_getElem? (i := 1310) (by decide +kernel), List.mem_of_getElem? (i := 1531) (by decide +kernel), List.mem_of_getElem? (i := 1532) (by decide +kernel)⟩
theorem lw_p49 : lw_okq (⟨"MotherBenchModel", "number", "(JII)I"⟩, 43) := ⟨⟨by decide +kernel, by decide +kernel⟩, List.mem_of_getElem? (i := 1310) (by decide +kernel), List.mem_of_getElem? (i := 1536) (by decide +kernel), List.mem_of_getElem? (i := 1537) (by decide +kernel)⟩
theorem lw_p50 : lw_okq (⟨"MotherBenchModel", "number", "(II)I"⟩, 43) := ⟨⟨by decide +kernel, by decide +kernel⟩, List.mem_of_getElem? (i := 1310) (by decide +kernel), List.mem_of_getElem? (i := 1540) (by decide +kernel), List.mem_of_getElem? (i := 1541) (by decide +kernel)⟩
theorem lw_p51 : lw_okq (⟨"MotherBenchModel", "lineHere", "()V"⟩, 43) := ⟨⟨by decide +kernel, by decide +kernel⟩, List.mem_of_getElem? (i := 1310) (by decide +kernel), List.mem_of_getElem? (i := 1546) (by decide +kernel), List.mem_of_getElem? (i := 1547) (by decide +kernel)⟩
theorem lw_p52 : lw_okq (⟨"MotherBenchModel", "isRoom", "(ZII)Z"⟩, 43) := ⟨⟨by decide +kernel, by decide +kernel⟩, List.mem_of_getElem? (i := 1310) (by decide +kernel), List.mem_of_getElem? (i := 1551) (by decide +kernel), List.mem_of_getElem? (i := 1552) (by decide +kernel)⟩
theorem lw_p53 : lw_okq (⟨"MotherBenchModel", "hasRead", "(I)I"⟩, 43) := ⟨⟨by decide +kernel, by decide +kernel⟩, List.mem_of_getElem? (i := 1310) (by decide +kernel), List.mem_of_getElem? (i := 1555) (by decide +kernel), List.mem_of_getElem? (i := 1556) (by decide +kernel)⟩
theorem lw_p54 : lw_okq (⟨"MotherBenchModel", "motherLine", "()V"⟩, 43) := ⟨⟨by decide +kernel, by decide +kernel⟩, List.mem_of_getElem? (i := 1310) (by decide +kernel), List.mem_of_getElem? (i := 1559) (by decide +kernel), List.mem_of_getElem? (i := 1560) (by decide +kernel)⟩
theorem lw_p55 : lw_okq (⟨"MotherBenchModel", "kinLine", "()V"⟩, 43) := ⟨⟨by decide +kernel, by decide +kernel⟩, List.mem_of_getElem? (i := 1310) (by decide +kernel), List.mem_of_getElem? (i := 1566) (by decide +kernel), List.mem_of_getElem? (i := 1567) (by decide +kernel)⟩
theorem lw_p56 : lw_okq (⟨"MotherBenchModel", "areKin", "(II)Z"⟩, 43) := ⟨⟨by decide +kernel, by decide +kernel⟩, List.mem_of_getElem? (i := 1310) (by decide +kernel), List.mem_of_getElem? (i := 1570) (by decide +kernel), List.mem_of_getElem? (i := 1571) (by decide +kernel)⟩
theorem lw_p57 : lw_okq (⟨"MotherBenchModel", "causeLine", "()V"⟩, 43) := ⟨⟨by decide +kernel, by decide +kernel⟩, List.mem_of_getElem? (i := 1310) (by decide +kernel), List.mem_of_getElem? (i := 1575) (by decide +kernel), List.mem_of_getElem? (i := 1576) (by decide +kernel)⟩
theorem lw_p58 : lw_okq (⟨"MotherBenchModel", "ends", "()V"⟩, 43) := ⟨⟨by decide +kernel, by decide +kernel⟩, List.mem_of_getElem? (i := 1310) (by decide +kernel), List.mem_of_getElem? (i := 1582) (by decide +kernel), List.mem_of_getElem? (i := 1583) (by decide +kernel)⟩
theorem lw_p59 : lw_okq (⟨"MotherBenchModel", "isOver", "()V"⟩, 43) := ⟨⟨by decide +kernel, by decide +kernel⟩, List.mem_of_getElem? (i := 1310) (by decide +kernel), List.mem_of_getElem? (i := 1586) (by decide +kernel), List.mem_of_getElem? (i := 1587) (by decide +kernel)⟩
theorem lw_p60 : lw_okq (⟨"MotherBenchModel", "copyCircuit", "(II)V"⟩, 43) := ⟨⟨by decide +kernel, by decide +kernel⟩, List.mem_of_getElem? (i := 1310) (by decide +kernel), List.mem_of_getElem? (i := 1590) (by decide +kernel), List.mem_of_getElem? (i := 1591) (by decide +kernel)⟩
theorem lw_p61 : lw_okq (⟨"MotherBenchModel", "isMother", "(I)Z"⟩, 43) := ⟨⟨by decide +kernel, by decide +kernel⟩, List.mem_of_getElem? (i := 1310) (by decide +kernel), List.mem_of_getElem? (i := 1601) (by decide +kernel), List.mem_of_getElem? (i := 1602) (by decide +kernel)⟩
theorem lw_p62 : lw_okq (⟨"MotherBenchModel", "mothers", "()I"⟩, 43) := ⟨⟨by decide +kernel, by decide +kernel⟩, List.mem_of_getElem? (i := 1310) (by decide +kernel), List.mem_of_getElem? (i := 1605) (by decide +kernel), List.mem_of_getElem? (i := 1606) (by decide +kernel)⟩
theorem lw_p63 : lw_okq (⟨"MotherBenchModel", "kinBits", "(I)I"⟩, 43) := ⟨⟨by decide +kernel, by decide +kernel⟩, List.mem_of_getElem? (i := 1310) (by decide +kernel), List.mem_of_getElem? (i := 1614) (by decide +kernel), List.mem_of_getElem? (i := 1615) (by decide +kernel)⟩
def lw_privs_4 : List (MethodName × Nat) := [(⟨"MotherBenchModel", "fails", "(I)V"⟩, 43), (⟨"MotherBenchModel", "number", "(JII)I"⟩, 43), (⟨"MotherBenchModel", "number", "(II)I"⟩, 43), (⟨"MotherBenchModel", "lineHere", "()V"⟩, 43), (⟨"MotherBenchModel", "isRoom", "(ZII)Z"⟩, 43), (⟨"MotherBenchModel", "hasRead", "(I)I"⟩, 43), (⟨"MotherBenchModel", "motherLine", "()V"⟩, 43), (⟨"MotherBenchModel", "kinLine", "()V"⟩, 43), (⟨"MotherBenchModel", "areKin", "(II)Z"⟩, 43), (⟨"MotherBenchModel", "causeLine", "()V"⟩, 43), (⟨"MotherBenchModel", "ends", "()V"⟩, 43), (⟨"MotherBenchModel", "isOver", "()V"⟩, 43), (⟨"MotherBenchModel", "copyCircuit", "(II)V"⟩, 43), (⟨"MotherBenchModel", "isMother", "(I)Z"⟩, 43), (⟨"MotherBenchModel", "mothers", "()I"⟩, 43), (⟨"MotherBenchModel", "kinBits", "(I)I"⟩, 43)]
theorem lw_r4 : ∀ q ∈ lw_privs_4, lw_okq q := List.forall_mem_cons.mpr ⟨lw_p48, List.forall_mem_cons.mpr ⟨lw_p49, List.forall_mem_cons.mpr ⟨lw_p50, List.forall_mem_cons.mpr ⟨lw_p51, List.forall_mem_cons.mpr ⟨lw_p52, List.forall_mem_cons.mpr ⟨lw_p53, List.forall_mem_cons.mpr ⟨lw_p54, List.forall_mem_cons.mpr ⟨lw_p55, List.forall_mem_cons.mpr ⟨lw_p56, List.forall_mem_cons.mpr ⟨lw_p57, List.forall_mem_cons.mpr ⟨lw_p58, List.forall_mem_cons.mpr ⟨lw_p59, List.forall_mem_cons.mpr ⟨lw_p60, List.forall_mem_cons.mpr ⟨lw_p61, List.forall_mem_cons.mpr ⟨lw_p62, List.forall_mem_cons.mpr ⟨lw_p63, fun _ h => absurd h List.not_mem_nil⟩⟩⟩⟩⟩⟩⟩⟩⟩⟩⟩⟩⟩⟩⟩⟩
theorem lw_p64 : lw_okq (⟨"MotherBenchModel", "isCause", "(J)Z"⟩, 43) := ⟨⟨by decide +kernel, by decide +kernel⟩, List.mem_of_getElem? (i := 1310) (by decide +kernel), List.mem_of_getElem? (i := 1622) (by decide +kernel), List.mem_of_getElem? (i := 1623) (by decide +kernel)⟩
theorem lw_p65 : lw_okq (⟨"MotherBenchModel", "causes", "()I"⟩, 43) := ⟨⟨by decide +kernel, by decide +kernel⟩, List.mem_of_getElem? (i := 1310) (by decide +kernel), List.mem_of_getElem? (i := 1626) (by decide +kernel), List.mem_of_getElem? (i := 1627) (by decide +kernel)⟩
theorem lw_p66 : lw_okq (⟨"MotherBenchModel", "laysNow", "()V"⟩, 43) := ⟨⟨by decide +kernel, by decide +kernel⟩, List.mem_of_getElem? (i := 1310) (by decide +kernel), List.mem_of_getElem? (i := 1635) (by decide +kernel), List.mem_of_getElem? (i := 1636) (by decide +kernel)⟩
theorem lw_p67 : lw_okq (⟨"MotherBenchModel", "lays", "()V"⟩, 43) := ⟨⟨by decide +kernel, by decide +kernel⟩, List.mem_of_getElem? (i := 1310) (by decide +kernel), List.mem_of_getElem? (i := 1639) (by decide +kernel), List.mem_of_getElem? (i := 1640) (by decide +kernel)⟩
theorem lw_p68 : lw_okq (⟨"MotherBenchModel", "runs", "()V"⟩, 43) := ⟨⟨by decide +kernel, by decide +kernel⟩, List.mem_of_getElem? (i := 1310) (by decide +kernel), List.mem_of_getElem? (i := 1643) (by decide +kernel), List.mem_of_getElem? (i := 1644) (by decide +kernel)⟩
theorem lw_p69 : lw_okq (⟨"MotherBenchModel", "days", "()I"⟩, 43) := ⟨⟨by decide +kernel, by decide +kernel⟩, List.mem_of_getElem? (i := 1310) (by decide +kernel), List.mem_of_getElem? (i := 1647) (by decide +kernel), List.mem_of_getElem? (i := 1648) (by decide +kernel)⟩
theorem lw_p70 : lw_okq (⟨"MotherBenchModel", "awayOn", "(I)I"⟩, 43) := ⟨⟨by decide +kernel, by decide +kernel⟩, List.mem_of_getElem? (i := 1310) (by decide +kernel), List.mem_of_getElem? (i := 1651) (by decide +kernel), List.mem_of_getElem? (i := 1652) (by decide +kernel)⟩
theorem lw_p71 : lw_okq (⟨"MotherBenchModel", "hears0", "(III)V"⟩, 43) := ⟨⟨by decide +kernel, by decide +kernel⟩, List.mem_of_getElem? (i := 1310) (by decide +kernel), List.mem_of_getElem? (i := 1658) (by decide +kernel), List.mem_of_getElem? (i := 1659) (by decide +kernel)⟩
theorem lw_p72 : lw_okq (⟨"MotherBenchModel", "benchOf", "(I)I"⟩, 43) := ⟨⟨by decide +kernel, by decide +kernel⟩, List.mem_of_getElem? (i := 1310) (by decide +kernel), List.mem_of_getElem? (i := 1662) (by decide +kernel), List.mem_of_getElem? (i := 1663) (by decide +kernel)⟩
theorem lw_p73 : lw_okq (⟨"MotherBenchModel", "findsOf", "(IIII)I"⟩, 43) := ⟨⟨by decide +kernel, by decide +kernel⟩, List.mem_of_getElem? (i := 1310) (by decide +kernel), List.mem_of_getElem? (i := 1666) (by decide +kernel), List.mem_of_getElem? (i := 1667) (by decide +kernel)⟩
theorem lw_p74 : lw_okq (⟨"MotherBenchModel", "stricter", "(II)V"⟩, 43) := ⟨⟨by decide +kernel, by decide +kernel⟩, List.mem_of_getElem? (i := 1310) (by decide +kernel), List.mem_of_getElem? (i := 1679) (by decide +kernel), List.mem_of_getElem? (i := 1680) (by decide +kernel)⟩
theorem lw_p75 : lw_okq (⟨"MotherBenchModel", "markOf", "(III)I"⟩, 43) := ⟨⟨by decide +kernel, by decide +kernel⟩, List.mem_of_getElem? (i := 1310) (by decide +kernel), List.mem_of_getElem? (i := 1687) (by decide +kernel), List.mem_of_getElem? (i := 1688) (by decide +kernel)⟩
theorem lw_p76 : lw_okq (⟨"MotherBenchModel", "isHeard", "(I)Z"⟩, 43) := ⟨⟨by decide +kernel, by decide +kernel⟩, List.mem_of_getElem? (i := 1310) (by decide +kernel), List.mem_of_getElem? (i := 1691) (by decide +kernel), List.mem_of_getElem? (i := 1692) (by decide +kernel)⟩
theorem lw_p77 : lw_okq (⟨"MotherBenchModel", "apartOf", "(I)I"⟩, 43) := ⟨⟨by decide +kernel, by decide +kernel⟩, List.mem_of_getElem? (i := 1310) (by decide +kernel), List.mem_of_getElem? (i := 1715) (by decide +kernel), List.mem_of_getElem? (i := 1716) (by decide +kernel)⟩
theorem lw_p78 : lw_okq (⟨"MotherBenchModel", "isCircuit", "()Z"⟩, 43) := ⟨⟨by decide +kernel, by decide +kernel⟩, List.mem_of_getElem? (i := 1310) (by decide +kernel), List.mem_of_getElem? (i := 1723) (by decide +kernel), List.mem_of_getElem? (i := 1724) (by decide +kernel)⟩
theorem lw_p79 : lw_okq (⟨"MotherBenchModel", "isDay", "(I)Z"⟩, 43) := ⟨⟨by decide +kernel, by decide +kernel⟩, List.mem_of_getElem? (i := 1310) (by decide +kernel), List.mem_of_getElem? (i := 1731) (by decide +kernel), List.mem_of_getElem? (i := 1732) (by decide +kernel)⟩
def lw_privs_5 : List (MethodName × Nat) := [(⟨"MotherBenchModel", "isCause", "(J)Z"⟩, 43), (⟨"MotherBenchModel", "causes", "()I"⟩, 43), (⟨"MotherBenchModel", "laysNow", "()V"⟩, 43), (⟨"MotherBenchModel", "lays", "()V"⟩, 43), (⟨"MotherBenchModel", "runs", "()V"⟩, 43), (⟨"MotherBenchModel", "days", "()I"⟩, 43), (⟨"MotherBenchModel", "awayOn", "(I)I"⟩, 43), (⟨"MotherBenchModel", "hears0", "(III)V"⟩, 43), (⟨"MotherBenchModel", "benchOf", "(I)I"⟩, 43), (⟨"MotherBenchModel", "findsOf", "(IIII)I"⟩, 43), (⟨"MotherBenchModel", "stricter", "(II)V"⟩, 43), (⟨"MotherBenchModel", "markOf", "(III)I"⟩, 43), (⟨"MotherBenchModel", "isHeard", "(I)Z"⟩, 43), (⟨"MotherBenchModel", "apartOf", "(I)I"⟩, 43), (⟨"MotherBenchModel", "isCircuit", "()Z"⟩, 43), (⟨"MotherBenchModel", "isDay", "(I)Z"⟩, 43)]
theorem lw_r5 : ∀ q ∈ lw_privs_5, lw_okq q := List.forall_mem_cons.mpr ⟨lw_p64, List.forall_mem_cons.mpr ⟨lw_p65, List.forall_mem_cons.mpr ⟨lw_p66, List.forall_mem_cons.mpr ⟨lw_p67, List.forall_mem_cons.mpr ⟨lw_p68, List.forall_mem_cons.mpr ⟨lw_p69, List.forall_mem_cons.mpr ⟨lw_p70, List.forall_mem_cons.mpr ⟨lw_p71, List.forall_mem_cons.mpr ⟨lw_p72, List.forall_mem_cons.mpr ⟨lw_p73, List.forall_mem_cons.mpr ⟨lw_p74, List.forall_mem_cons.mpr ⟨lw_p75, List.forall_mem_cons.mpr ⟨lw_p76, List.forall_mem_cons.mpr ⟨lw_p77, List.forall_mem_cons.mpr ⟨lw_p78, List.forall_mem_cons.mpr ⟨lw_p79, fun _ h => absurd h List.not_mem_nil⟩⟩⟩⟩⟩⟩⟩⟩⟩⟩⟩⟩⟩⟩⟩⟩
theorem lw_p80 : lw_okq (⟨"MotherBenchModel", "hasSat", "(II)Z"⟩, 43) := ⟨⟨by decide +kernel, by decide +kernel⟩, List.mem_of_getElem? (i := 1310) (by decide +kernel), List.mem_of_getElem? (i := 1743) (by decide +kernel), List.mem_of_getElem? (i := 1744) (by decide +kernel)⟩
theorem lw_p81 : lw_okq (⟨"MotherBenchModel", "foundBy", "(II)I"⟩, 43) := ⟨⟨by decide +kernel, by decide +kernel⟩, List.mem_of_getElem? (i := 1310) (by decide +kernel), List.mem_of_getElem? (i := 1755) (by decide +kernel), List.mem_of_getElem? (i := 1756) (by decide +kernel)⟩
theorem lw_p82 : lw_okq (⟨"MotherBenchModel", "dueOn", "(I)I"⟩, 43) := ⟨⟨by decide +kernel, by decide +kernel⟩, List.mem_of_getElem? (i := 1310) (by decide +kernel), List.mem_of_getElem? (i := 1771) (by decide +kernel), List.mem_of_getElem? (i := 1772) (by decide +kernel)⟩
theorem lw_p83 : lw_okq (⟨"MotherBenchModel", "owesOf", "(II)I"⟩, 43) := ⟨⟨by decide +kernel, by decide +kernel⟩, List.mem_of_getElem? (i := 1310) (by decide +kernel), List.mem_of_getElem? (i := 1775) (by decide +kernel), List.mem_of_getElem? (i := 1776) (by decide +kernel)⟩
theorem lw_p84 : lw_okq (⟨"MotherBenchModel", "allNow", "()I"⟩, 43) := ⟨⟨by decide +kernel, by decide +kernel⟩, List.mem_of_getElem? (i := 1310) (by decide +kernel), List.mem_of_getElem? (i := 1795) (by decide +kernel), List.mem_of_getElem? (i := 1796) (by decide +kernel)⟩
theorem lw_p85 : lw_okq (⟨"MotherBenchModel", "sentenceOf", "(I)I"⟩, 43) := ⟨⟨by decide +kernel, by decide +kernel⟩, List.mem_of_getElem? (i := 1310) (by decide +kernel), List.mem_of_getElem? (i := 1799) (by decide +kernel), List.mem_of_getElem? (i := 1800) (by decide +kernel)⟩
theorem lw_p86 : lw_okq (⟨"MotherBenchModel", "oneBy", "(II)I"⟩, 43) := ⟨⟨by decide +kernel, by decide +kernel⟩, List.mem_of_getElem? (i := 1310) (by decide +kernel), List.mem_of_getElem? (i := 1811) (by decide +kernel), List.mem_of_getElem? (i := 1812) (by decide +kernel)⟩
theorem lw_p87 : lw_okq (⟨"MotherBenchModel", "isAhead", "(I)Z"⟩, 43) := ⟨⟨by decide +kernel, by decide +kernel⟩, List.mem_of_getElem? (i := 1310) (by decide +kernel), List.mem_of_getElem? (i := 1831) (by decide +kernel), List.mem_of_getElem? (i := 1832) (by decide +kernel)⟩
theorem lw_p88 : lw_okq (⟨"MotherBenchModel", "beyond", "(II)I"⟩, 43) := ⟨⟨by decide +kernel, by decide +kernel⟩, List.mem_of_getElem? (i := 1310) (by decide +kernel), List.mem_of_getElem? (i := 1847) (by decide +kernel), List.mem_of_getElem? (i := 1848) (by decide +kernel)⟩
theorem lw_p89 : lw_okq (⟨"MotherBenchModel", "isThree", "(I)Z"⟩, 43) := ⟨⟨by decide +kernel, by decide +kernel⟩, List.mem_of_getElem? (i := 1310) (by decide +kernel), List.mem_of_getElem? (i := 1875) (by decide +kernel), List.mem_of_getElem? (i := 1876) (by decide +kernel)⟩
theorem lw_p90 : lw_okq (⟨"MotherBenchModel", "toldFinds", "(II)I"⟩, 43) := ⟨⟨by decide +kernel, by decide +kernel⟩, List.mem_of_getElem? (i := 1310) (by decide +kernel), List.mem_of_getElem? (i := 1886) (by decide +kernel), List.mem_of_getElem? (i := 1887) (by decide +kernel)⟩
theorem lw_p91 : lw_okq (⟨"MotherBenchModel", "markBy", "(II)I"⟩, 43) := ⟨⟨by decide +kernel, by decide +kernel⟩, List.mem_of_getElem? (i := 1310) (by decide +kernel), List.mem_of_getElem? (i := 1894) (by decide +kernel), List.mem_of_getElem? (i := 1895) (by decide +kernel)⟩
theorem lw_p92 : lw_okq (⟨"MotherBenchModel", "setBy", "(II)I"⟩, 43) := ⟨⟨by decide +kernel, by decide +kernel⟩, List.mem_of_getElem? (i := 1310) (by decide +kernel), List.mem_of_getElem? (i := 1898) (by decide +kernel), List.mem_of_getElem? (i := 1899) (by decide +kernel)⟩
theorem lw_p93 : lw_okq (⟨"MotherBenchModel", "middleBy", "(II)I"⟩, 43) := ⟨⟨by decide +kernel, by decide +kernel⟩, List.mem_of_getElem? (i := 1310) (by decide +kernel), List.mem_of_getElem? (i := 1902) (by decide +kernel), List.mem_of_getElem? (i := 1903) (by decide +kernel)⟩
theorem lw_p94 : lw_okq (⟨"MotherBenchModel", "pleaOf", "(I)I"⟩, 43) := ⟨⟨by decide +kernel, by decide +kernel⟩, List.mem_of_getElem? (i := 1310) (by decide +kernel), List.mem_of_getElem? (i := 1926) (by decide +kernel), List.mem_of_getElem? (i := 1927) (by decide +kernel)⟩
theorem lw_p95 : lw_okq (⟨"MotherBenchModel", "whyNot", "(IZ)I"⟩, 43) := ⟨⟨by decide +kernel, by decide +kernel⟩, List.mem_of_getElem? (i := 1310) (by decide +kernel), List.mem_of_getElem? (i := 1946) (by decide +kernel), List.mem_of_getElem? (i := 1947) (by decide +kernel)⟩
def lw_privs_6 : List (MethodName × Nat) := [(⟨"MotherBenchModel", "hasSat", "(II)Z"⟩, 43), (⟨"MotherBenchModel", "foundBy", "(II)I"⟩, 43), (⟨"MotherBenchModel", "dueOn", "(I)I"⟩, 43), (⟨"MotherBenchModel", "owesOf", "(II)I"⟩, 43), (⟨"MotherBenchModel", "allNow", "()I"⟩, 43), (⟨"MotherBenchModel", "sentenceOf", "(I)I"⟩, 43), (⟨"MotherBenchModel", "oneBy", "(II)I"⟩, 43), (⟨"MotherBenchModel", "isAhead", "(I)Z"⟩, 43), (⟨"MotherBenchModel", "beyond", "(II)I"⟩, 43), (⟨"MotherBenchModel", "isThree", "(I)Z"⟩, 43), (⟨"MotherBenchModel", "toldFinds", "(II)I"⟩, 43), (⟨"MotherBenchModel", "markBy", "(II)I"⟩, 43), (⟨"MotherBenchModel", "setBy", "(II)I"⟩, 43), (⟨"MotherBenchModel", "middleBy", "(II)I"⟩, 43), (⟨"MotherBenchModel", "pleaOf", "(I)I"⟩, 43), (⟨"MotherBenchModel", "whyNot", "(IZ)I"⟩, 43)]
theorem lw_r6 : ∀ q ∈ lw_privs_6, lw_okq q := List.forall_mem_cons.mpr ⟨lw_p80, List.forall_mem_cons.mpr ⟨lw_p81, List.forall_mem_cons.mpr ⟨lw_p82, List.forall_mem_cons.mpr ⟨lw_p83, List.forall_mem_cons.mpr ⟨lw_p84, List.forall_mem_cons.mpr ⟨lw_p85, List.forall_mem_cons.mpr ⟨lw_p86, List.forall_mem_cons.mpr ⟨lw_p87, List.forall_mem_cons.mpr ⟨lw_p88, List.forall_mem_cons.mpr ⟨lw_p89, List.forall_mem_cons.mpr ⟨lw_p90, List.forall_mem_cons.mpr ⟨lw_p91, List.forall_mem_cons.mpr ⟨lw_p92, List.forall_mem_cons.mpr ⟨lw_p93, List.forall_mem_cons.mpr ⟨lw_p94, List.forall_mem_cons.mpr ⟨lw_p95, fun _ h => absurd h List.not_mem_nil⟩⟩⟩⟩⟩⟩⟩⟩⟩⟩⟩⟩⟩⟩⟩⟩
theorem lw_p96 : lw_okq (⟨"MotherBenchModel", "laysSeen", "(II)V"⟩, 43) := ⟨⟨by decide +kernel, by decide +kernel⟩, List.mem_of_getElem? (i := 1310) (by decide +kernel), List.mem_of_getElem? (i := 1951) (by decide +kernel), List.mem_of_getElem? (i := 1952) (by decide +kernel)⟩
theorem lw_p97 : lw_okq (⟨"MotherBenchModel", "isSo", "(I)Z"⟩, 43) := ⟨⟨by decide +kernel, by decide +kernel⟩, List.mem_of_getElem? (i := 1310) (by decide +kernel), List.mem_of_getElem? (i := 1955) (by decide +kernel), List.mem_of_getElem? (i := 1956) (by decide +kernel)⟩
theorem lw_p98 : lw_okq (⟨"MotherBenchModel", "seenMany", "()I"⟩, 43) := ⟨⟨by decide +kernel, by decide +kernel⟩, List.mem_of_getElem? (i := 1310) (by decide +kernel), List.mem_of_getElem? (i := 1959) (by decide +kernel), List.mem_of_getElem? (i := 1960) (by decide +kernel)⟩
theorem lw_p99 : lw_okq (⟨"MotherBenchModel", "isSeen", "(I)Z"⟩, 43) := ⟨⟨by decide +kernel, by decide +kernel⟩, List.mem_of_getElem? (i := 1310) (by decide +kernel), List.mem_of_getElem? (i := 1963) (by decide +kernel), List.mem_of_getElem? (i := 1964) (by decide +kernel)⟩
theorem lw_p100 : lw_okq (⟨"MotherBenchModel", "worstBy", "(I)I"⟩, 43) := ⟨⟨by decide +kernel, by decide +kernel⟩, List.mem_of_getElem? (i := 1310) (by decide +kernel), List.mem_of_getElem? (i := 1967) (by decide +kernel), List.mem_of_getElem? (i := 1968) (by decide +kernel)⟩
theorem lw_p101 : lw_okq (⟨"MotherBenchModel", "allBy", "(I)I"⟩, 43) := ⟨⟨by decide +kernel, by decide +kernel⟩, List.mem_of_getElem? (i := 1310) (by decide +kernel), List.mem_of_getElem? (i := 1991) (by decide +kernel), List.mem_of_getElem? (i := 1992) (by decide +kernel)⟩
theorem lw_p102 : lw_okq (⟨"MotherBenchModel", "worthOf", "(I)I"⟩, 43) := ⟨⟨by decide +kernel, by decide +kernel⟩, List.mem_of_getElem? (i := 1310) (by decide +kernel), List.mem_of_getElem? (i := 2007) (by decide +kernel), List.mem_of_getElem? (i := 2008) (by decide +kernel)⟩
theorem lw_p103 : lw_okq (⟨"MotherBenchModel", "areTwo", "(II)Z"⟩, 43) := ⟨⟨by decide +kernel, by decide +kernel⟩, List.mem_of_getElem? (i := 1310) (by decide +kernel), List.mem_of_getElem? (i := 2032) (by decide +kernel), List.mem_of_getElem? (i := 2033) (by decide +kernel)⟩
theorem lw_p104 : lw_okq (⟨"MotherBenchModel", "getsBy", "(IIIII)I"⟩, 43) := ⟨⟨by decide +kernel, by decide +kernel⟩, List.mem_of_getElem? (i := 1310) (by decide +kernel), List.mem_of_getElem? (i := 2036) (by decide +kernel), List.mem_of_getElem? (i := 2037) (by decide +kernel)⟩
theorem lw_p105 : lw_okq (⟨"MotherBenchModel", "weightOf", "(II)J"⟩, 43) := ⟨⟨by decide +kernel, by decide +kernel⟩, List.mem_of_getElem? (i := 1310) (by decide +kernel), List.mem_of_getElem? (i := 2048) (by decide +kernel), List.mem_of_getElem? (i := 2049) (by decide +kernel)⟩
theorem lw_p106 : lw_okq (⟨"MotherBenchModel", "draws", "(J)I"⟩, 43) := ⟨⟨by decide +kernel, by decide +kernel⟩, List.mem_of_getElem? (i := 1310) (by decide +kernel), List.mem_of_getElem? (i := 2069) (by decide +kernel), List.mem_of_getElem? (i := 2070) (by decide +kernel)⟩
theorem lw_p107 : lw_okq (⟨"MotherBenchModel", "does", "(III)V"⟩, 43) := ⟨⟨by decide +kernel, by decide +kernel⟩, List.mem_of_getElem? (i := 1310) (by decide +kernel), List.mem_of_getElem? (i := 2086) (by decide +kernel), List.mem_of_getElem? (i := 2087) (by decide +kernel)⟩
def lw_privs_7 : List (MethodName × Nat) := [(⟨"MotherBenchModel", "laysSeen", "(II)V"⟩, 43), (⟨"MotherBenchModel", "isSo", "(I)Z"⟩, 43), (⟨"MotherBenchModel", "seenMany", "()I"⟩, 43), (⟨"MotherBenchModel", "isSeen", "(I)Z"⟩, 43), (⟨"MotherBenchModel", "worstBy", "(I)I"⟩, 43), (⟨"MotherBenchModel", "allBy", "(I)I"⟩, 43), (⟨"MotherBenchModel", "worthOf", "(I)I"⟩, 43), (⟨"MotherBenchModel", "areTwo", "(II)Z"⟩, 43), (⟨"MotherBenchModel", "getsBy", "(IIIII)I"⟩, 43), (⟨"MotherBenchModel", "weightOf", "(II)J"⟩, 43), (⟨"MotherBenchModel", "draws", "(J)I"⟩, 43), (⟨"MotherBenchModel", "does", "(III)V"⟩, 43)]
theorem lw_r7 : ∀ q ∈ lw_privs_7, lw_okq q := List.forall_mem_cons.mpr ⟨lw_p96, List.forall_mem_cons.mpr ⟨lw_p97, List.forall_mem_cons.mpr ⟨lw_p98, List.forall_mem_cons.mpr ⟨lw_p99, List.forall_mem_cons.mpr ⟨lw_p100, List.forall_mem_cons.mpr ⟨lw_p101, List.forall_mem_cons.mpr ⟨lw_p102, List.forall_mem_cons.mpr ⟨lw_p103, List.forall_mem_cons.mpr ⟨lw_p104, List.forall_mem_cons.mpr ⟨lw_p105, List.forall_mem_cons.mpr ⟨lw_p106, List.forall_mem_cons.mpr ⟨lw_p107, fun _ h => absurd h List.not_mem_nil⟩⟩⟩⟩⟩⟩⟩⟩⟩⟩⟩⟩
def lw_privs : List (MethodName × Nat) := lw_privs_1 ++ (lw_privs_2 ++ (lw_privs_3 ++ (lw_privs_4 ++ (lw_privs_5 ++ (lw_privs_6 ++ (lw_privs_7))))))
def lw_tbl : List Cond := k2_sels lw_privs ++ tables_1
theorem lw_privs_ok : ∀ q ∈ lw_privs, lw_okq q := by
  show ∀ q ∈ lw_privs_1 ++ (lw_privs_2 ++ (lw_privs_3 ++ (lw_privs_4 ++ (lw_privs_5 ++ (lw_privs_6 ++ (lw_privs_7)))))), lw_okq q
  exact List.forall_mem_append.mpr ⟨lw_r1, List.forall_mem_append.mpr ⟨lw_r2, List.forall_mem_append.mpr ⟨lw_r3, List.forall_mem_append.mpr ⟨lw_r4, List.forall_mem_append.mpr ⟨lw_r5, List.forall_mem_append.mpr ⟨lw_r6, lw_r7⟩⟩⟩⟩⟩⟩
def RX0 : String := "MotherBench$Chances"
def TX0 : u_T := fun k => match k with
  | 0 => ("MotherBench$Chances", "trial", "LMotherBench$Trial;", true)
  | _ => ("MotherBench$Chances", "fraction", "LMotherBench$Fraction;", true)
def tyX0 : Nat → FieldType := fun k => match k with
  | 0 => .object "MotherBench$Trial"
  | _ => .object "MotherBench$Fraction"
theorem nmX0 : ∀ a, a < 2 → ∀ b, b < 2 → a ≠ b → (TX0 a).2.1 ≠ (TX0 b).2.1 := by decide +kernel
theorem tyX0_ok : ∀ k, k < 2 → parseFieldDescriptor (TX0 k).2.2.1 = some (tyX0 k) := by decide +kernel
def RX1 : String := "MotherBench$Circuit"
def TX1 : u_T := fun k => match k with
  | 0 => ("MotherBench$Circuit", "lines", "I", false)
  | 1 => ("MotherBench$Circuit", "days", "I", false)
  | 2 => ("MotherBench$Circuit", "law", "I", false)
  | 3 => ("MotherBench$Circuit", "odds", "I", false)
  | 4 => ("MotherBench$Circuit", "mothers", "I", false)
  | 5 => ("MotherBench$Circuit", "kinTold", "I", false)
  | 6 => ("MotherBench$Circuit", "causes", "I", false)
  | 7 => ("MotherBench$Circuit", "acts", "I", false)
  | 8 => ("MotherBench$Circuit", "strict", "[I", true)
  | 9 => ("MotherBench$Circuit", "ways", "[I", true)
  | 10 => ("MotherBench$Circuit", "kin", "[I", true)
  | 11 => ("MotherBench$Circuit", "weighs", "[I", true)
  | 12 => ("MotherBench$Circuit", "signs", "[I", true)
  | 13 => ("MotherBench$Circuit", "at", "[I", true)
  | 14 => ("MotherBench$Circuit", "actAppeals", "[I", true)
  | 15 => ("MotherBench$Circuit", "actWho", "[I", true)
  | _ => ("MotherBench$Circuit", "actDay", "[I", true)
def tyX1 : Nat → FieldType := fun k => match k with
  | 0 => .int
  | 1 => .int
  | 2 => .int
  | 3 => .int
  | 4 => .int
  | 5 => .int
  | 6 => .int
  | 7 => .int
  | 8 => .array .int
  | 9 => .array .int
  | 10 => .array .int
  | 11 => .array .int
  | 12 => .array .int
  | 13 => .array .int
  | 14 => .array .int
  | 15 => .array .int
  | _ => .array .int
theorem nmX1 : ∀ a, a < 17 → ∀ b, b < 17 → a ≠ b → (TX1 a).2.1 ≠ (TX1 b).2.1 := by decide +kernel
theorem tyX1_ok : ∀ k, k < 17 → parseFieldDescriptor (TX1 k).2.2.1 = some (tyX1 k) := by decide +kernel
def RX2 : String := "MotherBench$Court"
def TX2 : u_T := fun k => match k with
  | 0 => ("MotherBench$Court", "told", "LMotherBench$Circuit;", true)
  | 1 => ("MotherBench$Court", "events", "I", false)
  | 2 => ("MotherBench$Court", "eventCause", "[I", true)
  | 3 => ("MotherBench$Court", "eventDay", "[I", true)
  | 4 => ("MotherBench$Court", "eventAppeals", "[I", true)
  | 5 => ("MotherBench$Court", "away", "[I", true)
  | 6 => ("MotherBench$Court", "hearings", "I", false)
  | 7 => ("MotherBench$Court", "hearingCause", "[I", true)
  | 8 => ("MotherBench$Court", "hearingDay", "[I", true)
  | 9 => ("MotherBench$Court", "hearingBench", "[I", true)
  | 10 => ("MotherBench$Court", "hearingSentence", "[I", true)
  | 11 => ("MotherBench$Court", "findings", "[I", true)
  | 12 => ("MotherBench$Court", "latest", "[I", true)
  | 13 => ("MotherBench$Court", "often", "[I", true)
  | 14 => ("MotherBench$Court", "satOf", "[I", true)
  | 15 => ("MotherBench$Court", "strictNow", "[I", true)
  | 16 => ("MotherBench$Court", "satNow", "[I", true)
  | 17 => ("MotherBench$Court", "strictByDay", "[I", true)
  | _ => ("MotherBench$Court", "satByDay", "[I", true)
def tyX2 : Nat → FieldType := fun k => match k with
  | 0 => .object "MotherBench$Circuit"
  | 1 => .int
  | 2 => .array .int
  | 3 => .array .int
  | 4 => .array .int
  | 5 => .array .int
  | 6 => .int
  | 7 => .array .int
  | 8 => .array .int
  | 9 => .array .int
  | 10 => .array .int
  | 11 => .array .int
  | 12 => .array .int
  | 13 => .array .int
  | 14 => .array .int
  | 15 => .array .int
  | 16 => .array .int
  | 17 => .array .int
  | _ => .array .int
theorem nmX2 : ∀ a, a < 19 → ∀ b, b < 19 → a ≠ b → (TX2 a).2.1 ≠ (TX2 b).2.1 := by decide +kernel
theorem tyX2_ok : ∀ k, k < 19 → parseFieldDescriptor (TX2 k).2.2.1 = some (tyX2 k) := by decide +kernel
def RX3 : String := "MotherBench$Fraction"
def TX3 : u_T := fun k => match k with
  | 0 => ("MotherBench$Fraction", "above", "J", false)
  | _ => ("MotherBench$Fraction", "below", "J", false)
def tyX3 : Nat → FieldType := fun k => match k with
  | 0 => .long
  | _ => .long
theorem nmX3 : ∀ a, a < 2 → ∀ b, b < 2 → a ≠ b → (TX3 a).2.1 ≠ (TX3 b).2.1 := by decide +kernel
theorem tyX3_ok : ∀ k, k < 2 → parseFieldDescriptor (TX3 k).2.2.1 = some (tyX3 k) := by decide +kernel
def RX4 : String := "MotherBench$Panels"
def TX4 : u_T := fun k => match k with
  | 0 => ("MotherBench$Panels", "told", "LMotherBench$Circuit;", true)
  | _ => ("MotherBench$Panels", "findings", "[I", true)
def tyX4 : Nat → FieldType := fun k => match k with
  | 0 => .object "MotherBench$Circuit"
  | _ => .array .int
theorem nmX4 : ∀ a, a < 2 → ∀ b, b < 2 → a ≠ b → (TX4 a).2.1 ≠ (TX4 b).2.1 := by decide +kernel
theorem tyX4_ok : ∀ k, k < 2 → parseFieldDescriptor (TX4 k).2.2.1 = some (tyX4 k) := by decide +kernel
def RX5 : String := "MotherBench$Reader"
def TX5 : u_T := fun k => match k with
  | 0 => ("MotherBench$Reader", "tape", "[B", true)
  | 1 => ("MotherBench$Reader", "size", "I", false)
  | 2 => ("MotherBench$Reader", "fault", "I", false)
  | 3 => ("MotherBench$Reader", "faultPlace", "I", false)
  | 4 => ("MotherBench$Reader", "draft", "LMotherBench$Circuit;", true)
  | 5 => ("MotherBench$Reader", "token", "I", false)
  | 6 => ("MotherBench$Reader", "place", "I", false)
  | 7 => ("MotherBench$Reader", "next", "I", false)
  | _ => ("MotherBench$Reader", "value", "I", false)
def tyX5 : Nat → FieldType := fun k => match k with
  | 0 => .array .byte
  | 1 => .int
  | 2 => .int
  | 3 => .int
  | 4 => .object "MotherBench$Circuit"
  | 5 => .int
  | 6 => .int
  | 7 => .int
  | _ => .int
theorem nmX5 : ∀ a, a < 9 → ∀ b, b < 9 → a ≠ b → (TX5 a).2.1 ≠ (TX5 b).2.1 := by decide +kernel
theorem tyX5_ok : ∀ k, k < 9 → parseFieldDescriptor (TX5 k).2.2.1 = some (tyX5 k) := by decide +kernel
def RX6 : String := "MotherBench$Rows"
def TX6 : u_T := fun k => match k with
  | 0 => ("MotherBench$Rows", "values", "[J", true)
  | 1 => ("MotherBench$Rows", "widths", "[I", true)
  | _ => ("MotherBench$Rows", "lengths", "[I", true)
def tyX6 : Nat → FieldType := fun k => match k with
  | 0 => .array .long
  | 1 => .array .int
  | _ => .array .int
theorem nmX6 : ∀ a, a < 3 → ∀ b, b < 3 → a ≠ b → (TX6 a).2.1 ≠ (TX6 b).2.1 := by decide +kernel
theorem tyX6_ok : ∀ k, k < 3 → parseFieldDescriptor (TX6 k).2.2.1 = some (tyX6 k) := by decide +kernel
def RX7 : String := "MotherBench$Seen"
def TX7 : u_T := fun k => match k with
  | 0 => ("MotherBench$Seen", "trial", "LMotherBench$Trial;", true)
  | 1 => ("MotherBench$Seen", "rows", "LMotherBench$Rows;", true)
  | 2 => ("MotherBench$Seen", "fitting", "I", false)
  | 3 => ("MotherBench$Seen", "stricts", "[I", true)
  | _ => ("MotherBench$Seen", "sentences", "[I", true)
def tyX7 : Nat → FieldType := fun k => match k with
  | 0 => .object "MotherBench$Trial"
  | 1 => .object "MotherBench$Rows"
  | 2 => .int
  | 3 => .array .int
  | _ => .array .int
theorem nmX7 : ∀ a, a < 5 → ∀ b, b < 5 → a ≠ b → (TX7 a).2.1 ≠ (TX7 b).2.1 := by decide +kernel
theorem tyX7_ok : ∀ k, k < 5 → parseFieldDescriptor (TX7 k).2.2.1 = some (tyX7 k) := by decide +kernel
def RX8 : String := "MotherBench$Trial"
def TX8 : u_T := fun k => match k with
  | 0 => ("MotherBench$Trial", "told", "LMotherBench$Circuit;", true)
  | 1 => ("MotherBench$Trial", "supposed", "LMotherBench$Circuit;", true)
  | 2 => ("MotherBench$Trial", "court", "LMotherBench$Court;", true)
  | 3 => ("MotherBench$Trial", "fraction", "LMotherBench$Fraction;", true)
  | 4 => ("MotherBench$Trial", "gains", "[I", true)
  | _ => ("MotherBench$Trial", "otherGains", "[I", true)
def tyX8 : Nat → FieldType := fun k => match k with
  | 0 => .object "MotherBench$Circuit"
  | 1 => .object "MotherBench$Circuit"
  | 2 => .object "MotherBench$Court"
  | 3 => .object "MotherBench$Fraction"
  | 4 => .array .int
  | _ => .array .int
theorem nmX8 : ∀ a, a < 6 → ∀ b, b < 6 → a ≠ b → (TX8 a).2.1 ≠ (TX8 b).2.1 := by decide +kernel
theorem tyX8_ok : ∀ k, k < 6 → parseFieldDescriptor (TX8 k).2.2.1 = some (tyX8 k) := by decide +kernel
def RX9 : String := "MotherBench"
def TX9 : u_T := fun k => match k with
  | 0 => ("MotherBench", "reader", "LMotherBench$Reader;", true)
  | 1 => ("MotherBench", "told", "LMotherBench$Circuit;", true)
  | 2 => ("MotherBench", "now", "LMotherBench$Court;", true)
  | 3 => ("MotherBench", "panels", "LMotherBench$Panels;", true)
  | 4 => ("MotherBench", "trial", "LMotherBench$Trial;", true)
  | 5 => ("MotherBench", "seen", "LMotherBench$Seen;", true)
  | 6 => ("MotherBench", "chances", "LMotherBench$Chances;", true)
  | 7 => ("MotherBench", "rows", "LMotherBench$Rows;", true)
  | 8 => ("MotherBench", "images", "[LMotherBench$Circuit;", true)
  | _ => ("MotherBench", "imaged", "I", false)
def tyX9 : Nat → FieldType := fun k => match k with
  | 0 => .object "MotherBench$Reader"
  | 1 => .object "MotherBench$Circuit"
  | 2 => .object "MotherBench$Court"
  | 3 => .object "MotherBench$Panels"
  | 4 => .object "MotherBench$Trial"
  | 5 => .object "MotherBench$Seen"
  | 6 => .object "MotherBench$Chances"
  | 7 => .object "MotherBench$Rows"
  | 8 => .array (.object "MotherBench$Circuit")
  | _ => .int
theorem nmX9 : ∀ a, a < 10 → ∀ b, b < 10 → a ≠ b → (TX9 a).2.1 ≠ (TX9 b).2.1 := by decide +kernel
theorem tyX9_ok : ∀ k, k < 10 → parseFieldDescriptor (TX9 k).2.2.1 = some (tyX9 k) := by decide +kernel
def RX10 : String := "MotherBenchModel"
def TX10 : u_T := fun k => match k with
  | 0 => ("MotherBenchModel", "thrown", "I", false)
  | 1 => ("MotherBenchModel", "width", "[I", true)
  | 2 => ("MotherBenchModel", "many", "[I", true)
  | 3 => ("MotherBenchModel", "cells", "[J", true)
  | 4 => ("MotherBenchModel", "moved", "[J", true)
  | 5 => ("MotherBenchModel", "tape", "[B", true)
  | 6 => ("MotherBenchModel", "taped", "I", false)
  | 7 => ("MotherBenchModel", "spot", "I", false)
  | 8 => ("MotherBenchModel", "token", "I", false)
  | 9 => ("MotherBenchModel", "place", "I", false)
  | 10 => ("MotherBenchModel", "value", "I", false)
  | 11 => ("MotherBenchModel", "word", "J", false)
  | 12 => ("MotherBenchModel", "bad", "I", false)
  | 13 => ("MotherBenchModel", "badPlace", "I", false)
  | 14 => ("MotherBenchModel", "fault", "I", false)
  | 15 => ("MotherBenchModel", "faultPlace", "I", false)
  | 16 => ("MotherBenchModel", "lines", "[I", true)
  | 17 => ("MotherBenchModel", "has", "[I", true)
  | 18 => ("MotherBenchModel", "toldMother", "[I", true)
  | 19 => ("MotherBenchModel", "kinOf", "[I", true)
  | 20 => ("MotherBenchModel", "toldCause", "[I", true)
  | 21 => ("MotherBenchModel", "act", "[I", true)
  | 22 => ("MotherBenchModel", "isKept", "[Z", true)
  | 23 => ("MotherBenchModel", "law", "I", false)
  | 24 => ("MotherBenchModel", "awayAll", "I", false)
  | 25 => ("MotherBenchModel", "unbrought", "I", false)
  | 26 => ("MotherBenchModel", "strictTold", "[I", true)
  | 27 => ("MotherBenchModel", "weighs", "[I", true)
  | 28 => ("MotherBenchModel", "signs", "[I", true)
  | 29 => ("MotherBenchModel", "dayTold", "[I", true)
  | 30 => ("MotherBenchModel", "hearings", "I", false)
  | 31 => ("MotherBenchModel", "heard", "[I", true)
  | 32 => ("MotherBenchModel", "strictAt", "[I", true)
  | 33 => ("MotherBenchModel", "satAt", "[I", true)
  | 34 => ("MotherBenchModel", "strictNow", "[I", true)
  | 35 => ("MotherBenchModel", "satNow", "[I", true)
  | 36 => ("MotherBenchModel", "latest", "[I", true)
  | 37 => ("MotherBenchModel", "everSat", "[I", true)
  | 38 => ("MotherBenchModel", "three", "[I", true)
  | 39 => ("MotherBenchModel", "askBest", "I", false)
  | 40 => ("MotherBenchModel", "askLeaves", "I", false)
  | 41 => ("MotherBenchModel", "seenBits", "J", false)
  | _ => ("MotherBenchModel", "byStrict", "[I", true)
def tyX10 : Nat → FieldType := fun k => match k with
  | 0 => .int
  | 1 => .array .int
  | 2 => .array .int
  | 3 => .array .long
  | 4 => .array .long
  | 5 => .array .byte
  | 6 => .int
  | 7 => .int
  | 8 => .int
  | 9 => .int
  | 10 => .int
  | 11 => .long
  | 12 => .int
  | 13 => .int
  | 14 => .int
  | 15 => .int
  | 16 => .array .int
  | 17 => .array .int
  | 18 => .array .int
  | 19 => .array .int
  | 20 => .array .int
  | 21 => .array .int
  | 22 => .array .boolean
  | 23 => .int
  | 24 => .int
  | 25 => .int
  | 26 => .array .int
  | 27 => .array .int
  | 28 => .array .int
  | 29 => .array .int
  | 30 => .int
  | 31 => .array .int
  | 32 => .array .int
  | 33 => .array .int
  | 34 => .array .int
  | 35 => .array .int
  | 36 => .array .int
  | 37 => .array .int
  | 38 => .array .int
  | 39 => .int
  | 40 => .int
  | 41 => .long
  | _ => .array .int
theorem nmX10 : ∀ a, a < 43 → ∀ b, b < 43 → a ≠ b → (TX10 a).2.1 ≠ (TX10 b).2.1 := by decide +kernel
theorem tyX10_ok : ∀ k, k < 43 → parseFieldDescriptor (TX10 k).2.2.1 = some (tyX10 k) := by decide +kernel
abbrev vwCl : List vw_C := [(RX0, TX0, 2), (RX1, TX1, 17), (RX2, TX2, 19), (RX3, TX3, 2), (RX4, TX4, 2), (RX5, TX5, 9), (RX6, TX6, 3), (RX7, TX7, 5), (RX8, TX8, 6), (RX9, TX9, 10), (RX10, TX10, 43)]
def m_nf (c : Nat) : Nat := match c with
  | 0 => 2
  | 1 => 17
  | 2 => 19
  | 3 => 2
  | 4 => 2
  | 5 => 9
  | 6 => 3
  | 7 => 5
  | 8 => 6
  | 9 => 10
  | 10 => 43
  | _ => 0
def m_tyf (c : Nat) (k : Nat) : FieldType := match c with
  | 0 => tyX0 k
  | 1 => tyX1 k
  | 2 => tyX2 k
  | 3 => tyX3 k
  | 4 => tyX4 k
  | 5 => tyX5 k
  | 6 => tyX6 k
  | 7 => tyX7 k
  | 8 => tyX8 k
  | 9 => tyX9 k
  | 10 => tyX10 k
  | _ => .int
def m_G : List Cond := lw_tbl.filter goodWord
def m_tk (k : Nat) : List Cond := match k with
  | 0 => k2_sels lw_privs
  | 1 => tables_1_1
  | 2 => tables_1_2
  | 3 => tables_1_3
  | 4 => tables_1_4
  | 5 => tables_1_5
  | 6 => tables_1_6
  | 7 => tables_1_7
  | 8 => tables_1_8
  | 9 => tables_1_9
  | _ => []
def m_wd (q : Nat) : Option Cond := (m_tk (q / 1000))[q % 1000]?
theorem m_wd_in {q : Nat} {w : Cond} (h : m_wd q = some w) : w ∈ lw_tbl := by
  have h1 : ∀ k, ∀ z ∈ m_tk k, z ∈ lw_tbl := by
    intro k z hz
    unfold m_tk at hz
    split at hz
    · exact List.mem_append_left _ hz
    · exact List.mem_append_right _ (List.mem_append_left _ hz)
    · exact List.mem_append_right _ (List.mem_append_right _ (List.mem_append_left _ hz))
    · exact List.mem_append_right _ (List.mem_append_right _ (List.mem_append_right _ (List.mem_append_left _ hz)))
    · exact List.mem_append_right _ (List.mem_append_right _ (List.mem_append_right _ (List.mem_append_right _ (List.mem_append_left _ hz))))
    · exact List.mem_append_right _ (List.mem_append_right _ (List.mem_append_right _ (List.mem_append_right _ (List.mem_append_right _ (List.mem_append_left _ hz)))))
    · exact List.mem_append_right _ (List.mem_append_right _ (List.mem_append_right _ (List.mem_append_right _ (List.mem_append_right _ (List.mem_append_right _ (List.mem_append_left _ hz))))))
    · exact List.mem_append_right _ (List.mem_append_right _ (List.mem_append_right _ (List.mem_append_right _ (List.mem_append_right _ (List.mem_append_right _ (List.mem_append_right _ (List.mem_append_left _ hz)))))))
    · exact List.mem_append_right _ (List.mem_append_right _ (List.mem_append_right _ (List.mem_append_right _ (List.mem_append_right _ (List.mem_append_right _ (List.mem_append_right _ (List.mem_append_right _ (List.mem_append_left _ hz))))))))
    · exact List.mem_append_right _ (List.mem_append_right _ (List.mem_append_right _ (List.mem_append_right _ (List.mem_append_right _ (List.mem_append_right _ (List.mem_append_right _ (List.mem_append_right _ (List.mem_append_right _ (hz)))))))))
    · cases hz
  exact h1 _ w (List.mem_of_getElem? h)
def m_pos : List Nat := [1024, 1032, 1038, 1186, 2012, 2025, 2035, 2073, 2090, 2113, 2160, 2164, 2168, 2172, 2176, 2180, 2184, 2187, 2191, 2195, 2199, 2203, 2207, 2211, 2214, 2218, 2222, 2227, 2231, 3043, 3048, 3055, 3062, 3067, 3074, 3081, 3085, 3089, 3093, 3099, 3103, 3107, 3111, 3115, 3119, 3122, 3125, 3131, 3134, 3140, 3144, 3148, 3152, 3156, 3160, 3164, 3168, 3172, 3176, 3180, 3184, 3188, 3192, 3196, 3200, 3204, 3208, 3211, 3218, 3222, 3227, 3231, 3236, 4000, 4004, 4008, 4012, 4016, 4020, 4024, 4028, 4032, 4036, 4040, 4044, 4048, 4052, 4056, 4060, 4064, 4068, 4073, 4077, 4081, 4085, 4090, 4094, 4098, 4102, 4106, 4110, 4114, 4118, 4122, 4126, 4130, 4134, 4138, 4142, 4146, 4150, 4154, 4158, 4163, 4167, 4172, 4177, 4181, 4186, 4190, 4194, 4201, 4205, 4209, 4213, 4217, 4221, 4225, 4229, 4233, 4237, 5007, 5011, 5015, 5019, 5023, 5029, 5033, 5037, 5041, 5045, 5049, 5053, 5058, 5064, 5070, 5075, 5079, 5083, 5087, 5091, 5095, 5099, 5104, 5109, 5113, 5117, 5121, 5125, 5129, 5134, 5139, 5143, 5148, 5156, 5159, 5163, 5166, 5170, 5174, 5178, 5182, 5186, 5190, 5194, 5198, 5204, 5208, 5213, 5219, 5225, 5230, 5235, 5239, 6003, 6007, 6011, 6015, 6019, 6023, 6028, 6036, 6040, 6044, 6050, 6054, 6058, 6063, 6067, 6071, 6075, 6079, 6083, 6087, 6091, 6095, 6099, 6103, 6107, 6113, 7009, 7012, 7016, 7020, 7023, 7027, 7031, 7035, 7039, 7043, 7047, 7051, 7055, 7059, 7063, 7067, 7076, 7081, 7085, 7089, 7093, 7098, 7102, 7108, 7113, 7117, 7121, 7128, 7132, 7137, 7144, 7148, 7152, 7155, 7159, 7163, 7167, 7172, 7176, 7180, 7184, 7188, 7193, 7197, 7201, 7205, 7209, 7213, 7216, 7220, 7224, 7228, 7231, 7234, 7237, 8001, 8005, 8009, 8013, 8017, 8021, 8025, 8029, 8033, 8037, 8041, 8045, 8049, 8053, 8057, 8061, 8065, 8069, 8073, 8077, 8081, 8085, 8089, 8093, 8097, 8101, 8105, 8109, 8113, 8117, 8121, 8125, 8129, 8133, 8137, 8141, 8145, 8149, 8153, 8157, 8161, 8165, 8169, 8173, 8177, 8181, 8185, 8189, 8193, 8197, 8200, 8204, 8208, 8212, 8216, 8220, 8224, 8228, 8232, 8236, 9000, 9004, 9008, 9012, 9016, 9020, 9024, 9028, 9033, 9037, 9041, 9045, 9049, 9053, 9057, 9061, 9065, 9069, 9073, 9077, 9081, 9085, 9089, 9093, 9096, 9100, 9103, 9106, 9110, 9114, 9118, 9122, 9126, 9130, 9134, 9138, 9143, 9146, 9151, 9159, 9164, 9168, 9172, 9176, 9180, 9184, 9189, 9194, 9198]
def m_cw (k : Nat) : Option (MethodName × ByteArray × Nat × Option FieldType) := match m_pos[k]? with
  | some i => match m_wd i with
    | some (.code y b n r) => some (y, b, n, r)
    | _ => none
  | none => none
def m_lk_0 : List (Nat × (Nat × Nat × Int × List Nat)) := [(7, (21, 9, 0, [])), (9, (24, 0, 1, [0, 2, 9])), (13, (24, 10, 0, [5, 6, 9])), (18, (24, 13, 0, [1, 2, 9])), (23, (24, 14, 0, [0, 1, 9])), (28, (24, 49, 0, [1, 2, 9])), (32, (24, 50, 0, [2, 3, 9])), (37, (24, 52, 0, [1, 2, 9])), (41, (24, 53, 0, [2, 3, 9])), (45, (24, 55, 0, [1, 2, 9])), (49, (24, 56, 0, [1, 2, 9])), (53, (24, 58, 0, [2, 3, 9])), (57, (24, 60, 0, [1, 2, 9])), (61, (24, 62, 0, [1, 2, 9])), (65, (24, 64, 0, [1, 2, 9])), (69, (24, 68, 0, [1, 2, 9])), (73, (24, 70, 0, [0, 3, 9])), (77, (24, 72, 0, [2, 3, 9])), (81, (24, 75, 0, [2, 3, 9])), (85, (24, 77, 0, [1, 2, 9])), (89, (24, 79, 0, [1, 2, 9])), (93, (24, 81, 0, [1, 2, 9])), (97, (24, 83, 0, [1, 2, 9])), (101, (24, 85, 0, [2, 3, 9])), (105, (24, 87, 0, [1, 2, 9])), (109, (24, 90, 0, [2, 3, 9])), (113, (24, 91, 0, [1, 3, 9])), (117, (24, 92, 0, [0, 5, 9])), (121, (24, 93, 0, [0, 1, 9])), (125, (24, 95, 0, [0, 4, 9])), (129, (24, 96, 0, [1, 4, 9])), (133, (24, 97, 0, [1, 4, 9])), (137, (24, 98, 0, [0, 3, 9])), (141, (24, 99, 0, [0, 3, 9])), (145, (24, 100, 0, [1, 2, 9])), (149, (24, 103, 0, [1, 2, 9])), (153, (24, 104, 0, [1, 4, 9])), (157, (24, 105, 0, [1, 2, 9])), (161, (24, 107, 0, [1, 2, 9])), (165, (24, 108, 0, [0, 4, 9])), (169, (24, 109, 0, [0, 5, 9])), (173, (24, 110, 0, [1, 2, 9])), (177, (24, 112, 0, [1, 2, 9])), (181, (24, 113, 0, [0, 1, 9])), (185, (24, 116, 0, [2, 3, 9])), (189, (24, 118, 0, [1, 3, 9])), (193, (24, 121, 0, [1, 2, 9])), (197, (24, 122, 0, [1, 3, 9])), (201, (24, 124, 0, [1, 2, 9])), (205, (24, 125, 0, [1, 2, 9])), (209, (24, 128, 0, [1, 3, 9])), (213, (24, 131, 0, [1, 2, 9])), (217, (24, 132, 0, [1, 2, 9])), (221, (24, 134, 0, [0, 1, 9])), (225, (24, 136, 0, [2, 4, 9])), (229, (24, 146, 0, [2, 4, 9])), (233, (24, 148, 0, [2, 4, 9])), (237, (24, 150, 0, [2, 4, 9])), (241, (24, 153, 0, [2, 5, 9])), (245, (24, 154, 0, [1, 3, 9])), (249, (24, 156, 0, [1, 2, 9])), (253, (24, 158, 0, [0, 1, 9])), (257, (24, 160, 0, [1, 2, 9])), (261, (24, 162, 0, [2, 3, 9])), (265, (24, 169, 0, [2, 3, 9])), (269, (24, 174, 0, [4, 5, 9])), (274, (24, 176, 0, [3, 4, 9])), (279, (24, 180, 0, [1, 2, 9])), (284, (24, 182, 0, [2, 3, 9])), (288, (24, 184, 0, [2, 3, 9])), (292, (24, 186, 0, [0, 1, 9])), (296, (24, 187, 0, [0, 2, 9])), (300, (24, 188, 0, [2, 4, 9])), (304, (24, 192, 0, [3, 4, 9])), (308, (24, 194, 0, [2, 4, 9])), (312, (24, 195, 0, [1, 2, 9])), (316, (24, 197, 0, [1, 2, 9])), (320, (24, 198, 0, [1, 2, 9])), (324, (24, 199, 0, [3, 4, 9])), (330, (24, 202, 0, [3, 5, 9])), (335, (24, 205, 0, [5, 6, 9])), (10, (21, 10, 0, [])), (12, (24, 209, 1, [0, 2, 10])), (327, (24, 210, 0, [3, 5, 10])), (334, (24, 213, 0, [3, 5, 10])), (338, (24, 215, 0, [5, 7, 10])), (17, (24, 216, 0, [5, 6, 10])), (22, (24, 218, 0, [1, 2, 10])), (31, (24, 219, 0, [1, 2, 10])), (27, (24, 220, 0, [0, 1, 10])), (36, (24, 244, 0, [2, 3, 10])), (40, (24, 247, 0, [1, 2, 10])), (44, (24, 249, 0, [2, 3, 10])), (48, (24, 252, 0, [1, 4, 10])), (52, (24, 266, 0, [1, 2, 10])), (56, (24, 269, 0, [2, 3, 10])), (60, (24, 270, 0, [1, 2, 10])), (64, (24, 271, 0, [1, 2, 10])), (68, (24, 272, 0, [1, 5, 10])), (72, (24, 273, 0, [1, 2, 10])), (76, (24, 275, 0, [0, 3, 10])), (80, (24, 277, 0, [2, 3, 10])), (84, (24, 279, 0, [2, 3, 10])), (88, (24, 280, 0, [1, 4, 10])), (92, (24, 282, 0, [1, 3, 10])), (96, (24, 283, 0, [1, 4, 10])), (100, (24, 285, 0, [1, 4, 10])), (104, (24, 286, 0, [2, 5, 10])), (108, (24, 287, 0, [1, 2, 10])), (112, (24, 290, 0, [2, 3, 10])), (116, (24, 291, 0, [1, 3, 10])), (120, (24, 292, 0, [0, 3, 10])), (124, (24, 293, 0, [0, 1, 10])), (128, (24, 296, 0, [0, 3, 10])), (132, (24, 297, 0, [1, 2, 10])), (136, (24, 299, 0, [1, 2, 10])), (140, (24, 300, 0, [0, 3, 10])), (144, (24, 301, 0, [0, 3, 10])), (148, (24, 302, 0, [1, 4, 10])), (152, (24, 304, 0, [1, 2, 10])), (156, (24, 305, 0, [1, 4, 10])), (160, (24, 306, 0, [1, 2, 10])), (164, (24, 308, 0, [1, 2, 10])), (168, (24, 309, 0, [0, 3, 10])), (172, (24, 310, 0, [0, 4, 10])), (176, (24, 311, 0, [1, 4, 10])), (180, (24, 312, 0, [1, 2, 10])), (184, (24, 313, 0, [0, 3, 10])), (188, (24, 316, 0, [2, 3, 10])), (192, (24, 318, 0, [1, 2, 10])), (196, (24, 322, 0, [1, 2, 10])), (200, (24, 323, 0, [1, 2, 10])), (204, (24, 324, 0, [1, 2, 10])), (208, (24, 325, 0, [1, 7, 10])), (212, (24, 326, 0, [1, 3, 10])), (216, (24, 328, 0, [1, 2, 10])), (220, (24, 329, 0, [1, 5, 10])), (224, (24, 330, 0, [0, 6, 10])), (228, (24, 331, 0, [2, 4, 10])), (232, (24, 338, 0, [2, 5, 10])), (236, (24, 339, 0, [2, 5, 10])), (240, (24, 340, 0, [2, 4, 10])), (244, (24, 341, 0, [2, 4, 10])), (248, (24, 342, 0, [1, 5, 10])), (252, (24, 344, 0, [1, 2, 10])), (256, (24, 345, 0, [0, 3, 10])), (260, (24, 346, 0, [1, 2, 10])), (264, (24, 348, 0, [2, 7, 10])), (268, (24, 353, 0, [2, 8, 10])), (273, (24, 356, 0, [4, 5, 10])), (278, (24, 357, 0, [3, 4, 10])), (283, (24, 360, 0, [1, 2, 10])), (303, (24, 361, 0, [2, 4, 10])), (307, (24, 364, 0, [3, 6, 10])), (287, (24, 365, 0, [2, 3, 10])), (291, (24, 367, 0, [2, 5, 10])), (295, (24, 368, 0, [0, 1, 10])), (299, (24, 369, 0, [0, 2, 10])), (311, (24, 370, 0, [2, 4, 10])), (315, (24, 371, 0, [1, 4, 10])), (319, (24, 372, 0, [1, 2, 10])), (323, (24, 373, 0, [1, 2, 10])), (328, (1, 0, 4294967295, []))]
def m_lk_1 : List (Nat × (Nat × Nat × Int × List Nat)) := [(3, (25, 0, 0, [])), (9, (21, 5, 0, [])), (11, (24, 1, 4, [0, 1, 5])), (99, (15, 1, 0, [])), (196, (15, 1, 1, [])), (360, (15, 1, 2, [])), (363, (15, 1, 3, [])), (203, (15, 1, 4, [])), (366, (15, 1, 5, [])), (160, (15, 1, 6, [])), (344, (15, 1, 7, [])), (112, (15, 1, 8, [])), (116, (15, 1, 9, [])), (119, (15, 1, 10, [])), (125, (15, 1, 11, [])), (128, (15, 1, 12, [])), (131, (15, 1, 13, [])), (83, (15, 5, 1, [])), (102, (15, 5, 2, [])), (105, (15, 5, 3, [])), (90, (15, 5, 4, [])), (16, (21, 1, 0, [])), (18, (24, 2, 4, [0, 1, 1])), (23, (21, 2, 0, [])), (25, (24, 3, 1, [1, 2, 2])), (134, (15, 2, 13, [])), (221, (15, 2, 14, [])), (32, (21, 4, 0, [])), (34, (24, 4, 1, [1, 2, 4])), (39, (21, 8, 0, [])), (41, (24, 5, 1, [1, 2, 8])), (300, (15, 8, 3, [])), (46, (21, 6, 0, [])), (48, (24, 7, 4, [0, 1, 6])), (53, (21, 7, 0, [])), (55, (24, 8, 1, [2, 3, 7])), (260, (15, 7, 2, [])), (62, (21, 0, 0, [])), (64, (24, 9, 1, [1, 2, 0])), (331, (15, 0, 1, [])), (12, (15, 9, 0, [])), (19, (15, 9, 1, [])), (28, (15, 9, 2, [])), (35, (15, 9, 3, [])), (42, (15, 9, 4, [])), (58, (15, 9, 5, [])), (67, (15, 9, 6, [])), (49, (15, 9, 7, [])), (71, (15, 9, 8, [])), (370, (15, 9, 9, [])), (75, (24, 11, 0, [0, 1, 5])), (79, (24, 12, 0, [1, 3, 5])), (87, (24, 15, 0, [0, 2, 5])), (93, (24, 34, 0, [1, 2, 1])), (96, (24, 35, 0, [0, 1, 9])), (394, (24, 36, 0, [0, 3, 2])), (397, (24, 38, 0, [2, 9, 2])), (108, (24, 51, 0, [1, 2, 9])), (122, (24, 54, 0, [1, 2, 9])), (137, (24, 57, 0, [1, 2, 2])), (141, (24, 59, 0, [2, 3, 2])), (145, (24, 61, 0, [1, 2, 2])), (148, (24, 63, 0, [1, 2, 2])), (151, (24, 65, 0, [1, 4, 2])), (154, (24, 69, 0, [1, 5, 2])), (157, (24, 71, 0, [0, 1, 1])), (163, (24, 40, 0, [1, 2, 2])), (166, (24, 73, 0, [1, 2, 9])), (169, (24, 74, 0, [2, 3, 2])), (172, (24, 76, 0, [2, 3, 2])), (175, (24, 78, 0, [1, 4, 2])), (178, (24, 80, 0, [1, 3, 2])), (181, (24, 82, 0, [1, 4, 2])), (184, (24, 84, 0, [1, 4, 2])), (187, (24, 86, 0, [1, 4, 2])), (190, (24, 88, 0, [1, 4, 2])), (193, (24, 89, 0, [2, 5, 2])), (199, (24, 94, 0, [0, 3, 2])), (206, (24, 101, 0, [1, 2, 9])), (209, (24, 102, 0, [1, 4, 2])), (212, (24, 106, 0, [2, 8, 2])), (215, (24, 111, 0, [1, 4, 2])), (218, (24, 39, 0, [0, 1, 1])), (224, (24, 114, 0, [0, 3, 4])), (227, (24, 117, 0, [2, 3, 4])), (230, (24, 119, 0, [1, 6, 4])), (233, (24, 120, 0, [2, 5, 4])), (236, (24, 123, 0, [1, 6, 4])), (239, (24, 126, 0, [1, 6, 4])), (242, (24, 129, 0, [1, 6, 8])), (245, (24, 67, 2, [1, 1, 99])), (250, (24, 133, 0, [1, 6, 8])), (253, (24, 135, 0, [1, 7, 8])), (257, (24, 137, 0, [2, 4, 9])), (275, (24, 138, 0, [1, 2, 6])), (278, (24, 139, 0, [1, 2, 9])), (380, (24, 140, 0, [1, 2, 6])), (403, (24, 141, 0, [1, 8, 7])), (400, (24, 144, 0, [2, 5, 7])), (263, (24, 147, 0, [0, 1, 7])), (266, (24, 149, 0, [0, 1, 7])), (269, (24, 151, 0, [0, 5, 7])), (272, (24, 152, 0, [1, 6, 7])), (281, (24, 155, 0, [1, 4, 7])), (284, (24, 157, 0, [1, 2, 8])), (287, (24, 159, 0, [0, 5, 8])), (290, (24, 130, 0, [0, 1, 8])), (293, (24, 161, 0, [1, 2, 8])), (296, (0, 0, (-1000000), [])), (297, (24, 163, 0, [1, 9, 8])), (304, (24, 168, 0, [1, 2, 3])), (310, (24, 170, 0, [2, 3, 9])), (314, (24, 171, 0, [2, 6, 8])), (317, (24, 175, 0, [1, 2, 9])), (320, (24, 172, 0, [4, 5, 8])), (324, (24, 173, 0, [2, 3, 8])), (327, (24, 177, 0, [2, 8, 0])), (332, (1, 0, (-2), [])), (334, (24, 181, 0, [0, 6, 0])), (337, (24, 183, 0, [3, 4, 1])), (341, (24, 185, 0, [0, 3, 2])), (347, (24, 189, 0, [1, 2, 0])), (350, (24, 190, 0, [1, 6, 0])), (353, (24, 191, 0, [1, 2, 0])), (356, (24, 193, 0, [3, 6, 0])), (369, (24, 196, 0, [0, 3, 6])), (373, (24, 200, 0, [1, 2, 6])), (376, (24, 201, 0, [3, 5, 6])), (383, (24, 203, 0, [3, 5, 6])), (387, (24, 206, 0, [2, 3, 6])), (390, (24, 207, 0, [5, 6, 6]))]
def m_lk_2 : List (Nat × (Nat × Nat × Int × List Nat)) := [(3, (25, 0, 0, [])), (19, (21, 1, 0, [])), (21, (24, 2, 4, [0, 1, 1])), (47, (15, 1, 0, [])), (91, (15, 1, 1, [])), (95, (15, 1, 2, [])), (99, (15, 1, 3, [])), (101, (15, 1, 4, [])), (113, (15, 1, 5, [])), (118, (15, 1, 6, [])), (106, (15, 1, 8, [])), (111, (15, 1, 9, [])), (116, (15, 1, 10, [])), (123, (15, 1, 11, [])), (127, (15, 1, 12, [])), (131, (15, 1, 13, [])), (11, (15, 5, 0, [])), (26, (15, 5, 1, [])), (32, (15, 5, 2, [])), (15, (15, 5, 3, [])), (22, (15, 5, 4, [])), (41, (15, 5, 5, [])), (72, (15, 5, 6, [])), (35, (15, 5, 7, [])), (133, (15, 5, 8, [])), (29, (24, 16, 0, [0, 1, 1])), (38, (24, 18, 0, [0, 1, 5])), (146, (24, 19, 0, [1, 2, 5])), (150, (24, 20, 0, [1, 2, 5])), (153, (24, 21, 0, [0, 1, 5])), (156, (24, 22, 0, [1, 2, 5])), (159, (24, 23, 0, [0, 1, 5])), (44, (24, 25, 0, [0, 1, 5])), (50, (24, 26, 0, [0, 1, 5])), (81, (24, 27, 0, [1, 2, 5])), (55, (24, 28, 0, [1, 3, 5])), (75, (24, 29, 0, [2, 3, 5])), (87, (24, 30, 0, [2, 4, 5])), (59, (24, 31, 0, [0, 3, 5])), (64, (24, 32, 0, [0, 4, 5])), (69, (24, 33, 0, [0, 2, 5]))]
def m_lk_3 : List (Nat × (Nat × Nat × Int × List Nat)) := [(3, (25, 0, 0, [])), (39, (15, 1, 0, [])), (43, (15, 1, 1, [])), (46, (15, 1, 2, [])), (49, (15, 1, 3, [])), (52, (15, 1, 4, [])), (55, (15, 1, 5, [])), (58, (15, 1, 6, [])), (61, (15, 1, 7, [])), (9, (15, 1, 8, [])), (15, (15, 1, 9, [])), (18, (15, 1, 10, [])), (21, (15, 1, 11, [])), (24, (15, 1, 12, [])), (27, (15, 1, 13, [])), (30, (15, 1, 14, [])), (33, (15, 1, 15, [])), (36, (15, 1, 16, [])), (64, (24, 17, 2, [2, 4, 99])), (70, (26, 0, 0, []))]
def m_lk_4 : List (Nat × (Nat × Nat × Int × List Nat)) := [(68, (15, 1, 1, [])), (156, (15, 1, 2, [])), (134, (15, 1, 4, [])), (73, (15, 1, 6, [])), (83, (15, 1, 7, [])), (104, (15, 1, 8, [])), (131, (15, 1, 10, [])), (164, (15, 1, 12, [])), (76, (15, 1, 13, [])), (89, (15, 1, 14, [])), (92, (15, 1, 15, [])), (86, (15, 1, 16, [])), (3, (25, 0, 0, [])), (60, (15, 2, 0, [])), (64, (15, 2, 1, [])), (9, (15, 2, 2, [])), (15, (15, 2, 3, [])), (18, (15, 2, 4, [])), (21, (15, 2, 5, [])), (95, (15, 2, 6, [])), (24, (15, 2, 7, [])), (27, (15, 2, 8, [])), (30, (15, 2, 9, [])), (33, (15, 2, 10, [])), (36, (15, 2, 11, [])), (39, (15, 2, 12, [])), (42, (15, 2, 13, [])), (45, (15, 2, 14, [])), (48, (15, 2, 15, [])), (51, (15, 2, 16, [])), (54, (15, 2, 17, [])), (57, (15, 2, 18, [])), (79, (24, 37, 0, [3, 4, 2])), (98, (24, 17, 2, [2, 4, 99])), (107, (26, 0, 0, [])), (113, (24, 39, 0, [0, 1, 1])), (117, (24, 40, 0, [1, 2, 2])), (121, (24, 41, 0, [1, 6, 2])), (128, (24, 42, 0, [1, 4, 2])), (125, (24, 43, 0, [3, 9, 2])), (137, (24, 44, 0, [3, 6, 1])), (141, (24, 46, 5, [3, 3, 9])), (144, (24, 47, 0, [3, 4, 2])), (159, (24, 48, 2, [2, 2, 99])), (167, (24, 66, 0, [2, 5, 2])), (176, (24, 67, 2, [1, 1, 99])), (170, (24, 59, 0, [2, 3, 2])), (179, (24, 89, 0, [2, 5, 2])), (173, (24, 61, 0, [1, 2, 2]))]
def m_lk_5 : List (Nat × (Nat × Nat × Int × List Nat)) := [(69, (15, 1, 1, [])), (89, (15, 1, 2, [])), (95, (15, 1, 4, [])), (76, (15, 1, 6, [])), (111, (15, 1, 11, [])), (53, (15, 1, 12, [])), (73, (15, 1, 13, [])), (3, (25, 0, 0, [])), (15, (21, 1, 0, [])), (17, (24, 2, 4, [0, 1, 1])), (21, (21, 2, 0, [])), (23, (24, 3, 1, [1, 2, 2])), (30, (21, 3, 0, [])), (32, (24, 6, 4, [0, 1, 3])), (9, (15, 8, 0, [])), (18, (15, 8, 1, [])), (26, (15, 8, 2, [])), (33, (15, 8, 3, [])), (37, (15, 8, 4, [])), (41, (15, 8, 5, [])), (50, (24, 130, 0, [0, 1, 8])), (44, (24, 34, 0, [1, 2, 1])), (47, (24, 36, 0, [0, 3, 2])), (56, (24, 38, 0, [2, 9, 2])), (60, (24, 61, 0, [1, 2, 2])), (64, (24, 67, 2, [1, 1, 99])), (79, (24, 94, 0, [0, 3, 2])), (92, (24, 157, 0, [1, 2, 8])), (98, (24, 39, 0, [0, 1, 1])), (104, (24, 161, 0, [1, 2, 8])), (107, (24, 164, 0, [2, 7, 3])), (114, (24, 172, 0, [4, 5, 8])), (118, (24, 173, 0, [2, 3, 8]))]
def m_lk_6 : List (Nat × (Nat × Nat × Int × List Nat)) := [(90, (15, 1, 2, [])), (42, (15, 1, 6, [])), (61, (15, 1, 8, [])), (36, (15, 8, 0, [])), (58, (15, 8, 1, [])), (64, (15, 8, 2, [])), (3, (25, 0, 0, [])), (18, (15, 7, 0, [])), (22, (15, 7, 1, [])), (55, (15, 7, 2, [])), (9, (15, 7, 3, [])), (15, (15, 7, 4, [])), (26, (24, 142, 0, [1, 2, 6])), (32, (24, 143, 0, [2, 3, 6])), (48, (1, 0, (-1), [])), (50, (1, 0, 200, [])), (52, (24, 130, 0, [0, 1, 8])), (68, (24, 38, 0, [2, 9, 2])), (74, (24, 145, 0, [1, 4, 7])), (78, (24, 61, 0, [1, 2, 2])), (81, (24, 152, 0, [1, 6, 7]))]
def m_lk_7 : List (Nat × (Nat × Nat × Int × List Nat)) := [(67, (15, 1, 3, [])), (31, (15, 1, 6, [])), (27, (15, 8, 0, [])), (41, (15, 8, 2, [])), (3, (25, 0, 0, [])), (15, (21, 3, 0, [])), (17, (24, 6, 4, [0, 1, 3])), (9, (15, 0, 0, [])), (18, (15, 0, 1, [])), (22, (24, 130, 0, [0, 1, 8])), (37, (24, 178, 0, [1, 5, 0])), (45, (24, 38, 0, [2, 9, 2])), (51, (24, 61, 0, [1, 2, 2])), (55, (24, 179, 0, [0, 4, 0])), (70, (1, 0, 10, [])), (59, (24, 164, 0, [2, 7, 3])), (63, (24, 94, 0, [0, 3, 2])), (72, (0, 0, 2000000000, [])), (73, (1, 0, 1103515245, [])), (75, (1, 0, 12345, [])), (77, (1, 0, 2147483648, [])), (79, (1, 0, 65536, [])), (81, (24, 190, 0, [1, 6, 0])), (84, (24, 40, 0, [1, 2, 2]))]
def m_lk_8 : List (Nat × (Nat × Nat × Int × List Nat)) := [(40, (15, 1, 4, [])), (29, (15, 1, 8, [])), (53, (15, 1, 10, [])), (3, (25, 0, 0, [])), (15, (15, 4, 0, [])), (9, (15, 4, 1, [])), (19, (24, 39, 0, [0, 1, 1])), (25, (24, 115, 0, [1, 3, 4])), (47, (24, 67, 2, [1, 1, 99])), (32, (24, 44, 0, [3, 6, 1])), (36, (24, 120, 0, [2, 5, 4])), (56, (24, 117, 0, [2, 3, 4])), (59, (24, 46, 5, [3, 3, 9])), (44, (24, 127, 0, [2, 6, 4]))]
def m_lk_9 : List (Nat × (Nat × Nat × Int × List Nat)) := [(1, (25, 0, 0, [])), (26, (15, 3, 0, [])), (7, (15, 3, 1, [])), (19, (24, 166, 0, [2, 12, 3]))]
def m_lk_10 : List (Nat × (Nat × Nat × Int × List Nat)) := [(3, (25, 0, 0, [])), (11, (15, 6, 0, [])), (15, (15, 6, 1, [])), (19, (15, 6, 2, [])), (22, (24, 140, 0, [1, 2, 6])), (32, (24, 204, 0, [2, 4, 6])), (36, (24, 208, 0, [3, 4, 6])), (40, (26, 0, 0, []))]
def m_lk_11 : List (Nat × (Nat × Nat × Int × List Nat)) := [(265, (0, 0, 1431655765, [])), (266, (0, 0, 858993459, [])), (267, (0, 0, 252645135, []))]
def m_lk_12 : List (Nat × (Nat × Nat × Int × List Nat)) := [(1, (25, 0, 0, [])), (92, (15, 10, 0, [])), (7, (15, 10, 1, [])), (13, (15, 10, 2, [])), (16, (15, 10, 3, [])), (20, (15, 10, 4, [])), (23, (15, 10, 5, [])), (109, (15, 10, 6, [])), (116, (15, 10, 7, [])), (133, (15, 10, 8, [])), (123, (15, 10, 9, [])), (126, (15, 10, 10, [])), (129, (15, 10, 11, [])), (144, (15, 10, 12, [])), (147, (15, 10, 13, [])), (171, (15, 10, 14, [])), (27, (15, 10, 15, [])), (31, (15, 10, 16, [])), (34, (15, 10, 17, [])), (37, (15, 10, 18, [])), (40, (15, 10, 19, [])), (43, (15, 10, 20, [])), (46, (15, 10, 21, [])), (49, (15, 10, 22, [])), (268, (15, 10, 23, [])), (271, (15, 10, 24, [])), (274, (15, 10, 25, [])), (53, (15, 10, 26, [])), (56, (15, 10, 27, [])), (59, (15, 10, 28, [])), (62, (15, 10, 29, [])), (292, (15, 10, 30, [])), (65, (15, 10, 31, [])), (68, (15, 10, 32, [])), (71, (15, 10, 33, [])), (74, (15, 10, 34, [])), (77, (15, 10, 35, [])), (80, (15, 10, 36, [])), (83, (15, 10, 37, [])), (86, (15, 10, 38, [])), (397, (15, 10, 39, [])), (403, (15, 10, 40, [])), (391, (15, 10, 41, [])), (89, (15, 10, 42, [])), (101, (24, 211, 2, [1, 1, 10])), (95, (1, 0, 3, [])), (97, (24, 212, 2, [3, 6, 10])), (105, (24, 214, 2, [2, 3, 10])), (112, (24, 217, 0, [1, 3, 10])), (218, (24, 221, 0, [0, 2, 10])), (185, (24, 222, 0, [2, 3, 10])), (221, (24, 223, 0, [0, 1, 10])), (154, (24, 224, 0, [0, 2, 10])), (119, (24, 225, 0, [3, 4, 10])), (136, (1, 0, (-1), [])), (138, (1, 0, 27, [])), (140, (1, 0, 96, [])), (142, (0, 0, 100000, [])), (143, (0, 0, 1000000, [])), (224, (24, 226, 0, [0, 1, 10])), (228, (1, 0, 1301042189, [])), (163, (24, 227, 0, [1, 3, 10])), (157, (24, 228, 0, [1, 3, 10])), (150, (24, 229, 0, [1, 3, 10])), (160, (24, 230, 0, [1, 2, 10])), (230, (1, 0, 80155, [])), (180, (24, 231, 0, [3, 5, 10])), (167, (24, 232, 0, [2, 4, 10])), (232, (1, 0, 8798, [])), (234, (1, 0, 298288, [])), (236, (24, 233, 0, [0, 1, 10])), (199, (1, 0, 194907051, [])), (201, (24, 234, 0, [3, 4, 10])), (174, (24, 235, 0, [1, 2, 10])), (205, (24, 236, 0, [0, 3, 10])), (178, (1, 0, 283619009, [])), (183, (1, 0, 454132, [])), (208, (1, 0, 8276, [])), (210, (24, 237, 0, [0, 2, 10])), (189, (24, 238, 0, [2, 6, 10])), (213, (1, 0, 1629833, [])), (215, (24, 239, 0, [0, 2, 10])), (193, (1, 0, 332864551, [])), (195, (1, 0, 10280026, [])), (197, (1, 0, 47, [])), (239, (24, 240, 0, [0, 1, 10])), (242, (24, 241, 0, [0, 1, 10])), (245, (24, 242, 0, [2, 3, 10])), (248, (24, 243, 2, [4, 5, 10])), (325, (24, 245, 0, [1, 2, 10])), (252, (24, 246, 0, [0, 1, 10])), (328, (1, 0, 4, [])), (280, (24, 248, 0, [1, 4, 10])), (265, (24, 250, 0, [1, 3, 10])), (256, (24, 251, 0, [0, 1, 10])), (330, (1, 0, 2, [])), (332, (24, 253, 0, [0, 1, 10])), (313, (24, 254, 0, [0, 2, 10])), (316, (24, 255, 0, [0, 5, 10])), (262, (24, 256, 0, [0, 1, 10])), (306, (24, 257, 0, [1, 4, 10])), (277, (24, 258, 2, [2, 2, 10])), (309, (24, 259, 0, [3, 8, 10])), (289, (24, 260, 0, [1, 7, 10])), (295, (24, 261, 0, [4, 7, 10])), (283, (24, 262, 2, [2, 2, 10])), (299, (24, 263, 2, [3, 3, 10])), (286, (24, 264, 2, [2, 2, 10])), (303, (24, 265, 0, [2, 7, 10])), (335, (24, 267, 0, [3, 4, 10])), (319, (24, 268, 0, [1, 2, 10])), (338, (24, 274, 0, [1, 3, 10])), (259, (24, 276, 0, [0, 1, 10])), (341, (24, 278, 0, [1, 2, 10])), (344, (24, 281, 0, [2, 3, 10])), (347, (24, 284, 0, [2, 5, 10])), (353, (24, 288, 0, [1, 4, 10])), (350, (24, 289, 0, [2, 5, 10])), (356, (24, 294, 0, [0, 3, 10])), (322, (24, 295, 0, [1, 2, 10])), (359, (24, 298, 0, [2, 5, 10])), (362, (24, 303, 0, [1, 2, 10])), (365, (24, 307, 0, [2, 7, 10])), (371, (24, 314, 0, [1, 3, 10])), (368, (24, 315, 2, [1, 3, 10])), (374, (24, 317, 0, [2, 3, 10])), (383, (24, 319, 0, [2, 4, 10])), (380, (24, 320, 0, [2, 5, 10])), (377, (24, 321, 0, [2, 5, 10])), (386, (24, 327, 0, [1, 6, 10])), (412, (24, 332, 0, [2, 5, 10])), (389, (1, 0, 200, [])), (416, (24, 333, 0, [2, 5, 10])), (394, (24, 334, 0, [1, 3, 10])), (400, (24, 335, 0, [0, 3, 10])), (409, (24, 336, 0, [1, 2, 10])), (406, (24, 337, 0, [1, 6, 10])), (419, (24, 343, 0, [1, 2, 10])), (422, (24, 347, 0, [1, 2, 10])), (432, (24, 349, 2, [1, 1, 10])), (435, (0, 0, (-1000000), [])), (425, (24, 350, 2, [1, 1, 10])), (436, (24, 351, 2, [3, 5, 10])), (428, (24, 352, 2, [2, 4, 10])), (440, (24, 354, 0, [2, 3, 10])), (443, (24, 355, 0, [5, 6, 10])), (452, (24, 358, 0, [2, 8, 10])), (450, (1, 0, 10, [])), (447, (24, 359, 2, [2, 3, 10])), (456, (1, 0, (-2), [])), (468, (24, 362, 2, [1, 1, 10])), (466, (1, 0, 2000000000, [])), (471, (24, 363, 0, [1, 7, 10])), (458, (1, 0, 1103515245, [])), (460, (1, 0, 12345, [])), (462, (1, 0, 2147483648, [])), (464, (1, 0, 65536, [])), (475, (1, 0, 20, [])), (477, (24, 366, 0, [3, 5, 10])), (480, (1, 0, 15, [])), (482, (1, 0, 6, []))]
def m_lko : List (String × List (Nat × (Nat × Nat × Int × List Nat))) := [("MotherBenchLaw", m_lk_0), ("MotherBench", m_lk_1), ("MotherBench$Reader", m_lk_2), ("MotherBench$Circuit", m_lk_3), ("MotherBench$Court", m_lk_4), ("MotherBench$Trial", m_lk_5), ("MotherBench$Seen", m_lk_6), ("MotherBench$Chances", m_lk_7), ("MotherBench$Panels", m_lk_8), ("MotherBench$Fraction", m_lk_9), ("MotherBench$Rows", m_lk_10), ("java/lang/Integer", m_lk_11), ("MotherBenchModel", m_lk_12)]
def m_lk (o : String) (i : Nat) : Option (Nat × Nat × Int × List Nat) := match m_lko.lookup o with
  | some t => t.lookup i
  | none => none
end
section
/-! THE SMALL MACHINE: cells by their places, instructions as numbers; what the kit's rows say of the real one, said once for all programs -/
abbrev m_E : Type := (Nat × (List Int32 ⊕ (List Int64 ⊕ List (Option Nat)))) ⊕ (Nat × List Value)
abbrev m_S : Type := List m_E
abbrev m_V : Type := List (Nat × Value)
abbrev m_I : Type := Nat × Nat × Int × List Nat
abbrev m_O : Type := (Nat × m_V × List Value × m_S) ⊕ (Option Value ⊕ (Nat × List Value × List Value))
abbrev m_fzb : Nat := 1000000
def m_k (v : Value) : Int := match v with
  | .int _ => 0
  | .long _ => 1
  | .ref _ => 2
  | _ => 3
def m_ld (lv : m_V) (i : Nat) : Option Value := (lv.find? (fun q => q.1 == i)).map (fun q => q.2)
def m_st1 (lv : m_V) (i : Nat) (v : Value) : m_V := (i, v) :: lv.filter (fun q => !(q.1 == i) && !(q.1 + 1 == i && q.2.category == 2))
def m_st2 (lv : m_V) (i : Nat) (v : Value) : m_V := (i, v) :: lv.filter (fun q => !(q.1 == i) && (!(q.1 == i + 1) && !(q.1 + 1 == i && q.2.category == 2)))
def m_ib (k : Nat) (x y : Int32) : Option Int32 := match k with
  | 0 => some (x + y)
  | 1 => some (x - y)
  | 2 => some (x * y)
  | 3 => some (x &&& y)
  | 4 => some (x ||| y)
  | 5 => some (x ^^^ y)
  | 6 => some (x <<< (y &&& 31))
  | 7 => some (x >>> (y &&& 31))
  | 8 => some ((x.toUInt32 >>> (y.toUInt32 &&& Int32.toUInt32 31)).toInt32)
  | 9 => if y = 0 then none else some (x / y)
  | 10 => if y = 0 then none else some (x - x / y * y)
  | _ => none
def m_lb (k : Nat) (x y : Int64) : Option Int64 := match k with
  | 0 => some (x + y)
  | 1 => some (x - y)
  | 2 => some (x * y)
  | 3 => some (x &&& y)
  | 4 => some (x ||| y)
  | 5 => if y = 0 then none else some (x / y)
  | 6 => if y = 0 then none else some (x - x / y * y)
  | _ => none
def m_lsh (k : Nat) (x : Int64) (y : Int32) : Option Int64 := match k with
  | 0 => some (x <<< (y.toInt64 &&& 63))
  | 1 => some (x >>> (y.toInt64 &&& 63))
  | _ => none
def m_un (k : Nat) (v : Value) : Option Value := match k, v with
  | 0, .int x => some (.int (-x))
  | 1, .int x => some (.long x.toInt64)
  | 2, .long x => some (.int x.toInt32)
  | 3, .int x => some (.int x.toInt8.toInt32)
  | 4, .int x => some (.int x.toInt16.toInt32)
  | 5, .long x => some (.long (-x))
  | _, _ => none
def m_stk (k : Nat) (st : List Value) : Option (List Value) := match k, st with
  | 0, a :: r => if a.category = 1 then some r else none
  | 1, a :: r => if a.category = 2 then some r else none
  | 2, a :: r => if a.category = 1 then some (a :: a :: r) else none
  | 3, a :: b :: r => if a.category = 1 ∧ b.category = 1 then some (a :: b :: a :: b :: r) else none
  | _, _ => none
def m_cd (k : Int) (x y : Int32) : Bool := match k with
  | 0 => decide (x = y)
  | 1 => decide (¬ x = y)
  | 2 => decide (x < y)
  | 3 => decide (y ≤ x)
  | 4 => decide (y < x)
  | _ => decide (x ≤ y)
def m_tsw (d : Nat) (lo : Int) (l : List Nat) (x : Int) : Nat := if x < lo then d else (l[(x - lo).toNat]?).getD d
def m_lsw (d : Nat) (l : List Nat) (x : Int) : Nat := match l with
  | k :: t :: r => if (k : Int) = x then t else m_lsw d r x
  | _ => d
def m_in (i : Int32) (n : Nat) : Bool := decide (0 ≤ i.toInt ∧ i.toInt < n)
def m_fit (ty : FieldType) (v : Value) : Bool := match ty, v with
  | .int, .int _ => true
  | .long, .long _ => true
  | .object _, .ref _ => true
  | .array _, .ref _ => true
  | _, _ => false
def m_ald (fz : List (List Int32)) (a : Nat) (i : Int32) (b : Nat) (σ : m_S) : Option Value :=
  if m_fzb ≤ b then match fz[b - m_fzb]? with
    | some xs => if a = 0 ∧ m_in i xs.length = true then some (.int (xs.getD i.toNatClampNeg 0)) else none
    | none => none
  else match σ[b]? with
    | some (.inl (t, .inl xs)) => if (a = 0 ∧ t = 0 ∨ a = 1 ∧ (t = 1 ∨ t = 2)) ∧ m_in i xs.length = true then some (.int (xs.getD i.toNatClampNeg 0)) else none
    | some (.inl (t, .inr (.inl xs))) => if a = 2 ∧ t = 3 ∧ m_in i xs.length = true then some (.long (xs.getD i.toNatClampNeg 0)) else none
    | some (.inl (t, .inr (.inr xs))) => if a = 3 ∧ t = 4 ∧ m_in i xs.length = true then some (va_rf (xs.getD i.toNatClampNeg none)) else none
    | _ => none
def m_ast (a : Nat) (w : Value) (i : Int32) (b : Nat) (σ : m_S) : Option m_S :=
  match σ[b]?, w with
    | some (.inl (t, .inl xs)), .int x => if m_in i xs.length = true then (if a = 0 ∧ t = 0 then some (σ.set b (.inl (t, .inl (xs.set i.toNatClampNeg x)))) else if a = 1 ∧ t = 1 then some (σ.set b (.inl (t, .inl (xs.set i.toNatClampNeg (vp_nar .byte x))))) else if a = 1 ∧ t = 2 then some (σ.set b (.inl (t, .inl (xs.set i.toNatClampNeg (vp_nar .boolean x))))) else none) else none
    | some (.inl (t, .inr (.inl xs))), .long x => if a = 2 ∧ t = 3 ∧ m_in i xs.length = true then some (σ.set b (.inl (t, .inr (.inl (xs.set i.toNatClampNeg x))))) else none
    | some (.inl (t, .inr (.inr xs))), .ref r => match σ[r]? with
      | some (.inr (ci, _)) => if ci = 1 ∧ a = 3 ∧ t = 4 ∧ m_in i xs.length = true then some (σ.set b (.inl (t, .inr (.inr (xs.set i.toNatClampNeg (some r)))))) else none
      | _ => none
    | _, _ => none
def m_len (fz : List (List Int32)) (b : Nat) (σ : m_S) : Option Nat :=
  if m_fzb ≤ b then (fz[b - m_fzb]?).map List.length
  else match σ[b]? with
    | some (.inl (t, .inl xs)) => if t < 3 then some xs.length else none
    | some (.inl (t, .inr (.inl xs))) => if t = 3 then some xs.length else none
    | some (.inl (t, .inr (.inr xs))) => if t = 4 then some xs.length else none
    | _ => none
def m_okv (n : Nat) (v : Value) : Bool := match v with
  | .ref k => decide (k < n) || decide (m_fzb ≤ k)
  | _ => true
def m_oke (n : Nat) (e : m_E) : Bool := match e with
  | .inl (_, .inr (.inr xs)) => xs.all (fun r => match r with
    | some k => decide (k < n) || decide (m_fzb ≤ k)
    | none => true)
  | .inl _ => true
  | .inr (_, fs) => fs.all (m_okv n)
def m_okl (n : Nat) (lv : m_V) : Bool := lv.all (fun q => m_okv n q.2)
def m_wf (lv : m_V) (st : List Value) (σ : m_S) : Bool := decide (σ.length < m_fzb) && m_okl σ.length lv && st.all (m_okv σ.length) && σ.all (m_oke σ.length)
def m_cpy {α : Type} (d : α) (xs ys : List α) (sp dp n : Nat) : List α := (List.range ys.length).map (fun k => va_cpy (fun j => xs.getD j d) (fun j => ys.getD j d) sp dp n k)
def m_acp (n dp b1 sp b0 : Nat) (σ : m_S) : Option m_S := match σ[b0]?, σ[b1]? with
  | some (.inl (t, .inl xs)), some (.inl (t', .inl ys)) => if t = 0 ∧ t' = 0 ∧ sp + n ≤ xs.length ∧ dp + n ≤ ys.length then some (σ.set b1 (.inl (t', .inl (m_cpy 0 xs ys sp dp n)))) else none
  | some (.inl (t, .inr (.inl xs))), some (.inl (t', .inr (.inl ys))) => if t = 3 ∧ t' = 3 ∧ sp + n ≤ xs.length ∧ dp + n ≤ ys.length then some (σ.set b1 (.inl (t', .inr (.inl (m_cpy 0 xs ys sp dp n))))) else none
  | _, _ => none
def m_new (t n : Nat) : Option m_E := match t with
  | 0 => some (.inl (0, .inl (List.replicate n 0)))
  | 1 => some (.inl (1, .inl (List.replicate n 0)))
  | 2 => some (.inl (2, .inl (List.replicate n 0)))
  | 3 => some (.inl (3, .inr (.inl (List.replicate n 0))))
  | 4 => some (.inl (4, .inr (.inr (List.replicate n none))))
  | _ => none
def m_def (a : Nat) : List Value := (List.range (m_nf a)).map (fun k => defaultValue (m_tyf a k))
def m_step (fz : List (List Int32)) (I : m_I) (nx : Nat) (lv : m_V) (st : List Value) (σ : m_S) : Option m_O :=
  match I.1 with
  | 0 => some (.inl (nx, lv, .int (Int32.ofInt I.2.2.1) :: st, σ))
  | 1 => some (.inl (nx, lv, .long (Int64.ofInt I.2.2.1) :: st, σ))
  | 2 => match m_ld lv I.2.1 with
    | some w => if m_k w = I.2.2.1 then some (.inl (nx, lv, w :: st, σ)) else none
    | none => none
  | 3 => match st with
    | w :: r => if m_k w = I.2.2.1 then some (.inl (nx, (if I.2.2.1 = 1 then m_st2 lv I.2.1 w else m_st1 lv I.2.1 w), r, σ)) else none
    | [] => none
  | 4 => match m_ld lv I.2.1 with
    | some (.int x) => some (.inl (nx, m_st1 lv I.2.1 (.int (x + Int32.ofInt I.2.2.1)), st, σ))
    | _ => none
  | 5 => match st with
    | .int y :: .int x :: r => (m_ib I.2.1 x y).map fun z => .inl (nx, lv, .int z :: r, σ)
    | _ => none
  | 6 => match st with
    | .long y :: .long x :: r => (m_lb I.2.1 x y).map fun z => .inl (nx, lv, .long z :: r, σ)
    | _ => none
  | 7 => match st with
    | w :: r => (m_un I.2.1 w).map fun z => .inl (nx, lv, z :: r, σ)
    | [] => none
  | 8 => match st with
    | .long y :: .long x :: r => some (.inl (nx, lv, .int (lg_cmp x y) :: r, σ))
    | _ => none
  | 9 => (m_stk I.2.1 st).map fun r => .inl (nx, lv, r, σ)
  | 10 => some (.inl (I.2.1, lv, st, σ))
  | 11 => match st with
    | .int x :: r => some (.inl (if m_cd I.2.2.1 x 0 = true then I.2.1 else nx, lv, r, σ))
    | _ => none
  | 12 => match st with
    | .int y :: .int x :: r => some (.inl (if m_cd I.2.2.1 x y = true then I.2.1 else nx, lv, r, σ))
    | _ => none
  | 13 => match st with
    | .int x :: r => some (.inl (m_tsw I.2.1 I.2.2.1 I.2.2.2 x.toInt, lv, r, σ))
    | _ => none
  | 14 => match st with
    | .int x :: r => some (.inl (m_lsw I.2.1 I.2.2.2 x.toInt, lv, r, σ))
    | _ => none
  | 15 => match st with
    | .ref b :: r => match σ[b]? with
      | some (.inr (ci, fs)) => match fs[I.2.2.1.toNat]? with
        | some w => if ci = I.2.1 then some (.inl (nx, lv, w :: r, σ)) else none
        | none => none
      | _ => none
    | _ => none
  | 16 => match st with
    | w :: .ref b :: r => match σ[b]? with
      | some (.inr (ci, fs)) => if ci = I.2.1 ∧ I.2.2.1.toNat < fs.length ∧ m_fit (m_tyf ci I.2.2.1.toNat) w = true then some (.inl (nx, lv, r, σ.set b (.inr (ci, fs.set I.2.2.1.toNat w)))) else none
      | _ => none
    | _ => none
  | 18 => match st with
    | .int i :: .ref b :: r => (m_ald fz I.2.1 i b σ).map fun w => .inl (nx, lv, w :: r, σ)
    | _ => none
  | 19 => match st with
    | w :: .int i :: .ref b :: r => (m_ast I.2.1 w i b σ).map fun τ => .inl (nx, lv, r, τ)
    | _ => none
  | 20 => match st with
    | .ref b :: r => (m_len fz b σ).map fun k => .inl (nx, lv, .int (Int32.ofNat k) :: r, σ)
    | _ => none
  | 21 => if m_wf lv st σ = true then some (.inl (nx, lv, .ref σ.length :: st, σ ++ [.inr (I.2.1, m_def I.2.1)])) else none
  | 22 => match st with
    | .int x :: r => if m_wf lv r σ = true ∧ 0 ≤ x.toInt ∧ x.toInt ≤ 2000 then (m_new I.2.1 x.toNatClampNeg).map fun e => .inl (nx, lv, .ref σ.length :: r, σ ++ [e]) else none
    | _ => none
  | 24 => if I.2.2.1 = 2 ∨ I.2.2.1 = 5 then (if I.2.2.2.getD 0 0 ≤ st.length then some (.inr (.inr (I.2.1, (st.take (I.2.2.2.getD 0 0)).reverse, st.drop (I.2.2.2.getD 0 0)))) else none)
    else match st.drop (I.2.2.2.getD 0 0) with
      | .ref b :: r => match σ[b]? with
        | some (.inr (ci, _)) => if ci = I.2.2.2.getD 2 0 then some (.inr (.inr (I.2.1, .ref b :: (st.take (I.2.2.2.getD 0 0)).reverse, r))) else none
        | _ => none
      | _ => none
  | 25 => match st with
    | .ref _ :: r => if (r.map fun v => v.category).sum ≤ 8 then some (.inl (nx, lv, r, σ)) else none
    | _ => none
  | 26 => match st with
    | .int n :: .int dp :: .ref b1 :: .int sp :: .ref b0 :: r => if 0 ≤ n.toInt ∧ 0 ≤ dp.toInt ∧ 0 ≤ sp.toInt ∧ (r.map fun v => v.category).sum ≤ 8 then (m_acp n.toNatClampNeg dp.toNatClampNeg b1 sp.toNatClampNeg b0 σ).map fun τ => .inl (nx, lv, r, τ) else none
    | _ => none
  | 27 => match I.2.1, st with
    | 0, [.int x] => some (.inr (.inl (some (.int x))))
    | 1, [.long x] => some (.inr (.inl (some (.long x))))
    | 2, [] => some (.inr (.inl none))
    | 3, [.int x] => if x = 0 ∨ x = 1 then some (.inr (.inl (some (.int x)))) else none
    | _, _ => none
  | 28 => match st with
    | .int y :: .long x :: r => (m_lsh I.2.1 x y).map fun z => .inl (nx, lv, .long z :: r, σ)
    | _ => none
  | _ => none
def m_callOk (I : m_I) (lv : m_V) (as rest : List Value) (σ : m_S) : Bool := decide (σ.length < m_fzb) && m_okl σ.length lv && rest.all (m_okv σ.length) && decide ((rest.map fun v => v.category).sum ≤ 8) && decide ((as.map fun v => v.category).sum ≤ I.2.2.2.getD 1 0)
def m_exec (F : Nat → Nat → Option (m_I × Nat)) (fz : List (List Int32)) : Nat → Nat → Nat → Nat → m_V → List Value → m_S → Option (Option Value × m_S)
  | 0, _, _, _, _, _, _ => none
  | n + 1, d, mid, pc, lv, st, σ => match F mid pc with
    | none => none
    | some (I, len) => match m_step fz I (pc + len) lv st σ with
      | none => none
      | some (.inl (pc', lv', st', σ')) => m_exec F fz n d mid pc' lv' st' σ'
      | some (.inr (.inl r)) => some (r, σ)
      | some (.inr (.inr (mid', as, rest))) => match d with
        | 0 => none
        | d' + 1 => if m_callOk I lv as rest σ = true then match m_exec F fz n d' mid' 0 (lv_args 0 as) [] σ with
            | none => none
            | some (r, σ') => m_exec F fz n (d' + 1) mid (pc + len) lv (r.toList ++ rest) σ'
          else none
end
section
/-! THE SMALL MACHINE BESIDE THE REAL ONE -/
def m_tv (ad : Nat → Nat) (v : Value) : Value := match v with
  | .ref k => .ref (ad k)
  | w => w
def m_te (cA : Nat → ClassId) (ad : Nat → Nat) (x : m_E) : va_E := match x with
  | .inl (t, .inl xs) => .inl (cA t, xs.length, .inl (fun j => xs.getD j 0))
  | .inl (t, .inr (.inl xs)) => .inl (cA t, xs.length, .inr (.inl (fun j => xs.getD j 0)))
  | .inl (t, .inr (.inr xs)) => .inl (cA t, xs.length, .inr (.inr (.inr (.inr (fun j => (xs.getD j none).map ad)))))
  | .inr (ci, fs) => .inr (ci, fs.map (m_tv ad))
def m_w (cA : Nat → ClassId) (ad : Nat → Nat) (σ : m_S) : va_W := σ.mapIdx (fun k x => (ad k, m_te cA ad x))
def m_tl (ad : Nat → Nat) (lv : m_V) : List (Nat × Value) := lv.map (fun q => (q.1, m_tv ad q.2))
def m_ext (ad ad' : Nat → Nat) (n : Nat) : Prop := (∀ k, k < n → ad' k = ad k) ∧ ∀ k, m_fzb ≤ k → ad' k = ad k
def m_es (x : m_E) : Nat := match x with
  | .inl (_, .inl xs) => xs.length
  | .inl (_, .inr (.inl xs)) => xs.length
  | .inl (_, .inr (.inr xs)) => xs.length
  | .inr (_, fs) => fs.length
def m_sz (σ : m_S) : Nat := (σ.map m_es).sum
def m_ty (t : Nat) : FieldType := match t with
  | 0 => .int
  | 1 => .byte
  | 2 => .boolean
  | 3 => .long
  | _ => .object "MotherBench$Circuit"
def m_tys (cA : Nat → ClassId) : List (ClassId × FieldType) := (List.range 5).map (fun t => (cA t, m_ty t))
def m_isN (w : Cond) : Bool := match w with
  | .methodLinkNest _ _ _ _ => true
  | _ => false
def m_nw : List Cond := tables_1.filter m_isN
def m_Nst (U : State) : Prop := (∀ w ∈ m_nw, va_Nw w U) ∧ va_AO "MotherBench$Circuit" U
theorem m_w_at {cA : Nat → ClassId} {ad : Nat → Nat} {σ : m_S} {k : Nat} {x : m_E} (h : σ[k]? = some x) : (m_w cA ad σ)[k]? = some (ad k, m_te cA ad x) := by
  simp [m_w, h]
theorem m_w_inv {cA : Nat → ClassId} {ad : Nat → Nat} {σ : m_S} {k : Nat} {q : Nat × va_E} (h : (m_w cA ad σ)[k]? = some q) : ∃ x, σ[k]? = some x ∧ q = (ad k, m_te cA ad x) := by
  simp only [m_w, List.getElem?_mapIdx, Option.map_eq_some_iff] at h
  obtain ⟨x, h1, h2⟩ := h
  exact ⟨x, h1, h2.symm⟩
theorem m_w_len (cA : Nat → ClassId) (ad : Nat → Nat) (σ : m_S) : (m_w cA ad σ).length = σ.length := by simp [m_w]
theorem m_w_set {cA : Nat → ClassId} {ad : Nat → Nat} {σ : m_S} {k : Nat} {x : m_E} : (m_w cA ad σ).set k (ad k, m_te cA ad x) = m_w cA ad (σ.set k x) := by
  apply List.ext_getElem?
  intro i
  simp only [m_w, List.getElem?_set, List.getElem?_mapIdx, List.length_mapIdx]
  by_cases h : k = i
  · subst h
    by_cases h2 : k < σ.length <;> simp [h2]
  · simp [h]
theorem m_tv_cat (ad : Nat → Nat) (v : Value) : (m_tv ad v).category = v.category := by cases v <;> rfl
theorem m_tv_eq {ad ad' : Nat → Nat} {n : Nat} (h : m_ext ad ad' n) {v : Value} (hv : m_okv n v = true) : m_tv ad' v = m_tv ad v := by
  cases v with
  | ref k =>
    simp only [m_okv, Bool.or_eq_true, decide_eq_true_eq] at hv
    show Value.ref _ = Value.ref _
    rcases hv with h1 | h1
    · rw [h.1 k h1]
    · rw [h.2 k h1]
  | _ => rfl
theorem m_te_eq {cA : Nat → ClassId} {ad ad' : Nat → Nat} {n : Nat} (h : m_ext ad ad' n) {x : m_E} (hv : m_oke n x = true) : m_te cA ad' x = m_te cA ad x := by
  rcases x with ⟨t, xs | xs | xs⟩ | ⟨ci, fs⟩
  · rfl
  · rfl
  · show Sum.inl _ = Sum.inl _
    congr 7
    funext j
    simp only [m_oke, List.all_eq_true] at hv
    cases hj : xs[j]? with
    | none => simp [List.getD, hj]
    | some r =>
      have h1 := hv r (List.mem_of_getElem? hj)
      simp only [List.getD, hj, Option.getD_some]
      cases r with
      | none => rfl
      | some k =>
        simp only [Bool.or_eq_true, decide_eq_true_eq] at h1
        rcases h1 with h2 | h2
        · simp [h.1 k h2]
        · simp [h.2 k h2]
  · simp only [m_oke, List.all_eq_true] at hv
    show Sum.inr _ = Sum.inr _
    congr 2
    exact List.map_congr_left (fun v h1 => m_tv_eq h (hv v h1))
theorem m_tl_eq {ad ad' : Nat → Nat} {n : Nat} (h : m_ext ad ad' n) {lv : m_V} (hv : m_okl n lv = true) : m_tl ad' lv = m_tl ad lv := by
  simp only [m_okl, List.all_eq_true] at hv
  exact List.map_congr_left (fun q h1 => by rw [m_tv_eq h (hv q h1)])
theorem m_ts_eq {ad ad' : Nat → Nat} {n : Nat} (h : m_ext ad ad' n) {st : List Value} (hv : st.all (m_okv n) = true) : st.map (m_tv ad') = st.map (m_tv ad) := by
  simp only [List.all_eq_true] at hv
  exact List.map_congr_left (fun q h1 => m_tv_eq h (hv q h1))
theorem m_w_eq {cA : Nat → ClassId} {ad ad' : Nat → Nat} {σ : m_S} (h : m_ext ad ad' σ.length) (hv : σ.all (m_oke σ.length) = true) : m_w cA ad' σ = m_w cA ad σ := by
  simp only [List.all_eq_true] at hv
  apply List.ext_getElem?
  intro i
  simp only [m_w, List.getElem?_mapIdx]
  cases hi : σ[i]? with
  | none => rfl
  | some x =>
    have hl : i < σ.length := (List.getElem?_eq_some_iff.mp hi).1
    simp [h.1 i hl, m_te_eq h (hv x (List.mem_of_getElem? hi))]
theorem m_ext.rf {ad : Nat → Nat} {n : Nat} : m_ext ad ad n := ⟨fun _ _ => rfl, fun _ _ => rfl⟩
theorem m_ext.tr {a b c : Nat → Nat} {n k : Nat} (h : m_ext a b n) (h2 : m_ext b c k) (hn : n ≤ k) : m_ext a c n := ⟨fun i hi => (h2.1 i (Nat.lt_of_lt_of_le hi hn)).trans (h.1 i hi), fun i hi => (h2.2 i hi).trans (h.2 i hi)⟩
theorem m_ext.up (ad : Nat → Nat) (n q : Nat) (hn : n < m_fzb) : m_ext ad (va_up ad n q) n := ⟨fun i hi => by simp only [va_up]; rw [if_neg (by omega)], fun i hi => by simp only [va_up]; rw [if_neg (by omega)]⟩
theorem m_w_app {cA : Nat → ClassId} {ad : Nat → Nat} {σ : m_S} {q : Nat} {x : m_E} (hn : σ.length < m_fzb) (hv : σ.all (m_oke σ.length) = true) (hx : m_te cA (va_up ad σ.length q) x = m_te cA ad x) : m_w cA (va_up ad σ.length q) (σ ++ [x]) = m_w cA ad σ ++ [(q, m_te cA ad x)] := by
  have h1 : m_w cA (va_up ad σ.length q) (σ ++ [x]) = m_w cA (va_up ad σ.length q) σ ++ [(q, m_te cA (va_up ad σ.length q) x)] := by
    simp only [m_w, List.mapIdx_append, List.mapIdx_cons, List.mapIdx_nil, Nat.zero_add]
    congr 3
    simp [va_up]
  rw [h1, m_w_eq (m_ext.up ad σ.length q hn) hv, hx]
theorem m_sz_set {σ : m_S} {k : Nat} {x y : m_E} (h : σ[k]? = some y) (he : m_es x = m_es y) : m_sz (σ.set k x) = m_sz σ := by
  have h1 : (σ.set k x).map m_es = σ.map m_es := by
    apply List.ext_getElem?
    intro i
    simp only [List.getElem?_map, List.getElem?_set]
    by_cases hi : k = i
    · subst hi
      have hl : k < σ.length := (List.getElem?_eq_some_iff.mp h).1
      rw [if_pos rfl, if_pos hl, h]
      simp [he]
    · simp [hi]
  unfold m_sz
  rw [h1]
theorem m_sz_app (σ : m_S) (x : m_E) : m_sz (σ ++ [x]) = m_sz σ + m_es x := by simp [m_sz]
theorem m_in_vp {i : Int32} {n : Nat} (h : m_in i n = true) : vp_in i n := vp_in_iff.mpr (by simpa [m_in] using h)
theorem m_in_lt {i : Int32} {n : Nat} (h : m_in i n = true) : i.toNatClampNeg < n := by
  have h1 := m_in_vp h
  unfold vp_in at h1
  omega
theorem m_upd {xs : List Int32} {k : Nat} {x : Int32} (hk : k < xs.length) : upd (fun j => xs.getD j 0) k x = fun j => (xs.set k x).getD j 0 := by
  funext j
  simp only [upd, List.getD, List.getElem?_set]
  by_cases h : j = k
  · subst h; simp [hk]
  · rw [if_neg h, if_neg (fun q => h q.symm)]
theorem m_updL {xs : List Int64} {k : Nat} {x : Int64} (hk : k < xs.length) : vp_updL (fun j => xs.getD j 0) k x = fun j => (xs.set k x).getD j 0 := by
  funext j
  simp only [vp_updL, List.getD, List.getElem?_set]
  by_cases h : j = k
  · subst h; simp [hk]
  · rw [if_neg h, if_neg (fun q => h q.symm)]
theorem m_updQ {ad : Nat → Nat} {xs : List (Option Nat)} {k r : Nat} (hk : k < xs.length) : va_up (fun j => (xs.getD j none).map ad) k (some (ad r)) = fun j => ((xs.set k (some r)).getD j none).map ad := by
  funext j
  simp only [va_up, List.getD, List.getElem?_set]
  by_cases h : j = k
  · subst h; simp [hk]
  · rw [if_neg h, if_neg (fun q => h q.symm)]
theorem m_cpy_eq {α : Type} {d : α} {xs ys : List α} {sp dp n : Nat} (h2 : dp + n ≤ ys.length) : va_cpy (fun j => xs.getD j d) (fun j => ys.getD j d) sp dp n = fun j => (m_cpy d xs ys sp dp n).getD j d := by
  funext j
  simp only [m_cpy, List.getD, List.getElem?_map]
  by_cases h : j < ys.length
  · simp [List.getElem?_range h]
  · rw [List.getElem?_eq_none (by simp; omega)]
    simp only [Option.map_none, Option.getD_none]
    rw [pk_cpy_out (Or.inr (by omega)), List.getElem?_eq_none (by omega)]
    rfl
theorem m_cpy_len {α : Type} {d : α} {xs ys : List α} {sp dp n : Nat} : (m_cpy d xs ys sp dp n).length = ys.length := by simp [m_cpy]
theorem m_tl_filter {ad : Nat → Nat} {lv : m_V} {f g : Nat × Value → Bool} (h : ∀ q : Nat × Value, f (q.1, m_tv ad q.2) = g q) : (m_tl ad lv).filter f = m_tl ad (lv.filter g) := by
  induction lv with
  | nil => rfl
  | cons a r ih =>
    simp only [m_tl, List.map_cons, List.filter_cons] at ih ⊢
    rw [h a]
    by_cases hg : g a = true
    · simp only [hg, if_true, List.map_cons]; rw [ih]
    · simp only [hg, if_false]; exact ih
theorem m_st1_tl {ad : Nat → Nat} {lv : m_V} {i : Nat} {v : Value} : (i, m_tv ad v) :: (m_tl ad lv).filter (fun q => !(q.1 == i) && !(q.1 + 1 == i && q.2.category == 2)) = m_tl ad (m_st1 lv i v) := by
  rw [m_tl_filter (g := fun q => !(q.1 == i) && !(q.1 + 1 == i && q.2.category == 2)) (fun q => by simp only [m_tv_cat])]
  rfl
theorem m_st2_tl {ad : Nat → Nat} {lv : m_V} {i : Nat} {v : Value} : (i, m_tv ad v) :: (m_tl ad lv).filter (fun q => !(q.1 == i) && (!(q.1 == i + 1) && !(q.1 + 1 == i && q.2.category == 2))) = m_tl ad (m_st2 lv i v) := by
  rw [m_tl_filter (g := fun q => !(q.1 == i) && (!(q.1 == i + 1) && !(q.1 + 1 == i && q.2.category == 2))) (fun q => by simp only [m_tv_cat])]
  rfl
theorem m_ld_at {ad : Nat → Nat} {lv : m_V} {ls : Array Slot} {nL i : Nat} {w : Value} (hl : lv_has ls nL (m_tl ad lv)) (h : m_ld lv i = some w) : ls[i]? = some (.val (m_tv ad w)) := by
  obtain ⟨q, h1, h2⟩ := Option.map_eq_some_iff.mp h
  have h3 := List.mem_of_find?_eq_some h1
  have h4 := List.find?_some (p := fun q : Nat × Value => q.1 == i) h1
  have h5 := hl.2.2 (q.1, m_tv ad q.2) (List.mem_map.mpr ⟨q, h3, rfl⟩)
  rw [← h2, ← (beq_iff_eq.mp h4)]
  exact h5
theorem m_ld_ix {ad : Nat → Nat} {lv : m_V} {i : Nat} {w : Value} (h : m_ld lv i = some w) : ∃ k : Nat, (m_tl ad lv)[k]? = some (i, m_tv ad w) := by
  obtain ⟨q, h1, h2⟩ := Option.map_eq_some_iff.mp h
  have h3 := List.mem_of_find?_eq_some h1
  have h4 := List.find?_some (p := fun q : Nat × Value => q.1 == i) h1
  obtain ⟨k, hk⟩ := List.getElem?_of_mem h3
  exact ⟨k, by simp [m_tl, hk, ← h2, ← (beq_iff_eq.mp h4)]⟩
theorem m_tys_at (cA : Nat → ClassId) {t : Nat} (h : t < 5) : (m_tys cA)[t]? = some (cA t, m_ty t) := by
  simp [m_tys, List.getElem?_range h]
theorem m_lgsl (vs : List Value) : (lg_sl vs).length = (vs.map fun v => v.category).sum := by
  induction vs with
  | nil => rfl
  | cons a r ih =>
    have h1 : lg_sl (a :: r) = (if a.category = 2 then [.val a, .second] else [.val a]) ++ lg_sl r := rfl
    rw [h1, List.length_append, ih, List.map_cons, List.sum_cons]
    rcases lv_cat a with h | h <;> simp [h]
theorem m_largs (ad : Nat → Nat) (vs : List Value) : ∀ i, lv_args i (vs.map (m_tv ad)) = m_tl ad (lv_args i vs) := by
  induction vs with
  | nil => intro i; rfl
  | cons a r ih =>
    intro i
    simp only [List.map_cons, lv_args, m_tv_cat, ih]
    rfl
end
section
/-! INSTRUCTIONS AS NUMBERS, and what must stand in the tables for them -/
def m_cc (k : ClassFile.Cond) : Int := match k with
  | .eq => 0
  | .ne => 1
  | .lt => 2
  | .ge => 3
  | .gt => 4
  | .le => 5
def m_fin (a k : Nat) : Bool := match vwCl[a]? with
  | some q => (q.2.1 k).2.2.2
  | none => false
def m_fdc (a k : Nat) : String := match vwCl[a]? with
  | some q => (q.2.1 k).1
  | none => ""
def m_tri (y : MethodName) (n : Nat) (r : Option FieldType) (pc : Nat) (ins : Instr) (len : Nat) : Option m_I := match ins with
  | .iconst v => if len = 1 then some (0, 0, v, []) else none
  | .bipush v => if len = 2 then some (0, 0, (Int8.ofInt v).toInt32.toInt, []) else none
  | .sipush v => if len = 3 then some (0, 0, (Int16.ofInt v).toInt32.toInt, []) else none
  | .ldc i => match m_lk y.cls i with
    | some (0, _, v, _) => if len = 2 then some (0, 0, v, []) else none
    | _ => none
  | .ldc_w i => match m_lk y.cls i with
    | some (0, _, v, _) => if len = 3 then some (0, 0, v, []) else none
    | _ => none
  | .ldc2_w i => match m_lk y.cls i with
    | some (1, _, v, _) => if len = 3 then some (1, 0, v, []) else none
    | _ => none
  | .lconst k => if len = 1 then some (1, 0, (k.val : Int), []) else none
  | .iload_n k => if len = 1 then some (2, k.val, 0, []) else none
  | .iload i => if len = 2 then some (2, i, 0, []) else none
  | .lload_n k => if len = 1 then some (2, k.val, 1, []) else none
  | .lload i => if len = 2 then some (2, i, 1, []) else none
  | .aload_n k => if len = 1 then some (2, k.val, 2, []) else none
  | .aload i => if len = 2 then some (2, i, 2, []) else none
  | .istore_n k => if len = 1 ∧ k.val < n then some (3, k.val, 0, []) else none
  | .istore i => if len = 2 ∧ i < n then some (3, i, 0, []) else none
  | .lstore_n k => if len = 1 ∧ k.val + 1 < n then some (3, k.val, 1, []) else none
  | .lstore i => if len = 2 ∧ i + 1 < n then some (3, i, 1, []) else none
  | .astore_n k => if len = 1 ∧ k.val < n then some (3, k.val, 2, []) else none
  | .astore i => if len = 2 ∧ i < n then some (3, i, 2, []) else none
  | .iinc i v => if len = 3 ∧ i < n then some (4, i, v, []) else none
  | .iadd => if len = 1 then some (5, 0, 0, []) else none
  | .isub => if len = 1 then some (5, 1, 0, []) else none
  | .imul => if len = 1 then some (5, 2, 0, []) else none
  | .iand => if len = 1 then some (5, 3, 0, []) else none
  | .ior => if len = 1 then some (5, 4, 0, []) else none
  | .ixor => if len = 1 then some (5, 5, 0, []) else none
  | .ishl => if len = 1 then some (5, 6, 0, []) else none
  | .ishr => if len = 1 then some (5, 7, 0, []) else none
  | .iushr => if len = 1 then some (5, 8, 0, []) else none
  | .idiv => if len = 1 then some (5, 9, 0, []) else none
  | .irem => if len = 1 then some (5, 10, 0, []) else none
  | .ladd => if len = 1 then some (6, 0, 0, []) else none
  | .lsub => if len = 1 then some (6, 1, 0, []) else none
  | .lmul => if len = 1 then some (6, 2, 0, []) else none
  | .land => if len = 1 then some (6, 3, 0, []) else none
  | .lor => if len = 1 then some (6, 4, 0, []) else none
  | .ldiv => if len = 1 then some (6, 5, 0, []) else none
  | .lrem => if len = 1 then some (6, 6, 0, []) else none
  | .lshl => if len = 1 then some (28, 0, 0, []) else none
  | .lshr => if len = 1 then some (28, 1, 0, []) else none
  | .ineg => if len = 1 then some (7, 0, 0, []) else none
  | .i2l => if len = 1 then some (7, 1, 0, []) else none
  | .l2i => if len = 1 then some (7, 2, 0, []) else none
  | .i2b => if len = 1 then some (7, 3, 0, []) else none
  | .i2s => if len = 1 then some (7, 4, 0, []) else none
  | .lneg => if len = 1 then some (7, 5, 0, []) else none
  | .lcmp => if len = 1 then some (8, 0, 0, []) else none
  | .pop => if len = 1 then some (9, 0, 0, []) else none
  | .pop2 => if len = 1 then some (9, 1, 0, []) else none
  | .dup => if len = 1 then some (9, 2, 0, []) else none
  | .dup2 => if len = 1 then some (9, 3, 0, []) else none
  | .iaload => if len = 1 then some (18, 0, 0, []) else none
  | .baload => if len = 1 then some (18, 1, 0, []) else none
  | .laload => if len = 1 then some (18, 2, 0, []) else none
  | .aaload => if len = 1 then some (18, 3, 0, []) else none
  | .iastore => if len = 1 then some (19, 0, 0, []) else none
  | .bastore => if len = 1 then some (19, 1, 0, []) else none
  | .lastore => if len = 1 then some (19, 2, 0, []) else none
  | .aastore => if len = 1 then some (19, 3, 0, []) else none
  | .arraylength => if len = 1 then some (20, 0, 0, []) else none
  | .goto off => if len = 3 ∧ 0 ≤ (pc : Int) + off then some (10, ((pc : Int) + off).toNat, 0, []) else none
  | .ifCond k off => if len = 3 ∧ 0 ≤ (pc : Int) + off then some (11, ((pc : Int) + off).toNat, m_cc k, []) else none
  | .if_icmp k off => if len = 3 ∧ 0 ≤ (pc : Int) + off then some (12, ((pc : Int) + off).toNat, m_cc k, []) else none
  | .tableswitch d lo hi offs => if 0 ≤ (pc : Int) + d ∧ hi = lo + offs.size - 1 ∧ offs.toList.all (fun o => decide (0 ≤ (pc : Int) + o)) = true then some (13, ((pc : Int) + d).toNat, lo, offs.toList.map (fun o => ((pc : Int) + o).toNat)) else none
  | .lookupswitch d ps => if 0 ≤ (pc : Int) + d ∧ (ps.toList.zip (ps.toList.drop 1)).all (fun (a, next) => a.1 < next.1) = true ∧ ps.toList.all (fun q => decide (0 ≤ q.1) && decide (0 ≤ (pc : Int) + q.2)) = true then some (14, ((pc : Int) + d).toNat, 0, ps.toList.flatMap (fun q => [q.1.toNat, ((pc : Int) + q.2).toNat])) else none
  | .getfield i => match m_lk y.cls i with
    | some (15, a, k, _) => if len = 3 then some (15, a, k, []) else none
    | _ => none
  | .putfield i => match m_lk y.cls i with
    | some (15, a, k, _) => if len = 3 ∧ (m_fin a k.toNat = false ∨ (y.name = "<init>" ∧ m_fdc a k.toNat = y.cls)) then some (16, a, k, []) else none
    | _ => none
  | .new i => match m_lk y.cls i with
    | some (21, a, _, _) => if len = 3 then some (21, a, 0, []) else none
    | _ => none
  | .newarray t => match t with
    | .int => if len = 2 then some (22, 0, 0, []) else none
    | .byte => if len = 2 then some (22, 1, 0, []) else none
    | .boolean => if len = 2 then some (22, 2, 0, []) else none
    | .long => if len = 2 then some (22, 3, 0, []) else none
    | _ => none
  | .anewarray i => match m_lk y.cls i with
    | some (21, a, _, _) => if len = 3 ∧ a = 1 then some (22, 4, 0, []) else none
    | _ => none
  | .invokevirtual i => match m_lk y.cls i with
    | some (24, a, k, q) => if len = 3 ∧ (k = 0 ∨ k = 3) then some (24, a, k, q) else none
    | _ => none
  | .invokespecial i => match m_lk y.cls i with
    | some (24, a, k, q) => if len = 3 ∧ (k = 1 ∨ k = 4) then some (24, a, k, q) else none
    | some (25, _, _, _) => if len = 3 then some (25, 0, 0, []) else none
    | _ => none
  | .invokestatic i => match m_lk y.cls i with
    | some (24, a, k, q) => if len = 3 ∧ (k = 2 ∨ k = 5) then some (24, a, k, q) else none
    | some (26, _, _, _) => if len = 3 then some (26, 0, 0, []) else none
    | _ => none
  | .ireturn => match r with
    | some .int => if len = 1 then some (27, 0, 0, []) else none
    | some .boolean => if len = 1 then some (27, 3, 0, []) else none
    | _ => none
  | .lreturn => match r with
    | some .long => if len = 1 then some (27, 1, 0, []) else none
    | _ => none
  | .return_ => match r with
    | none => if len = 1 then some (27, 2, 0, []) else none
    | _ => none
  | _ => none
def m_lkOk (o : String) (i : Nat) (I : m_I) : Prop := match I.1 with
  | 0 => Jvm.Cond.constant o i (Int32.ofInt I.2.2.1) ∈ m_G
  | 1 => Jvm.Cond.constantLong o i (Int64.ofInt I.2.2.1) ∈ m_G
  | 15 => ∃ q : vw_C, vwCl[I.2.1]? = some q ∧ I.2.2.1.toNat < q.2.2 ∧ Jvm.Cond.fieldLink o i (q.2.1 I.2.2.1.toNat).1 (q.2.1 I.2.2.1.toNat).2.1 (q.2.1 I.2.2.1.toNat).2.2.1 ∈ m_G
  | 21 => ∃ q : vw_C, vwCl[I.2.1]? = some q ∧ Jvm.Cond.classLink o i q.1 ∈ m_G
  | 24 => ∃ (y : MethodName) (b : ByteArray) (n : Nat) (r : Option FieldType) (np cy : Nat), m_cw I.2.1 = some (y, b, n, r) ∧ I.2.2.2 = [np, n, cy] ∧ n ≤ 100 ∧ y.cls ≠ "java/lang/invoke/MethodHandle" ∧ y.cls ≠ "java/lang/invoke/VarHandle" ∧ (parseMethodDescriptor y.desc).map (fun d => d.parameters.length) = some np ∧ plainName y.cls = true ∧ Jvm.Cond.initialized y.cls ∈ m_G ∧
      ((I.2.2.1 = 0 ∨ I.2.2.1 = 1 ∨ I.2.2.1 = 2) → Jvm.Cond.methodLink o i y ∈ m_G) ∧ ((I.2.2.1 = 3 ∨ I.2.2.1 = 4 ∨ I.2.2.1 = 5) → Jvm.Cond.methodLinkNest o i y "MotherBench" ∈ m_nw) ∧
      ((I.2.2.1 = 0 ∨ I.2.2.1 = 3) → Jvm.Cond.instanceMethod y ∈ m_G ∧ Jvm.Cond.selects y.cls y y ∈ m_G ∧ ∃ q : vw_C, vwCl[cy]? = some q ∧ q.1 = y.cls) ∧ ((I.2.2.1 = 1 ∨ I.2.2.1 = 4) → y.name = "<init>" ∧ Jvm.Cond.instanceMethod y ∈ m_G ∧ r = none) ∧ ((I.2.2.1 = 2 ∨ I.2.2.1 = 5) → Jvm.Cond.static y ∈ m_G)
  | 25 => Jvm.Cond.methodLink o i objectInit ∈ m_G
  | 26 => Jvm.Cond.methodLink o i arraycopyName ∈ m_G
  | _ => True
def m_lkAll : Prop := ∀ (o : String) (i : Nat) (I : m_I), m_lk o i = some I → m_lkOk o i I
def m_clsOk : Prop := ∀ (a : Nat) (C : String) (T : u_T) (N : Nat), vwCl[a]? = some (C, T, N) → (∀ w ∈ u_ws C T N, w ∈ m_G) ∧ (∀ k, k < N → parseFieldDescriptor (T k).2.2.1 = some (m_tyf a k)) ∧ (∀ a, a < N → ∀ b, b < N → a ≠ b → (T a).2.1 ≠ (T b).2.1) ∧ N = m_nf a ∧ Jvm.Cond.instantiable C N ∈ m_G ∧ Jvm.Cond.initialized C ∈ m_G
def m_glob : Prop := (∀ t, t < 4 → Jvm.Cond.arrayClass (m_ty t) ∈ m_G) ∧ Jvm.Cond.instanceMethod objectInit ∈ m_G ∧ Jvm.Cond.code objectInit ⟨#[0xb1]⟩ 1 none ∈ m_G ∧ Jvm.Cond.native arraycopyName ∈ m_G ∧ Jvm.Cond.static arraycopyName ∈ m_G ∧ Jvm.Cond.initialized "java/lang/System" ∈ m_G
theorem m_if {α : Type} {P : Prop} {d : Decidable P} {a b : α} (h : (if P then some a else none) = some b) : P ∧ a = b := by
  by_cases hp : P
  · rw [if_pos hp] at h; exact ⟨hp, Option.some.inj h⟩
  · rw [if_neg hp] at h; cases h
end
section
def m_WW (p : Program) (l : Launch) (e : Env) (R : Room) (s : State) (m : MethodId) (args : Array Value) (below : List Frame) (meth : Method) (c : Code) (Q : State → Prop) (D : va_G) (cA : Nat → ClassId) (A : Nat → Prop) (ad0 : Nat → Nat) (n0 z0 nL : Nat) (pc : Nat) (lv : m_V) (st : List Value) (σ : m_S) : Prop :=
  ∀ (ad : Nat → Nat) (H : Heap) (locs : List Loc) (ls : Array Slot), m_ext ad0 ad n0 → va_P D vwCl (m_w cA ad σ) H → va_D A (m_w cA ad σ) → va_S A s.heap H locs → lv_has ls nL (m_tl ad lv) → W p l e R s m args below meth c H locs (σ.length - n0) (m_sz σ - z0) Q (F0 m pc ls (st.map (m_tv ad)))
def m_Fz (fz : List (List Int32)) (ad0 : Nat → Nat) (A : Nat → Prop) (U : State) : Prop := ∀ (j : Nat) (xs : List Int32), fz[j]? = some xs → va_X (ad0 (m_fzb + j)) xs.length (fun i => xs.getD i 0) U U.heap ∧ ad0 (m_fzb + j) < U.heap.size ∧ ¬ A (ad0 (m_fzb + j))
def m_Cx (p : Program) (s : State) (m : MethodId) (args : Array Value) (meth : Method) (c : Code) (D : va_G) (cA : Nat → ClassId) (A : Nat → Prop) (ad0 : Nat → Nat) (nL : Nat) (cc : ByteArray) (y : MethodName) (r : Option FieldType) (fz : List (List Int32)) : Prop :=
  p.tables.exec = Jvm.exec ∧ c.code = cc ∧ c.maxLocals = nL ∧ s.vm.findClass y.cls = some m.cls ∧ (∀ w ∈ m_G, w.before args s = true) ∧ meth.sig.returnType = r ∧ meth.locks = false ∧ (y.name = "<init>" → meth.name = "<init>") ∧ va_K D vwCl (m_tys cA) s ∧ (∀ q, s.heap.size ≤ q → A q) ∧ m_Fz fz ad0 A s ∧ m_Nst s
section M5
variable {p : Program} {l : Launch} {e : Env} {R : Room} {s : State} {m : MethodId} {args : Array Value} {below : List Frame} {meth : Method} {c : Code} {Q : State → Prop} {D : va_G} {cA : Nat → ClassId} {A : Nat → Prop} {ad0 : Nat → Nat} {n0 z0 nL : Nat} {cc : ByteArray} {fz : List (List Int32)} {y : MethodName} {r : Option FieldType}
variable {pc pc' nx k : Nat} {lv lv' : m_V} {st st' : List Value} {σ σ' : m_S} {o : m_O} {v : Int} {q : List Nat}
theorem m_d2 (hs : m_step fz (2, k, v, q) nx lv st σ = some o) : ∃ w, m_ld lv k = some w ∧ m_k w = v ∧ o = .inl (nx, lv, w :: st, σ) := by
  simp only [m_step] at hs
  split at hs
  · rename_i w h
    obtain ⟨h1, h2⟩ := m_if hs
    exact ⟨w, h, h1, h2.symm⟩
  · cases hs
theorem m_d3 (hs : m_step fz (3, k, v, q) nx lv st σ = some o) : ∃ w t, st = w :: t ∧ m_k w = v ∧ o = .inl (nx, (if v = 1 then m_st2 lv k w else m_st1 lv k w), t, σ) := by
  simp only [m_step] at hs
  split at hs
  · rename_i w t
    obtain ⟨h1, h2⟩ := m_if hs
    exact ⟨w, t, rfl, h1, h2.symm⟩
  · cases hs
theorem m_d4 (hs : m_step fz (4, k, v, q) nx lv st σ = some o) : ∃ x, m_ld lv k = some (.int x) ∧ o = .inl (nx, m_st1 lv k (.int (x + Int32.ofInt v)), st, σ) := by
  simp only [m_step] at hs
  split at hs
  · rename_i x h
    exact ⟨x, h, (Option.some.inj hs).symm⟩
  · cases hs
theorem m_d5 (hs : m_step fz (5, k, v, q) nx lv st σ = some o) : ∃ x y t z, st = .int y :: .int x :: t ∧ m_ib k x y = some z ∧ o = .inl (nx, lv, .int z :: t, σ) := by
  simp only [m_step] at hs
  split at hs
  · rename_i y x t
    obtain ⟨z, h1, h2⟩ := Option.map_eq_some_iff.mp hs
    exact ⟨x, y, t, z, rfl, h1, h2.symm⟩
  · cases hs
theorem m_d6 (hs : m_step fz (6, k, v, q) nx lv st σ = some o) : ∃ x y t z, st = .long y :: .long x :: t ∧ m_lb k x y = some z ∧ o = .inl (nx, lv, .long z :: t, σ) := by
  simp only [m_step] at hs
  split at hs
  · rename_i y x t
    obtain ⟨z, h1, h2⟩ := Option.map_eq_some_iff.mp hs
    exact ⟨x, y, t, z, rfl, h1, h2.symm⟩
  · cases hs
theorem m_d28 (hs : m_step fz (28, k, v, q) nx lv st σ = some o) : ∃ x y t z, st = .int y :: .long x :: t ∧ m_lsh k x y = some z ∧ o = .inl (nx, lv, .long z :: t, σ) := by
  simp only [m_step] at hs
  split at hs
  · rename_i y x t
    obtain ⟨z, h1, h2⟩ := Option.map_eq_some_iff.mp hs
    exact ⟨x, y, t, z, rfl, h1, h2.symm⟩
  · cases hs
theorem m_d7 (hs : m_step fz (7, k, v, q) nx lv st σ = some o) : ∃ w t z, st = w :: t ∧ m_un k w = some z ∧ o = .inl (nx, lv, z :: t, σ) := by
  simp only [m_step] at hs
  split at hs
  · rename_i w t
    obtain ⟨z, h1, h2⟩ := Option.map_eq_some_iff.mp hs
    exact ⟨w, t, z, rfl, h1, h2.symm⟩
  · cases hs
theorem m_d8 (hs : m_step fz (8, k, v, q) nx lv st σ = some o) : ∃ x y t, st = .long y :: .long x :: t ∧ o = .inl (nx, lv, .int (lg_cmp x y) :: t, σ) := by
  simp only [m_step] at hs
  split at hs
  · rename_i y x t
    exact ⟨x, y, t, rfl, (Option.some.inj hs).symm⟩
  · cases hs
theorem m_d9 (hs : m_step fz (9, k, v, q) nx lv st σ = some o) : ∃ t, m_stk k st = some t ∧ o = .inl (nx, lv, t, σ) := by
  simp only [m_step] at hs
  obtain ⟨z, h1, h2⟩ := Option.map_eq_some_iff.mp hs
  exact ⟨z, h1, h2.symm⟩
theorem m_d11 (hs : m_step fz (11, k, v, q) nx lv st σ = some o) : ∃ x t, st = .int x :: t ∧ o = .inl (if m_cd v x 0 = true then k else nx, lv, t, σ) := by
  simp only [m_step] at hs
  split at hs
  · rename_i x t
    exact ⟨x, t, rfl, (Option.some.inj hs).symm⟩
  · cases hs
theorem m_d12 (hs : m_step fz (12, k, v, q) nx lv st σ = some o) : ∃ x y t, st = .int y :: .int x :: t ∧ o = .inl (if m_cd v x y = true then k else nx, lv, t, σ) := by
  simp only [m_step] at hs
  split at hs
  · rename_i y x t
    exact ⟨x, y, t, rfl, (Option.some.inj hs).symm⟩
  · cases hs
theorem m_d13 (hs : m_step fz (13, k, v, q) nx lv st σ = some o) : ∃ x t, st = .int x :: t ∧ o = .inl (m_tsw k v q x.toInt, lv, t, σ) := by
  simp only [m_step] at hs
  split at hs
  · rename_i x t
    exact ⟨x, t, rfl, (Option.some.inj hs).symm⟩
  · cases hs
theorem m_d14 (hs : m_step fz (14, k, v, q) nx lv st σ = some o) : ∃ x t, st = .int x :: t ∧ o = .inl (m_lsw k q x.toInt, lv, t, σ) := by
  simp only [m_step] at hs
  split at hs
  · rename_i x t
    exact ⟨x, t, rfl, (Option.some.inj hs).symm⟩
  · cases hs
theorem m_d15 (hs : m_step fz (15, k, v, q) nx lv st σ = some o) : ∃ b t fs w, st = .ref b :: t ∧ σ[b]? = some (.inr (k, fs)) ∧ fs[v.toNat]? = some w ∧ o = .inl (nx, lv, w :: t, σ) := by
  simp only [m_step] at hs
  split at hs
  · rename_i b t
    split at hs
    · rename_i ci fs h1
      split at hs
      · rename_i w h2
        obtain ⟨rfl, h3⟩ := m_if hs
        exact ⟨b, t, fs, w, rfl, h1, h2, h3.symm⟩
      · cases hs
    · cases hs
  · cases hs
theorem m_d16 (hs : m_step fz (16, k, v, q) nx lv st σ = some o) : ∃ w b t fs, st = w :: .ref b :: t ∧ σ[b]? = some (.inr (k, fs)) ∧ v.toNat < fs.length ∧ m_fit (m_tyf k v.toNat) w = true ∧ o = .inl (nx, lv, t, σ.set b (.inr (k, fs.set v.toNat w))) := by
  simp only [m_step] at hs
  split at hs
  · rename_i w b t
    split at hs
    · rename_i ci fs h1
      obtain ⟨⟨rfl, h2, h3⟩, h4⟩ := m_if hs
      exact ⟨w, b, t, fs, rfl, h1, h2, h3, h4.symm⟩
    · cases hs
  · cases hs
theorem m_d18 (hs : m_step fz (18, k, v, q) nx lv st σ = some o) : ∃ i b t w, st = .int i :: .ref b :: t ∧ m_ald fz k i b σ = some w ∧ o = .inl (nx, lv, w :: t, σ) := by
  simp only [m_step] at hs
  split at hs
  · rename_i i b t
    obtain ⟨z, h1, h2⟩ := Option.map_eq_some_iff.mp hs
    exact ⟨i, b, t, z, rfl, h1, h2.symm⟩
  · cases hs
theorem m_d19 (hs : m_step fz (19, k, v, q) nx lv st σ = some o) : ∃ w i b t τ, st = w :: .int i :: .ref b :: t ∧ m_ast k w i b σ = some τ ∧ o = .inl (nx, lv, t, τ) := by
  simp only [m_step] at hs
  split at hs
  · rename_i w i b t
    obtain ⟨z, h1, h2⟩ := Option.map_eq_some_iff.mp hs
    exact ⟨w, i, b, t, z, rfl, h1, h2.symm⟩
  · cases hs
theorem m_d20 (hs : m_step fz (20, k, v, q) nx lv st σ = some o) : ∃ b t n, st = .ref b :: t ∧ m_len fz b σ = some n ∧ o = .inl (nx, lv, .int (Int32.ofNat n) :: t, σ) := by
  simp only [m_step] at hs
  split at hs
  · rename_i b t
    obtain ⟨z, h1, h2⟩ := Option.map_eq_some_iff.mp hs
    exact ⟨b, t, z, rfl, h1, h2.symm⟩
  · cases hs
theorem m_d21 (hs : m_step fz (21, k, v, q) nx lv st σ = some o) : m_wf lv st σ = true ∧ o = .inl (nx, lv, .ref σ.length :: st, σ ++ [.inr (k, m_def k)]) := by
  simp only [m_step] at hs
  obtain ⟨h1, h2⟩ := m_if hs
  exact ⟨h1, h2.symm⟩
theorem m_d22 (hs : m_step fz (22, k, v, q) nx lv st σ = some o) : ∃ x t z, st = .int x :: t ∧ m_wf lv t σ = true ∧ 0 ≤ x.toInt ∧ x.toInt ≤ 2000 ∧ m_new k x.toNatClampNeg = some z ∧ o = .inl (nx, lv, .ref σ.length :: t, σ ++ [z]) := by
  simp only [m_step] at hs
  split at hs
  · rename_i x t
    split at hs
    · rename_i h
      obtain ⟨z, h1, h2⟩ := Option.map_eq_some_iff.mp hs
      exact ⟨x, t, z, rfl, h.1, h.2.1, h.2.2, h1, h2.symm⟩
    · cases hs
  · cases hs
theorem m_d25 (hs : m_step fz (25, k, v, q) nx lv st σ = some o) : ∃ b t, st = .ref b :: t ∧ (t.map fun v => v.category).sum ≤ 8 ∧ o = .inl (nx, lv, t, σ) := by
  simp only [m_step] at hs
  split at hs
  · rename_i b t
    obtain ⟨h1, h2⟩ := m_if hs
    exact ⟨b, t, rfl, h1, h2.symm⟩
  · cases hs
theorem m_d26 (hs : m_step fz (26, k, v, q) nx lv st σ = some o) : ∃ n dp b1 sp b0 t τ, st = .int n :: .int dp :: .ref b1 :: .int sp :: .ref b0 :: t ∧ 0 ≤ n.toInt ∧ 0 ≤ dp.toInt ∧ 0 ≤ sp.toInt ∧ (t.map fun v => v.category).sum ≤ 8 ∧ m_acp n.toNatClampNeg dp.toNatClampNeg b1 sp.toNatClampNeg b0 σ = some τ ∧ o = .inl (nx, lv, t, τ) := by
  simp only [m_step] at hs
  split at hs
  · rename_i n dp b1 sp b0 t
    split at hs
    · rename_i h
      obtain ⟨z, h1, h2⟩ := Option.map_eq_some_iff.mp hs
      exact ⟨n, dp, b1, sp, b0, t, z, rfl, h.1, h.2.1, h.2.2.1, h.2.2.2, h1, h2.symm⟩
    · cases hs
  · cases hs
theorem m_nn {x : Int32} (h : 0 ≤ x.toInt) : ¬ x < 0 := by
  rw [Int32.lt_iff_toInt_lt, Int32.toInt_zero]
  omega
theorem m_ra {U : State} {a b : ClassId} {ty : FieldType} (h : va_RA U a ty) (h2 : va_RA U b ty) : a = b := by
  cases ty with
  | object C =>
    obtain ⟨_, _, _, _, _, h4⟩ := h
    obtain ⟨_, _, _, _, _, g4⟩ := h2
    exact Option.some.inj (h4.symm.trans g4)
  | _ => exact Option.some.inj (Eq.trans (Eq.symm h) h2)
theorem m_fit_ok {ty : FieldType} {w : Value} {ad : Nat → Nat} (h : m_fit ty w = true) : narrow ty (m_tv ad w) = m_tv ad w ∧ fits ty (m_tv ad w) = true := by
  cases ty <;> cases w <;> first | (simp [m_fit] at h; done) | exact ⟨rfl, rfl⟩
theorem m_tdef (ad : Nat → Nat) (ty : FieldType) : m_tv ad (defaultValue ty) = defaultValue ty := by cases ty <;> rfl
theorem m_tmdef (ad : Nat → Nat) (a : Nat) : (m_def a).map (m_tv ad) = m_def a := by
  simp only [m_def, List.map_map]
  exact List.map_congr_left (fun k _ => m_tdef ad _)
theorem m_arr0 {n : Nat} {cI : ClassId} {f : Nat → Value} {w : Value} (h : ∀ j, j < n → f j = w) : arrV cI n f = arrV cI n (fun _ => w) := by
  unfold arrV
  congr 2
  funext j
  exact h j.val j.isLt
theorem m_lsw_off {d : Int} {ps : List (Int × Int)} {x : Int} (h0 : 0 ≤ (pc : Int) + d) (hp : ps.all (fun q => decide (0 ≤ q.1) && decide (0 ≤ (pc : Int) + q.2)) = true) : (pc : Int) + Op.lookupswitch.offset ps d x = ((m_lsw ((pc : Int) + d).toNat (ps.flatMap (fun q => [q.1.toNat, ((pc : Int) + q.2).toNat])) x : Nat) : Int) := by
  induction ps with
  | nil =>
    simp only [List.flatMap_nil, m_lsw]
    rw [Int.toNat_of_nonneg h0]
    rfl
  | cons a t ih =>
    simp only [List.all_cons, Bool.and_eq_true, decide_eq_true_eq] at hp
    obtain ⟨⟨h1, h2⟩, h3⟩ := hp
    obtain ⟨a1, a2⟩ := a
    rw [Op.lookupswitch.offset_cons]
    simp only [List.flatMap_cons, List.cons_append, List.nil_append, m_lsw]
    rw [Int.toNat_of_nonneg h1]
    by_cases hx : a1 = x
    · rw [if_pos hx, if_pos hx, Int.toNat_of_nonneg h2]
    · rw [if_neg hx, if_neg hx]
      exact ih (by simpa using h3)

end M5
end
section
section M6
variable {p : Program} {l : Launch} {e : Env} {R : Room} {s : State} {m : MethodId} {args : Array Value} {below : List Frame} {meth : Method} {c : Code} {Q : State → Prop} {D : va_G} {cA : Nat → ClassId} {A : Nat → Prop} {ad0 : Nat → Nat} {n0 z0 nL : Nat} {cc : ByteArray} {fz : List (List Int32)} {y : MethodName} {r : Option FieldType}
variable {pc pc' len : Nat} {lv lv' : m_V} {st st' : List Value} {σ σ' : m_S} {ins : Instr} {I : m_I}
theorem m_K (K : m_Cx p s m args meth c D cA A ad0 nL cc y r fz) (hlk : m_lkAll) {i : Nat} {I : m_I} (h : m_lk y.cls i = some I) : m_lkOk y.cls i I := hlk _ _ _ h
set_option maxHeartbeats 4000000 in
theorem m_ldst (K : m_Cx p s m args meth c D cA A ad0 nL cc y r fz) (hlk : m_lkAll) (hd : decode cc pc = .ok (ins, len)) (ht : m_tri y nL r pc ins len = some I) (hI : I.1 < 5) (hs : m_step fz I (pc + len) lv st σ = some (.inl (pc', lv', st', σ'))) (k : m_WW p l e R s m args below meth c Q D cA A ad0 n0 z0 nL pc' lv' st' σ') : m_WW p l e R s m args below meth c Q D cA A ad0 n0 z0 nL pc lv st σ := by
  obtain ⟨hx, hb, hml, hown, hts, hr, hlocks, hnm, hK, hA, hFz, hN⟩ := K
  cases ins with
  | iconst v =>
    obtain ⟨rfl, rfl⟩ := m_if ht
    cases hs
    exact fun ad H locs ls he hP hD hS hl => lv_iconst hx hb hd rfl (k ad H locs ls he hP hD hS hl)
  | bipush v =>
    obtain ⟨rfl, rfl⟩ := m_if ht
    cases hs
    exact fun ad H locs ls he hP hD hS hl => lv_bipush hx hb hd (Int32.ofInt_toInt _).symm (k ad H locs ls he hP hD hS hl)
  | sipush v =>
    obtain ⟨rfl, rfl⟩ := m_if ht
    cases hs
    exact fun ad H locs ls he hP hD hS hl => lv_sipush hx hb hd (Int32.ofInt_toInt _).symm (k ad H locs ls he hP hD hS hl)
  | ldc i =>
    simp only [m_tri] at ht
    split at ht
    · rename_i a v w h1
      obtain ⟨rfl, rfl⟩ := m_if ht
      cases hs
      exact fun ad H locs ls he hP hD hS hl => lv_ldc hx hb hown (hts _ (hlk _ _ _ h1)) hd (k ad H locs ls he hP hD hS hl)
    · cases ht
  | ldc_w i =>
    simp only [m_tri] at ht
    split at ht
    · rename_i a v w h1
      obtain ⟨rfl, rfl⟩ := m_if ht
      cases hs
      exact fun ad H locs ls he hP hD hS hl => lv_ldcw hx hb hown (hts _ (hlk _ _ _ h1)) hd (k ad H locs ls he hP hD hS hl)
    · cases ht
  | ldc2_w i =>
    simp only [m_tri] at ht
    split at ht
    · rename_i a v w h1
      obtain ⟨rfl, rfl⟩ := m_if ht
      cases hs
      exact fun ad H locs ls he hP hD hS hl => lv_ldc2 hx hb hown (hts _ (hlk _ _ _ h1)) hd (k ad H locs ls he hP hD hS hl)
    · cases ht
  | lconst v =>
    obtain ⟨rfl, rfl⟩ := m_if ht
    cases hs
    exact fun ad H locs ls he hP hD hS hl => lv_lconst hx hb hd rfl (k ad H locs ls he hP hD hS hl)
  | iload_n i =>
    obtain ⟨rfl, rfl⟩ := m_if ht
    obtain ⟨w, h1, h2, h3⟩ := m_d2 hs
    cases h3
    cases w with
    | int x => exact fun ad H locs ls he hP hD hS hl => lv_iload_n hx hb hd rfl (m_ld_at hl h1) (k ad H locs ls he hP hD hS hl)
    | _ => simp [m_k] at h2
  | istore_n i =>
    obtain ⟨⟨rfl, hn⟩, rfl⟩ := m_if ht
    obtain ⟨w, t, rfl, h2, h3⟩ := m_d3 hs
    cases h3
    cases w with
    | int x => exact fun ad H locs ls he hP hD hS hl => lv_istore_n hx hb hd rfl hl hn (m_st1_tl (v := .int x)) (fun ls' hl' => k ad H locs ls' he hP hD hS hl')
    | _ => simp [m_k] at h2
  | iload i =>
    obtain ⟨rfl, rfl⟩ := m_if ht
    obtain ⟨w, h1, h2, h3⟩ := m_d2 hs
    cases h3
    cases w with
    | int x => exact fun ad H locs ls he hP hD hS hl => lv_iload hx hb hd (m_ld_at hl h1) (k ad H locs ls he hP hD hS hl)
    | _ => simp [m_k] at h2
  | istore i =>
    obtain ⟨⟨rfl, hn⟩, rfl⟩ := m_if ht
    obtain ⟨w, t, rfl, h2, h3⟩ := m_d3 hs
    cases h3
    cases w with
    | int x => exact fun ad H locs ls he hP hD hS hl => lv_istore hx hb hd hl hn (m_st1_tl (v := .int x)) (fun ls' hl' => k ad H locs ls' he hP hD hS hl')
    | _ => simp [m_k] at h2
  | lload_n i =>
    obtain ⟨rfl, rfl⟩ := m_if ht
    obtain ⟨w, h1, h2, h3⟩ := m_d2 hs
    cases h3
    cases w with
    | long x => exact fun ad H locs ls he hP hD hS hl => lv_lload_n hx hb hd rfl (m_ld_at hl h1) (k ad H locs ls he hP hD hS hl)
    | _ => simp [m_k] at h2
  | lstore_n i =>
    obtain ⟨⟨rfl, hn⟩, rfl⟩ := m_if ht
    obtain ⟨w, t, rfl, h2, h3⟩ := m_d3 hs
    cases h3
    cases w with
    | long x => exact fun ad H locs ls he hP hD hS hl => lv_lstore_n hx hb hd rfl hl hn (m_st2_tl (v := .long x)) (fun ls' hl' => k ad H locs ls' he hP hD hS hl')
    | _ => simp [m_k] at h2
  | lload i =>
    obtain ⟨rfl, rfl⟩ := m_if ht
    obtain ⟨w, h1, h2, h3⟩ := m_d2 hs
    cases h3
    cases w with
    | long x => exact fun ad H locs ls he hP hD hS hl => lv_lload hx hb hd (m_ld_at hl h1) (k ad H locs ls he hP hD hS hl)
    | _ => simp [m_k] at h2
  | lstore i =>
    obtain ⟨⟨rfl, hn⟩, rfl⟩ := m_if ht
    obtain ⟨w, t, rfl, h2, h3⟩ := m_d3 hs
    cases h3
    cases w with
    | long x => exact fun ad H locs ls he hP hD hS hl => lv_lstore hx hb hd hl hn (m_st2_tl (v := .long x)) (fun ls' hl' => k ad H locs ls' he hP hD hS hl')
    | _ => simp [m_k] at h2
  | aload_n i =>
    obtain ⟨rfl, rfl⟩ := m_if ht
    obtain ⟨w, h1, h2, h3⟩ := m_d2 hs
    cases h3
    cases w with
    | ref x => exact fun ad H locs ls he hP hD hS hl => lv_aload_n hx hb hd rfl (m_ld_at hl h1) (k ad H locs ls he hP hD hS hl)
    | _ => simp [m_k] at h2
  | astore_n i =>
    obtain ⟨⟨rfl, hn⟩, rfl⟩ := m_if ht
    obtain ⟨w, t, rfl, h2, h3⟩ := m_d3 hs
    cases h3
    cases w with
    | ref x => exact fun ad H locs ls he hP hD hS hl => lv_astore_n hx hb hd rfl hl hn (m_st1_tl (v := .ref x)) (fun ls' hl' => k ad H locs ls' he hP hD hS hl')
    | _ => simp [m_k] at h2
  | aload i =>
    obtain ⟨rfl, rfl⟩ := m_if ht
    obtain ⟨w, h1, h2, h3⟩ := m_d2 hs
    cases h3
    cases w with
    | ref x => exact fun ad H locs ls he hP hD hS hl => lv_aload hx hb hd (m_ld_at hl h1) (k ad H locs ls he hP hD hS hl)
    | _ => simp [m_k] at h2
  | astore i =>
    obtain ⟨⟨rfl, hn⟩, rfl⟩ := m_if ht
    obtain ⟨w, t, rfl, h2, h3⟩ := m_d3 hs
    cases h3
    cases w with
    | ref x => exact fun ad H locs ls he hP hD hS hl => lv_astore hx hb hd hl hn (m_st1_tl (v := .ref x)) (fun ls' hl' => k ad H locs ls' he hP hD hS hl')
    | _ => simp [m_k] at h2
  | iinc i v =>
    obtain ⟨⟨rfl, hn⟩, rfl⟩ := m_if ht
    obtain ⟨x, h1, h3⟩ := m_d4 hs
    cases h3
    intro ad H locs ls he hP hD hS hl
    obtain ⟨j, hj⟩ := m_ld_ix (ad := ad) h1
    exact lv_iinc hx hb hd hl hj rfl hn (m_st1_tl (v := .int (x + Int32.ofInt v))) (fun ls' hl' => k ad H locs ls' he hP hD hS hl')
  | _ =>
    simp only [m_tri] at ht
    repeat' split at ht
    all_goals first | (cases ht; done) | (obtain ⟨-, rfl⟩ := m_if ht; dsimp only at hI; omega) | (cases ht; dsimp only at hI; omega)
end M6
end
section
section M7
variable {p : Program} {l : Launch} {e : Env} {R : Room} {s : State} {m : MethodId} {args : Array Value} {below : List Frame} {meth : Method} {c : Code} {Q : State → Prop} {D : va_G} {cA : Nat → ClassId} {A : Nat → Prop} {ad0 : Nat → Nat} {n0 z0 nL : Nat} {cc : ByteArray} {fz : List (List Int32)} {y : MethodName} {r : Option FieldType}
variable {pc pc' len : Nat} {lv lv' : m_V} {st st' : List Value} {σ σ' : m_S} {ins : Instr} {I : m_I}
set_option maxHeartbeats 4000000 in
theorem m_arith (K : m_Cx p s m args meth c D cA A ad0 nL cc y r fz) (hd : decode cc pc = .ok (ins, len)) (ht : m_tri y nL r pc ins len = some I) (hI : 5 ≤ I.1 ∧ I.1 ≤ 9 ∨ I.1 = 28) (hs : m_step fz I (pc + len) lv st σ = some (.inl (pc', lv', st', σ'))) (k : m_WW p l e R s m args below meth c Q D cA A ad0 n0 z0 nL pc' lv' st' σ') : m_WW p l e R s m args below meth c Q D cA A ad0 n0 z0 nL pc lv st σ := by
  obtain ⟨hx, hb, hml, hown, hts, hr, hlocks, hnm, hK, hA, hFz, hN⟩ := K
  cases ins with
  | iadd =>
    obtain ⟨rfl, rfl⟩ := m_if ht
    obtain ⟨a, b, t, z, rfl, h1, h3⟩ := m_d5 hs
    cases h1
    cases h3
    exact fun ad H locs ls he hP hD hS hl => lv_iadd hx hb hd (k ad H locs ls he hP hD hS hl)
  | isub =>
    obtain ⟨rfl, rfl⟩ := m_if ht
    obtain ⟨a, b, t, z, rfl, h1, h3⟩ := m_d5 hs
    cases h1
    cases h3
    exact fun ad H locs ls he hP hD hS hl => lv_isub hx hb hd (k ad H locs ls he hP hD hS hl)
  | imul =>
    obtain ⟨rfl, rfl⟩ := m_if ht
    obtain ⟨a, b, t, z, rfl, h1, h3⟩ := m_d5 hs
    cases h1
    cases h3
    exact fun ad H locs ls he hP hD hS hl => lv_imul hx hb hd (k ad H locs ls he hP hD hS hl)
  | iand =>
    obtain ⟨rfl, rfl⟩ := m_if ht
    obtain ⟨a, b, t, z, rfl, h1, h3⟩ := m_d5 hs
    cases h1
    cases h3
    exact fun ad H locs ls he hP hD hS hl => lv_iand hx hb hd (k ad H locs ls he hP hD hS hl)
  | ior =>
    obtain ⟨rfl, rfl⟩ := m_if ht
    obtain ⟨a, b, t, z, rfl, h1, h3⟩ := m_d5 hs
    cases h1
    cases h3
    exact fun ad H locs ls he hP hD hS hl => lv_ior hx hb hd (k ad H locs ls he hP hD hS hl)
  | ixor =>
    obtain ⟨rfl, rfl⟩ := m_if ht
    obtain ⟨a, b, t, z, rfl, h1, h3⟩ := m_d5 hs
    cases h1
    cases h3
    exact fun ad H locs ls he hP hD hS hl => lv_ixor hx hb hd (k ad H locs ls he hP hD hS hl)
  | ishl =>
    obtain ⟨rfl, rfl⟩ := m_if ht
    obtain ⟨a, b, t, z, rfl, h1, h3⟩ := m_d5 hs
    cases h1
    cases h3
    exact fun ad H locs ls he hP hD hS hl => lv_ishl hx hb hd (k ad H locs ls he hP hD hS hl)
  | ishr =>
    obtain ⟨rfl, rfl⟩ := m_if ht
    obtain ⟨a, b, t, z, rfl, h1, h3⟩ := m_d5 hs
    cases h1
    cases h3
    exact fun ad H locs ls he hP hD hS hl => lv_ishr hx hb hd (k ad H locs ls he hP hD hS hl)
  | iushr =>
    obtain ⟨rfl, rfl⟩ := m_if ht
    obtain ⟨a, b, t, z, rfl, h1, h3⟩ := m_d5 hs
    cases h1
    cases h3
    exact fun ad H locs ls he hP hD hS hl => lv_iushr hx hb hd rfl (k ad H locs ls he hP hD hS hl)
  | idiv =>
    obtain ⟨rfl, rfl⟩ := m_if ht
    obtain ⟨a, b, t, z, rfl, h1, h3⟩ := m_d5 hs
    cases h3
    by_cases h0 : b = 0
    · simp [m_ib, h0] at h1
    · simp only [m_ib, h0, if_false, Option.some.injEq] at h1
      subst h1
      exact fun ad H locs ls he hP hD hS hl => lv_idiv hx hb hd h0 (k ad H locs ls he hP hD hS hl)
  | irem =>
    obtain ⟨rfl, rfl⟩ := m_if ht
    obtain ⟨a, b, t, z, rfl, h1, h3⟩ := m_d5 hs
    cases h3
    by_cases h0 : b = 0
    · simp [m_ib, h0] at h1
    · simp only [m_ib, h0, if_false, Option.some.injEq] at h1
      subst h1
      exact fun ad H locs ls he hP hD hS hl => lv_irem hx hb hd h0 (k ad H locs ls he hP hD hS hl)
  | ldiv =>
    obtain ⟨rfl, rfl⟩ := m_if ht
    obtain ⟨a, b, t, z, rfl, h1, h3⟩ := m_d6 hs
    cases h3
    by_cases h0 : b = 0
    · simp [m_lb, h0] at h1
    · simp only [m_lb, h0, if_false, Option.some.injEq] at h1
      subst h1
      exact fun ad H locs ls he hP hD hS hl => lv_ldiv hx hb hd h0 (k ad H locs ls he hP hD hS hl)
  | lrem =>
    obtain ⟨rfl, rfl⟩ := m_if ht
    obtain ⟨a, b, t, z, rfl, h1, h3⟩ := m_d6 hs
    cases h3
    by_cases h0 : b = 0
    · simp [m_lb, h0] at h1
    · simp only [m_lb, h0, if_false, Option.some.injEq] at h1
      subst h1
      exact fun ad H locs ls he hP hD hS hl => lv_lrem hx hb hd h0 (k ad H locs ls he hP hD hS hl)
  | ladd =>
    obtain ⟨rfl, rfl⟩ := m_if ht
    obtain ⟨a, b, t, z, rfl, h1, h3⟩ := m_d6 hs
    cases h1
    cases h3
    exact fun ad H locs ls he hP hD hS hl => lv_ladd hx hb hd (k ad H locs ls he hP hD hS hl)
  | lsub =>
    obtain ⟨rfl, rfl⟩ := m_if ht
    obtain ⟨a, b, t, z, rfl, h1, h3⟩ := m_d6 hs
    cases h1
    cases h3
    exact fun ad H locs ls he hP hD hS hl => lv_lsub hx hb hd (k ad H locs ls he hP hD hS hl)
  | lmul =>
    obtain ⟨rfl, rfl⟩ := m_if ht
    obtain ⟨a, b, t, z, rfl, h1, h3⟩ := m_d6 hs
    cases h1
    cases h3
    exact fun ad H locs ls he hP hD hS hl => lv_lmul hx hb hd (k ad H locs ls he hP hD hS hl)
  | land =>
    obtain ⟨rfl, rfl⟩ := m_if ht
    obtain ⟨a, b, t, z, rfl, h1, h3⟩ := m_d6 hs
    cases h1
    cases h3
    exact fun ad H locs ls he hP hD hS hl => lv_land hx hb hd (k ad H locs ls he hP hD hS hl)
  | lor =>
    obtain ⟨rfl, rfl⟩ := m_if ht
    obtain ⟨a, b, t, z, rfl, h1, h3⟩ := m_d6 hs
    cases h1
    cases h3
    exact fun ad H locs ls he hP hD hS hl => lv_lor hx hb hd (k ad H locs ls he hP hD hS hl)
  | lshl =>
    obtain ⟨rfl, rfl⟩ := m_if ht
    obtain ⟨a, b, t, z, rfl, h1, h3⟩ := m_d28 hs
    cases h1
    cases h3
    exact fun ad H locs ls he hP hD hS hl => lv_lshl hx hb hd rfl (k ad H locs ls he hP hD hS hl)
  | lshr =>
    obtain ⟨rfl, rfl⟩ := m_if ht
    obtain ⟨a, b, t, z, rfl, h1, h3⟩ := m_d28 hs
    cases h1
    cases h3
    exact fun ad H locs ls he hP hD hS hl => lv_lshr hx hb hd rfl (k ad H locs ls he hP hD hS hl)
  | ineg =>
    obtain ⟨rfl, rfl⟩ := m_if ht
    obtain ⟨w, t, z, rfl, h1, h3⟩ := m_d7 hs
    cases w with
    | int x =>
      cases h1
      cases h3
      exact fun ad H locs ls he hP hD hS hl => lv_ineg hx hb hd (k ad H locs ls he hP hD hS hl)
    | _ => cases h1
  | i2l =>
    obtain ⟨rfl, rfl⟩ := m_if ht
    obtain ⟨w, t, z, rfl, h1, h3⟩ := m_d7 hs
    cases w with
    | int x =>
      cases h1
      cases h3
      exact fun ad H locs ls he hP hD hS hl => lv_i2l hx hb hd rfl (k ad H locs ls he hP hD hS hl)
    | _ => cases h1
  | l2i =>
    obtain ⟨rfl, rfl⟩ := m_if ht
    obtain ⟨w, t, z, rfl, h1, h3⟩ := m_d7 hs
    cases w with
    | long x =>
      cases h1
      cases h3
      exact fun ad H locs ls he hP hD hS hl => lv_l2i hx hb hd rfl (k ad H locs ls he hP hD hS hl)
    | _ => cases h1
  | i2b =>
    obtain ⟨rfl, rfl⟩ := m_if ht
    obtain ⟨w, t, z, rfl, h1, h3⟩ := m_d7 hs
    cases w with
    | int x =>
      cases h1
      cases h3
      exact fun ad H locs ls he hP hD hS hl => lv_i2b hx hb hd rfl (k ad H locs ls he hP hD hS hl)
    | _ => cases h1
  | i2s =>
    obtain ⟨rfl, rfl⟩ := m_if ht
    obtain ⟨w, t, z, rfl, h1, h3⟩ := m_d7 hs
    cases w with
    | int x =>
      cases h1
      cases h3
      exact fun ad H locs ls he hP hD hS hl => lv_i2s hx hb hd rfl (k ad H locs ls he hP hD hS hl)
    | _ => cases h1
  | lneg =>
    obtain ⟨rfl, rfl⟩ := m_if ht
    obtain ⟨w, t, z, rfl, h1, h3⟩ := m_d7 hs
    cases w with
    | long x =>
      cases h1
      cases h3
      exact fun ad H locs ls he hP hD hS hl => lv_lneg hx hb hd (k ad H locs ls he hP hD hS hl)
    | _ => cases h1
  | lcmp =>
    obtain ⟨rfl, rfl⟩ := m_if ht
    obtain ⟨a, b, t, rfl, h3⟩ := m_d8 hs
    cases h3
    exact fun ad H locs ls he hP hD hS hl => W.lcmp hx hb hd (k ad H locs ls he hP hD hS hl)
  | pop =>
    obtain ⟨rfl, rfl⟩ := m_if ht
    obtain ⟨t, h1, h3⟩ := m_d9 hs
    cases h3
    cases st with
    | nil => cases h1
    | cons w u =>
      obtain ⟨h2, rfl⟩ := m_if h1
      exact fun ad H locs ls he hP hD hS hl => lv_pop hx hb hd ((m_tv_cat ad w).trans h2) (k ad H locs ls he hP hD hS hl)
  | pop2 =>
    obtain ⟨rfl, rfl⟩ := m_if ht
    obtain ⟨t, h1, h3⟩ := m_d9 hs
    cases h3
    cases st with
    | nil => cases h1
    | cons w u =>
      obtain ⟨h2, rfl⟩ := m_if h1
      exact fun ad H locs ls he hP hD hS hl => lv_pop2_2 hx hb hd ((m_tv_cat ad w).trans h2) (k ad H locs ls he hP hD hS hl)
  | dup =>
    obtain ⟨rfl, rfl⟩ := m_if ht
    obtain ⟨t, h1, h3⟩ := m_d9 hs
    cases h3
    cases st with
    | nil => cases h1
    | cons w u =>
      obtain ⟨h2, rfl⟩ := m_if h1
      exact fun ad H locs ls he hP hD hS hl => lv_dup hx hb hd ((m_tv_cat ad w).trans h2) (k ad H locs ls he hP hD hS hl)
  | dup2 =>
    obtain ⟨rfl, rfl⟩ := m_if ht
    obtain ⟨t, h1, h3⟩ := m_d9 hs
    cases h3
    match st, h1 with
    | w :: x :: u, h1 =>
      obtain ⟨h2, rfl⟩ := m_if h1
      exact fun ad H locs ls he hP hD hS hl => lv_dup2_11 hx hb hd ((m_tv_cat ad w).trans h2.1) ((m_tv_cat ad x).trans h2.2) (k ad H locs ls he hP hD hS hl)
  | _ =>
    simp only [m_tri] at ht
    repeat' split at ht
    all_goals first | (cases ht; done) | (obtain ⟨-, rfl⟩ := m_if ht; dsimp only at hI; omega) | (cases ht; dsimp only at hI; omega)
set_option maxHeartbeats 4000000 in
theorem m_jump (K : m_Cx p s m args meth c D cA A ad0 nL cc y r fz) (hd : decode cc pc = .ok (ins, len)) (ht : m_tri y nL r pc ins len = some I) (hI : 10 ≤ I.1 ∧ I.1 ≤ 14) (hs : m_step fz I (pc + len) lv st σ = some (.inl (pc', lv', st', σ'))) (k : m_WW p l e R s m args below meth c Q D cA A ad0 n0 z0 nL pc' lv' st' σ') : m_WW p l e R s m args below meth c Q D cA A ad0 n0 z0 nL pc lv st σ := by
  obtain ⟨hx, hb, hml, hown, hts, hr, hlocks, hnm, hK, hA, hFz, hN⟩ := K
  cases ins with
  | goto off =>
    obtain ⟨⟨rfl, h0⟩, rfl⟩ := m_if ht
    cases hs
    exact fun ad H locs ls he hP hD hS hl => lv_goto hx hb hd (Int.toNat_of_nonneg h0).symm (k ad H locs ls he hP hD hS hl)
  | ifCond kc off =>
    obtain ⟨⟨rfl, h0⟩, rfl⟩ := m_if ht
    obtain ⟨a, t, rfl, h3⟩ := m_d11 hs
    cases h3
    have htg := (Int.toNat_of_nonneg h0).symm
    cases kc with
    | eq =>
      refine fun ad H locs ls he hP hD hS hl => lv_if_eq hx hb hd htg (fun hc => ?_) (fun hc => ?_)
      · rw [if_pos (by simpa [m_cd, m_cc] using hc)] at k
        exact (k ad H locs ls he hP hD hS hl)
      · rw [if_neg (by simpa [m_cd, m_cc] using hc)] at k
        exact (k ad H locs ls he hP hD hS hl)
    | ne =>
      refine fun ad H locs ls he hP hD hS hl => lv_if_ne hx hb hd htg (fun hc => ?_) (fun hc => ?_)
      · rw [if_pos (by simpa [m_cd, m_cc] using hc)] at k
        exact (k ad H locs ls he hP hD hS hl)
      · rw [if_neg (by simpa [m_cd, m_cc] using hc)] at k
        exact (k ad H locs ls he hP hD hS hl)
    | lt =>
      refine fun ad H locs ls he hP hD hS hl => lv_if_lt hx hb hd htg (fun hc => ?_) (fun hc => ?_)
      · rw [if_pos (by simpa [m_cd, m_cc] using hc)] at k
        exact (k ad H locs ls he hP hD hS hl)
      · rw [if_neg (by simpa [m_cd, m_cc] using hc)] at k
        exact (k ad H locs ls he hP hD hS hl)
    | ge =>
      refine fun ad H locs ls he hP hD hS hl => lv_if_ge hx hb hd htg (fun hc => ?_) (fun hc => ?_)
      · rw [if_pos (by simpa [m_cd, m_cc] using hc)] at k
        exact (k ad H locs ls he hP hD hS hl)
      · rw [if_neg (by simpa [m_cd, m_cc] using hc)] at k
        exact (k ad H locs ls he hP hD hS hl)
    | gt =>
      refine fun ad H locs ls he hP hD hS hl => lv_if_gt hx hb hd htg (fun hc => ?_) (fun hc => ?_)
      · rw [if_pos (by simpa [m_cd, m_cc] using hc)] at k
        exact (k ad H locs ls he hP hD hS hl)
      · rw [if_neg (by simpa [m_cd, m_cc] using hc)] at k
        exact (k ad H locs ls he hP hD hS hl)
    | le =>
      refine fun ad H locs ls he hP hD hS hl => lv_if_le hx hb hd htg (fun hc => ?_) (fun hc => ?_)
      · rw [if_pos (by simpa [m_cd, m_cc] using hc)] at k
        exact (k ad H locs ls he hP hD hS hl)
      · rw [if_neg (by simpa [m_cd, m_cc] using hc)] at k
        exact (k ad H locs ls he hP hD hS hl)
  | if_icmp kc off =>
    obtain ⟨⟨rfl, h0⟩, rfl⟩ := m_if ht
    obtain ⟨a, b, t, rfl, h3⟩ := m_d12 hs
    cases h3
    have htg := (Int.toNat_of_nonneg h0).symm
    cases kc with
    | eq =>
      refine fun ad H locs ls he hP hD hS hl => lv_icmp_eq hx hb hd htg (fun hc => ?_) (fun hc => ?_)
      · rw [if_pos (by simpa [m_cd, m_cc] using hc)] at k
        exact (k ad H locs ls he hP hD hS hl)
      · rw [if_neg (by simpa [m_cd, m_cc] using hc)] at k
        exact (k ad H locs ls he hP hD hS hl)
    | ne =>
      refine fun ad H locs ls he hP hD hS hl => lv_icmp_ne hx hb hd htg (fun hc => ?_) (fun hc => ?_)
      · rw [if_pos (by simpa [m_cd, m_cc] using hc)] at k
        exact (k ad H locs ls he hP hD hS hl)
      · rw [if_neg (by simpa [m_cd, m_cc] using hc)] at k
        exact (k ad H locs ls he hP hD hS hl)
    | lt =>
      refine fun ad H locs ls he hP hD hS hl => lv_icmp_lt hx hb hd htg (fun hc => ?_) (fun hc => ?_)
      · rw [if_pos (by simpa [m_cd, m_cc] using hc)] at k
        exact (k ad H locs ls he hP hD hS hl)
      · rw [if_neg (by simpa [m_cd, m_cc] using hc)] at k
        exact (k ad H locs ls he hP hD hS hl)
    | ge =>
      refine fun ad H locs ls he hP hD hS hl => lv_icmp_ge hx hb hd htg (fun hc => ?_) (fun hc => ?_)
      · rw [if_pos (by simpa [m_cd, m_cc] using hc)] at k
        exact (k ad H locs ls he hP hD hS hl)
      · rw [if_neg (by simpa [m_cd, m_cc] using hc)] at k
        exact (k ad H locs ls he hP hD hS hl)
    | gt =>
      refine fun ad H locs ls he hP hD hS hl => lv_icmp_gt hx hb hd htg (fun hc => ?_) (fun hc => ?_)
      · rw [if_pos (by simpa [m_cd, m_cc] using hc)] at k
        exact (k ad H locs ls he hP hD hS hl)
      · rw [if_neg (by simpa [m_cd, m_cc] using hc)] at k
        exact (k ad H locs ls he hP hD hS hl)
    | le =>
      refine fun ad H locs ls he hP hD hS hl => lv_icmp_le hx hb hd htg (fun hc => ?_) (fun hc => ?_)
      · rw [if_pos (by simpa [m_cd, m_cc] using hc)] at k
        exact (k ad H locs ls he hP hD hS hl)
      · rw [if_neg (by simpa [m_cd, m_cc] using hc)] at k
        exact (k ad H locs ls he hP hD hS hl)
  | tableswitch d lo hi offs =>
    obtain ⟨⟨h0, h1, h2⟩, rfl⟩ := m_if ht
    obtain ⟨a, t, rfl, h3⟩ := m_d13 hs
    cases h3
    intro ad H locs ls he hP hD hS hl
    by_cases hlo : a.toInt < lo
    · have hk : m_tsw ((pc : Int) + d).toNat lo (offs.toList.map (fun o => ((pc : Int) + o).toNat)) a.toInt = ((pc : Int) + d).toNat := by simp [m_tsw, hlo]
      rw [hk] at k
      exact lv_tableOut hx hb hd (Or.inl hlo) (Int.toNat_of_nonneg h0).symm (k ad H locs ls he hP hD hS hl)
    · cases ho : offs[(a.toInt - lo).toNat]? with
      | none =>
        have hk : m_tsw ((pc : Int) + d).toNat lo (offs.toList.map (fun o => ((pc : Int) + o).toNat)) a.toInt = ((pc : Int) + d).toNat := by simp [m_tsw, hlo, ho]
        rw [hk] at k
        have hsz : offs.size ≤ (a.toInt - lo).toNat := by simpa using ho
        exact lv_tableOut hx hb hd (Or.inr (by omega)) (Int.toNat_of_nonneg h0).symm (k ad H locs ls he hP hD hS hl)
      | some off =>
        have hk : m_tsw ((pc : Int) + d).toNat lo (offs.toList.map (fun o => ((pc : Int) + o).toNat)) a.toInt = ((pc : Int) + off).toNat := by simp [m_tsw, hlo, ho]
        rw [hk] at k
        have hsz : (a.toInt - lo).toNat < offs.size := (Array.getElem?_eq_some_iff.mp ho).1
        have hof : 0 ≤ (pc : Int) + off := by
          have h4 := List.all_eq_true.mp h2 off (by simpa using Array.mem_of_getElem? ho)
          simpa using h4
        exact lv_tableIn hx hb hd hlo (by omega) ho (Int.toNat_of_nonneg hof).symm (k ad H locs ls he hP hD hS hl)
  | lookupswitch d ps =>
    obtain ⟨⟨h0, h1, h2⟩, rfl⟩ := m_if ht
    obtain ⟨a, t, rfl, h3⟩ := m_d14 hs
    cases h3
    exact fun ad H locs ls he hP hD hS hl => lv_lookup hx hb hd h1 rfl (m_lsw_off h0 h2) (k ad H locs ls he hP hD hS hl)
  | _ =>
    simp only [m_tri] at ht
    repeat' split at ht
    all_goals first | (cases ht; done) | (obtain ⟨-, rfl⟩ := m_if ht; dsimp only at hI; omega) | (cases ht; dsimp only at hI; omega)
end M7
end
section
section M8
variable {p : Program} {l : Launch} {e : Env} {R : Room} {s : State} {m : MethodId} {args : Array Value} {below : List Frame} {meth : Method} {c : Code} {Q : State → Prop} {D : va_G} {cA : Nat → ClassId} {A : Nat → Prop} {ad0 : Nat → Nat} {n0 z0 nL : Nat} {cc : ByteArray} {fz : List (List Int32)} {y : MethodName} {r : Option FieldType}
variable {pc pc' len : Nat} {lv lv' : m_V} {st st' : List Value} {σ σ' : m_S} {ins : Instr} {I : m_I}
/-- one cell in place of another: the heap behind it -/
theorem m_put {b : Nat} {x x0 : m_E} (k : m_WW p l e R s m args below meth c Q D cA A ad0 n0 z0 nL pc lv st (σ.set b x)) (hb : σ[b]? = some x0) (hx : m_es x = m_es x0) {ad : Nat → Nat} {H : Heap} {locs : List Loc} {ls : Array Slot} (he : m_ext ad0 ad n0) (hP : va_P D vwCl ((m_w cA ad σ).set b (ad b, m_te cA ad x)) H) (hD : va_D A ((m_w cA ad σ).set b (ad b, m_te cA ad x))) (hS : va_S A s.heap H locs) (hl : lv_has ls nL (m_tl ad lv)) : W p l e R s m args below meth c H locs (σ.length - n0) (m_sz σ - z0) Q (F0 m pc ls (st.map (m_tv ad))) := by
  have h := k ad H locs ls he (by rw [← m_w_set]; exact hP) (by rw [← m_w_set]; exact hD) hS hl
  rw [List.length_set, m_sz_set hb hx] at h
  exact h
theorem m_fzX (hFz : m_Fz fz ad0 A s) {ad : Nat → Nat} (he : m_ext ad0 ad n0) {b : Nat} {xs : List Int32} (hb : m_fzb ≤ b) (h : fz[b - m_fzb]? = some xs) : va_X (ad b) xs.length (fun i => xs.getD i 0) s s.heap ∧ ad b < s.heap.size ∧ ¬ A (ad b) := by
  have h1 := hFz (b - m_fzb) xs h
  rw [show m_fzb + (b - m_fzb) = b by omega] at h1
  rw [he.2 b hb]
  exact h1
set_option maxHeartbeats 4000000 in
theorem m_field (K : m_Cx p s m args meth c D cA A ad0 nL cc y r fz) (hlk : m_lkAll) (hcl : m_clsOk) (hd : decode cc pc = .ok (ins, len)) (ht : m_tri y nL r pc ins len = some I) (hI : I.1 = 15 ∨ I.1 = 16) (hs : m_step fz I (pc + len) lv st σ = some (.inl (pc', lv', st', σ'))) (k : m_WW p l e R s m args below meth c Q D cA A ad0 n0 z0 nL pc' lv' st' σ') : m_WW p l e R s m args below meth c Q D cA A ad0 n0 z0 nL pc lv st σ := by
  obtain ⟨hx, hb, hml, hown, hts, hr, hlocks, hnm, hK, hA, hFz, hN⟩ := K
  cases ins with
  | getfield i =>
    simp only [m_tri] at ht
    split at ht
    · rename_i a v w h1
      obtain ⟨rfl, rfl⟩ := m_if ht
      obtain ⟨b, t, fs, x, rfl, g1, g2, g3⟩ := m_d15 hs
      cases g3
      obtain ⟨⟨C, T, N⟩, q1, q2, q3⟩ := hlk _ _ _ h1
      obtain ⟨u1, u2, u3, u4, u5, u6⟩ := hcl _ _ _ _ q1
      exact fun ad H locs ls he hP hD hS hl => va_get hx hb hts u1 hown hK hP b (m_w_at g1) q1 v.toNat q2 (hts _ q3) (fun _ h9 => h9) (by simp [g2]) hd (k ad H locs ls he hP hD hS hl)
    · cases ht
  | putfield i =>
    simp only [m_tri] at ht
    split at ht
    · rename_i a v w h1
      obtain ⟨⟨rfl, hf⟩, rfl⟩ := m_if ht
      obtain ⟨x, b, t, fs, rfl, g1, g2, g3, g4⟩ := m_d16 hs
      cases g4
      obtain ⟨⟨C, T, N⟩, q1, q2, q3⟩ := hlk _ _ _ h1
      obtain ⟨u1, u2, u3, u4, u5, u6⟩ := hcl _ _ _ _ q1
      have hfin : m_fin a v.toNat = (T v.toNat).2.2.2 := by unfold m_fin; rw [q1]
      have hfdc : m_fdc a v.toNat = (T v.toNat).1 := by unfold m_fdc; rw [q1]
      intro ad H locs ls he hP hD hS hl
      have hset : ((fs.map (m_tv ad)).set v.toNat (m_tv ad x)) = (fs.set v.toNat x).map (m_tv ad) := by rw [List.map_set]
      by_cases hff : (T v.toNat).2.2.2 = false
      · refine va_put hx hb hts u1 (m_tyf a) u2 u3 hown hK hP hD hS b (m_w_at g1) q1 v.toNat q2 (hts _ q3) (fun _ h9 => h9) hff (u2 _ q2) (m_fit_ok g3).1 (m_fit_ok g3).2 (by simpa using g2) hd (fun H1 locs1 hP1 hD1 hS1 => ?_)
        rw [hset] at hP1 hD1
        exact m_put k g1 (by simp [m_es]) he hP1 hD1 hS1 hl
      · rw [hfin, hfdc] at hf
        have hf2 := hf.resolve_left hff
        refine va_putF hx hb hts u1 (m_tyf a) u2 u3 hown hK hP hD hS b (m_w_at g1) q1 v.toNat q2 (hts _ q3) (fun _ h9 => h9) (by simpa using hff) (hnm hf2.1) hf2.2 (u2 _ q2) (m_fit_ok g3).1 (m_fit_ok g3).2 (by simpa using g2) hd (fun H1 locs1 hP1 hD1 hS1 => ?_)
        rw [hset] at hP1 hD1
        exact m_put k g1 (by simp [m_es]) he hP1 hD1 hS1 hl
    · cases ht
  | _ =>
    simp only [m_tri] at ht
    repeat' split at ht
    all_goals first | (cases ht; done) | (obtain ⟨-, rfl⟩ := m_if ht; dsimp only at hI; omega) | (cases ht; dsimp only at hI; omega)
set_option maxHeartbeats 4000000 in
theorem m_load (K : m_Cx p s m args meth c D cA A ad0 nL cc y r fz) (hd : decode cc pc = .ok (ins, len)) (ht : m_tri y nL r pc ins len = some I) (hI : I.1 = 18 ∨ I.1 = 20) (hs : m_step fz I (pc + len) lv st σ = some (.inl (pc', lv', st', σ'))) (k : m_WW p l e R s m args below meth c Q D cA A ad0 n0 z0 nL pc' lv' st' σ') : m_WW p l e R s m args below meth c Q D cA A ad0 n0 z0 nL pc lv st σ := by
  obtain ⟨hx, hb, hml, hown, hts, hr, hlocks, hnm, hK, hA, hFz, hN⟩ := K
  cases ins with
  | iaload =>
    obtain ⟨rfl, rfl⟩ := m_if ht
    obtain ⟨i, b, t, w, rfl, h1, h3⟩ := m_d18 hs
    cases h3
    intro ad H locs ls he hP hD hS hl
    unfold m_ald at h1
    split at h1
    · rename_i hfb
      split at h1
      · rename_i xs hxs
        obtain ⟨⟨h4, h5⟩, rfl⟩ := m_if h1
        obtain ⟨f1, f2, f3⟩ := m_fzX hFz he hfb hxs
        exact va_sld hx hb f1 f2 f3 hS (m_in_vp h5) hd (k ad H locs ls he hP hD hS hl)
      · cases h1
    · split at h1
      · rename_i tt xs hxs
        obtain ⟨⟨h4, h5⟩, rfl⟩ := m_if h1
        rcases h4 with ⟨-, rfl⟩ | ⟨h4, -⟩
        · exact va_iald hx hb hK hP b 0 (m_w_at hxs) (m_tys_at cA (by decide)) (m_in_vp h5) hd (k ad H locs ls he hP hD hS hl)
        · exact absurd h4 (by decide)
      · rename_i tt xs hxs
        obtain ⟨⟨h4, h6, h5⟩, rfl⟩ := m_if h1
        exact absurd h4 (by decide)
      · rename_i tt xs hxs
        obtain ⟨⟨h4, h6, h5⟩, rfl⟩ := m_if h1
        exact absurd h4 (by decide)
      · cases h1
  | baload =>
    obtain ⟨rfl, rfl⟩ := m_if ht
    obtain ⟨i, b, t, w, rfl, h1, h3⟩ := m_d18 hs
    cases h3
    intro ad H locs ls he hP hD hS hl
    unfold m_ald at h1
    split at h1
    · rename_i hfb
      split at h1
      · rename_i xs hxs
        obtain ⟨⟨h4, h5⟩, rfl⟩ := m_if h1
        obtain ⟨f1, f2, f3⟩ := m_fzX hFz he hfb hxs
        exact absurd h4 (by decide)
      · cases h1
    · split at h1
      · rename_i tt xs hxs
        obtain ⟨⟨h4, h5⟩, rfl⟩ := m_if h1
        rcases h4 with ⟨h4, -⟩ | ⟨-, rfl | rfl⟩
        · exact absurd h4 (by decide)
        · exact va_bald hx hb hK hP b 1 (m_w_at hxs) (m_tys_at cA (by decide)) (m_in_vp h5) hd (k ad H locs ls he hP hD hS hl)
        · exact va_zald hx hb hK hP b 2 (m_w_at hxs) (m_tys_at cA (by decide)) (m_in_vp h5) hd (k ad H locs ls he hP hD hS hl)
      · rename_i tt xs hxs
        obtain ⟨⟨h4, h6, h5⟩, rfl⟩ := m_if h1
        exact absurd h4 (by decide)
      · rename_i tt xs hxs
        obtain ⟨⟨h4, h6, h5⟩, rfl⟩ := m_if h1
        exact absurd h4 (by decide)
      · cases h1
  | laload =>
    obtain ⟨rfl, rfl⟩ := m_if ht
    obtain ⟨i, b, t, w, rfl, h1, h3⟩ := m_d18 hs
    cases h3
    intro ad H locs ls he hP hD hS hl
    unfold m_ald at h1
    split at h1
    · rename_i hfb
      split at h1
      · rename_i xs hxs
        obtain ⟨⟨h4, h5⟩, rfl⟩ := m_if h1
        obtain ⟨f1, f2, f3⟩ := m_fzX hFz he hfb hxs
        exact absurd h4 (by decide)
      · cases h1
    · split at h1
      · rename_i tt xs hxs
        obtain ⟨⟨h4, h5⟩, rfl⟩ := m_if h1
        exact absurd h4 (by simp)
      · rename_i tt xs hxs
        obtain ⟨⟨h4, h6, h5⟩, rfl⟩ := m_if h1
        subst h6
        exact va_lald hx hb hK hP b 3 (m_w_at hxs) (m_tys_at cA (by decide)) (m_in_vp h5) hd (k ad H locs ls he hP hD hS hl)
      · rename_i tt xs hxs
        obtain ⟨⟨h4, h6, h5⟩, rfl⟩ := m_if h1
        exact absurd h4 (by decide)
      · cases h1
  | aaload =>
    obtain ⟨rfl, rfl⟩ := m_if ht
    obtain ⟨i, b, t, w, rfl, h1, h3⟩ := m_d18 hs
    cases h3
    intro ad H locs ls he hP hD hS hl
    unfold m_ald at h1
    split at h1
    · rename_i hfb
      split at h1
      · rename_i xs hxs
        obtain ⟨⟨h4, h5⟩, rfl⟩ := m_if h1
        obtain ⟨f1, f2, f3⟩ := m_fzX hFz he hfb hxs
        exact absurd h4 (by decide)
      · cases h1
    · split at h1
      · rename_i tt xs hxs
        obtain ⟨⟨h4, h5⟩, rfl⟩ := m_if h1
        exact absurd h4 (by simp)
      · rename_i tt xs hxs
        obtain ⟨⟨h4, h6, h5⟩, rfl⟩ := m_if h1
        exact absurd h4 (by decide)
      · rename_i tt xs hxs
        obtain ⟨⟨h4, h6, h5⟩, rfl⟩ := m_if h1
        subst h6
        have h7 := k ad H locs ls he hP hD hS hl
        refine va_aldq hx hb hK hP b 4 (m_w_at hxs) (m_tys_at cA (by decide)) (m_in_vp h5) hd ?_
        have h8 : m_tv ad (va_rf (xs.getD i.toNatClampNeg none)) = va_rf ((xs.getD i.toNatClampNeg none).map ad) := by cases xs.getD i.toNatClampNeg none <;> rfl
        rw [List.map_cons, h8] at h7
        exact h7
      · cases h1
  | arraylength =>
    obtain ⟨rfl, rfl⟩ := m_if ht
    obtain ⟨b, t, n, rfl, h1, h3⟩ := m_d20 hs
    cases h3
    intro ad H locs ls he hP hD hS hl
    unfold m_len at h1
    split at h1
    · rename_i hfb
      obtain ⟨xs, hxs, rfl⟩ := Option.map_eq_some_iff.mp h1
      obtain ⟨f1, f2, f3⟩ := m_fzX hFz he hfb hxs
      exact va_slen hx hb f1 f2 f3 hS hd (k ad H locs ls he hP hD hS hl)
    · split at h1
      · rename_i tt xs hxs
        obtain ⟨h4, rfl⟩ := m_if h1
        exact va_alen hx hb hK hP b tt (m_w_at hxs) (m_tys_at cA (by omega)) rfl hd (k ad H locs ls he hP hD hS hl)
      · rename_i tt xs hxs
        obtain ⟨rfl, rfl⟩ := m_if h1
        exact va_alen hx hb hK hP b 3 (m_w_at hxs) (m_tys_at cA (by omega)) rfl hd (k ad H locs ls he hP hD hS hl)
      · rename_i tt xs hxs
        obtain ⟨rfl, rfl⟩ := m_if h1
        exact va_alen hx hb hK hP b 4 (m_w_at hxs) (m_tys_at cA (by omega)) rfl hd (k ad H locs ls he hP hD hS hl)
      · cases h1
  | _ =>
    simp only [m_tri] at ht
    repeat' split at ht
    all_goals first | (cases ht; done) | (obtain ⟨-, rfl⟩ := m_if ht; dsimp only at hI; omega) | (cases ht; dsimp only at hI; omega)
end M8
end
section
section M9
variable {p : Program} {l : Launch} {e : Env} {R : Room} {s : State} {m : MethodId} {args : Array Value} {below : List Frame} {meth : Method} {c : Code} {Q : State → Prop} {D : va_G} {cA : Nat → ClassId} {A : Nat → Prop} {ad0 : Nat → Nat} {n0 z0 nL : Nat} {cc : ByteArray} {fz : List (List Int32)} {y : MethodName} {r : Option FieldType}
variable {pc pc' len : Nat} {lv lv' : m_V} {st st' : List Value} {σ σ' : m_S} {ins : Instr} {I : m_I}
theorem m_wsr {ad : Nat → Nat} {b : Nat} {x : va_E} {z : m_E} {H : Heap} (he : x = m_te cA ad z) : va_P D vwCl ((m_w cA ad σ).set b (ad b, x)) H → va_P D vwCl ((m_w cA ad σ).set b (ad b, m_te cA ad z)) H := by subst he; exact id
theorem m_wdr {ad : Nat → Nat} {b : Nat} {x : va_E} {z : m_E} (he : x = m_te cA ad z) : va_D A ((m_w cA ad σ).set b (ad b, x)) → va_D A ((m_w cA ad σ).set b (ad b, m_te cA ad z)) := by subst he; exact id
theorem m_e0 {ad : Nat → Nat} {t k : Nat} {xs : List Int32} {x : Int32} (hk : k < xs.length) : (Sum.inl (cA t, xs.length, .inl (upd (fun j => xs.getD j 0) k x)) : va_E) = m_te cA ad (.inl (t, .inl (xs.set k x))) := by
  rw [m_upd hk]
  show _ = Sum.inl (cA t, (xs.set k x).length, _)
  rw [List.length_set]
theorem m_e1 {ad : Nat → Nat} {t k : Nat} {xs : List Int64} {x : Int64} (hk : k < xs.length) : (Sum.inl (cA t, xs.length, .inr (.inl (vp_updL (fun j => xs.getD j 0) k x))) : va_E) = m_te cA ad (.inl (t, .inr (.inl (xs.set k x)))) := by
  rw [m_updL hk]
  show _ = Sum.inl (cA t, (xs.set k x).length, _)
  rw [List.length_set]
theorem m_e2 {ad : Nat → Nat} {t k r : Nat} {xs : List (Option Nat)} (hk : k < xs.length) : (Sum.inl (cA t, xs.length, .inr (.inr (.inr (.inr (va_up (fun j => (xs.getD j none).map ad) k (some (ad r))))))) : va_E) = m_te cA ad (.inl (t, .inr (.inr (xs.set k (some r))))) := by
  rw [m_updQ hk]
  show _ = Sum.inl (cA t, (xs.set k (some r)).length, _)
  rw [List.length_set]
theorem m_e3 {ad : Nat → Nat} {t sp dp n : Nat} {xs ys : List Int32} (h : dp + n ≤ ys.length) : (Sum.inl (cA t, ys.length, .inl (va_cpy (fun j => xs.getD j 0) (fun j => ys.getD j 0) sp dp n)) : va_E) = m_te cA ad (.inl (t, .inl (m_cpy 0 xs ys sp dp n))) := by
  rw [m_cpy_eq h]
  show _ = Sum.inl (cA t, (m_cpy 0 xs ys sp dp n).length, _)
  rw [m_cpy_len]
theorem m_e4 {ad : Nat → Nat} {t sp dp n : Nat} {xs ys : List Int64} (h : dp + n ≤ ys.length) : (Sum.inl (cA t, ys.length, .inr (.inl (va_cpy (fun j => xs.getD j 0) (fun j => ys.getD j 0) sp dp n))) : va_E) = m_te cA ad (.inl (t, .inr (.inl (m_cpy 0 xs ys sp dp n)))) := by
  rw [m_cpy_eq h]
  show _ = Sum.inl (cA t, (m_cpy 0 xs ys sp dp n).length, _)
  rw [m_cpy_len]
set_option maxHeartbeats 4000000 in
theorem m_store (K : m_Cx p s m args meth c D cA A ad0 nL cc y r fz) (hcl : m_clsOk) (hd : decode cc pc = .ok (ins, len)) (ht : m_tri y nL r pc ins len = some I) (hI : I.1 = 19) (hs : m_step fz I (pc + len) lv st σ = some (.inl (pc', lv', st', σ'))) (k : m_WW p l e R s m args below meth c Q D cA A ad0 n0 z0 nL pc' lv' st' σ') : m_WW p l e R s m args below meth c Q D cA A ad0 n0 z0 nL pc lv st σ := by
  obtain ⟨hx, hb, hml, hown, hts, hr, hlocks, hnm, hK, hA, hFz, hN⟩ := K
  cases ins with
  | iastore =>
    obtain ⟨rfl, rfl⟩ := m_if ht
    obtain ⟨w, i, b, t, τ, rfl, h1, h3⟩ := m_d19 hs
    cases h3
    intro ad H locs ls he hP hD hS hl
    unfold m_ast at h1
    split at h1
    · rename_i tt xs x hxs
      split at h1
      · rename_i h5
        have h6 := m_in_lt h5
        simp only [Nat.zero_ne_one, false_and, if_false, true_and] at h1
        obtain ⟨rfl, rfl⟩ := m_if h1
        exact va_iast hx hb hK hP hD hS b 0 (m_w_at hxs) (m_tys_at cA (by decide)) (m_in_vp h5) hd (fun H1 locs1 hP1 hD1 hS1 => m_put k hxs (by simp [m_es]) he (m_wsr (m_e0 h6) hP1) (m_wdr (m_e0 h6) hD1) hS1 hl)
      · cases h1
    · rename_i tt xs x hxs
      obtain ⟨⟨h4, h7, h5⟩, rfl⟩ := m_if h1
      have h6 := m_in_lt h5
      exact absurd h4 (by decide)
    · rename_i tt xs rr hxs
      split at h1
      · rename_i ci fs hrr
        obtain ⟨⟨rfl, h4, h7, h5⟩, rfl⟩ := m_if h1
        have h6 := m_in_lt h5
        exact absurd h4 (by decide)
      · cases h1
    · cases h1
  | bastore =>
    obtain ⟨rfl, rfl⟩ := m_if ht
    obtain ⟨w, i, b, t, τ, rfl, h1, h3⟩ := m_d19 hs
    cases h3
    intro ad H locs ls he hP hD hS hl
    unfold m_ast at h1
    split at h1
    · rename_i tt xs x hxs
      split at h1
      · rename_i h5
        have h6 := m_in_lt h5
        simp only [Nat.one_ne_zero, false_and, if_false, true_and] at h1
        split at h1
        · rename_i h8
          subst h8
          cases h1
          exact va_bast hx hb hK hP hD hS b 1 (m_w_at hxs) (m_tys_at cA (by decide)) (m_in_vp h5) hd (fun H1 locs1 hP1 hD1 hS1 => m_put k hxs (by simp [m_es]) he (m_wsr (m_e0 h6) hP1) (m_wdr (m_e0 h6) hD1) hS1 hl)
        · obtain ⟨rfl, rfl⟩ := m_if h1
          exact va_zast hx hb hK hP hD hS b 2 (m_w_at hxs) (m_tys_at cA (by decide)) (m_in_vp h5) hd (fun H1 locs1 hP1 hD1 hS1 => m_put k hxs (by simp [m_es]) he (m_wsr (m_e0 h6) hP1) (m_wdr (m_e0 h6) hD1) hS1 hl)
      · cases h1
    · rename_i tt xs x hxs
      obtain ⟨⟨h4, h7, h5⟩, rfl⟩ := m_if h1
      have h6 := m_in_lt h5
      exact absurd h4 (by decide)
    · rename_i tt xs rr hxs
      split at h1
      · rename_i ci fs hrr
        obtain ⟨⟨rfl, h4, h7, h5⟩, rfl⟩ := m_if h1
        have h6 := m_in_lt h5
        exact absurd h4 (by decide)
      · cases h1
    · cases h1
  | lastore =>
    obtain ⟨rfl, rfl⟩ := m_if ht
    obtain ⟨w, i, b, t, τ, rfl, h1, h3⟩ := m_d19 hs
    cases h3
    intro ad H locs ls he hP hD hS hl
    unfold m_ast at h1
    split at h1
    · rename_i tt xs x hxs
      split at h1
      · rename_i h5
        have h6 := m_in_lt h5
        simp at h1
      · cases h1
    · rename_i tt xs x hxs
      obtain ⟨⟨h4, h7, h5⟩, rfl⟩ := m_if h1
      have h6 := m_in_lt h5
      subst h7
      exact va_last hx hb hK hP hD hS b 3 (m_w_at hxs) (m_tys_at cA (by decide)) (m_in_vp h5) hd (fun H1 locs1 hP1 hD1 hS1 => m_put k hxs (by simp [m_es]) he (m_wsr (m_e1 h6) hP1) (m_wdr (m_e1 h6) hD1) hS1 hl)
    · rename_i tt xs rr hxs
      split at h1
      · rename_i ci fs hrr
        obtain ⟨⟨rfl, h4, h7, h5⟩, rfl⟩ := m_if h1
        have h6 := m_in_lt h5
        exact absurd h4 (by decide)
      · cases h1
    · cases h1
  | aastore =>
    obtain ⟨rfl, rfl⟩ := m_if ht
    obtain ⟨w, i, b, t, τ, rfl, h1, h3⟩ := m_d19 hs
    cases h3
    intro ad H locs ls he hP hD hS hl
    unfold m_ast at h1
    split at h1
    · rename_i tt xs x hxs
      split at h1
      · rename_i h5
        have h6 := m_in_lt h5
        simp at h1
      · cases h1
    · rename_i tt xs x hxs
      obtain ⟨⟨h4, h7, h5⟩, rfl⟩ := m_if h1
      have h6 := m_in_lt h5
      exact absurd h4 (by decide)
    · rename_i tt xs rr hxs
      split at h1
      · rename_i ci fs hrr
        obtain ⟨⟨rfl, h4, h7, h5⟩, rfl⟩ := m_if h1
        have h6 := m_in_lt h5
        subst h7
        exact va_astq hx hb hK hP hD hS b 4 rr 1 (r := (RX1, TX1, 17)) (m_w_at hxs) (m_tys_at cA (by decide)) (m_w_at hrr) rfl (m_in_vp h5) hd (fun H1 locs1 hP1 hD1 hS1 => m_put k hxs (by simp [m_es]) he (m_wsr (m_e2 h6) hP1) (m_wdr (m_e2 h6) hD1) hS1 hl)
      · cases h1
    · cases h1
  | _ =>
    simp only [m_tri] at ht
    repeat' split at ht
    all_goals first | (cases ht; done) | (obtain ⟨-, rfl⟩ := m_if ht; dsimp only at hI; omega) | (cases ht; dsimp only at hI; omega)
set_option maxHeartbeats 4000000 in
theorem m_sys (K : m_Cx p s m args meth c D cA A ad0 nL cc y r fz) (hlk : m_lkAll) (hg : m_glob) (hRf : 1 ≤ R.frames) (hRl : 100 ≤ R.locals) (hd : decode cc pc = .ok (ins, len)) (ht : m_tri y nL r pc ins len = some I) (hI : I.1 = 25 ∨ I.1 = 26) (hs : m_step fz I (pc + len) lv st σ = some (.inl (pc', lv', st', σ'))) (k : m_WW p l e R s m args below meth c Q D cA A ad0 n0 z0 nL pc' lv' st' σ') : m_WW p l e R s m args below meth c Q D cA A ad0 n0 z0 nL pc lv st σ := by
  obtain ⟨hx, hb, hml, hown, hts, hr, hlocks, hnm, hK, hA, hFz, hN⟩ := K
  cases ins with
  | invokespecial i =>
    simp only [m_tri] at ht
    split at ht
    · obtain ⟨-, rfl⟩ := m_if ht
      dsimp only at hI
      omega
    · rename_i h1
      obtain ⟨rfl, rfl⟩ := m_if ht
      obtain ⟨b, t, rfl, h2, h3⟩ := m_d25 hs
      cases h3
      intro ad H locs ls he hP hD hS hl
      have h2' : ((st'.map (m_tv ad)).map fun v => v.category).sum ≤ 8 := by simpa [List.map_map, Function.comp_def, m_tv_cat] using h2
      refine W.objInit hx hb hown (hts _ (hlk _ _ _ h1)) (hts _ hg.2.1) (hts _ hg.2.2.1) rfl (hl.1.trans hml.symm) rfl hd hRf ?_ (k ad H locs ls he hP hD hS hl)
      have h4 := lv_room (m := m) (pc := pc) (ls := ls) (rest := st'.map (m_tv ad)) h2'
      have h5 : (F0 m pc ls (st'.map (m_tv ad))).monitorRoom = 0 := rfl
      show 2 * (F0 m pc ls _).monitorRoom + _ + 12 ≤ R.locals
      have h6 : (F0 m pc ls (((Value.ref b) :: st').map (m_tv ad))).monitorRoom = 0 := rfl
      rw [h6]
      omega
    · cases ht
  | invokestatic i =>
    simp only [m_tri] at ht
    split at ht
    · obtain ⟨-, rfl⟩ := m_if ht
      dsimp only at hI
      omega
    · rename_i h1
      obtain ⟨rfl, rfl⟩ := m_if ht
      obtain ⟨n, dp, b1, sp, b0, t, τ, rfl, h2, h3, h4, h5, h6, h7⟩ := m_d26 hs
      cases h7
      intro ad H locs ls he hP hD hS hl
      have h2' : ((st'.map (m_tv ad)).map fun v => v.category).sum ≤ 8 := by simpa [List.map_map, Function.comp_def, m_tv_cat] using h5
      have hlo : ((st'.map (m_tv ad)).map fun v => v.category).sum + (nativeFrameWords "java/lang/System" "arraycopy" 5 + 11) ≤ R.locals := by
        have h9 : nativeFrameWords "java/lang/System" "arraycopy" 5 ≤ 60 := by decide +kernel
        omega
      unfold m_acp at h6
      split at h6
      · rename_i t0 xs t1 ys g0 g1
        obtain ⟨⟨rfl, rfl, q1, q2⟩, rfl⟩ := m_if h6
        exact va_copyi hx hb (hml.trans hl.1.symm) hown (hts _ (hlk _ _ _ h1)) (hts _ hg.2.2.2.1) (hts _ hg.2.2.2.2.1) (hts _ hg.2.2.2.2.2) hK hP hD hS b0 b1 0 0 (m_w_at g0) (m_w_at g1) (m_tys_at cA (by decide)) (m_tys_at cA (by decide)) rfl (m_nn h4) (m_nn h3) (m_nn h2) q1 q2 (fun _ _ => rfl) hRf hlo hd (fun H1 locs1 hP1 hD1 hS1 => m_put k g1 (by simp [m_es, m_cpy_len]) he (m_wsr (m_e3 q2) hP1) (m_wdr (m_e3 q2) hD1) hS1 hl)
      · rename_i t0 xs t1 ys g0 g1
        obtain ⟨⟨rfl, rfl, q1, q2⟩, rfl⟩ := m_if h6
        exact va_copyl hx hb (hml.trans hl.1.symm) hown (hts _ (hlk _ _ _ h1)) (hts _ hg.2.2.2.1) (hts _ hg.2.2.2.2.1) (hts _ hg.2.2.2.2.2) hK hP hD hS b0 b1 3 3 (m_w_at g0) (m_w_at g1) (m_tys_at cA (by decide)) (m_tys_at cA (by decide)) rfl (m_nn h4) (m_nn h3) (m_nn h2) q1 q2 (fun _ _ => rfl) hRf hlo hd (fun H1 locs1 hP1 hD1 hS1 => m_put k g1 (by simp [m_es, m_cpy_len]) he (m_wsr (m_e4 q2) hP1) (m_wdr (m_e4 q2) hD1) hS1 hl)
      · cases h6
    · cases ht
  | _ =>
    simp only [m_tri] at ht
    repeat' split at ht
    all_goals first | (cases ht; done) | (obtain ⟨-, rfl⟩ := m_if ht; dsimp only at hI; omega) | (cases ht; dsimp only at hI; omega)
end M9
end
section
section M10
variable {p : Program} {l : Launch} {e : Env} {R : Room} {s : State} {m : MethodId} {args : Array Value} {below : List Frame} {meth : Method} {c : Code} {Q : State → Prop} {D : va_G} {cA : Nat → ClassId} {A : Nat → Prop} {ad0 : Nat → Nat} {n0 z0 nL : Nat} {cc : ByteArray} {fz : List (List Int32)} {y : MethodName} {r : Option FieldType}
variable {pc pc' len : Nat} {lv lv' : m_V} {st st' : List Value} {σ σ' : m_S} {ins : Instr} {I : m_I}
theorem m_wf_spec (h : m_wf lv st σ = true) : σ.length < m_fzb ∧ m_okl σ.length lv = true ∧ st.all (m_okv σ.length) = true ∧ σ.all (m_oke σ.length) = true := by
  simp only [m_wf, Bool.and_eq_true, decide_eq_true_eq] at h
  exact ⟨h.1.1.1, h.1.1.2, h.1.2, h.2⟩
/-- a new cell: the world behind it -/
theorem m_newc {z : m_E} (hn0 : n0 ≤ σ.length) (hz0 : z0 ≤ m_sz σ) (hw : m_wf lv st σ = true) (k : m_WW p l e R s m args below meth c Q D cA A ad0 n0 z0 nL pc lv (.ref σ.length :: st) (σ ++ [z])) {ad : Nat → Nat} {H : Heap} {locs : List Loc} {ls : Array Slot} {q : Nat} (hz : m_te cA (va_up ad σ.length q) z = m_te cA ad z) (he : m_ext ad0 ad n0) (hP : va_P D vwCl (m_w cA ad σ ++ [(q, m_te cA ad z)]) H) (hD : va_D A (m_w cA ad σ ++ [(q, m_te cA ad z)])) (hS : va_S A s.heap H locs) (hl : lv_has ls nL (m_tl ad lv)) :
    W p l e R s m args below meth c H locs (σ.length - n0 + 1) (m_sz σ - z0 + m_es z) Q (F0 m pc ls (.ref q :: st.map (m_tv ad))) := by
  obtain ⟨w1, w2, w3, w4⟩ := m_wf_spec hw
  have hx := m_ext.up ad σ.length q w1
  have h := k (va_up ad σ.length q) H locs ls (he.tr hx hn0) (by rw [m_w_app w1 w4 hz]; exact hP) (by rw [m_w_app w1 w4 hz]; exact hD) hS (by rw [m_tl_eq hx w2]; exact hl)
  rw [List.length_append, List.length_singleton, m_sz_app, List.map_cons, m_ts_eq hx w3] at h
  have e1 : σ.length + 1 - n0 = σ.length - n0 + 1 := by omega
  have e2 : m_sz σ + m_es z - z0 = m_sz σ - z0 + m_es z := by omega
  have e3 : m_tv (va_up ad σ.length q) (.ref σ.length) = .ref q := by show Value.ref _ = _; simp [va_up]
  rw [e1, e2, e3] at h
  exact h
theorem m_newa0 {n : Nat} {ad : Nat → Nat} {t : Nat} {z : m_E} (ht : t < 4) (h : m_new t n = some z) : m_es z = n ∧ (∀ ad', m_te cA ad' z = m_te cA ad z) ∧ ∃ a0 : vp_A, m_te cA ad z = .inl (cA t, a0) ∧ ∀ cI : ClassId, vp_cell cI a0 = arrV cI n (fun _ => defaultValue (m_ty t)) := by
  have hi : ∀ j : Nat, (List.replicate n (0 : Int32)).getD j 0 = 0 := fun j => by simp only [List.getD, List.getElem?_replicate]; split <;> rfl
  have hL : ∀ j : Nat, (List.replicate n (0 : Int64)).getD j 0 = 0 := fun j => by simp only [List.getD, List.getElem?_replicate]; split <;> rfl
  match t, ht, h with
  | 0, _, h =>
    cases h
    refine ⟨List.length_replicate, fun _ => rfl, _, rfl, fun cI => ?_⟩
    rw [List.length_replicate, vp_cell_i]
    exact m_arr0 (fun j _ => by rw [hi j]; rfl)
  | 1, _, h =>
    cases h
    refine ⟨List.length_replicate, fun _ => rfl, _, rfl, fun cI => ?_⟩
    rw [List.length_replicate, vp_cell_i]
    exact m_arr0 (fun j _ => by rw [hi j]; rfl)
  | 2, _, h =>
    cases h
    refine ⟨List.length_replicate, fun _ => rfl, _, rfl, fun cI => ?_⟩
    rw [List.length_replicate, vp_cell_i]
    exact m_arr0 (fun j _ => by rw [hi j]; rfl)
  | 3, _, h =>
    cases h
    refine ⟨List.length_replicate, fun _ => rfl, _, rfl, fun cI => ?_⟩
    rw [List.length_replicate, vp_cell_l]
    exact m_arr0 (fun j _ => by rw [hL j]; rfl)
  | _ + 4, h4, _ => omega
theorem m_toNC {x : Int32} (h : 0 ≤ x.toInt) (h2 : x.toInt ≤ 2000) : x.toNatClampNeg ≤ 2000 := by
  have : x.toNatClampNeg = x.toInt.toNat := rfl
  omega
set_option maxHeartbeats 4000000 in
theorem m_make (K : m_Cx p s m args meth c D cA A ad0 nL cc y r fz) (hlk : m_lkAll) (hcl : m_clsOk) (hg : m_glob) (hn0 : n0 ≤ σ.length) (hz0 : z0 ≤ m_sz σ) (hRc : σ'.length - n0 ≤ R.cells) (hRs : m_sz σ' - z0 ≤ R.slots) (hd : decode cc pc = .ok (ins, len)) (ht : m_tri y nL r pc ins len = some I) (hI : I.1 = 21 ∨ I.1 = 22) (hs : m_step fz I (pc + len) lv st σ = some (.inl (pc', lv', st', σ'))) (k : m_WW p l e R s m args below meth c Q D cA A ad0 n0 z0 nL pc' lv' st' σ') : m_WW p l e R s m args below meth c Q D cA A ad0 n0 z0 nL pc lv st σ := by
  obtain ⟨hx, hb, hml, hown, hts, hr, hlocks, hnm, hK, hA, hFz, hN⟩ := K
  cases ins with
  | new i =>
    simp only [m_tri] at ht
    split at ht
    · rename_i a v w h1
      obtain ⟨rfl, rfl⟩ := m_if ht
      obtain ⟨h2, h3⟩ := m_d21 hs
      cases h3
      obtain ⟨⟨C, T, N⟩, q1, q2⟩ := hlk _ _ _ h1
      obtain ⟨u1, u2, u3, u4, u5, u6⟩ := hcl _ _ _ _ q1
      intro ad H locs ls he hP hD hS hl
      rw [List.length_append, List.length_singleton] at hRc
      rw [m_sz_app] at hRs
      have hes : m_es (.inr (a, m_def a)) = N := by rw [u4]; simp [m_es, m_def]
      rw [hes] at hRs
      have hte : ∀ ad', m_te cA ad' (.inr (a, m_def a)) = .inr (a, m_def a) := fun ad' => by
        show Sum.inr (a, (m_def a).map (m_tv ad')) = _
        rw [m_tmdef]
      refine va_new hx hb hts u1 (m_tyf a) u2 hown (hts _ q2) (hts _ u5) (hts _ u6) hK hP hD hS hA q1 (fs := m_def a) (fun j hj => ?_) (by omega) (by omega) hd (fun q H1 hP1 hD1 hS1 => ?_)
      · have hj2 : j < m_nf a := by rw [← u4]; exact hj
        simp [vp_V, m_def, List.getElem?_range hj2]
      · have h9 := m_newc (z := .inr (a, m_def a)) (q := q) (H := H1) hn0 hz0 h2 k ((hte _).trans (hte _).symm) he (by rw [hte]; exact hP1) (by rw [hte]; exact hD1) hS1 hl
        rw [hes] at h9
        exact h9
    · cases ht
  | newarray ty =>
    cases ty with
    | int =>
      obtain ⟨rfl, rfl⟩ := m_if ht
      obtain ⟨x, t, z, rfl, h1, h2, h3, h4, h5⟩ := m_d22 hs
      cases h5
      intro ad H locs ls he hP hD hS hl
      have hx2 := m_toNC h2 h3
      obtain ⟨g1, g2, a0, g3, g4⟩ := m_newa0 (cA := cA) (ad := ad) (t := 0) (by decide) h4
      rw [List.length_append, List.length_singleton] at hRc
      rw [m_sz_app, g1] at hRs
      refine va_newa (atype := .int) hx hb (hts _ (hg.1 0 (by decide))) (ty := m_ty 0) rfl hK hP hD hS hA g4 (m_nn h2) rfl (by simp only [m_ty, componentBytes]; omega) (by omega) (by omega) hd (fun q cI H1 hK1 hP1 hD1 hS1 => ?_)
      have hc : cI = cA 0 := m_ra (hK1.2 5 (cI, m_ty 0) rfl).2 (hK.2 0 _ (m_tys_at cA (by decide))).2
      subst hc
      rw [← g3] at hP1 hD1
      have h9 := m_newc hn0 hz0 h1 k (g2 _) he hP1 hD1 hS1 hl
      rw [g1] at h9
      exact h9
    | byte =>
      obtain ⟨rfl, rfl⟩ := m_if ht
      obtain ⟨x, t, z, rfl, h1, h2, h3, h4, h5⟩ := m_d22 hs
      cases h5
      intro ad H locs ls he hP hD hS hl
      have hx2 := m_toNC h2 h3
      obtain ⟨g1, g2, a0, g3, g4⟩ := m_newa0 (cA := cA) (ad := ad) (t := 1) (by decide) h4
      rw [List.length_append, List.length_singleton] at hRc
      rw [m_sz_app, g1] at hRs
      refine va_newa (atype := .byte) hx hb (hts _ (hg.1 1 (by decide))) (ty := m_ty 1) rfl hK hP hD hS hA g4 (m_nn h2) rfl (by simp only [m_ty, componentBytes]; omega) (by omega) (by omega) hd (fun q cI H1 hK1 hP1 hD1 hS1 => ?_)
      have hc : cI = cA 1 := m_ra (hK1.2 5 (cI, m_ty 1) rfl).2 (hK.2 1 _ (m_tys_at cA (by decide))).2
      subst hc
      rw [← g3] at hP1 hD1
      have h9 := m_newc hn0 hz0 h1 k (g2 _) he hP1 hD1 hS1 hl
      rw [g1] at h9
      exact h9
    | boolean =>
      obtain ⟨rfl, rfl⟩ := m_if ht
      obtain ⟨x, t, z, rfl, h1, h2, h3, h4, h5⟩ := m_d22 hs
      cases h5
      intro ad H locs ls he hP hD hS hl
      have hx2 := m_toNC h2 h3
      obtain ⟨g1, g2, a0, g3, g4⟩ := m_newa0 (cA := cA) (ad := ad) (t := 2) (by decide) h4
      rw [List.length_append, List.length_singleton] at hRc
      rw [m_sz_app, g1] at hRs
      refine va_newa (atype := .boolean) hx hb (hts _ (hg.1 2 (by decide))) (ty := m_ty 2) rfl hK hP hD hS hA g4 (m_nn h2) rfl (by simp only [m_ty, componentBytes]; omega) (by omega) (by omega) hd (fun q cI H1 hK1 hP1 hD1 hS1 => ?_)
      have hc : cI = cA 2 := m_ra (hK1.2 5 (cI, m_ty 2) rfl).2 (hK.2 2 _ (m_tys_at cA (by decide))).2
      subst hc
      rw [← g3] at hP1 hD1
      have h9 := m_newc hn0 hz0 h1 k (g2 _) he hP1 hD1 hS1 hl
      rw [g1] at h9
      exact h9
    | long =>
      obtain ⟨rfl, rfl⟩ := m_if ht
      obtain ⟨x, t, z, rfl, h1, h2, h3, h4, h5⟩ := m_d22 hs
      cases h5
      intro ad H locs ls he hP hD hS hl
      have hx2 := m_toNC h2 h3
      obtain ⟨g1, g2, a0, g3, g4⟩ := m_newa0 (cA := cA) (ad := ad) (t := 3) (by decide) h4
      rw [List.length_append, List.length_singleton] at hRc
      rw [m_sz_app, g1] at hRs
      refine va_newa (atype := .long) hx hb (hts _ (hg.1 3 (by decide))) (ty := m_ty 3) rfl hK hP hD hS hA g4 (m_nn h2) rfl (by simp only [m_ty, componentBytes]; omega) (by omega) (by omega) hd (fun q cI H1 hK1 hP1 hD1 hS1 => ?_)
      have hc : cI = cA 3 := m_ra (hK1.2 5 (cI, m_ty 3) rfl).2 (hK.2 3 _ (m_tys_at cA (by decide))).2
      subst hc
      rw [← g3] at hP1 hD1
      have h9 := m_newc hn0 hz0 h1 k (g2 _) he hP1 hD1 hS1 hl
      rw [g1] at h9
      exact h9
    | _ => cases ht
  | anewarray i =>
    simp only [m_tri] at ht
    split at ht
    · rename_i a v w h1
      obtain ⟨⟨rfl, rfl⟩, rfl⟩ := m_if ht
      obtain ⟨x, t, z, rfl, h5, h2, h3, h4, h6⟩ := m_d22 hs
      cases h6
      cases h4
      obtain ⟨q, q1, q2⟩ := hlk _ _ _ h1
      cases q1
      intro ad H locs ls he hP hD hS hl
      have hx2 := m_toNC h2 h3
      rw [List.length_append, List.length_singleton] at hRc
      rw [m_sz_app] at hRs
      have hes : m_es (.inl (4, .inr (.inr (List.replicate x.toNatClampNeg none)))) = x.toNatClampNeg := by simp [m_es]
      rw [hes] at hRs
      have hf : ∀ ad' : Nat → Nat, (fun j => ((List.replicate x.toNatClampNeg (none : Option Nat)).getD j none).map ad') = fun _ => none := fun ad' => by
        funext j
        simp only [List.getD, List.getElem?_replicate]
        split <;> rfl
      have hte : ∀ ad' : Nat → Nat, m_te cA ad' (.inl (4, .inr (.inr (List.replicate x.toNatClampNeg none)))) = .inl (cA 4, x.toNatClampNeg, .inr (.inr (.inr (.inr (fun _ => none))))) := fun ad' => by
        show Sum.inl (cA 4, (List.replicate x.toNatClampNeg (none : Option Nat)).length, _) = _
        rw [hf, List.length_replicate]
      refine va_newq hx hb hown (hts _ q2) hN.2 hK hP hD hS hA (m_nn h2) rfl (by omega) (by omega) (by omega) hd (fun q cI H1 hK1 hP1 hD1 hS1 => ?_)
      have hc : cI = cA 4 := m_ra (hK1.2 5 (cI, .object RX1) rfl).2 (hK.2 4 _ (m_tys_at cA (by decide))).2
      subst hc
      have h9 := m_newc (z := .inl (4, .inr (.inr (List.replicate x.toNatClampNeg none)))) (q := q) (H := H1) hn0 hz0 h5 k ((hte _).trans (hte _).symm) he (by rw [hte]; exact hP1) (by rw [hte]; exact hD1) hS1 hl
      rw [hes] at h9
      exact h9
    · cases ht
  | _ =>
    simp only [m_tri] at ht
    repeat' split at ht
    all_goals first | (cases ht; done) | (obtain ⟨-, rfl⟩ := m_if ht; dsimp only at hI; omega) | (cases ht; dsimp only at hI; omega)
end M10
end
section
section M11
variable {p : Program} {l : Launch} {e : Env} {R : Room} {s : State} {m : MethodId} {args : Array Value} {below : List Frame} {meth : Method} {c : Code} {Q : State → Prop} {D : va_G} {cA : Nat → ClassId} {A : Nat → Prop} {ad0 : Nat → Nat} {n0 z0 nL : Nat} {cc : ByteArray} {fz : List (List Int32)} {y : MethodName} {r : Option FieldType}
variable {pc pc' len nx : Nat} {lv lv' : m_V} {st st' : List Value} {σ σ' : m_S} {ins : Instr} {I : m_I}
def m_le (σ σ' : m_S) : Prop := σ.length ≤ σ'.length ∧ m_sz σ ≤ m_sz σ'
theorem m_le.rf : m_le σ σ := ⟨Nat.le_refl _, Nat.le_refl _⟩
theorem m_le.tr {τ : m_S} (h : m_le σ σ') (h2 : m_le σ' τ) : m_le σ τ := ⟨Nat.le_trans h.1 h2.1, Nat.le_trans h.2 h2.2⟩
theorem m_le.set {b : Nat} {x x0 : m_E} (hb : σ[b]? = some x0) (hx : m_es x = m_es x0) : m_le σ (σ.set b x) := ⟨by rw [List.length_set]; exact Nat.le_refl _, by rw [m_sz_set hb hx]; exact Nat.le_refl _⟩
theorem m_le.app {x : m_E} : m_le σ (σ ++ [x]) := ⟨by simp, by rw [m_sz_app]; omega⟩
theorem m_ast_le {a : Nat} {w : Value} {i : Int32} {b : Nat} {τ : m_S} (h : m_ast a w i b σ = some τ) : m_le σ τ := by
  unfold m_ast at h
  repeat' split at h
  all_goals first | (cases h; done) | (cases h; exact m_le.set (by assumption) (by simp [m_es]))
theorem m_acp_le {n dp b1 sp b0 : Nat} {τ : m_S} (h : m_acp n dp b1 sp b0 σ = some τ) : m_le σ τ := by
  unfold m_acp at h
  repeat' split at h
  all_goals first | (cases h; done) | (cases h; exact m_le.set (by assumption) (by simp [m_es, m_cpy_len]))
set_option maxHeartbeats 4000000 in
theorem m_step_le (hs : m_step fz I nx lv st σ = some (.inl (pc', lv', st', σ'))) : m_le σ σ' := by
  obtain ⟨op, a, v, q⟩ := I
  match op, hs with
  | 0, hs => cases hs; exact m_le.rf
  | 1, hs => cases hs; exact m_le.rf
  | 2, hs => obtain ⟨_, _, _, h⟩ := m_d2 hs; cases h; exact m_le.rf
  | 3, hs => obtain ⟨_, _, _, _, h⟩ := m_d3 hs; cases h; exact m_le.rf
  | 4, hs => obtain ⟨_, _, h⟩ := m_d4 hs; cases h; exact m_le.rf
  | 5, hs => obtain ⟨_, _, _, _, _, _, h⟩ := m_d5 hs; cases h; exact m_le.rf
  | 6, hs => obtain ⟨_, _, _, _, _, _, h⟩ := m_d6 hs; cases h; exact m_le.rf
  | 7, hs => obtain ⟨_, _, _, _, _, h⟩ := m_d7 hs; cases h; exact m_le.rf
  | 8, hs => obtain ⟨_, _, _, _, h⟩ := m_d8 hs; cases h; exact m_le.rf
  | 9, hs => obtain ⟨_, _, h⟩ := m_d9 hs; cases h; exact m_le.rf
  | 10, hs => cases hs; exact m_le.rf
  | 11, hs => obtain ⟨_, _, _, h⟩ := m_d11 hs; cases h; exact m_le.rf
  | 12, hs => obtain ⟨_, _, _, _, h⟩ := m_d12 hs; cases h; exact m_le.rf
  | 13, hs => obtain ⟨_, _, _, h⟩ := m_d13 hs; cases h; exact m_le.rf
  | 14, hs => obtain ⟨_, _, _, h⟩ := m_d14 hs; cases h; exact m_le.rf
  | 15, hs => obtain ⟨_, _, _, _, _, _, _, h⟩ := m_d15 hs; cases h; exact m_le.rf
  | 16, hs => obtain ⟨_, _, _, _, _, h1, _, _, h⟩ := m_d16 hs; cases h; exact m_le.set h1 (by simp [m_es])
  | 17, hs => cases hs
  | 18, hs => obtain ⟨_, _, _, _, _, _, h⟩ := m_d18 hs; cases h; exact m_le.rf
  | 19, hs => obtain ⟨_, _, _, _, _, _, h1, h⟩ := m_d19 hs; cases h; exact m_ast_le h1
  | 20, hs => obtain ⟨_, _, _, _, _, h⟩ := m_d20 hs; cases h; exact m_le.rf
  | 21, hs => obtain ⟨_, h⟩ := m_d21 hs; cases h; exact m_le.app
  | 22, hs => obtain ⟨_, _, _, _, _, _, _, _, h⟩ := m_d22 hs; cases h; exact m_le.app
  | 23, hs => cases hs
  | 24, hs =>
    simp only [m_step] at hs
    repeat' split at hs
    all_goals first | (cases hs; done) | (simp at hs; done)
  | 25, hs => obtain ⟨_, _, _, _, h⟩ := m_d25 hs; cases h; exact m_le.rf
  | 26, hs => obtain ⟨_, _, _, _, _, _, _, _, _, _, _, _, h1, h⟩ := m_d26 hs; cases h; exact m_acp_le h1
  | 27, hs =>
    simp only [m_step] at hs
    repeat' split at hs
    all_goals first | (cases hs; done) | (simp at hs; done)
  | 28, hs => obtain ⟨_, _, _, _, _, _, h⟩ := m_d28 hs; cases h; exact m_le.rf
  | _ + 29, hs => cases hs
theorem m_exec_le {F : Nat → Nat → Option (m_I × Nat)} : ∀ (n d mid pc : Nat) (lv : m_V) (st : List Value) (σ : m_S) (r : Option Value) (σ' : m_S), m_exec F fz n d mid pc lv st σ = some (r, σ') → m_le σ σ' := by
  intro n
  induction n with
  | zero => intro d mid pc lv st σ r σ' h; cases h
  | succ n ih =>
    intro d mid pc lv st σ r σ' h
    simp only [m_exec] at h
    split at h
    · cases h
    · rename_i I len hF
      split at h
      · cases h
      · rename_i pc1 lv1 st1 σ1 hs
        exact (m_step_le hs).tr (ih _ _ _ _ _ _ _ _ h)
      · cases h; exact m_le.rf
      · rename_i mid1 as rest hs
        split at h
        · cases h
        · rename_i d1
          split at h
          · split at h
            · cases h
            · rename_i r1 σ1 h1
              exact (ih _ _ _ _ _ _ _ _ h1).tr (ih _ _ _ _ _ _ _ _ h)
          · cases h
set_option maxHeartbeats 4000000 in
/-- ONE STEP that is neither a call nor an end -/
theorem m_one (K : m_Cx p s m args meth c D cA A ad0 nL cc y r fz) (hlk : m_lkAll) (hcl : m_clsOk) (hg : m_glob) (hd : decode cc pc = .ok (ins, len)) (ht : m_tri y nL r pc ins len = some I) (hs : m_step fz I (pc + len) lv st σ = some (.inl (pc', lv', st', σ'))) (hn0 : n0 ≤ σ.length) (hz0 : z0 ≤ m_sz σ) (hRc : σ'.length - n0 ≤ R.cells) (hRs : m_sz σ' - z0 ≤ R.slots) (hRf : 1 ≤ R.frames) (hRl : 100 ≤ R.locals) (k : m_WW p l e R s m args below meth c Q D cA A ad0 n0 z0 nL pc' lv' st' σ') : m_WW p l e R s m args below meth c Q D cA A ad0 n0 z0 nL pc lv st σ := by
  by_cases h1 : I.1 < 5
  · exact m_ldst K hlk hd ht h1 hs k
  by_cases h2 : 5 ≤ I.1 ∧ I.1 ≤ 9 ∨ I.1 = 28
  · exact m_arith K hd ht h2 hs k
  by_cases h3 : 10 ≤ I.1 ∧ I.1 ≤ 14
  · exact m_jump K hd ht h3 hs k
  by_cases h4 : I.1 = 15 ∨ I.1 = 16
  · exact m_field K hlk hcl hd ht h4 hs k
  by_cases h5 : I.1 = 18 ∨ I.1 = 20
  · exact m_load K hd ht h5 hs k
  by_cases h6 : I.1 = 19
  · exact m_store K hcl hd ht h6 hs k
  by_cases h7 : I.1 = 25 ∨ I.1 = 26
  · exact m_sys K hlk hg hRf hRl hd ht h7 hs k
  by_cases h8 : I.1 = 21 ∨ I.1 = 22
  · exact m_make K hlk hcl hg hn0 hz0 hRc hRs hd ht h8 hs k
  exfalso
  obtain ⟨op, a, v, q⟩ := I
  dsimp only at h1 h2 h3 h4 h5 h6 h7 h8
  match op, hs with
  | 17, hs => cases hs
  | 23, hs => cases hs
  | 24, hs =>
    simp only [m_step] at hs
    repeat' split at hs
    all_goals first | (cases hs; done) | (simp at hs; done)
  | 27, hs =>
    simp only [m_step] at hs
    repeat' split at hs
    all_goals first | (cases hs; done) | (simp at hs; done)
  | _ + 29, hs => cases hs
  | 0, _ | 1, _ | 2, _ | 3, _ | 4, _ | 5, _ | 6, _ | 7, _ | 8, _ | 9, _ | 10, _ | 11, _ | 12, _ | 13, _ | 14, _ | 15, _ | 16, _ | 18, _ | 19, _ | 20, _ | 21, _ | 22, _ | 25, _ | 26, _ | 28, _ => omega
end M11
end
section
section M12
variable {p : Program} {l : Launch} {e : Env} {R : Room} {s : State} {m : MethodId} {args : Array Value} {below : List Frame} {meth : Method} {c : Code} {Q : State → Prop} {D : va_G} {cA : Nat → ClassId} {A : Nat → Prop} {ad0 : Nat → Nat} {n0 z0 nL : Nat} {cc : ByteArray} {fz : List (List Int32)} {y : MethodName} {r : Option FieldType}
variable {pc pc' len nx : Nat} {lv lv' : m_V} {st st' : List Value} {σ σ' σ1 : m_S} {ins : Instr} {I : m_I} {v : Option Value}
def m_retOk (b : ByteArray) (r : Option FieldType) (pc : Nat) (v : Option Value) : Prop :=
  (∃ x, v = some (.int x) ∧ r = some .int ∧ decode b pc = .ok (.ireturn, 1)) ∨ (∃ x, v = some (.int x) ∧ r = some .boolean ∧ (x = 0 ∨ x = 1) ∧ decode b pc = .ok (.ireturn, 1)) ∨ (∃ x, v = some (.long x) ∧ r = some .long ∧ decode b pc = .ok (.lreturn, 1)) ∨ (v = none ∧ r = none ∧ decode b pc = .ok (.return_, 1))
def m_End (p : Program) (l : Launch) (e : Env) (R : Room) (s : State) (m : MethodId) (args : Array Value) (below : List Frame) (meth : Method) (c : Code) (Q : State → Prop) (D : va_G) (cA : Nat → ClassId) (A : Nat → Prop) (ad0 : Nat → Nat) (n0 z0 nL : Nat) (b : ByteArray) (r : Option FieldType) (v : Option Value) (σ : m_S) : Prop :=
  ∀ (ad : Nat → Nat) (H : Heap) (locs : List Loc) (ls : Array Slot) (pc : Nat), m_ext ad0 ad n0 → va_P D vwCl (m_w cA ad σ) H → va_D A (m_w cA ad σ) → va_S A s.heap H locs → m_retOk b r pc v → W p l e R s m args below meth c H locs (σ.length - n0) (m_sz σ - z0) Q (F0 m pc ls v.toList)
def m_pure (v : Option Value) : Prop := v = none ∨ (∃ x, v = some (.int x)) ∨ ∃ x, v = some (.long x)
theorem m_pure.tv (h : m_pure v) (ad : Nat → Nat) : v.toList.map (m_tv ad) = v.toList := by
  rcases h with rfl | ⟨x, rfl⟩ | ⟨x, rfl⟩ <;> rfl
theorem m_step_ret (hs : m_step fz I nx lv st σ = some (.inr (.inl v))) : ∃ k w q, I = (27, k, w, q) ∧ st = v.toList ∧ ((k = 0 ∧ ∃ x, v = some (.int x)) ∨ (k = 1 ∧ ∃ x, v = some (.long x)) ∨ (k = 2 ∧ v = none) ∨ (k = 3 ∧ ∃ x, v = some (.int x) ∧ (x = 0 ∨ x = 1))) := by
  obtain ⟨op, a, w, q⟩ := I
  match op, hs with
  | 0, hs => cases hs
  | 1, hs => cases hs
  | 2, hs => obtain ⟨_, _, _, h⟩ := m_d2 hs; cases h
  | 3, hs => obtain ⟨_, _, _, _, h⟩ := m_d3 hs; cases h
  | 4, hs => obtain ⟨_, _, h⟩ := m_d4 hs; cases h
  | 5, hs => obtain ⟨_, _, _, _, _, _, h⟩ := m_d5 hs; cases h
  | 6, hs => obtain ⟨_, _, _, _, _, _, h⟩ := m_d6 hs; cases h
  | 7, hs => obtain ⟨_, _, _, _, _, h⟩ := m_d7 hs; cases h
  | 8, hs => obtain ⟨_, _, _, _, h⟩ := m_d8 hs; cases h
  | 9, hs => obtain ⟨_, _, h⟩ := m_d9 hs; cases h
  | 10, hs => cases hs
  | 11, hs => obtain ⟨_, _, _, h⟩ := m_d11 hs; cases h
  | 12, hs => obtain ⟨_, _, _, _, h⟩ := m_d12 hs; cases h
  | 13, hs => obtain ⟨_, _, _, h⟩ := m_d13 hs; cases h
  | 14, hs => obtain ⟨_, _, _, h⟩ := m_d14 hs; cases h
  | 15, hs => obtain ⟨_, _, _, _, _, _, _, h⟩ := m_d15 hs; cases h
  | 16, hs => obtain ⟨_, _, _, _, _, h1, _, _, h⟩ := m_d16 hs; cases h
  | 17, hs => cases hs
  | 18, hs => obtain ⟨_, _, _, _, _, _, h⟩ := m_d18 hs; cases h
  | 19, hs => obtain ⟨_, _, _, _, _, _, h1, h⟩ := m_d19 hs; cases h
  | 20, hs => obtain ⟨_, _, _, _, _, h⟩ := m_d20 hs; cases h
  | 21, hs => obtain ⟨_, h⟩ := m_d21 hs; cases h
  | 22, hs => obtain ⟨_, _, _, _, _, _, _, _, h⟩ := m_d22 hs; cases h
  | 23, hs => cases hs
  | 24, hs =>
    simp only [m_step] at hs
    repeat' split at hs
    all_goals first | (cases hs; done) | (simp at hs; done)
  | 25, hs => obtain ⟨_, _, _, _, h⟩ := m_d25 hs; cases h
  | 26, hs => obtain ⟨_, _, _, _, _, _, _, _, _, _, _, _, h1, h⟩ := m_d26 hs; cases h
  | 27, hs =>
    refine ⟨a, w, q, rfl, ?_⟩
    simp only [m_step] at hs
    split at hs
    · cases hs; exact ⟨rfl, Or.inl ⟨rfl, _, rfl⟩⟩
    · cases hs; exact ⟨rfl, Or.inr (Or.inl ⟨rfl, _, rfl⟩)⟩
    · cases hs; exact ⟨rfl, Or.inr (Or.inr (Or.inl ⟨rfl, rfl⟩))⟩
    · obtain ⟨h1, h2⟩ := m_if hs
      cases h2
      exact ⟨rfl, Or.inr (Or.inr (Or.inr ⟨rfl, _, rfl, h1⟩))⟩
    · cases hs
  | 28, hs => obtain ⟨_, _, _, _, _, _, h⟩ := m_d28 hs; cases h
  | _ + 29, hs => cases hs
theorem m_step_call {mid : Nat} {as rest : List Value} (hs : m_step fz I nx lv st σ = some (.inr (.inr (mid, as, rest)))) : ∃ w q, I = (24, mid, w, q) ∧
    (((w = 2 ∨ w = 5) ∧ q.getD 0 0 ≤ st.length ∧ as = (st.take (q.getD 0 0)).reverse ∧ rest = st.drop (q.getD 0 0)) ∨ (¬ (w = 2 ∨ w = 5) ∧ ∃ b fs, st.drop (q.getD 0 0) = .ref b :: rest ∧ σ[b]? = some (.inr (q.getD 2 0, fs)) ∧ as = .ref b :: (st.take (q.getD 0 0)).reverse)) := by
  obtain ⟨op, a, w, q⟩ := I
  match op, hs with
  | 0, hs => cases hs
  | 1, hs => cases hs
  | 2, hs => obtain ⟨_, _, _, h⟩ := m_d2 hs; cases h
  | 3, hs => obtain ⟨_, _, _, _, h⟩ := m_d3 hs; cases h
  | 4, hs => obtain ⟨_, _, h⟩ := m_d4 hs; cases h
  | 5, hs => obtain ⟨_, _, _, _, _, _, h⟩ := m_d5 hs; cases h
  | 6, hs => obtain ⟨_, _, _, _, _, _, h⟩ := m_d6 hs; cases h
  | 7, hs => obtain ⟨_, _, _, _, _, h⟩ := m_d7 hs; cases h
  | 8, hs => obtain ⟨_, _, _, _, h⟩ := m_d8 hs; cases h
  | 9, hs => obtain ⟨_, _, h⟩ := m_d9 hs; cases h
  | 10, hs => cases hs
  | 11, hs => obtain ⟨_, _, _, h⟩ := m_d11 hs; cases h
  | 12, hs => obtain ⟨_, _, _, _, h⟩ := m_d12 hs; cases h
  | 13, hs => obtain ⟨_, _, _, h⟩ := m_d13 hs; cases h
  | 14, hs => obtain ⟨_, _, _, h⟩ := m_d14 hs; cases h
  | 15, hs => obtain ⟨_, _, _, _, _, _, _, h⟩ := m_d15 hs; cases h
  | 16, hs => obtain ⟨_, _, _, _, _, h1, _, _, h⟩ := m_d16 hs; cases h
  | 17, hs => cases hs
  | 18, hs => obtain ⟨_, _, _, _, _, _, h⟩ := m_d18 hs; cases h
  | 19, hs => obtain ⟨_, _, _, _, _, _, h1, h⟩ := m_d19 hs; cases h
  | 20, hs => obtain ⟨_, _, _, _, _, h⟩ := m_d20 hs; cases h
  | 21, hs => obtain ⟨_, h⟩ := m_d21 hs; cases h
  | 22, hs => obtain ⟨_, _, _, _, _, _, _, _, h⟩ := m_d22 hs; cases h
  | 23, hs => cases hs
  | 24, hs =>
    simp only [m_step] at hs
    split at hs
    · rename_i h1
      obtain ⟨h2, h3⟩ := m_if hs
      cases h3
      exact ⟨w, q, rfl, Or.inl ⟨h1, h2, rfl, rfl⟩⟩
    · rename_i h1
      split at hs
      · rename_i b t h2
        split at hs
        · rename_i ci fs h3
          obtain ⟨rfl, h5⟩ := m_if hs
          cases h5
          exact ⟨w, q, rfl, Or.inr ⟨h1, b, fs, h2, h3, rfl⟩⟩
        · cases hs
      · cases hs
  | 25, hs => obtain ⟨_, _, _, _, h⟩ := m_d25 hs; cases h
  | 26, hs => obtain ⟨_, _, _, _, _, _, _, _, _, _, _, _, h1, h⟩ := m_d26 hs; cases h
  | 27, hs =>
    simp only [m_step] at hs
    repeat' split at hs
    all_goals first | (cases hs; done) | (simp at hs; done)
  | 28, hs => obtain ⟨_, _, _, _, _, _, h⟩ := m_d28 hs; cases h
  | _ + 29, hs => cases hs
theorem m_exec_pure {F : Nat → Nat → Option (m_I × Nat)} : ∀ (n d mid pc : Nat) (lv : m_V) (st : List Value) (σ : m_S) (r : Option Value) (σ' : m_S), m_exec F fz n d mid pc lv st σ = some (r, σ') → m_pure r := by
  intro n
  induction n with
  | zero => intro d mid pc lv st σ r σ' h; cases h
  | succ n ih =>
    intro d mid pc lv st σ r σ' h
    simp only [m_exec] at h
    split at h
    · cases h
    · rename_i I len hF
      split at h
      · cases h
      · rename_i pc1 lv1 st1 σ1 hs
        exact ih _ _ _ _ _ _ _ _ h
      · rename_i hs
        cases h
        obtain ⟨_, _, _, _, _, h1⟩ := m_step_ret hs
        rcases h1 with ⟨-, x, h⟩ | ⟨-, x, h⟩ | ⟨-, h⟩ | ⟨-, x, h, -⟩
        · exact Or.inr (Or.inl ⟨x, h⟩)
        · exact Or.inr (Or.inr ⟨x, h⟩)
        · exact Or.inl h
        · exact Or.inr (Or.inl ⟨x, h⟩)
      · rename_i mid1 as rest hs
        split at h
        · cases h
        · rename_i d1
          split at h
          · split at h
            · cases h
            · rename_i r1 σ1 h1
              exact ih _ _ _ _ _ _ _ _ h
          · cases h
def m_Pc (fz : List (List Int32)) (D : va_G) (cA : Nat → ClassId) (ad : Nat → Nat) (σ : m_S) (as : List Value) (sz : Nat) : Array Value → State → Prop := va_Pc (as.map (m_tv ad)) (fun U => U.heap.size = sz ∧ va_P D vwCl (m_w cA ad σ) U.heap ∧ va_K D vwCl (m_tys cA) U ∧ va_D (fun _ => True) (m_w cA ad σ) ∧ m_Fz fz ad (va_A (m_w cA ad σ) sz) U ∧ m_Nst U)
def m_Qc (D : va_G) (cA : Nat → ClassId) (ad : Nat → Nat) (σ : m_S) (sz : Nat) (v : Option Value) (σ1 : m_S) : Array Value → State → Outcome → State → Prop := fun _ st oc t => oc = .returned v ∧ (∃ ad', m_ext ad ad' σ.length ∧ va_P D vwCl (m_w cA ad' σ1) t.heap ∧ va_D (va_A (m_w cA ad σ) sz) (m_w cA ad' σ1)) ∧ va_F (va_A (m_w cA ad σ) sz) st t
theorem m_nw_form {w : Cond} (h : w ∈ m_nw) : ∃ a i x q, w = .methodLinkNest a i x q := by
  have h1 := (List.mem_filter.mp h).2
  cases w <;> first | exact ⟨_, _, _, _, rfl⟩ | (simp [m_isN] at h1)
theorem m_Nst.warm {U : State} (h : m_Nst s) (hW : s.WarmedH U.vm) : m_Nst U := ⟨fun w hw => by
  obtain ⟨a, i, x, q, rfl⟩ := m_nw_form hw
  exact va_Nw.warmM hW (h.1 _ hw), h.2.moved hW.alike⟩
theorem m_Nst.same {U : State} (h : m_Nst s) (hv : s.vm = U.vm) : m_Nst U := ⟨fun w hw => by
  obtain ⟨a, i, x, q, rfl⟩ := m_nw_form hw
  exact va_Nw.same rfl hv (h.1 _ hw), h.2.moved (by rw [hv]; exact Vm.Alike.refl _)⟩
theorem m_blind {ad : Nat → Nat} {as : List Value} {sz : Nat} : FrameBlind (m_Pc fz D cA ad σ as sz) := fun a U g mk q => by
  obtain ⟨q0, q1, qP, qK, qD, qF, qN⟩ := q
  exact ⟨q0, q1, qP, va_K.moved (u := U) (U := U.calling g mk a) (Vm.Alike.refl U.vm) qK, qD, fun j xs h => ⟨va_X.moved (u := U) (U := U.calling g mk a) (Vm.Alike.refl U.vm) (qF j xs h).1, (qF j xs h).2⟩, qN.same rfl⟩
theorem m_pre (K : m_Cx p s m args meth c D cA A ad0 nL cc y r fz) {ad : Nat → Nat} {H : Heap} {locs : List Loc} (he : m_ext ad0 ad n0) (hP : va_P D vwCl (m_w cA ad σ) H) (hD : va_D A (m_w cA ad σ)) (hS : va_S A s.heap H locs) (as : List Value) : ∀ U : State, U.heap = H → s.WarmedH U.vm → m_Pc fz D cA ad σ as H.size (as.map (m_tv ad)).toArray U := by
  obtain ⟨hx, hb, hml, hown, hts, hr, hlocks, hnm, hK, hA, hFz, hN⟩ := K
  intro U hU hW
  refine ⟨rfl, by rw [hU], by rw [hU]; exact hP, va_K.moved hW.alike hK, hD.weaken (fun _ _ _ _ => trivial), fun j xs h => ?_, hN.warm hW⟩
  obtain ⟨f1, f2, f3⟩ := hFz j xs h
  rw [he.2 _ (Nat.le_add_right _ _)]
  refine ⟨va_X.moved hW.alike ?_, by rw [hU]; exact Nat.lt_of_lt_of_le f2 hS.1, fun h9 => ?_⟩
  · rw [hU]
    exact f1.kept (hS.2.1 _ f2 f3)
  · rcases h9 with ⟨k, x, hk⟩ | h9
    · exact f3 (hD.2 k _ hk)
    · exact absurd (Nat.lt_of_lt_of_le f2 hS.1) (Nat.not_lt.mpr h9)
/-- behind a call -/
theorem m_after {ad : Nat → Nat} {H : Heap} {locs : List Loc} {ls : Array Slot} {st0 rest : List Value} {a : Array Value} (K : m_Cx p s m args meth c D cA A ad0 nL cc y r fz) (hle : m_le σ σ1) (hn0 : n0 ≤ σ.length) (hz0 : z0 ≤ m_sz σ) (hv : m_pure v) (hok1 : m_okl σ.length lv = true) (hok2 : rest.all (m_okv σ.length) = true) (k : m_WW p l e R s m args below meth c Q D cA A ad0 n0 z0 nL (pc + 3) lv (v.toList ++ rest) σ1)
    (hrun : va_Run p l e R s m args below meth c H locs (σ.length - n0) (m_sz σ - z0) (σ1.length - σ.length) (m_sz σ1 - m_sz σ) (F0 m pc ls st0) (rest.map (m_tv ad)) (m_Qc D cA ad σ H.size v σ1 a) (va_A (m_w cA ad σ) H.size)) (he : m_ext ad0 ad n0) (hD : va_D A (m_w cA ad σ)) (hS : va_S A s.heap H locs) (hl : lv_has ls nL (m_tl ad lv)) : W p l e R s m args below meth c H locs (σ.length - n0) (m_sz σ - z0) Q (F0 m pc ls st0) := by
  obtain ⟨hx, hb, hml, hown, hts, hr, hlocks, hnm, hK, hA, hFz, hN⟩ := K
  intro T hT X
  obtain ⟨v', st₀, t, T', L, h0, X', hL, e1, e2, ⟨hv', ⟨ad', g1, g2, g3⟩, hz, hk⟩, stp⟩ := hrun T hT X
  cases hv'
  rw [h0] at hz hk
  have hin : ∀ q, va_A (m_w cA ad σ) H.size q → A q := fun q h9 => by
    rcases h9 with ⟨i, x, hi⟩ | h9
    · exact hD.2 i _ hi
    · exact hA q (Nat.le_trans hS.1 h9)
  have hS1 : va_S A s.heap T'.heap (locs ++ L) := ⟨Nat.le_trans hS.1 (by rw [e1]; exact hz), fun q h1 h2 => by rw [e1, hk q (Nat.lt_of_lt_of_le h1 hS.1) (fun z => h2 (hin q z))]; exact hS.2.1 q h1 h2, fun q hq => by
      rcases List.mem_append.mp hq with h | h
      · exact hS.2.2 q h
      · exact hin _ (hL q h)⟩
  have hW := k ad' T'.heap (locs ++ L) ls (he.tr g1 hn0) (by rw [e1]; exact g2) (g3.weaken (fun _ _ _ h => hin _ h)) hS1 (by rw [m_tl_eq g1 hok1]; exact hl)
  have e3 : σ1.length - n0 = σ.length - n0 + (σ1.length - σ.length) := by have := hle.1; omega
  have e4 : m_sz σ1 - z0 = m_sz σ - z0 + (m_sz σ1 - m_sz σ) := by have := hle.2; omega
  rw [e3, e4, List.map_append, hv.tv, m_ts_eq g1 hok2] at hW
  obtain ⟨t2, a1, b1⟩ := hW T' rfl X'
  exact ⟨t2, stp t2 a1, b1⟩
end M12
end
section
def m_me (k : Nat) : Option (MethodName × ByteArray × Nat × Option FieldType) := if k = 1000 then some (x, code, maxLocals, ret) else m_cw k
def m_FOk (F : Nat → Nat → Option (m_I × Nat)) : Prop := ∀ (mid pc : Nat) (I : m_I) (len : Nat), F mid pc = some (I, len) → ∃ (y : MethodName) (b : ByteArray) (n : Nat) (r : Option FieldType) (ins : Instr), m_me mid = some (y, b, n, r) ∧ decode b pc = .ok (ins, len) ∧ m_tri y n r pc ins len = some I
def m_rm (d mc ms : Nat) : Room := { frames := d + 2, cells := mc, slots := ms, locals := 200 * (d + 1) }
/-- what the small machine does, the real one does -/
def m_Sim (F : Nat → Nat → Option (m_I × Nat)) (fz : List (List Int32)) (n : Nat) : Prop :=
  ∀ (d mid pc : Nat) (lv : m_V) (st : List Value) (σ : m_S) (v : Option Value) (σ' : m_S), m_exec F fz n d mid pc lv st σ = some (v, σ') →
  ∀ (p : Program) (l : Launch) (e : Env) (R : Room) (s : State) (m : MethodId) (args : Array Value) (below : List Frame) (meth : Method) (c : Code) (Q : State → Prop) (D : va_G) (cA : Nat → ClassId) (A : Nat → Prop) (ad0 : Nat → Nat) (n0 z0 nL : Nat) (cc : ByteArray) (y : MethodName) (r : Option FieldType),
  m_me mid = some (y, cc, nL, r) → m_Cx p s m args meth c D cA A ad0 nL cc y r fz → n0 ≤ σ.length → z0 ≤ m_sz σ → σ'.length - n0 ≤ R.cells → m_sz σ' - z0 ≤ R.slots → d + 2 ≤ R.frames → 200 * (d + 1) ≤ R.locals → m_End p l e R s m args below meth c Q D cA A ad0 n0 z0 nL cc r v σ' → m_WW p l e R s m args below meth c Q D cA A ad0 n0 z0 nL pc lv st σ
section M13
variable {F : Nat → Nat → Option (m_I × Nat)} {fz : List (List Int32)} {n d : Nat} {σ σ1 : m_S} {v : Option Value} {l : Launch}
theorem m_cw_in {k : Nat} {y : MethodName} {b : ByteArray} {n : Nat} {r : Option FieldType} (h : m_cw k = some (y, b, n, r)) : Jvm.Cond.code y b n r ∈ m_G := by
  unfold m_cw at h
  split at h
  · split at h
    · rename_i h1
      cases h
      exact List.mem_filter.mpr ⟨m_wd_in h1, rfl⟩
    · cases h
  · cases h
set_option maxHeartbeats 4000000 in
theorem m_met (IH : m_Sim F fz n) {mid : Nat} {as : List Value} (hex : m_exec F fz n d mid 0 (lv_args 0 as) [] σ = some (v, σ1)) (hm1 : mid ≠ 1000) {y : MethodName} {b : ByteArray} {nL : Nat} {r : Option FieldType} (hm : m_cw mid = some (y, b, nL, r)) (hpl : plainName y.cls = true) (has : (as.map fun v => v.category).sum ≤ nL) (D : va_G) (cA : Nat → ClassId) (ad : Nat → Nat) (sz : Nat) :
    Met l y (.code y b nL r :: m_G) (m_rm d (σ1.length - σ.length) (m_sz σ1 - m_sz σ)) (m_Pc fz D cA ad σ as sz) (m_Qc D cA ad σ sz v σ1) (σ1.length - σ.length) (m_sz σ1 - m_sz σ) (va_A (m_w cA ad σ) sz) := by
  refine Met.ofW (cc := b) (maxL := nL) (ret := r) hpl rfl ?_
  intro p e s m args below meth c s₁ B hml hv
  obtain ⟨rfl, rfl, hP, hK, hD0, hFz, hN⟩ := hv
  have hts := atoms_spec (ws := Jvm.Cond.code y b nL r :: m_G) B.pre
  have K : m_Cx p s m ((as.map (m_tv ad)).toArray) meth c D cA (va_A (m_w cA ad σ) s.heap.size) ad nL b y r fz := ⟨B.exec, B.bytes, hml, findClass_of_methodNamed B.named, fun w hw => hts w (List.mem_cons_of_mem _ hw), B.returns, B.notSynchronized, fun h9 => (name_of_methodNamed B.named B.method).1.trans h9, hK, fun q h => Or.inr h, hFz, hN⟩
  have hD := hD0.self (sz := s.heap.size)
  have hlocks := B.notSynchronized
  have hme : m_me mid = some (y, b, nL, r) := by unfold m_me; rw [if_neg hm1]; exact hm
  have hW := IH d mid 0 (lv_args 0 as) [] σ v σ1 hex p l e (m_rm d (σ1.length - σ.length) (m_sz σ1 - m_sz σ)) s m ((as.map (m_tv ad)).toArray) below meth c (MQ below (m_Qc D cA ad σ s.heap.size v σ1) ((as.map (m_tv ad)).toArray) s (σ1.length - σ.length) (m_sz σ1 - m_sz σ) (va_A (m_w cA ad σ) s.heap.size)) D cA (va_A (m_w cA ad σ) s.heap.size) ad σ.length (m_sz σ) nL b y r hme K (Nat.le_refl _) (Nat.le_refl _) (Nat.le_refl _) (Nat.le_refl _) (Nat.le_refl _) (Nat.le_refl _) ?_
  · have hl := lv_entry (as.map (m_tv ad)) (n := nL) (by rw [m_lgsl, List.map_map]; simpa [Function.comp_def, m_tv_cat] using has)
    rw [m_largs] at hl
    have h := hW ad s.heap [] _ m_ext.rf hP hD va_S.rf hl
    rw [Nat.sub_self, Nat.sub_self] at h
    rw [lg_entry_eq]
    exact h
  · intro ad' H locs ls pc he hP1 hD1 hS1 hrt
    have hq : ∀ t : State, t.heap = H → s.WarmedH t.vm → m_Qc D cA ad σ s.heap.size v σ1 ((as.map (m_tv ad)).toArray) s (.returned v) t := fun t ht _ => ⟨rfl, ⟨ad', he, by rw [ht]; exact hP1, hD1⟩, hS1.F ht⟩
    rcases hrt with ⟨x, rfl, rfl, hdc⟩ | ⟨x, rfl, rfl, hx01, hdc⟩ | ⟨x, rfl, rfl, hdc⟩ | ⟨rfl, rfl, hdc⟩
    · exact W.iret B.exec B.bytes B.returns hq hS1.2.2 hdc
    · exact W.zret B.exec B.bytes B.returns (by rcases hx01 with rfl | rfl <;> rfl) hq hS1.2.2 hdc
    · exact W.lret B.exec B.bytes B.returns hq hS1.2.2 hdc
    · exact W.vret B.exec B.bytes B.returns hq hS1.2.2 hdc
theorem m_goodG {y : MethodName} {b : ByteArray} {n : Nat} {r : Option FieldType} (h : Jvm.Cond.code y b n r ∈ m_G) : GoodIn m_G (.code y b n r :: m_G) := fun w hw => by
  rcases List.mem_cons.mp hw with rfl | hw
  · exact ⟨h, good_of_word (List.mem_filter.mp h).2⟩
  · exact ⟨hw, good_of_word (List.mem_filter.mp hw).2⟩
set_option maxHeartbeats 8000000 in
theorem m_sim (hF : m_FOk F) (hlk : m_lkAll) (hcl : m_clsOk) (hg : m_glob) (h1000 : ∀ k y b n r, m_cw k = some (y, b, n, r) → k ≠ 1000) : ∀ n, m_Sim F fz n := by
  intro n
  induction n with
  | zero => intro d mid pc lv st σ v σ' h; cases h
  | succ n IH =>
    intro d mid pc lv st σ v σ' h p l e R s m args below meth c Q D cA A ad0 n0 z0 nL cc y r hme K hn0 hz0 hRc hRs hRf hRl hE
    simp only [m_exec] at h
    split at h
    · cases h
    · rename_i I len hFI
      obtain ⟨y', b', n', r', ins, hme', hd, ht⟩ := hF _ _ _ _ hFI
      rw [hme] at hme'
      cases hme'
      split at h
      · cases h
      · rename_i pc1 lv1 st1 σ1 hs
        have hle := m_step_le hs
        have hle2 := m_exec_le _ _ _ _ _ _ _ _ _ h
        exact m_one K hlk hcl hg hd ht hs hn0 hz0 (by have := hle2.1; omega) (by have := hle2.2; omega) (by omega) (by omega) (IH _ _ _ _ _ _ _ _ h p l e R s m args below meth c Q D cA A ad0 n0 z0 nL cc y r hme K (Nat.le_trans hn0 hle.1) (Nat.le_trans hz0 hle.2) hRc hRs hRf hRl hE)
      · rename_i v1 hs
        cases h
        intro ad H locs ls he hP hD hS hl
        obtain ⟨k, w, q, rfl, rfl, hk⟩ := m_step_ret hs
        have hp : m_pure v := by
          rcases hk with ⟨-, x, h⟩ | ⟨-, x, h⟩ | ⟨-, h⟩ | ⟨-, x, h, -⟩
          · exact Or.inr (Or.inl ⟨x, h⟩)
          · exact Or.inr (Or.inr ⟨x, h⟩)
          · exact Or.inl h
          · exact Or.inr (Or.inl ⟨x, h⟩)
        rw [hp.tv]
        refine hE ad H locs ls pc he hP hD hS ?_
        cases ins with
        | ireturn =>
          simp only [m_tri] at ht
          split at ht
          · obtain ⟨rfl, h2⟩ := m_if ht
            cases h2
            rcases hk with ⟨-, x, h⟩ | ⟨h9, -⟩ | ⟨h9, -⟩ | ⟨h9, -⟩
            · exact Or.inl ⟨x, h, rfl, hd⟩
            all_goals exact absurd h9 (by decide)
          · obtain ⟨rfl, h2⟩ := m_if ht
            cases h2
            rcases hk with ⟨h9, -⟩ | ⟨h9, -⟩ | ⟨h9, -⟩ | ⟨-, x, h, h3⟩
            · exact absurd h9 (by decide)
            · exact absurd h9 (by decide)
            · exact absurd h9 (by decide)
            · exact Or.inr (Or.inl ⟨x, h, rfl, h3, hd⟩)
          · cases ht
        | lreturn =>
          simp only [m_tri] at ht
          split at ht
          · obtain ⟨rfl, h2⟩ := m_if ht
            cases h2
            rcases hk with ⟨h9, -⟩ | ⟨-, x, h⟩ | ⟨h9, -⟩ | ⟨h9, -⟩
            · exact absurd h9 (by decide)
            · exact Or.inr (Or.inr (Or.inl ⟨x, h, rfl, hd⟩))
            · exact absurd h9 (by decide)
            · exact absurd h9 (by decide)
          · cases ht
        | return_ =>
          simp only [m_tri] at ht
          split at ht
          · obtain ⟨rfl, h2⟩ := m_if ht
            cases h2
            rcases hk with ⟨h9, -⟩ | ⟨h9, -⟩ | ⟨-, h⟩ | ⟨h9, -⟩
            · exact absurd h9 (by decide)
            · exact absurd h9 (by decide)
            · exact Or.inr (Or.inr (Or.inr ⟨h, rfl, hd⟩))
            · exact absurd h9 (by decide)
          · cases ht
        | _ =>
          simp only [m_tri] at ht
          repeat' split at ht
          all_goals first | (cases ht; done) | (obtain ⟨-, h2⟩ := m_if ht; cases h2; done)
      · rename_i mid1 as rest hs
        split at h
        · cases h
        · rename_i d1
          split at h
          · rename_i hco
            split at h
            · cases h
            · rename_i r1 σ1 h1
              have hle := m_exec_le _ _ _ _ _ _ _ _ _ h1
              have hle2 := m_exec_le _ _ _ _ _ _ _ _ _ h
              have hpu := m_exec_pure _ _ _ _ _ _ _ _ _ h1
              obtain ⟨w, q, rfl, hsc⟩ := m_step_call hs
              simp only [m_callOk, Bool.and_eq_true, decide_eq_true_eq] at hco
              obtain ⟨⟨⟨⟨c1, c2⟩, c3⟩, c4⟩, c5⟩ := hco
              have goal2 : ∀ (i : Nat), m_lk y.cls i = some (24, mid1, w, q) → len = 3 → ((w = 0 ∨ w = 3) ∧ decode cc pc = .ok (.invokevirtual i, 3) ∨ (w = 1 ∨ w = 4) ∧ decode cc pc = .ok (.invokespecial i, 3) ∨ (w = 2 ∨ w = 5) ∧ decode cc pc = .ok (.invokestatic i, 3)) → m_WW p l e R s m args below meth c Q D cA A ad0 n0 z0 nL pc lv st σ := by
                intro i hli hlen hkind
                subst hlen
                obtain ⟨y2, b2, n2, r2, np, cy, e1, e2, e3, e4, e5, e6, e7, e8, e9, e10, e11, e12, e13⟩ := hlk _ _ _ hli
                dsimp only at e1 e2 e9 e10 e11 e12 e13
                subst e2
                have k2 := IH _ _ _ _ _ _ _ _ h p l e R s m args below meth c Q D cA A ad0 n0 z0 nL cc y r hme K (Nat.le_trans hn0 hle.1) (Nat.le_trans hz0 hle.2) hRc hRs hRf hRl hE
                intro ad H locs ls he hP hD hS hl
                have hM := m_met (l := l) IH h1 (h1000 _ _ _ _ _ e1) e1 e7 c5 D cA ad H.size
                have hcd := m_cw_in e1
                obtain ⟨hx, hb, hml, hown, hts, hr, hlocks, hnm, hK, hA, hFz, hN⟩ := id K
                have hfix : CallFix p m c cc nL s args m_G y.cls := ⟨hx, hb, hml, hown, hts⟩
                have hrm : (m_rm d1 (σ1.length - σ.length) (m_sz σ1 - m_sz σ)).frames + 1 ≤ R.frames ∧ 8 + (n2 + 11) + (m_rm d1 (σ1.length - σ.length) (m_sz σ1 - m_sz σ)).locals ≤ R.locals := by
                  simp only [m_rm]
                  omega
                have hroom : 2 * (F0 m pc ls (st.map (m_tv ad))).monitorRoom + ((rest.map (m_tv ad)).map fun v => v.category).sum ≤ 8 := lv_room (by simpa [List.map_map, Function.comp_def, m_tv_cat] using c4)
                have hcap : σ.length - n0 + (σ1.length - σ.length) ≤ R.cells ∧ m_sz σ - z0 + (m_sz σ1 - m_sz σ) ≤ R.slots := by
                  have a1 := hle.1
                  have a2 := hle.2
                  have a3 := hle2.1
                  have a4 := hle2.2
                  omega
                have hpre := m_pre K he hP hD hS as
                have hB : (Jvm.Cond.methodLink y.cls i y2).before args s = true → CallB R s args y.cls i y2 b2 n2 r2 (.code y2 b2 n2 r2 :: m_G) (m_rm d1 (σ1.length - σ.length) (m_sz σ1 - m_sz σ)) (σ1.length - σ.length) (m_sz σ1 - m_sz σ) np := fun h9 => callB_of np hts (m_goodG hcd) rfl rfl rfl (hts _ e8) h9 ⟨e4, e5, e6⟩ hrm
                have hC : (Jvm.Cond.methodLinkNest y.cls i y2 "MotherBench") ∈ m_nw → va_CN R s args y.cls i y2 "MotherBench" b2 n2 r2 (.code y2 b2 n2 r2 :: m_G) (m_rm d1 (σ1.length - σ.length) (m_sz σ1 - m_sz σ)) (σ1.length - σ.length) (m_sz σ1 - m_sz σ) np := fun h9 => va_cnB np hts (m_goodG hcd) rfl rfl rfl (hN.1 _ h9) (hts _ e8) ⟨e4, e5, e6⟩ hrm
                rcases hsc with ⟨hw, s1, s2, s3⟩ | ⟨hw, b, fs, s1, s2, s3⟩
                · have hd3 : decode cc pc = .ok (.invokestatic i, 3) := by
                    rcases hkind with ⟨h9, -⟩ | ⟨h9, -⟩ | ⟨-, h9⟩
                    · omega
                    · omega
                    · exact h9
                  have hstk : st.map (m_tv ad) = (as.map (m_tv ad)).reverse ++ rest.map (m_tv ad) := by
                    rw [s2, s3, ← List.map_reverse, List.reverse_reverse, ← List.map_append, List.take_append_drop]
                  have hlen2 : (as.map (m_tv ad)).length = np := by
                    rw [s2, List.length_map, List.length_reverse, List.length_take]
                    exact Nat.min_eq_left s1
                  rcases hw with hw | hw
                  · exact m_after K hle hn0 hz0 hpu c2 c3 k2 (va_runS hfix hM ⟨hB (hts _ (e9 (by omega))), hts _ (e13 (by omega))⟩ ⟨m_blind, hpre⟩ rfl hlen2 hl.1 hstk hroom hd3 hcap) he hD hS hl
                  · exact m_after K hle hn0 hz0 hpu c2 c3 k2 (va_runSN hfix hM ⟨hC (e10 (by omega)), hts _ (e13 (by omega)), trivial⟩ ⟨m_blind, hpre⟩ rfl hlen2 hl.1 hstk hroom hd3 hcap) he hD hS hl
                · have hstk : st.map (m_tv ad) = ((st.take np).reverse.map (m_tv ad)).reverse ++ .ref (ad b) :: rest.map (m_tv ad) := by
                    rw [← List.map_reverse, List.reverse_reverse]
                    have h9 : (.ref (ad b) :: rest.map (m_tv ad)) = (st.drop np).map (m_tv ad) := by
                      have h8 : st.drop np = .ref b :: rest := s1
                      rw [h8]
                      rfl
                    rw [h9, ← List.map_append, List.take_append_drop]
                  have hlen2 : ((st.take np).reverse.map (m_tv ad)).length = np := by
                    rw [List.length_map, List.length_reverse, List.length_take]
                    have h8 : st.drop np = .ref b :: rest := s1
                    have h7 : (st.drop np).length = rest.length + 1 := by rw [h8]; rfl
                    rw [List.length_drop] at h7
                    omega
                  have has : as.map (m_tv ad) = .ref (ad b) :: (st.take np).reverse.map (m_tv ad) := by
                    rw [s3]
                    rfl
                  rw [has] at hpre
                  rcases hkind with ⟨h9, hd3⟩ | ⟨h9, hd3⟩ | ⟨h9, -⟩
                  · obtain ⟨f1, f2, qc, f3, f4⟩ := e11 h9
                    have hrecv := va_recv hK hP f3 (m_w_at s2)
                    rw [f4] at hrecv
                    rcases h9 with h9 | h9
                    · exact m_after K hle hn0 hz0 hpu c2 c3 k2 (va_runV hfix hM ⟨hB (hts _ (e9 (by omega))), hts _ f1, hts _ f2⟩ ⟨m_blind, hrecv, hpre⟩ rfl hlen2 hl.1 hstk hroom hd3 hcap) he hD hS hl
                    · exact m_after K hle hn0 hz0 hpu c2 c3 k2 (va_runVN hfix hM ⟨hC (e10 (by omega)), hts _ f1, hts _ f2⟩ ⟨m_blind, hrecv, hpre⟩ rfl hlen2 hl.1 hstk hroom hd3 hcap) he hD hS hl
                  · obtain ⟨f1, f2, f3⟩ := e12 h9
                    subst f3
                    rcases h9 with h9 | h9
                    · exact m_after K hle hn0 hz0 hpu c2 c3 k2 (va_runI hfix hM ⟨hB (hts _ (e9 (by omega))), f1, hts _ f2⟩ ⟨m_blind, hpre⟩ rfl hlen2 hl.1 hstk hroom hd3 hcap) he hD hS hl
                    · exact m_after K hle hn0 hz0 hpu c2 c3 k2 (va_runIN hfix hM ⟨hC (e10 (by omega)), f1, hts _ f2⟩ ⟨m_blind, hpre⟩ rfl hlen2 hl.1 hstk hroom hd3 hcap) he hD hS hl
                  · exact absurd h9 hw
              cases ins with
              | invokevirtual i =>
                simp only [m_tri] at ht
                split at ht
                · rename_i a k q2 hli
                  obtain ⟨⟨rfl, h8⟩, h9⟩ := m_if ht
                  cases h9
                  exact goal2 i hli rfl (Or.inl ⟨h8, hd⟩)
                · cases ht
              | invokespecial i =>
                simp only [m_tri] at ht
                split at ht
                · rename_i a k q2 hli
                  obtain ⟨⟨rfl, h8⟩, h9⟩ := m_if ht
                  cases h9
                  exact goal2 i hli rfl (Or.inr (Or.inl ⟨h8, hd⟩))
                · obtain ⟨-, h9⟩ := m_if ht
                  cases h9
                · cases ht
              | invokestatic i =>
                simp only [m_tri] at ht
                split at ht
                · rename_i a k q2 hli
                  obtain ⟨⟨rfl, h8⟩, h9⟩ := m_if ht
                  cases h9
                  exact goal2 i hli rfl (Or.inr (Or.inr ⟨h8, hd⟩))
                · obtain ⟨-, h9⟩ := m_if ht
                  cases h9
                · cases ht
              | _ =>
                simp only [m_tri] at ht
                repeat' split at ht
                all_goals first | (cases ht; done) | (obtain ⟨-, h2⟩ := m_if ht; cases h2; done)
          · cases h
end M13
end
section
/-! THE SMALL MACHINE with its frames in a row -/
abbrev m_Fr : Type := Nat × Nat × m_V × List Value
def m_next (F : Nat → Nat → Option (m_I × Nat)) (fz : List (List Int32)) (fs : List m_Fr) (σ : m_S) : Option ((List m_Fr × m_S) ⊕ (Option Value × m_S)) := match fs with
  | [] => none
  | (mid, pc, lv, st) :: gs => match F mid pc with
    | none => none
    | some (I, len) => match m_step fz I (pc + len) lv st σ with
      | none => none
      | some (.inl (pc', lv', st', σ')) => some (.inl ((mid, pc', lv', st') :: gs, σ'))
      | some (.inr (.inl r)) => match gs with
        | [] => some (.inr (r, σ))
        | (m2, p2, l2, s2) :: hs => some (.inl ((m2, p2, l2, r.toList ++ s2) :: hs, σ))
      | some (.inr (.inr (mid', as, rest))) => if m_callOk I lv as rest σ = true ∧ gs.length < 60 then some (.inl ((mid', 0, lv_args 0 as, []) :: (mid, pc + len, lv, rest) :: gs, σ)) else none
def m_go (F : Nat → Nat → Option (m_I × Nat)) (fz : List (List Int32)) : Nat → List m_Fr → m_S → Option (Option Value × m_S)
  | 0, _, _ => none
  | n + 1, fs, σ => match m_next F fz fs σ with
    | none => none
    | some (.inl (gs, τ)) => m_go F fz n gs τ
    | some (.inr o) => some o
theorem m_exec_mono {F : Nat → Nat → Option (m_I × Nat)} {fz : List (List Int32)} : ∀ (n d mid pc : Nat) (lv : m_V) (st : List Value) (σ : m_S) (o : Option Value × m_S), m_exec F fz n d mid pc lv st σ = some o → ∀ k, n ≤ k → m_exec F fz k d mid pc lv st σ = some o := by
  intro n
  induction n with
  | zero => intro d mid pc lv st σ o h; cases h
  | succ n ih =>
    intro d mid pc lv st σ o h k hk
    obtain ⟨k, rfl⟩ : ∃ j, k = j + 1 := ⟨k - 1, by omega⟩
    have hk : n ≤ k := by omega
    simp only [m_exec] at h ⊢
    split at h
    · cases h
    · rename_i I len hF
      split at h
      · cases h
      · exact ih _ _ _ _ _ _ _ h k hk
      · exact h
      · rename_i mid1 as rest hs
        split at h
        · cases h
        · rename_i d1
          split at h
          · rename_i hc
            rw [if_pos hc]
            split at h
            · cases h
            · rename_i r1 σ1 h1
              rw [ih _ _ _ _ _ _ _ h1 k hk]
              exact ih _ _ _ _ _ _ _ h k hk
          · cases h
theorem m_go_exec {F : Nat → Nat → Option (m_I × Nat)} {fz : List (List Int32)} : ∀ (N n : Nat), n ≤ N → ∀ (mid pc : Nat) (lv : m_V) (st : List Value) (gs : List m_Fr) (σ : m_S) (o : Option Value × m_S), m_go F fz n ((mid, pc, lv, st) :: gs) σ = some o → gs.length ≤ 60 →
    ∃ k r σ1, m_exec F fz k (60 - gs.length) mid pc lv st σ = some (r, σ1) ∧ (match gs with
      | [] => o = (r, σ1)
      | (m2, p2, l2, s2) :: hs => ∃ n', n' < n ∧ m_go F fz n' ((m2, p2, l2, r.toList ++ s2) :: hs) σ1 = some o) := by
  intro N
  induction N with
  | zero =>
    intro n hn mid pc lv st gs σ o h
    obtain rfl : n = 0 := by omega
    cases h
  | succ N ih =>
    intro n hn mid pc lv st gs σ o h hgs
    obtain _ | n := n
    · cases h
    simp only [m_go, m_next] at h
    cases hF : F mid pc with
    | none => rw [hF] at h; cases h
    | some q =>
      obtain ⟨I, len⟩ := q
      rw [hF] at h
      dsimp only at h
      cases hs : m_step fz I (pc + len) lv st σ with
      | none => rw [hs] at h; cases h
      | some q =>
        rw [hs] at h
        rcases q with ⟨pc1, lv1, st1, σ1⟩ | r | ⟨mid1, as, rest⟩
        · dsimp only at h
          obtain ⟨k, r, σ2, h1, h2⟩ := ih n (by omega) mid pc1 lv1 st1 gs σ1 o h hgs
          refine ⟨k + 1, r, σ2, ?_, ?_⟩
          · simp only [m_exec, hF, hs]
            exact h1
          · cases gs with
            | nil => exact h2
            | cons g hs2 =>
              obtain ⟨m2, p2, l2, s2⟩ := g
              obtain ⟨n', h3, h4⟩ := h2
              exact ⟨n', by omega, h4⟩
        · refine ⟨1, r, σ, ?_, ?_⟩
          · simp only [m_exec, hF, hs]
          · cases gs with
            | nil => exact (Option.some.inj h).symm
            | cons g hs2 =>
              obtain ⟨m2, p2, l2, s2⟩ := g
              exact ⟨n, by omega, h⟩
        · dsimp only at h
          split at h
          · cases h
          · rename_i gs1 τ heq
            split at heq
            · rename_i hc
              cases heq
              obtain ⟨k1, r1, σ1, h1, n', h2, h3⟩ := ih n (by omega) mid1 0 (lv_args 0 as) [] ((mid, pc + len, lv, rest) :: gs) σ o h (by simp; omega)
              obtain ⟨k2, r2, σ2, h4, h5⟩ := ih n' (by omega) mid (pc + len) lv (r1.toList ++ rest) gs σ1 o h3 hgs
              refine ⟨max k1 k2 + 1, r2, σ2, ?_, ?_⟩
              · have e1 : 60 - gs.length = (60 - ((mid, pc + len, lv, rest) :: gs).length) + 1 := by simp only [List.length_cons]; omega
                rw [e1]
                simp only [m_exec, hF, hs]
                rw [if_pos hc.1, m_exec_mono _ _ _ _ _ _ _ _ h1 _ (Nat.le_max_left k1 k2)]
                dsimp only
                rw [← e1]
                exact m_exec_mono _ _ _ _ _ _ _ _ h4 _ (Nat.le_max_right k1 k2)
              · cases gs with
                | nil => exact h5
                | cons g hs2 =>
                  obtain ⟨m2, p2, l2, s2⟩ := g
                  obtain ⟨n2, h6, h7⟩ := h5
                  exact ⟨n2, by omega, h7⟩
            · cases heq
          · rename_i o1 heq
            split at heq
            · cases heq
            · cases heq
end
section
/-! VALUES BY THEIR BOUNDS: a walk of the small machine over all its runs at once -/
abbrev a_V : Type := Nat × Int × Int
abbrev a_N : Type := List (Int × Int)
abbrev a_E : Type := (Nat × Nat × (a_V ⊕ List a_V)) ⊕ (Nat × List a_V)
abbrev a_S : Type := Nat × List (Nat × a_E)
abbrev a_L : Type := List (Nat × a_V)
abbrev a_F : Type := Nat × Nat × a_L × List a_V
abbrev a_Q : Type := a_N × List a_F × a_S
abbrev a_Z : Type := List (Nat × Nat × List a_V)
def a_cat (v : a_V) : Nat := if v.1 = 1 ∨ v.1 = 5 then 2 else 1
def a_knd (v : a_V) : Int := match v.1 with
  | 0 => 0
  | 1 => 1
  | 2 => 2
  | 4 => 0
  | 5 => 1
  | 6 => 0
  | _ => 3
def a_sg (a c : Int) : Int := if c < a then 1 else if a = c then 0 else -1
def a_iv (N : a_N) (v : a_V) : Option (Int × Int) := match v.1 with
  | 0 => some (v.2.1, v.2.2)
  | 4 => N[v.2.1.toNat]?
  | 6 => match N[v.2.1.toNat]? with
    | some q => some (if v.2.2 < q.1 then (1, 1) else if q.2 < v.2.2 then (-1, -1) else if q.1 = v.2.2 ∧ q.2 = v.2.2 then (0, 0) else (-1, 1))
    | none => none
  | _ => none
def a_ll (N : a_N) (v : a_V) : Option (Int × Int) := match v.1 with
  | 1 => some (v.2.1, v.2.2)
  | 5 => N[v.2.1.toNat]?
  | _ => none
def a_ib0 (k : Nat) (x y : Int × Int) : Option (Int × Int) :=
  if x.1 = x.2 ∧ y.1 = y.2 then (m_ib k (Int32.ofInt x.1) (Int32.ofInt y.1)).map (fun z => (z.toInt, z.toInt))
  else match k with
    | 0 => some (if (-2147483648) ≤ x.1 + y.1 ∧ x.2 + y.2 ≤ 2147483647 then (x.1 + y.1, x.2 + y.2) else ((-2147483648), 2147483647))
    | 1 => some (if (-2147483648) ≤ x.1 - y.2 ∧ x.2 - y.1 ≤ 2147483647 then (x.1 - y.2, x.2 - y.1) else ((-2147483648), 2147483647))
    | 2 => some (if y.1 = y.2 ∧ 0 ≤ y.1 ∧ (-2147483648) ≤ x.1 * y.1 ∧ x.2 * y.1 ≤ 2147483647 then (x.1 * y.1, x.2 * y.1) else if x.1 = x.2 ∧ 0 ≤ x.1 ∧ (-2147483648) ≤ y.1 * x.1 ∧ y.2 * x.1 ≤ 2147483647 then (y.1 * x.1, y.2 * x.1) else ((-2147483648), 2147483647))
    | 3 => some (if 0 ≤ y.1 then (0, y.2) else if 0 ≤ x.1 then (0, x.2) else ((-2147483648), 2147483647))
    | 7 => some (if 0 ≤ x.1 then (0, x.2) else (-2147483648, 2147483647))
    | 9 => none
    | 10 => none
    | _ => if k ≤ 8 then some ((-2147483648), 2147483647) else none
def a_ib (k : Nat) (x y : Int × Int) : Option (Int × Int) := bif Nat.beq k 0 && decide (-2147483648 ≤ x.1 + y.1) && decide (x.2 + y.2 ≤ 2147483647) then some (x.1 + y.1, x.2 + y.2) else a_ib0 k x y
def a_lb (k : Nat) (x y : Int × Int) : Option (Int × Int) :=
  if x.1 = x.2 ∧ y.1 = y.2 then (m_lb k (Int64.ofInt x.1) (Int64.ofInt y.1)).map (fun z => (z.toInt, z.toInt))
  else if k ≤ 4 then some ((-9223372036854775808), 9223372036854775807) else none
def a_lsh (k : Nat) (x y : Int × Int) : Option (Int × Int) :=
  if x.1 = x.2 ∧ y.1 = y.2 then (m_lsh k (Int64.ofInt x.1) (Int32.ofInt y.1)).map (fun z => (z.toInt, z.toInt))
  else if k ≤ 1 then some ((-9223372036854775808), 9223372036854775807) else none
def a_un (N : a_N) (k : Nat) (v : a_V) : Option a_V := match k with
  | 0 => (a_iv N v).map fun q => if q.1 = q.2 then (0, (-(Int32.ofInt q.1)).toInt, (-(Int32.ofInt q.1)).toInt) else (0, (-2147483648), 2147483647)
  | 1 => if v.1 = 4 then some (5, v.2) else (a_iv N v).map fun q => (1, q.1, q.2)
  | 2 => (a_ll N v).map fun q => if (-2147483648) ≤ q.1 ∧ q.2 ≤ 2147483647 then (if v.1 = 5 then (4, v.2) else (0, q.1, q.2)) else (0, (-2147483648), 2147483647)
  | 3 => (a_iv N v).map fun q => if -128 ≤ q.1 ∧ q.2 ≤ 127 then v else (0, -128, 127)
  | 4 => (a_iv N v).map fun q => if -32768 ≤ q.1 ∧ q.2 ≤ 32767 then v else (0, -32768, 32767)
  | 5 => (a_ll N v).map fun q => if q.1 = q.2 then (1, (-(Int64.ofInt q.1)).toInt, (-(Int64.ofInt q.1)).toInt) else (1, (-9223372036854775808), 9223372036854775807)
  | _ => none
def a_lcm (N : a_N) (x y : a_V) : Option a_V := match a_ll N x, a_ll N y with
  | some p, some q => if x.1 = 5 ∧ q.1 = q.2 then some (6, x.2.1, q.1) else if q.2 < p.1 then some (0, 1, 1) else if p.2 < q.1 then some (0, -1, -1) else if p.1 = p.2 ∧ q.1 = q.2 ∧ p.1 = q.1 then some (0, 0, 0) else some (0, -1, 1)
  | _, _ => none
def a_stk (k : Nat) (st : List a_V) : Option (List a_V) := match k, st with
  | 0, a :: r => if a_cat a = 1 then some r else none
  | 1, a :: r => if a_cat a = 2 then some r else none
  | 2, a :: r => if a_cat a = 1 then some (a :: a :: r) else none
  | 3, a :: b :: r => if a_cat a = 1 ∧ a_cat b = 1 then some (a :: b :: a :: b :: r) else none
  | _, _ => none
def a_rf (k : Int) (c : Int) (q : Int × Int) : List (Int × Int) := match k with
  | 0 => if q.1 ≤ c ∧ c ≤ q.2 then [(c, c)] else []
  | 1 => if q.1 < c ∧ c < q.2 then [(q.1, c - 1), (c + 1, q.2)] else if q.1 = c ∧ q.2 = c then [] else if q.1 = c then [(q.1 + 1, q.2)] else if q.2 = c then [(q.1, q.2 - 1)] else [q]
  | 2 => if q.1 < c then [(q.1, if q.2 < c then q.2 else c - 1)] else []
  | 3 => if c ≤ q.2 then [(if q.1 < c then c else q.1, q.2)] else []
  | 4 => if c < q.2 then [(if q.1 ≤ c then c + 1 else q.1, q.2)] else []
  | _ => if q.1 ≤ c then [(q.1, if q.2 ≤ c then q.2 else c)] else []
def a_ng (k : Int) : Int := match k with
  | 0 => 1
  | 1 => 0
  | 2 => 3
  | 3 => 2
  | 4 => 5
  | _ => 4
def a_fl (k : Int) : Int := match k with
  | 0 => 0
  | 1 => 1
  | 2 => 4
  | 3 => 5
  | 4 => 2
  | _ => 3
def a_rel (k : Int) (x y : Int) : Prop := match k with
  | 0 => x = y
  | 1 => ¬ x = y
  | 2 => x < y
  | 3 => y ≤ x
  | 4 => y < x
  | _ => x ≤ y
/-- a value held against a number: what is known where it is so -/
def a_br1 (N : a_N) (k : Int) (v : a_V) (c : Int) : Option (List a_N) :=
  if v.1 = 4 then match N[v.2.1.toNat]? with
    | some q => some ((a_rf k c q).map fun q' => N.set v.2.1.toNat q')
    | none => none
  else if v.1 = 6 ∧ c = 0 then match N[v.2.1.toNat]? with
    | some q => some ((a_rf k v.2.2 q).map fun q' => N.set v.2.1.toNat q')
    | none => none
  else match a_iv N v with
    | some q => some (if (a_rf k c q).isEmpty = true then [] else [N])
    | none => none
def a_cmp (N : a_N) (k : Int) (x y : a_V) : Option (List a_N) := match a_iv N x, a_iv N y with
  | some p, some q => if q.1 = q.2 then a_br1 N k x q.1 else if p.1 = p.2 then a_br1 N (a_fl k) y p.1 else some [N]
  | _, _ => none
def a_two {α : Type} (a b : Option (List a_N)) (f g : a_N → α) : Option (List α) := match a, b with
  | some u, some w => some (u.map f ++ w.map g)
  | _, _ => none
def a_gv (ρ : Nat → Int) (v : a_V) (w : Value) : Prop := match v.1, w with
  | 0, .int x => v.2.1 ≤ x.toInt ∧ x.toInt ≤ v.2.2
  | 1, .long x => v.2.1 ≤ x.toInt ∧ x.toInt ≤ v.2.2
  | 2, .ref k => v.2.1 = (k : Int)
  | 3, .null => True
  | 4, .int x => x.toInt = ρ v.2.1.toNat
  | 5, .long x => x.toInt = ρ v.2.1.toNat
  | 6, .int x => x.toInt = a_sg (ρ v.2.1.toNat) v.2.2
  | _, _ => False
def a_gN (N : a_N) (ρ : Nat → Int) : Prop := ∀ (i : Nat) (q : Int × Int), N[i]? = some q → q.1 ≤ ρ i ∧ ρ i ≤ q.2
def a_all2 {α β : Type} (R : α → β → Prop) : List α → List β → Prop
  | [], [] => True
  | a :: as, b :: bs => R a b ∧ a_all2 R as bs
  | _, _ => False
def a_ge (ρ : Nat → Int) (x : a_E) (z : m_E) : Prop := match x, z with
  | .inl (t, n, .inl u), .inl (t', .inl xs) => t = t' ∧ t' < 3 ∧ xs.length = n ∧ ∀ a ∈ xs, a_gv ρ u (.int a)
  | .inl (t, n, .inl u), .inl (t', .inr (.inl xs)) => t = t' ∧ t' = 3 ∧ xs.length = n ∧ ∀ a ∈ xs, a_gv ρ u (.long a)
  | .inl (t, n, .inr vs), .inl (t', .inl xs) => t = t' ∧ t' < 3 ∧ xs.length = n ∧ a_all2 (a_gv ρ) vs (xs.map Value.int)
  | .inl (t, n, .inr vs), .inl (t', .inr (.inl xs)) => t = t' ∧ t' = 3 ∧ xs.length = n ∧ a_all2 (a_gv ρ) vs (xs.map Value.long)
  | .inl (t, n, .inr vs), .inl (t', .inr (.inr xs)) => t = t' ∧ t' = 4 ∧ xs.length = n ∧ a_all2 (a_gv ρ) vs (xs.map va_rf)
  | .inr (ci, fs), .inr (ci', gs) => ci = ci' ∧ a_all2 (a_gv ρ) fs gs
  | _, _ => False
def a_lku : List (Nat × a_E) → Nat → Option a_E
  | [], _ => none
  | q :: r, k => bif Nat.beq q.1 k then some q.2 else a_lku r k
/-- the cell at a place: as it was put last, or as the base has it -/
def a_at (B : List a_E) (S : a_S) (k : Nat) : Option a_E := match a_lku S.2 k with
  | some x => some x
  | none => B[k]?
def a_set (S : a_S) (k : Nat) (x : a_E) : a_S := (S.1, (k, x) :: S.2.filter (fun q => !(Nat.beq q.1 k)))
def a_push (S : a_S) (x : a_E) : a_S := (S.1 + 1, (S.1, x) :: S.2)
def a_gS (ρ : Nat → Int) (B : List a_E) (S : a_S) (σ : m_S) : Prop := σ.length = S.1 ∧ ∀ (k : Nat) (x : a_E), a_at B S k = some x → ∃ z, σ[k]? = some z ∧ a_ge ρ x z
def a_gl (ρ : Nat → Int) (x : Nat × a_V) (z : Nat × Value) : Prop := x.1 = z.1 ∧ a_gv ρ x.2 z.2
def a_gf (ρ : Nat → Int) (x : a_F) (z : m_Fr) : Prop := x.1 = z.1 ∧ x.2.1 = z.2.1 ∧ a_all2 (a_gl ρ) x.2.2.1 z.2.2.1 ∧ a_all2 (a_gv ρ) x.2.2.2 z.2.2.2
def a_gz (ρ : Nat → Int) (x : Nat × Nat × List a_V) (z : List Int32) : Prop := x.1 ≤ z.length ∧ z.length ≤ x.2.1 ∧ ∀ (i : Nat) (v : a_V), i < x.1 → x.2.2[i]? = some v → ∃ a, z[i]? = some a ∧ a_gv ρ v (.int a)
section A15
variable {α β : Type} {R : α → β → Prop} {as : List α} {bs : List β} {ρ : Nat → Int} {N : a_N} {v : a_V} {w : Value}
theorem a_all2.len : ∀ {as : List α} {bs : List β}, a_all2 R as bs → as.length = bs.length
  | [], [], _ => rfl
  | _ :: _, _ :: _, h => by simp [a_all2.len h.2]
theorem a_all2.get : ∀ {as : List α} {bs : List β} {i : Nat} {a : α}, a_all2 R as bs → as[i]? = some a → ∃ b, bs[i]? = some b ∧ R a b
  | a :: as, b :: bs, 0, _, h, e => by cases e; exact ⟨b, rfl, h.1⟩
  | a :: as, b :: bs, i + 1, x, h, e => a_all2.get (as := as) (bs := bs) (i := i) h.2 e
theorem a_all2.set : ∀ {as : List α} {bs : List β} {i : Nat} {a : α} {b : β}, a_all2 R as bs → R a b → a_all2 R (as.set i a) (bs.set i b)
  | [], [], _, _, _, _, _ => trivial
  | _ :: _, _ :: _, 0, _, _, h, e => ⟨e, h.2⟩
  | _ :: as, _ :: bs, i + 1, _, _, h, e => ⟨h.1, a_all2.set (as := as) (bs := bs) (i := i) h.2 e⟩
theorem a_all2.app : ∀ {as : List α} {bs : List β} {cs : List α} {ds : List β}, a_all2 R as bs → a_all2 R cs ds → a_all2 R (as ++ cs) (bs ++ ds)
  | [], [], _, _, _, h => h
  | _ :: as, _ :: bs, _, _, h, e => ⟨h.1, a_all2.app (as := as) (bs := bs) h.2 e⟩
theorem a_all2.rev : ∀ {as : List α} {bs : List β}, a_all2 R as bs → a_all2 R as.reverse bs.reverse
  | [], [], _ => trivial
  | _ :: as, _ :: bs, h => by
    rw [List.reverse_cons, List.reverse_cons]
    exact (a_all2.rev (as := as) (bs := bs) h.2).app ⟨h.1, trivial⟩
theorem a_all2.take : ∀ {as : List α} {bs : List β} (n : Nat), a_all2 R as bs → a_all2 R (as.take n) (bs.take n)
  | _, _, 0, _ => by simp [a_all2]
  | [], [], _ + 1, _ => trivial
  | _ :: as, _ :: bs, n + 1, h => ⟨h.1, a_all2.take (as := as) (bs := bs) n h.2⟩
theorem a_all2.drop : ∀ {as : List α} {bs : List β} (n : Nat), a_all2 R as bs → a_all2 R (as.drop n) (bs.drop n)
  | _, _, 0, h => h
  | [], [], _ + 1, _ => trivial
  | _ :: as, _ :: bs, n + 1, h => a_all2.drop (as := as) (bs := bs) n h.2
theorem a_all2.filter {f : α → Bool} {g : β → Bool} (hfg : ∀ a b, R a b → f a = g b) : ∀ {as : List α} {bs : List β}, a_all2 R as bs → a_all2 R (as.filter f) (bs.filter g)
  | [], [], _ => trivial
  | a :: as, b :: bs, h => by
    rw [List.filter_cons, List.filter_cons, hfg a b h.1]
    by_cases hb : g b = true
    · rw [if_pos hb, if_pos hb]; exact ⟨h.1, a_all2.filter hfg (as := as) (bs := bs) h.2⟩
    · rw [if_neg hb, if_neg hb]; exact a_all2.filter hfg (as := as) (bs := bs) h.2
theorem a_all2.find {f : α → Bool} {g : β → Bool} (hfg : ∀ a b, R a b → f a = g b) : ∀ {as : List α} {bs : List β} {a : α}, a_all2 R as bs → as.find? f = some a → ∃ b, bs.find? g = some b ∧ R a b
  | a :: as, b :: bs, x, h, e => by
    rw [List.find?_cons] at e
    rw [List.find?_cons, ← hfg a b h.1]
    by_cases hb : f a = true
    · rw [hb] at e ⊢; cases e; exact ⟨b, rfl, h.1⟩
    · simp only [Bool.not_eq_true] at hb
      rw [hb] at e ⊢
      exact a_all2.find hfg (as := as) (bs := bs) h.2 e
theorem a_all2.all {f : α → Bool} {g : β → Bool} (hfg : ∀ a b, R a b → f a = true → g b = true) : ∀ {as : List α} {bs : List β}, a_all2 R as bs → as.all f = true → bs.all g = true
  | [], [], _, _ => rfl
  | a :: as, b :: bs, h, e => by
    rw [List.all_cons, Bool.and_eq_true] at e ⊢
    exact ⟨hfg a b h.1 e.1, a_all2.all hfg (as := as) (bs := bs) h.2 e.2⟩
theorem a_all2.rep {a : α} : ∀ {bs : List β}, (∀ b ∈ bs, R a b) → a_all2 R (List.replicate bs.length a) bs
  | [], _ => trivial
  | b :: bs, h => ⟨h b List.mem_cons_self, a_all2.rep (bs := bs) (fun b' hb => h b' (List.mem_cons_of_mem _ hb))⟩
theorem a_all2.mem {b : β} : ∀ {as : List α} {bs : List β}, a_all2 R as bs → b ∈ bs → ∃ a ∈ as, R a b
  | [], [], _, hb => by cases hb
  | a :: as, b' :: bs, h, hb => by
    rcases List.mem_cons.mp hb with rfl | hb
    · exact ⟨a, List.mem_cons_self, h.1⟩
    · obtain ⟨x, h1, h2⟩ := a_all2.mem (as := as) (bs := bs) h.2 hb
      exact ⟨x, List.mem_cons_of_mem _ h1, h2⟩
theorem a_all2.imp {S : α → β → Prop} (hi : ∀ a b, R a b → S a b) : ∀ {as : List α} {bs : List β}, a_all2 R as bs → a_all2 S as bs
  | [], [], _ => trivial
  | _ :: as, _ :: bs, h => ⟨hi _ _ h.1, a_all2.imp hi (as := as) (bs := bs) h.2⟩
theorem a_all2.mapl {γ : Type} {S : γ → β → Prop} {f : α → γ} (hi : ∀ a b, R a b → S (f a) b) : ∀ {as : List α} {bs : List β}, a_all2 R as bs → a_all2 S (as.map f) bs
  | [], [], _ => trivial
  | _ :: as, _ :: bs, h => ⟨hi _ _ h.1, a_all2.mapl hi (as := as) (bs := bs) h.2⟩
theorem a_gv_cat (h : a_gv ρ v w) : a_cat v = w.category := by
  obtain ⟨t, a, b⟩ := v
  unfold a_gv at h
  split at h <;> first | exact h.elim | (rename_i e; dsimp only at e; subst e; rfl)
theorem a_gv_knd (h : a_gv ρ v w) : a_knd v = m_k w := by
  obtain ⟨t, a, b⟩ := v
  unfold a_gv at h
  split at h <;> first | exact h.elim | (rename_i e; dsimp only at e; subst e; rfl)
theorem a_iv_ok {q : Int × Int} (hN : a_gN N ρ) (h : a_gv ρ v w) (hq : a_iv N v = some q) : ∃ x, w = .int x ∧ q.1 ≤ x.toInt ∧ x.toInt ≤ q.2 := by
  obtain ⟨t, a, b⟩ := v
  unfold a_gv at h
  split at h
  · rename_i x e; dsimp only at e; subst e; cases hq; exact ⟨x, rfl, h⟩
  · rename_i e; dsimp only at e; subst e; cases hq
  · rename_i e; dsimp only at e; subst e; cases hq
  · rename_i e; dsimp only at e; subst e; cases hq
  · rename_i x e; dsimp only at e; subst e; exact ⟨x, rfl, by rw [h]; exact hN _ _ hq⟩
  · rename_i e; dsimp only at e; subst e; cases hq
  · rename_i x e
    dsimp only at e; subst e
    simp only [a_iv] at hq
    split at hq
    · rename_i r hr
      have h1 := hN _ _ hr
      cases hq
      refine ⟨x, rfl, ?_⟩
      rw [h]
      unfold a_sg
      dsimp only
      repeat' split
      all_goals dsimp only
      all_goals omega
    · cases hq
  · exact h.elim
theorem a_ll_ok {q : Int × Int} (hN : a_gN N ρ) (h : a_gv ρ v w) (hq : a_ll N v = some q) : ∃ x, w = .long x ∧ q.1 ≤ x.toInt ∧ x.toInt ≤ q.2 := by
  obtain ⟨t, a, b⟩ := v
  unfold a_gv at h
  split at h
  · rename_i e; dsimp only at e; subst e; cases hq
  · rename_i x e; dsimp only at e; subst e; cases hq; exact ⟨x, rfl, h⟩
  · rename_i e; dsimp only at e; subst e; cases hq
  · rename_i e; dsimp only at e; subst e; cases hq
  · rename_i e; dsimp only at e; subst e; cases hq
  · rename_i x e; dsimp only at e; subst e; exact ⟨x, rfl, by rw [h]; exact hN _ _ hq⟩
  · rename_i e; dsimp only at e; subst e; cases hq
  · exact h.elim
end A15
end
section
/-! numbers within bounds -/
theorem a_i32 (x : Int32) : (-2147483648) ≤ x.toInt ∧ x.toInt ≤ 2147483647 := by
  have h1 := Int32.le_toInt x
  have h2 := Int32.toInt_lt x
  constructor <;> omega
theorem a_i64 (x : Int64) : (-9223372036854775808) ≤ x.toInt ∧ x.toInt ≤ 9223372036854775807 := by
  have h1 := Int64.le_toInt x
  have h2 := Int64.toInt_lt x
  constructor <;> omega
theorem a_ex32 {x : Int32} {a b : Int} (h : a = b) (h1 : a ≤ x.toInt) (h2 : x.toInt ≤ b) : Int32.ofInt a = x := by
  have : a = x.toInt := by omega
  rw [this, Int32.ofInt_toInt]
theorem a_ex64 {x : Int64} {a b : Int} (h : a = b) (h1 : a ≤ x.toInt) (h2 : x.toInt ≤ b) : Int64.ofInt a = x := by
  have : a = x.toInt := by omega
  rw [this, Int64.ofInt_toInt]
theorem a_bm {a : Int} (h1 : (-2147483648) ≤ a) (h2 : a ≤ 2147483647) : a.bmod (2 ^ 32) = a := by
  apply Int.bmod_eq_of_le <;> omega
theorem a_and {x y : Int32} (h : 0 ≤ y.toInt) : 0 ≤ (x &&& y).toInt ∧ (x &&& y).toInt ≤ y.toInt := by
  have e1 : ∀ z : Int32, z.toInt = if 2 * z.toBitVec.toNat < 2 ^ 32 then (z.toBitVec.toNat : Int) else (z.toBitVec.toNat : Int) - (2 ^ 32 : Nat) := fun z => BitVec.toInt_eq_toNat_cond z.toBitVec
  have e2 : (x &&& y).toBitVec.toNat = x.toBitVec.toNat &&& y.toBitVec.toNat := by rw [Int32.toBitVec_and, BitVec.toNat_and]
  have e3 : (x &&& y).toBitVec.toNat ≤ y.toBitVec.toNat := by rw [e2]; exact Nat.and_le_right
  have e4 := y.toBitVec.isLt
  rw [e1 y] at h ⊢
  rw [e1 (x &&& y)]
  split at h
  · rename_i h5
    rw [if_pos h5, if_pos (by omega)]
    omega
  · omega
theorem a_shr {x y : Int32} (h : 0 ≤ x.toInt) : 0 ≤ (x >>> (y &&& 31)).toInt ∧ (x >>> (y &&& 31)).toInt ≤ x.toInt := by
  rw [pk_shr x (y &&& 31) _ rfl]
  generalize ((y &&& 31).toBitVec.smod 32).toNat = k
  rw [Int.shiftRight_eq_div_pow]
  constructor
  · exact Int.ediv_nonneg h (by exact_mod_cast Nat.zero_le _)
  · exact Int.ediv_le_self _ h
theorem a_mul {a b c : Int} (h : a ≤ b) (hc : 0 ≤ c) : a * c ≤ b * c := Int.mul_le_mul_of_nonneg_right h hc
theorem a_ib0_ok {k : Nat} {p q r : Int × Int} {x y : Int32} (hp : p.1 ≤ x.toInt ∧ x.toInt ≤ p.2) (hq : q.1 ≤ y.toInt ∧ y.toInt ≤ q.2) (h : a_ib0 k p q = some r) : ∃ z, m_ib k x y = some z ∧ r.1 ≤ z.toInt ∧ z.toInt ≤ r.2 := by
  have hx := a_i32 x
  have hy := a_i32 y
  unfold a_ib0 at h
  split at h
  · rename_i he
    rw [a_ex32 he.1 hp.1 hp.2, a_ex32 he.2 hq.1 hq.2] at h
    obtain ⟨z, h1, h2⟩ := Option.map_eq_some_iff.mp h
    subst h2
    exact ⟨z, h1, Int.le_refl _, Int.le_refl _⟩
  · split at h
    · cases h
      refine ⟨x + y, rfl, ?_⟩
      split
      · rw [Int32.toInt_add, a_bm (by omega) (by omega)]; dsimp only; omega
      · exact a_i32 _
    · cases h
      refine ⟨x - y, rfl, ?_⟩
      split
      · rw [Int32.toInt_sub, a_bm (by omega) (by omega)]; dsimp only; omega
      · exact a_i32 _
    · cases h
      refine ⟨x * y, rfl, ?_⟩
      split
      · rename_i he
        have e1 : y.toInt = q.1 := by omega
        have e2 := a_mul hp.1 he.2.1
        have e3 := a_mul hp.2 he.2.1
        rw [Int32.toInt_mul, e1, a_bm (by omega) (by omega)]; dsimp only; omega
      · split
        · rename_i he
          have e1 : x.toInt = p.1 := by omega
          have e2 := a_mul hq.1 he.2.1
          have e3 := a_mul hq.2 he.2.1
          rw [Int32.toInt_mul, e1, Int.mul_comm p.1 y.toInt, a_bm (by omega) (by omega)]; dsimp only; omega
        · exact a_i32 _
    · cases h
      refine ⟨x &&& y, rfl, ?_⟩
      split
      · have := a_and (x := x) (y := y) (by omega)
        dsimp only
        omega
      · split
        · have := a_and (x := y) (y := x) (by omega)
          rw [Int32.and_comm]
          dsimp only
          omega
        · exact a_i32 _
    · cases h
      refine ⟨x >>> (y &&& 31), rfl, ?_⟩
      split
      · have := a_shr (x := x) (y := y) (by omega)
        dsimp only
        omega
      · exact a_i32 _
    · cases h
    · cases h
    · rename_i h0 h1 h2 h3 h7 h9 h10
      split at h
      · cases h
        rename_i hk8
        have g0 : ¬ k = 0 := h0
        have g1 : ¬ k = 1 := h1
        have g2 : ¬ k = 2 := h2
        have g3 : ¬ k = 3 := h3
        have hk : k = 4 ∨ k = 5 ∨ k = 6 ∨ k = 7 ∨ k = 8 := by omega
        rcases hk with rfl | rfl | rfl | rfl | rfl
        all_goals exact ⟨_, rfl, a_i32 _⟩
      · cases h
theorem a_ib_ok {k : Nat} {p q r : Int × Int} {x y : Int32} (hp : p.1 ≤ x.toInt ∧ x.toInt ≤ p.2) (hq : q.1 ≤ y.toInt ∧ y.toInt ≤ q.2) (h : a_ib k p q = some r) : ∃ z, m_ib k x y = some z ∧ r.1 ≤ z.toInt ∧ z.toInt ≤ r.2 := by
  unfold a_ib at h
  by_cases hc : (Nat.beq k 0 && decide (-2147483648 ≤ p.1 + q.1) && decide (p.2 + q.2 ≤ 2147483647)) = true
  · rw [hc] at h
    simp only [Bool.and_eq_true, decide_eq_true_eq] at hc
    have hk : k = 0 := Nat.eq_of_beq_eq_true hc.1.1
    subst hk
    cases h
    refine ⟨x + y, rfl, ?_⟩
    rw [Int32.toInt_add, a_bm (by omega) (by omega)]
    dsimp only
    omega
  · simp only [Bool.not_eq_true] at hc
    rw [hc] at h
    exact a_ib0_ok hp hq h
theorem a_lb_ok {k : Nat} {p q r : Int × Int} {x y : Int64} (hp : p.1 ≤ x.toInt ∧ x.toInt ≤ p.2) (hq : q.1 ≤ y.toInt ∧ y.toInt ≤ q.2) (h : a_lb k p q = some r) : ∃ z, m_lb k x y = some z ∧ r.1 ≤ z.toInt ∧ z.toInt ≤ r.2 := by
  unfold a_lb at h
  split at h
  · rename_i he
    rw [a_ex64 he.1 hp.1 hp.2, a_ex64 he.2 hq.1 hq.2] at h
    obtain ⟨z, h1, h2⟩ := Option.map_eq_some_iff.mp h
    subst h2
    exact ⟨z, h1, Int.le_refl _, Int.le_refl _⟩
  · split at h
    · rename_i hk
      cases h
      have hk : k = 0 ∨ k = 1 ∨ k = 2 ∨ k = 3 ∨ k = 4 := by omega
      rcases hk with rfl | rfl | rfl | rfl | rfl
      all_goals exact ⟨_, rfl, a_i64 _⟩
    · cases h
theorem a_lsh_ok {k : Nat} {p q r : Int × Int} {x : Int64} {y : Int32} (hp : p.1 ≤ x.toInt ∧ x.toInt ≤ p.2) (hq : q.1 ≤ y.toInt ∧ y.toInt ≤ q.2) (h : a_lsh k p q = some r) : ∃ z, m_lsh k x y = some z ∧ r.1 ≤ z.toInt ∧ z.toInt ≤ r.2 := by
  unfold a_lsh at h
  split at h
  · rename_i he
    rw [a_ex64 he.1 hp.1 hp.2, a_ex32 he.2 hq.1 hq.2] at h
    obtain ⟨z, h1, h2⟩ := Option.map_eq_some_iff.mp h
    subst h2
    exact ⟨z, h1, Int.le_refl _, Int.le_refl _⟩
  · split at h
    · rename_i hk
      cases h
      have hk : k = 0 ∨ k = 1 := by omega
      rcases hk with rfl | rfl
      all_goals exact ⟨_, rfl, a_i64 _⟩
    · cases h
theorem a_rf_ok {k c a : Int} {q : Int × Int} (h1 : q.1 ≤ a) (h2 : a ≤ q.2) (hr : a_rel k a c) : ∃ q' ∈ a_rf k c q, q'.1 ≤ a ∧ a ≤ q'.2 := by
  obtain ⟨lo, hi⟩ := q
  dsimp only at h1 h2
  unfold a_rel at hr
  unfold a_rf
  split at hr
  · rw [if_pos (by dsimp only; omega)]
    exact ⟨_, List.mem_singleton.mpr rfl, by dsimp only; omega, by dsimp only; omega⟩
  · dsimp only
    split
    · by_cases h : a < c
      · exact ⟨_, List.mem_cons_self, by dsimp only; omega, by dsimp only; omega⟩
      · exact ⟨_, List.mem_cons_of_mem _ List.mem_cons_self, by dsimp only; omega, by dsimp only; omega⟩
    · split
      · exfalso; omega
      · split
        · exact ⟨_, List.mem_singleton.mpr rfl, by dsimp only; omega, by dsimp only; omega⟩
        · split
          · exact ⟨_, List.mem_singleton.mpr rfl, by dsimp only; omega, by dsimp only; omega⟩
          · exact ⟨_, List.mem_singleton.mpr rfl, by dsimp only; omega, by dsimp only; omega⟩
  · rw [if_pos (by dsimp only; omega)]
    exact ⟨_, List.mem_singleton.mpr rfl, by dsimp only; omega, by dsimp only; split <;> omega⟩
  · rw [if_pos (by dsimp only; omega)]
    exact ⟨_, List.mem_singleton.mpr rfl, by dsimp only; split <;> omega, by dsimp only; omega⟩
  · rw [if_pos (by dsimp only; omega)]
    exact ⟨_, List.mem_singleton.mpr rfl, by dsimp only; split <;> omega, by dsimp only; omega⟩
  · dsimp only
    rw [if_pos (show lo ≤ c by omega)]
    exact ⟨_, List.mem_singleton.mpr rfl, by dsimp only; omega, by dsimp only; split <;> omega⟩
theorem a_i2l {x : Int32} : x.toInt64.toInt = x.toInt := Int32.toInt_toInt64 x
theorem a_l2i {x : Int64} (h1 : (-2147483648) ≤ x.toInt) (h2 : x.toInt ≤ 2147483647) : x.toInt32.toInt = x.toInt := by
  rw [Int64.toInt_toInt32]
  exact a_bm h1 h2
theorem a_i2b {x : Int32} (h1 : -128 ≤ x.toInt) (h2 : x.toInt ≤ 127) : x.toInt8.toInt32 = x := by
  apply Int32.toInt_inj.mp
  rw [Int8.toInt_toInt32, Int32.toInt_toInt8]
  apply Int.bmod_eq_of_le <;> omega
theorem a_i2bR (x : Int32) : -128 ≤ x.toInt8.toInt32.toInt ∧ x.toInt8.toInt32.toInt ≤ 127 := by
  rw [Int8.toInt_toInt32]
  have h1 := Int8.le_toInt x.toInt8
  have h2 := Int8.toInt_lt x.toInt8
  omega
theorem a_i2s {x : Int32} (h1 : -32768 ≤ x.toInt) (h2 : x.toInt ≤ 32767) : x.toInt16.toInt32 = x := by
  apply Int32.toInt_inj.mp
  rw [Int16.toInt_toInt32, Int32.toInt_toInt16]
  apply Int.bmod_eq_of_le <;> omega
theorem a_i2sR (x : Int32) : -32768 ≤ x.toInt16.toInt32.toInt ∧ x.toInt16.toInt32.toInt ≤ 32767 := by
  rw [Int16.toInt_toInt32]
  have h1 := Int16.le_toInt x.toInt16
  have h2 := Int16.toInt_lt x.toInt16
  omega
theorem a_cmpI (x y : Int64) : (lg_cmp x y).toInt = a_sg x.toInt y.toInt := by
  unfold lg_cmp a_sg
  have e1 : (x > y) ↔ y.toInt < x.toInt := Int64.lt_iff_toInt_lt
  have e2 : (x = y) ↔ x.toInt = y.toInt := Int64.toInt_inj.symm
  by_cases h1 : y.toInt < x.toInt
  · rw [if_pos (e1.mpr h1), if_pos h1]; rfl
  · rw [if_neg (fun h => h1 (e1.mp h)), if_neg h1]
    by_cases h2 : x.toInt = y.toInt
    · rw [if_pos (e2.mpr h2), if_pos h2]; rfl
    · rw [if_neg (fun h => h2 (e2.mp h)), if_neg h2]; rfl
theorem a_cd_rel (k : Int) (x y : Int32) : m_cd k x y = true ↔ a_rel k x.toInt y.toInt := by
  unfold m_cd a_rel
  split <;> simp [Int32.lt_iff_toInt_lt, Int32.le_iff_toInt_le, ← Int32.toInt_inj]
theorem a_ng_rel (k : Int) (x y : Int) (h : ¬ a_rel k x y) : a_rel (a_ng k) x y := by
  unfold a_rel at h
  split at h
  · exact h
  · exact Classical.not_not.mp h
  · show y ≤ x; omega
  · show x < y; omega
  · show x ≤ y; omega
  · rename_i h0 h1 h2 h3 h4
    have hk : a_ng k = 4 := by
      unfold a_ng
      split <;> first | rfl | contradiction
    rw [hk]
    show y < x
    omega
theorem a_fl_rel (k : Int) (x y : Int) (h : a_rel k x y) : a_rel (a_fl k) y x := by
  unfold a_rel at h
  split at h
  · exact h.symm
  · exact fun e => h e.symm
  · exact h
  · exact h
  · exact h
  · rename_i h0 h1 h2 h3 h4
    have hk : a_fl k = 3 := by
      unfold a_fl
      split <;> first | rfl | contradiction
    rw [hk]
    exact h
theorem a_gN_set {N : a_N} {ρ : Nat → Int} (hN : a_gN N ρ) {i : Nat} {q : Int × Int} (h1 : q.1 ≤ ρ i) (h2 : ρ i ≤ q.2) : a_gN (N.set i q) ρ := by
  intro j r hj
  rw [List.getElem?_set] at hj
  split at hj
  · rename_i e
    subst e
    split at hj
    · cases hj; exact ⟨h1, h2⟩
    · cases hj
  · exact hN j r hj
theorem a_sg_rel {k a b : Int} (h : a_rel k (a_sg a b) 0) : a_rel k a b := by
  have h3 : (b < a ∧ a_sg a b = 1) ∨ (a = b ∧ a_sg a b = 0) ∨ (a < b ∧ a_sg a b = -1) := by
    unfold a_sg
    by_cases h1 : b < a
    · rw [if_pos h1]; exact Or.inl ⟨h1, rfl⟩
    · rw [if_neg h1]
      by_cases h2 : a = b
      · rw [if_pos h2]; exact Or.inr (Or.inl ⟨h2, rfl⟩)
      · rw [if_neg h2]; exact Or.inr (Or.inr ⟨by omega, rfl⟩)
  unfold a_rel at h
  split at h
  · show a = b; omega
  · show ¬ a = b; omega
  · show a < b; omega
  · show b ≤ a; omega
  · show b < a; omega
  · rename_i h0 h1 h2 h4 h5
    have : a_rel k a b = (a ≤ b) := by
      unfold a_rel
      split <;> first | rfl | contradiction
    rw [this]
    omega
theorem a_br1_ok {N : a_N} {ρ : Nat → Int} {v : a_V} {w : Value} {k c : Int} {o : List a_N} (hN : a_gN N ρ) (hv : a_gv ρ v w) (h : a_br1 N k v c = some o) : ∃ x, w = .int x ∧ (a_rel k x.toInt c → ∃ N' ∈ o, a_gN N' ρ) := by
  obtain ⟨t, a, b⟩ := v
  unfold a_br1 at h
  dsimp only at h
  split at h
  · rename_i ht
    subst ht
    split at h
    · rename_i q hq
      cases h
      cases w with
      | int x =>
        refine ⟨x, rfl, fun hr => ?_⟩
        have hv : x.toInt = ρ a.toNat := hv
        rw [hv] at hr
        obtain ⟨q', e1, e2, e3⟩ := a_rf_ok (hN _ _ hq).1 (hN _ _ hq).2 hr
        exact ⟨_, List.mem_map.mpr ⟨q', e1, rfl⟩, a_gN_set hN e2 e3⟩
      | _ => exact hv.elim
    · cases h
  · split at h
    · rename_i ht
      obtain ⟨rfl, rfl⟩ := ht
      split at h
      · rename_i q hq
        cases h
        cases w with
        | int x =>
          refine ⟨x, rfl, fun hr => ?_⟩
          have hv : x.toInt = a_sg (ρ a.toNat) b := hv
          rw [hv] at hr
          have hr2 : a_rel k (ρ a.toNat) b := a_sg_rel hr
          obtain ⟨q', e1, e2, e3⟩ := a_rf_ok (hN _ _ hq).1 (hN _ _ hq).2 hr2
          exact ⟨_, List.mem_map.mpr ⟨q', e1, rfl⟩, a_gN_set hN e2 e3⟩
        | _ => exact hv.elim
      · cases h
    · split at h
      · rename_i q hq
        cases h
        obtain ⟨x, rfl, h1, h2⟩ := a_iv_ok hN hv hq
        refine ⟨x, rfl, fun hr => ?_⟩
        obtain ⟨q', e1, e2, e3⟩ := a_rf_ok h1 h2 hr
        rw [if_neg (by intro h9; rw [List.isEmpty_iff] at h9; rw [h9] at e1; cases e1)]
        exact ⟨_, List.mem_singleton.mpr rfl, hN⟩
      · cases h
theorem a_cmp_ok {N : a_N} {ρ : Nat → Int} {v v' : a_V} {w w' : Value} {k : Int} {o : List a_N} (hN : a_gN N ρ) (hv : a_gv ρ v w) (hv' : a_gv ρ v' w') (h : a_cmp N k v v' = some o) : ∃ x y, w = .int x ∧ w' = .int y ∧ (a_rel k x.toInt y.toInt → ∃ N' ∈ o, a_gN N' ρ) := by
  unfold a_cmp at h
  split at h
  · rename_i p q hp hq
    obtain ⟨x, rfl, h1, h2⟩ := a_iv_ok hN hv hp
    obtain ⟨y, rfl, h3, h4⟩ := a_iv_ok hN hv' hq
    refine ⟨x, y, rfl, rfl, fun hr => ?_⟩
    split at h
    · have e : y.toInt = q.1 := by omega
      obtain ⟨x', hx, hh⟩ := a_br1_ok hN hv h
      cases hx
      exact hh (by rw [← e]; exact hr)
    · split at h
      · have e : x.toInt = p.1 := by omega
        obtain ⟨x', hx, hh⟩ := a_br1_ok hN hv' h
        cases hx
        exact hh (by rw [← e]; exact a_fl_rel _ _ _ hr)
      · cases h
        exact ⟨_, List.mem_singleton.mpr rfl, hN⟩
  · cases h
end
section
/-! ONE STEP over bounds -/
def a_ld : a_L → Nat → Option a_V
  | [], _ => none
  | q :: r, i => bif Nat.beq q.1 i then some q.2 else a_ld r i
def a_c2 (v : a_V) : Bool := Nat.beq v.1 1 || Nat.beq v.1 5
def a_st1 (lv : a_L) (i : Nat) (v : a_V) : a_L := (i, v) :: lv.filter (fun q => !(Nat.beq q.1 i) && !(Nat.beq (q.1 + 1) i && a_c2 q.2))
def a_st2 (lv : a_L) (i : Nat) (v : a_V) : a_L := (i, v) :: lv.filter (fun q => !(Nat.beq q.1 i) && (!(Nat.beq q.1 (i + 1)) && !(Nat.beq (q.1 + 1) i && a_c2 q.2)))
def a_fit (ty : FieldType) (v : a_V) : Bool := match ty with
  | .int => decide (a_knd v = 0)
  | .long => decide (a_knd v = 1)
  | .object _ => decide (v.1 = 2)
  | .array _ => decide (v.1 = 2)
  | _ => false
def a_jl (N : a_N) : List a_V → Option (Int × Int)
  | [] => none
  | [v] => a_iv N v
  | v :: r => match a_iv N v, a_jl N r with
    | some p, some q => some (min p.1 q.1, max p.2 q.2)
    | _, _ => none
def a_jn (N : a_N) (u w : a_V) : Option a_V := match a_iv N u, a_iv N w with
  | some p, some q => some (0, min p.1 q.1, max p.2 q.2)
  | _, _ => match a_ll N u, a_ll N w with
    | some p, some q => some (1, min p.1 q.1, max p.2 q.2)
    | _, _ => none
def a_le1 (N : a_N) (w u : a_V) : Bool := if u.1 = 0 then (match a_iv N w with
    | some q => decide (u.2.1 ≤ q.1) && decide (q.2 ≤ u.2.2)
    | none => false) else if u.1 = 1 then (match a_ll N w with
    | some q => decide (u.2.1 ≤ q.1) && decide (q.2 ≤ u.2.2)
    | none => false) else false
def a_mj (N : a_N) (w : a_V) : List a_V → Option (List a_V)
  | [] => some []
  | v :: r => match a_jn N v w, a_mj N w r with
    | some u, some t => some (u :: t)
    | _, _ => none
def a_aget (N : a_N) (t : Nat) (arr : a_V ⊕ List a_V) (n : Nat) (ix : Int × Int) : Option a_V :=
  if 0 ≤ ix.1 ∧ ix.2 < n then match arr with
    | .inl u => some u
    | .inr vs => if ix.1 = ix.2 then vs[ix.1.toNat]? else if t < 3 then (a_jl N vs).map fun q => (0, q.1, q.2) else none
  else none
def a_ald (af : a_Z) (B : List a_E) (N : a_N) (a : Nat) (ix : Int × Int) (b : Nat) (σ : a_S) : Option a_V :=
  if m_fzb ≤ b then (if a = 0 ∧ ix.1 = ix.2 ∧ 0 ≤ ix.1 then match af[b - m_fzb]? with
    | some z => if ix.1.toNat < z.1 then z.2.2[ix.1.toNat]? else none
    | none => none else none)
  else match a_at B σ b with
    | some (.inl (t, n, arr)) => if a = 0 ∧ t = 0 ∨ a = 1 ∧ (t = 1 ∨ t = 2) ∨ a = 2 ∧ t = 3 ∨ a = 3 ∧ t = 4 then a_aget N t arr n ix else none
    | _ => none
def a_nar (B : List a_E) (N : a_N) (a t : Nat) (w : a_V) (σ : a_S) : Option a_V :=
  if a = 0 ∧ t = 0 then (a_iv N w).map fun _ => w
  else if a = 1 ∧ t = 1 then (a_iv N w).map fun q => if -128 ≤ q.1 ∧ q.2 ≤ 127 then w else (0, -128, 127)
  else if a = 1 ∧ t = 2 then (a_iv N w).map fun q => if 0 ≤ q.1 ∧ q.2 ≤ 1 then w else (0, 0, 1)
  else if a = 2 ∧ t = 3 then (a_ll N w).map fun _ => w
  else if a = 3 ∧ t = 4 ∧ w.1 = 2 ∧ 0 ≤ w.2.1 then match a_at B σ (w.2.1.toNat) with
    | some (.inr (1, _)) => some w
    | _ => none
  else none
def a_aput (N : a_N) (t : Nat) (arr : a_V ⊕ List a_V) (n : Nat) (ix : Int × Int) (w : a_V) : Option (a_V ⊕ List a_V) := match arr with
  | .inl u => if a_le1 N w u = true then some (.inl u) else if ix.1 = ix.2 ∧ n ≤ 64 then some (.inr ((List.replicate n u).set ix.1.toNat w)) else (a_jn N u w).map Sum.inl
  | .inr vs => if ix.1 = ix.2 then some (.inr (vs.set ix.1.toNat w)) else if t < 3 then (a_mj N w vs).map Sum.inr else none
def a_ast (B : List a_E) (N : a_N) (a : Nat) (w : a_V) (ix : Int × Int) (b : Nat) (σ : a_S) : Option a_S := match a_at B σ b with
  | some (.inl (t, n, arr)) => if 0 ≤ ix.1 ∧ ix.2 < n then match a_nar B N a t w σ with
    | some w' => (a_aput N t arr n ix w').map fun r => a_set σ b (.inl (t, n, r))
    | none => none else none
  | _ => none
def a_len (af : a_Z) (B : List a_E) (b : Nat) (σ : a_S) : Option (Int × Int) :=
  if m_fzb ≤ b then (af[b - m_fzb]?).map fun z => ((z.1 : Int), (z.2.1 : Int))
  else match a_at B σ b with
    | some (.inl (_, n, _)) => some ((n : Int), (n : Int))
    | _ => none
def a_okv (n : Nat) (v : a_V) : Bool := if v.1 = 2 then decide (v.2.1 < n) || decide ((m_fzb : Int) ≤ v.2.1) else true
def a_oke (n : Nat) (x : a_E) : Bool := match x with
  | .inl (_, _, .inl _) => true
  | .inl (t, _, .inr vs) => decide (t < 4) || vs.all (a_okv n)
  | .inr (_, fs) => fs.all (a_okv n)
def a_okl (n : Nat) (lv : a_L) : Bool := lv.all (fun q => a_okv n q.2)
def a_wf (B : List a_E) (lv : a_L) (st : List a_V) (σ : a_S) : Bool := decide (σ.1 < m_fzb) && a_okl σ.1 lv && st.all (a_okv σ.1) && (List.range σ.1).all (fun k => match a_at B σ k with
  | some x => a_oke σ.1 x
  | none => false)
def a_newa (t n : Nat) : Option a_E := match t with
  | 0 => some (.inl (0, n, .inl (0, 0, 0)))
  | 1 => some (.inl (1, n, .inl (0, 0, 0)))
  | 2 => some (.inl (2, n, .inl (0, 0, 0)))
  | 3 => some (.inl (3, n, .inl (1, 0, 0)))
  | 4 => some (.inl (4, n, .inr (List.replicate n (3, 0, 0))))
  | _ => none
def a_dv (ty : FieldType) : a_V := match ty with
  | .long => (1, 0, 0)
  | .object _ => (3, 0, 0)
  | .array _ => (3, 0, 0)
  | _ => (0, 0, 0)
def a_dok (ty : FieldType) : Bool := match ty with
  | .float => false
  | .double => false
  | _ => true
def a_acp (B : List a_E) (N : a_N) (n dp b1 sp b0 : Nat) (σ : a_S) : Option a_S := match a_at B σ b0, a_at B σ b1 with
  | some (.inl (t, n0, .inl u)), some (.inl (t', n1, .inl u')) => if t = t' ∧ (t = 0 ∨ t = 3) ∧ sp + n ≤ n0 ∧ dp + n ≤ n1 then (if a_le1 N u u' = true then some σ else (a_jn N u' u).map fun j => a_set σ b1 (.inl (t', n1, .inl j))) else none
  | _, _ => none
abbrev a_R : Type := a_N × Nat × a_L × List a_V × a_S
def a_cases (N : a_N) (s : Nat) (lo : Int) (k : Nat) : List a_N := (List.range k).map fun (j : Nat) => N.set s (lo + j, lo + j)
def a_tsw (N : a_N) (v : a_V) (q : Int × Int) (lv : a_L) (r : List a_V) (σ : a_S) : Nat → List Nat → List a_R
  | _, [] => []
  | j, t :: ts => (if q.1 ≤ j ∧ (j : Int) ≤ q.2 then [((if v.1 = 4 then N.set v.2.1.toNat ((j : Int), (j : Int)) else N), t, lv, r, σ)] else []) ++ a_tsw N v q lv r σ (j + 1) ts
def a_mp (f : a_N → Option (List a_N)) : List a_N → Option (List a_N)
  | [] => some []
  | M :: r => match f M, a_mp f r with
    | some u, some w => some (u ++ w)
    | _, _ => none
def a_nes (v : a_V) : List a_N → List Nat → Option (List a_N)
  | Ms, k :: _ :: ts => match a_mp (fun M => a_br1 M 1 v k) Ms with
    | some L => a_nes v L ts
    | none => none
  | Ms, _ => some Ms
def a_eqs (N : a_N) (v : a_V) (lv : a_L) (r : List a_V) (σ : a_S) : List Nat → Option (List a_R)
  | k :: t :: ts => match a_br1 N 0 v k, a_eqs N v lv r σ ts with
    | some u, some L => some (u.map (fun M => (M, t, lv, r, σ)) ++ L)
    | _, _ => none
  | _ => some []
def a_lsw (d : Nat) (v : a_V) (lv : a_L) (r : List a_V) (σ : a_S) (N : a_N) (l : List Nat) : Option (List a_R) := match a_eqs N v lv r σ l, a_nes v [N] l with
  | some A, some B => some (A ++ B.map fun M => (M, d, lv, r, σ))
  | _, _ => none
def a_h0 (N : a_N) (v : Int) (nx : Nat) (lv : a_L) (st : List a_V) (σ : a_S) : Option (List a_R) := if -2147483648 ≤ v ∧ v ≤ 2147483647 then some [(N, nx, lv, (0, v, v) :: st, σ)] else none
def a_h1 (N : a_N) (v : Int) (nx : Nat) (lv : a_L) (st : List a_V) (σ : a_S) : Option (List a_R) := if -9223372036854775808 ≤ v ∧ v ≤ 9223372036854775807 then some [(N, nx, lv, (1, v, v) :: st, σ)] else none
def a_h2 (N : a_N) (a : Nat) (v : Int) (nx : Nat) (lv : a_L) (st : List a_V) (σ : a_S) : Option (List a_R) := match a_ld lv a with
    | some w => if a_knd w = v then some [(N, nx, lv, w :: st, σ)] else none
    | none => none
def a_h3 (N : a_N) (a : Nat) (v : Int) (nx : Nat) (lv : a_L) (st : List a_V) (σ : a_S) : Option (List a_R) := match st with
    | w :: r => if a_knd w = v then some [(N, nx, (if v = 1 then a_st2 lv a w else a_st1 lv a w), r, σ)] else none
    | [] => none
def a_h4 (N : a_N) (a : Nat) (v : Int) (nx : Nat) (lv : a_L) (st : List a_V) (σ : a_S) : Option (List a_R) := match a_ld lv a with
    | some w => match a_iv N w with
      | some q => if -2147483648 ≤ v ∧ v ≤ 2147483647 then (a_ib 0 q (v, v)).map fun z => [(N, nx, a_st1 lv a (0, z.1, z.2), st, σ)] else none
      | none => none
    | none => none
def a_h5 (N : a_N) (a : Nat) (nx : Nat) (lv : a_L) (st : List a_V) (σ : a_S) : Option (List a_R) := match st with
    | y :: x :: r => match a_iv N x, a_iv N y with
      | some p, some q => (a_ib a p q).map fun z => [(N, nx, lv, (0, z.1, z.2) :: r, σ)]
      | _, _ => none
    | _ => none
def a_h6 (N : a_N) (a : Nat) (nx : Nat) (lv : a_L) (st : List a_V) (σ : a_S) : Option (List a_R) := match st with
    | y :: x :: r => match a_ll N x, a_ll N y with
      | some p, some q => (a_lb a p q).map fun z => [(N, nx, lv, (1, z.1, z.2) :: r, σ)]
      | _, _ => none
    | _ => none
def a_h7 (N : a_N) (a : Nat) (nx : Nat) (lv : a_L) (st : List a_V) (σ : a_S) : Option (List a_R) := match st with
    | w :: r => (a_un N a w).map fun z => [(N, nx, lv, z :: r, σ)]
    | [] => none
def a_h8 (N : a_N) (nx : Nat) (lv : a_L) (st : List a_V) (σ : a_S) : Option (List a_R) := match st with
    | y :: x :: r => (a_lcm N x y).map fun z => [(N, nx, lv, z :: r, σ)]
    | _ => none
def a_h9 (N : a_N) (a : Nat) (nx : Nat) (lv : a_L) (st : List a_V) (σ : a_S) : Option (List a_R) := (a_stk a st).map fun r => [(N, nx, lv, r, σ)]
def a_h10 (N : a_N) (a : Nat) (lv : a_L) (st : List a_V) (σ : a_S) : Option (List a_R) := some [(N, a, lv, st, σ)]
def a_h11 (N : a_N) (a : Nat) (v : Int) (nx : Nat) (lv : a_L) (st : List a_V) (σ : a_S) : Option (List a_R) := match st with
    | x :: r => a_two (a_br1 N v x 0) (a_br1 N (a_ng v) x 0) (fun M => (M, a, lv, r, σ)) (fun M => (M, nx, lv, r, σ))
    | _ => none
def a_h12 (N : a_N) (a : Nat) (v : Int) (nx : Nat) (lv : a_L) (st : List a_V) (σ : a_S) : Option (List a_R) := match st with
    | y :: x :: r => a_two (a_cmp N v x y) (a_cmp N (a_ng v) x y) (fun M => (M, a, lv, r, σ)) (fun M => (M, nx, lv, r, σ))
    | _ => none
def a_h13 (N : a_N) (a : Nat) (v : Int) (l : List Nat) (lv : a_L) (st : List a_V) (σ : a_S) : Option (List a_R) := match st with
    | x :: r => match a_iv N x with
      | some q => if v < 0 then none else match a_br1 N 2 x v, a_br1 N 3 x (v + l.length) with
        | some u, some w => some ((u.map fun M => (M, a, lv, r, σ)) ++ ((w.map fun M => (M, a, lv, r, σ)) ++ a_tsw N x q lv r σ v.toNat l))
        | _, _ => none
      | none => none
    | _ => none
def a_h14 (N : a_N) (a : Nat) (l : List Nat) (lv : a_L) (st : List a_V) (σ : a_S) : Option (List a_R) := match st with
    | x :: r => match a_iv N x with
      | some _ => a_lsw a x lv r σ N l
      | none => none
    | _ => none
def a_h15 (B : List a_E) (N : a_N) (a : Nat) (v : Int) (nx : Nat) (lv : a_L) (st : List a_V) (σ : a_S) : Option (List a_R) := match st with
    | b :: r => if b.1 = 2 ∧ 0 ≤ b.2.1 then match a_at B σ (b.2.1.toNat) with
      | some (.inr (ci, fs)) => match fs[v.toNat]? with
        | some w => if ci = a then some [(N, nx, lv, w :: r, σ)] else none
        | none => none
      | _ => none else none
    | _ => none
def a_h16 (B : List a_E) (N : a_N) (a : Nat) (v : Int) (nx : Nat) (lv : a_L) (st : List a_V) (σ : a_S) : Option (List a_R) := match st with
    | w :: b :: r => if b.1 = 2 ∧ 0 ≤ b.2.1 then match a_at B σ (b.2.1.toNat) with
      | some (.inr (ci, fs)) => if ci = a ∧ v.toNat < fs.length ∧ a_fit (m_tyf ci v.toNat) w = true then some [(N, nx, lv, r, a_set σ b.2.1.toNat (.inr (ci, fs.set v.toNat w)))] else none
      | _ => none else none
    | _ => none
def a_h18 (B : List a_E) (af : a_Z) (N : a_N) (a : Nat) (pc : Nat) (nx : Nat) (lv : a_L) (st : List a_V) (σ : a_S) : Option (List a_R) := match st with
    | i :: b :: r => if b.1 = 2 ∧ 0 ≤ b.2.1 then match a_iv N i with
      | some q => if a = 3 ∧ i.1 = 4 ∧ q.1 < q.2 ∧ q.2 ≤ q.1 + 8 then some ((a_cases N i.2.1.toNat q.1 (q.2 - q.1 + 1).toNat).map fun M => (M, pc, lv, st, σ))
        else (a_ald af B N a q b.2.1.toNat σ).map fun w => [(N, nx, lv, w :: r, σ)]
      | none => none else none
    | _ => none
def a_h19 (B : List a_E) (N : a_N) (a : Nat) (nx : Nat) (lv : a_L) (st : List a_V) (σ : a_S) : Option (List a_R) := match st with
    | w :: i :: b :: r => if b.1 = 2 ∧ 0 ≤ b.2.1 then match a_iv N i with
      | some q => (a_ast B N a w q b.2.1.toNat σ).map fun τ => [(N, nx, lv, r, τ)]
      | none => none else none
    | _ => none
def a_h20 (B : List a_E) (af : a_Z) (N : a_N) (nx : Nat) (lv : a_L) (st : List a_V) (σ : a_S) : Option (List a_R) := match st with
    | b :: r => if b.1 = 2 ∧ 0 ≤ b.2.1 then match a_len af B b.2.1.toNat σ with
      | some q => if q.2 ≤ 2147483647 then some [(N, nx, lv, (0, q.1, q.2) :: r, σ)] else none
      | none => none else none
    | _ => none
def a_h21 (B : List a_E) (N : a_N) (a : Nat) (nx : Nat) (lv : a_L) (st : List a_V) (σ : a_S) : Option (List a_R) := if a_wf B lv st σ = true ∧ (List.range (m_nf a)).all (fun k => a_dok (m_tyf a k)) = true then some [(N, nx, lv, (2, (σ.1 : Int), 0) :: st, a_push σ (.inr (a, (List.range (m_nf a)).map (fun k => a_dv (m_tyf a k)))))] else none
def a_h22 (B : List a_E) (N : a_N) (a : Nat) (nx : Nat) (lv : a_L) (st : List a_V) (σ : a_S) : Option (List a_R) := match st with
    | x :: r => match a_iv N x with
      | some q => if a_wf B lv r σ = true ∧ q.1 = q.2 ∧ 0 ≤ q.1 ∧ q.1 ≤ 2000 then (a_newa a q.1.toNat).map fun z => [(N, nx, lv, (2, (σ.1 : Int), 0) :: r, a_push σ z)] else none
      | none => none
    | _ => none
def a_h25 (N : a_N) (nx : Nat) (lv : a_L) (st : List a_V) (σ : a_S) : Option (List a_R) := match st with
    | b :: r => if b.1 = 2 ∧ (r.map a_cat).sum ≤ 8 then some [(N, nx, lv, r, σ)] else none
    | _ => none
def a_h26 (B : List a_E) (N : a_N) (nx : Nat) (lv : a_L) (st : List a_V) (σ : a_S) : Option (List a_R) := match st with
    | n :: dp :: b1 :: sp :: b0 :: r => match a_iv N n, a_iv N dp, a_iv N sp with
      | some qn, some qd, some qs => if b1.1 = 2 ∧ 0 ≤ b1.2.1 ∧ b0.1 = 2 ∧ 0 ≤ b0.2.1 ∧ qn.1 = qn.2 ∧ 0 ≤ qn.1 ∧ qd.1 = qd.2 ∧ 0 ≤ qd.1 ∧ qs.1 = qs.2 ∧ 0 ≤ qs.1 ∧ (r.map a_cat).sum ≤ 8 then (a_acp B N qn.1.toNat qd.1.toNat b1.2.1.toNat qs.1.toNat b0.2.1.toNat σ).map fun τ => [(N, nx, lv, r, τ)] else none
      | _, _, _ => none
    | _ => none
def a_h28 (N : a_N) (a : Nat) (nx : Nat) (lv : a_L) (st : List a_V) (σ : a_S) : Option (List a_R) := match st with
    | y :: x :: r => match a_ll N x, a_iv N y with
      | some p, some q => (a_lsh a p q).map fun z => [(N, nx, lv, (1, z.1, z.2) :: r, σ)]
      | _, _ => none
    | _ => none
def a_loc (af : a_Z) (B : List a_E) (N : a_N) (I : m_I) (pc nx : Nat) (lv : a_L) (st : List a_V) (σ : a_S) : Option (List a_R) :=
  bif Nat.ble I.1 28 then (bif Nat.ble I.1 14 then (bif Nat.ble I.1 7 then (bif Nat.ble I.1 3 then (bif Nat.ble I.1 1 then (bif Nat.ble I.1 0 then a_h0 N I.2.2.1 nx lv st σ else a_h1 N I.2.2.1 nx lv st σ) else (bif Nat.ble I.1 2 then a_h2 N I.2.1 I.2.2.1 nx lv st σ else a_h3 N I.2.1 I.2.2.1 nx lv st σ)) else (bif Nat.ble I.1 5 then (bif Nat.ble I.1 4 then a_h4 N I.2.1 I.2.2.1 nx lv st σ else a_h5 N I.2.1 nx lv st σ) else (bif Nat.ble I.1 6 then a_h6 N I.2.1 nx lv st σ else a_h7 N I.2.1 nx lv st σ))) else (bif Nat.ble I.1 11 then (bif Nat.ble I.1 9 then (bif Nat.ble I.1 8 then a_h8 N nx lv st σ else a_h9 N I.2.1 nx lv st σ) else (bif Nat.ble I.1 10 then a_h10 N I.2.1 lv st σ else a_h11 N I.2.1 I.2.2.1 nx lv st σ)) else (bif Nat.ble I.1 13 then (bif Nat.ble I.1 12 then a_h12 N I.2.1 I.2.2.1 nx lv st σ else a_h13 N I.2.1 I.2.2.1 I.2.2.2 lv st σ) else a_h14 N I.2.1 I.2.2.2 lv st σ))) else (bif Nat.ble I.1 21 then (bif Nat.ble I.1 18 then (bif Nat.ble I.1 16 then (bif Nat.ble I.1 15 then a_h15 B N I.2.1 I.2.2.1 nx lv st σ else a_h16 B N I.2.1 I.2.2.1 nx lv st σ) else (bif Nat.ble I.1 17 then none else a_h18 B af N I.2.1 pc nx lv st σ)) else (bif Nat.ble I.1 20 then (bif Nat.ble I.1 19 then a_h19 B N I.2.1 nx lv st σ else a_h20 B af N nx lv st σ) else a_h21 B N I.2.1 nx lv st σ)) else (bif Nat.ble I.1 25 then (bif Nat.ble I.1 23 then (bif Nat.ble I.1 22 then a_h22 B N I.2.1 nx lv st σ else none) else (bif Nat.ble I.1 24 then none else a_h25 N nx lv st σ)) else (bif Nat.ble I.1 27 then (bif Nat.ble I.1 26 then a_h26 B N nx lv st σ else none) else a_h28 N I.2.1 nx lv st σ)))) else none
end
section
/-! THE WALK over bounds -/
def a_args : Nat → List a_V → a_L
  | _, [] => []
  | i, v :: vs => (i, v) :: a_args (if a_cat v = 2 then i + 2 else i + 1) vs
def a_callOk (I : m_I) (lv : a_L) (as rest : List a_V) (σ : a_S) : Bool := decide (σ.1 < m_fzb) && a_okl σ.1 lv && rest.all (a_okv σ.1) && decide ((rest.map a_cat).sum ≤ 8) && decide ((as.map a_cat).sum ≤ I.2.2.2.getD 1 0)
def a_cl (B : List a_E) (I : m_I) (st : List a_V) (σ : a_S) : Option (List a_V × List a_V) :=
  if I.2.2.1 = 2 ∨ I.2.2.1 = 5 then (if I.2.2.2.getD 0 0 ≤ st.length then some ((st.take (I.2.2.2.getD 0 0)).reverse, st.drop (I.2.2.2.getD 0 0)) else none)
  else match st.drop (I.2.2.2.getD 0 0) with
    | b :: r => if b.1 = 2 ∧ 0 ≤ b.2.1 then match a_at B σ b.2.1.toNat with
      | some (.inr (ci, _)) => if ci = I.2.2.2.getD 2 0 then some (b :: (st.take (I.2.2.2.getD 0 0)).reverse, r) else none
      | _ => none else none
    | _ => none
def a_rt (N : a_N) (k : Nat) (st : List a_V) : Option (Option a_V) := match k, st with
  | 0, [v] => if a_knd v = 0 then some (some v) else none
  | 1, [v] => if a_knd v = 1 then some (some v) else none
  | 2, [] => some none
  | 3, [v] => match a_iv N v with
    | some q => if 0 ≤ q.1 ∧ q.2 ≤ 1 then some (some v) else none
    | none => none
  | _, _ => none
def a_nx24 (B : List a_E) (N : a_N) (σ : a_S) (I : m_I) (mid nx : Nat) (lv : a_L) (st : List a_V) (gs : List a_F) : Option (List a_Q ⊕ (Option a_V × a_N × a_S)) := match a_cl B I st σ with
  | some (as, rest) => if a_callOk I lv as rest σ = true ∧ gs.length < 60 then some (.inl [(N, (I.2.1, 0, a_args 0 as, []) :: (mid, nx, lv, rest) :: gs, σ)]) else none
  | none => none
def a_nx27 (N : a_N) (σ : a_S) (k : Nat) (st : List a_V) (gs : List a_F) : Option (List a_Q ⊕ (Option a_V × a_N × a_S)) := match a_rt N k st with
  | some r => match gs with
    | [] => some (.inr (r, N, σ))
    | (m2, p2, l2, s2) :: hs => some (.inl [(N, (m2, p2, l2, r.toList ++ s2) :: hs, σ)])
  | none => none
def a_back (mid : Nat) (gs : List a_F) (r : a_R) : a_Q := (r.1, (mid, r.2.1, r.2.2.1, r.2.2.2.1) :: gs, r.2.2.2.2)
def a_nx (af : a_Z) (B : List a_E) (N : a_N) (σ : a_S) (I : m_I) (mid pc nx : Nat) (lv : a_L) (st : List a_V) (gs : List a_F) : Option (List a_Q ⊕ (Option a_V × a_N × a_S)) := match a_loc af B N I pc nx lv st σ with
  | some L => some (.inl (L.map (a_back mid gs)))
  | none => none
def a_next (F : Nat → Nat → Option (m_I × Nat)) (af : a_Z) (B : List a_E) (Q : a_Q) : Option (List a_Q ⊕ (Option a_V × a_N × a_S)) := match Q.2.1 with
  | [] => none
  | (mid, pc, lv, st) :: gs => match F mid pc with
    | none => none
    | some (I, len) => bif Nat.beq I.1 24 then a_nx24 B Q.1 Q.2.2 I mid (pc + len) lv st gs else bif Nat.beq I.1 27 then a_nx27 Q.1 Q.2.2 I.2.1 st gs else a_nx af B Q.1 Q.2.2 I mid pc (pc + len) lv st gs
/-- 'G': states that are known to be good -/
noncomputable def a_ok (F : Nat → Nat → Option (m_I × Nat)) (af : a_Z) (B : List a_E) (G : a_Q → Bool) (fin : Option a_V → a_N → a_S → Bool) (n : Nat) : a_Q → Bool :=
  Nat.rec (motive := fun _ => a_Q → Bool) (fun _ => false) (fun _ ih Q => bif G Q then true else match a_next F af B Q with
    | none => false
    | some (.inl L) => L.all ih
    | some (.inr (v, N, S)) => fin v N S) n
def a_one (v : Option a_V) (N : a_N) (S : a_S) : Bool := match v with
  | some w => match a_iv N w with
    | some q => decide (q.1 = 1) && decide (q.2 = 1) && Nat.ble S.1 3000
    | none => false
  | none => false
def a_noG (_ : a_Q) : Bool := false
end
section
/-! the step over bounds is right -/
section A19
variable {ρ : Nat → Int} {N : a_N} {B : List a_E} {S : a_S} {σ : m_S} {lv : a_L} {lv' : m_V} {st : List a_V} {st' : List Value}
theorem a_beq (a b : Nat) : Nat.beq a b = (a == b) := by
  rw [Bool.eq_iff_iff, beq_iff_eq]
  exact ⟨Nat.eq_of_beq_eq_true, fun h => by rw [h]; exact Nat.beq_refl b⟩
theorem a_c2_ok {v : a_V} {w : Value} (h : a_gv ρ v w) : a_c2 v = (w.category == 2) := by
  rw [← a_gv_cat h]
  unfold a_c2 a_cat
  rw [a_beq, a_beq]
  by_cases h1 : v.1 = 1
  · simp [h1]
  · by_cases h2 : v.1 = 5
    · simp [h2]
    · simp [h1, h2]
theorem a_ld_ok : ∀ {lv : a_L} {lv' : m_V} {i : Nat} {w : a_V}, a_all2 (a_gl ρ) lv lv' → a_ld lv i = some w → ∃ u, m_ld lv' i = some u ∧ a_gv ρ w u
  | x :: lv, z :: lv', i, w, h, e => by
    unfold a_ld at e
    rw [a_beq, h.1.1] at e
    unfold m_ld
    rw [List.find?_cons]
    by_cases hb : (z.1 == i) = true
    · rw [hb] at e ⊢
      cases e
      exact ⟨z.2, rfl, h.1.2⟩
    · simp only [Bool.not_eq_true] at hb
      rw [hb] at e ⊢
      exact a_ld_ok (lv := lv) (lv' := lv') h.2 e
theorem a_st1_ok {i : Nat} {v : a_V} {w : Value} (h : a_all2 (a_gl ρ) lv lv') (hv : a_gv ρ v w) : a_all2 (a_gl ρ) (a_st1 lv i v) (m_st1 lv' i w) := by
  refine ⟨⟨rfl, hv⟩, a_all2.filter (fun a b hab => ?_) h⟩
  rw [a_beq, a_beq, hab.1, a_c2_ok hab.2]
theorem a_st2_ok {i : Nat} {v : a_V} {w : Value} (h : a_all2 (a_gl ρ) lv lv') (hv : a_gv ρ v w) : a_all2 (a_gl ρ) (a_st2 lv i v) (m_st2 lv' i w) := by
  refine ⟨⟨rfl, hv⟩, a_all2.filter (fun a b hab => ?_) h⟩
  rw [a_beq, a_beq, a_beq, hab.1, a_c2_ok hab.2]
theorem a_uncons {α β : Type} {R : α → β → Prop} {a : α} {as : List α} {bs : List β} (h : a_all2 R (a :: as) bs) : ∃ b t, bs = b :: t ∧ R a b ∧ a_all2 R as t := by
  cases bs with
  | nil => exact h.elim
  | cons b t => exact ⟨b, t, rfl, h.1, h.2⟩
theorem a_unnil {α β : Type} {R : α → β → Prop} {bs : List β} (h : a_all2 R ([] : List α) bs) : bs = [] := by
  cases bs with
  | nil => rfl
  | cons b t => exact h.elim
theorem a_lku_filter (k j : Nat) (h : ¬ j = k) : ∀ l : List (Nat × a_E), a_lku (l.filter (fun q => !(Nat.beq q.1 k))) j = a_lku l j
  | [] => rfl
  | q :: r => by
    rw [List.filter_cons]
    by_cases hq : q.1 = k
    · have e1 : (!(Nat.beq q.1 k)) = false := by rw [hq, Nat.beq_refl]; rfl
      rw [e1, if_neg (by simp), a_lku_filter k j h r]
      show a_lku r j = bif Nat.beq q.1 j then some q.2 else a_lku r j
      have e2 : Nat.beq q.1 j = false := by rw [a_beq, hq]; simpa using fun e : k = j => h e.symm
      rw [e2]
      rfl
    · have e1 : (!(Nat.beq q.1 k)) = true := by rw [a_beq]; simpa using hq
      rw [e1, if_pos rfl]
      show (bif Nat.beq q.1 j then some q.2 else a_lku (r.filter _) j) = bif Nat.beq q.1 j then some q.2 else a_lku r j
      rw [a_lku_filter k j h r]
theorem a_at_set {k j : Nat} {x : a_E} : a_at B (a_set S k x) j = if j = k then some x else a_at B S j := by
  unfold a_at a_set
  show (match (bif Nat.beq k j then some x else a_lku (S.2.filter _) j) with
    | some x => some x
    | none => B[j]?) = _
  by_cases h : j = k
  · subst h
    rw [Nat.beq_refl, if_pos rfl]
    rfl
  · have e2 : Nat.beq k j = false := by rw [a_beq]; simpa using fun e : k = j => h e.symm
    rw [e2, if_neg h]
    show (match a_lku (S.2.filter _) j with
    | some x => some x
    | none => B[j]?) = _
    rw [a_lku_filter k j h]
    rfl
theorem a_at_push {j : Nat} {x : a_E} : a_at B (a_push S x) j = if j = S.1 then some x else a_at B S j := by
  unfold a_at a_push
  show (match (bif Nat.beq S.1 j then some x else a_lku S.2 j) with
    | some x => some x
    | none => B[j]?) = _
  by_cases h : j = S.1
  · subst h
    rw [Nat.beq_refl, if_pos rfl]
    rfl
  · have e2 : Nat.beq S.1 j = false := by rw [a_beq]; simpa using fun e : S.1 = j => h e.symm
    rw [e2, if_neg h]
    rfl
theorem a_gS.set (h : a_gS ρ B S σ) {k : Nat} {x : a_E} {z : m_E} (hk : k < σ.length) (hz : a_ge ρ x z) : a_gS ρ B (a_set S k x) (σ.set k z) := by
  refine ⟨by rw [List.length_set]; exact h.1, fun j y hj => ?_⟩
  rw [a_at_set] at hj
  rw [List.getElem?_set]
  by_cases e : j = k
  · subst e
    rw [if_pos rfl] at hj
    cases hj
    rw [if_pos rfl, if_pos hk]
    exact ⟨z, rfl, hz⟩
  · rw [if_neg e] at hj
    rw [if_neg (fun q => e q.symm)]
    exact h.2 j y hj
theorem a_gS.push (h : a_gS ρ B S σ) {x : a_E} {z : m_E} (hz : a_ge ρ x z) : a_gS ρ B (a_push S x) (σ ++ [z]) := by
  refine ⟨by rw [List.length_append, h.1]; rfl, fun j y hj => ?_⟩
  rw [a_at_push] at hj
  by_cases e : j = S.1
  · subst e
    rw [if_pos rfl] at hj
    cases hj
    rw [← h.1]
    exact ⟨z, by simp, hz⟩
  · rw [if_neg e] at hj
    obtain ⟨w, h1, h2⟩ := h.2 j y hj
    have hl : j < σ.length := (List.getElem?_eq_some_iff.mp h1).1
    exact ⟨w, by rw [List.getElem?_append_left hl]; exact h1, h2⟩
def a_ST (ρ : Nat → Int) (B : List a_E) (lv : a_L) (st : List a_V) (S : a_S) (lv' : m_V) (st' : List Value) (σ : m_S) : Prop := a_all2 (a_gl ρ) lv lv' ∧ a_all2 (a_gv ρ) st st' ∧ a_gS ρ B S σ
def a_Post (ρ : Nat → Int) (B : List a_E) (fz : List (List Int32)) (I : m_I) (pc nx : Nat) (lv' : m_V) (st' : List Value) (σ : m_S) (L : List a_R) : Prop := ∃ q ∈ L, a_gN q.1 ρ ∧ ((q.2.1 = pc ∧ a_ST ρ B q.2.2.1 q.2.2.2.1 q.2.2.2.2 lv' st' σ) ∨ ∃ lv1 st1 σ1, m_step fz I nx lv' st' σ = some (.inl (q.2.1, lv1, st1, σ1)) ∧ a_ST ρ B q.2.2.1 q.2.2.2.1 q.2.2.2.2 lv1 st1 σ1)
theorem a_P1 {fz : List (List Int32)} {I : m_I} {pc nx pc' : Nat} {M : a_N} {l1 : a_L} {s1 : List a_V} {S1 : a_S} {lv1 : m_V} {st1 : List Value} {σ1 : m_S} (hM : a_gN M ρ) (hs : m_step fz I nx lv' st' σ = some (.inl (pc', lv1, st1, σ1))) (h1 : a_all2 (a_gl ρ) l1 lv1) (h2 : a_all2 (a_gv ρ) s1 st1) (h3 : a_gS ρ B S1 σ1) : a_Post ρ B fz I pc nx lv' st' σ [(M, pc', l1, s1, S1)] :=
  ⟨_, List.mem_singleton.mpr rfl, hM, Or.inr ⟨lv1, st1, σ1, hs, h1, h2, h3⟩⟩
variable {fz : List (List Int32)} {pc nx a : Nat} {v : Int} {l : List Nat} {L : List a_R}
theorem a_h0_ok (hN : a_gN N ρ) (hl : a_all2 (a_gl ρ) lv lv') (ht : a_all2 (a_gv ρ) st st') (hS : a_gS ρ B S σ) (h : a_h0 N v nx lv st S = some L) : a_Post ρ B fz (0, a, v, l) pc nx lv' st' σ L := by
  obtain ⟨h1, rfl⟩ := m_if h
  refine a_P1 hN rfl hl ⟨?_, ht⟩ hS
  show v ≤ (Int32.ofInt v).toInt ∧ (Int32.ofInt v).toInt ≤ v
  rw [Int32.toInt_ofInt, a_bm h1.1 h1.2]
  exact ⟨Int.le_refl _, Int.le_refl _⟩
theorem a_h1_ok (hN : a_gN N ρ) (hl : a_all2 (a_gl ρ) lv lv') (ht : a_all2 (a_gv ρ) st st') (hS : a_gS ρ B S σ) (h : a_h1 N v nx lv st S = some L) : a_Post ρ B fz (1, a, v, l) pc nx lv' st' σ L := by
  obtain ⟨h1, rfl⟩ := m_if h
  refine a_P1 hN rfl hl ⟨?_, ht⟩ hS
  show v ≤ (Int64.ofInt v).toInt ∧ (Int64.ofInt v).toInt ≤ v
  have e : v.bmod (2 ^ 64) = v := by apply Int.bmod_eq_of_le <;> omega
  rw [Int64.toInt_ofInt, e]
  exact ⟨Int.le_refl _, Int.le_refl _⟩
theorem a_h2_ok (hN : a_gN N ρ) (hl : a_all2 (a_gl ρ) lv lv') (ht : a_all2 (a_gv ρ) st st') (hS : a_gS ρ B S σ) (h : a_h2 N a v nx lv st S = some L) : a_Post ρ B fz (2, a, v, l) pc nx lv' st' σ L := by
  unfold a_h2 at h
  split at h
  · rename_i w hw
    obtain ⟨h1, rfl⟩ := m_if h
    obtain ⟨u, h2, h3⟩ := a_ld_ok hl hw
    refine a_P1 (st1 := u :: st') hN ?_ hl ⟨h3, ht⟩ hS
    simp only [m_step, h2]
    rw [if_pos (by rw [← a_gv_knd h3]; exact h1)]
  · cases h
theorem a_h3_ok (hN : a_gN N ρ) (hl : a_all2 (a_gl ρ) lv lv') (ht : a_all2 (a_gv ρ) st st') (hS : a_gS ρ B S σ) (h : a_h3 N a v nx lv st S = some L) : a_Post ρ B fz (3, a, v, l) pc nx lv' st' σ L := by
  unfold a_h3 at h
  split at h
  · rename_i w r
    obtain ⟨h1, rfl⟩ := m_if h
    obtain ⟨u, t, rfl, h2, h3⟩ := a_uncons ht
    refine a_P1 (lv1 := if v = 1 then m_st2 lv' a u else m_st1 lv' a u) hN ?_ ?_ h3 hS
    · simp only [m_step]
      rw [if_pos (by rw [← a_gv_knd h2]; exact h1)]
    · split
      · exact a_st2_ok hl h2
      · exact a_st1_ok hl h2
  · cases h
theorem a_h4_ok (hN : a_gN N ρ) (hl : a_all2 (a_gl ρ) lv lv') (ht : a_all2 (a_gv ρ) st st') (hS : a_gS ρ B S σ) (h : a_h4 N a v nx lv st S = some L) : a_Post ρ B fz (4, a, v, l) pc nx lv' st' σ L := by
  unfold a_h4 at h
  split at h
  · rename_i w hw
    split at h
    · rename_i q hq
      split at h
      · rename_i hv
        obtain ⟨z, h1, rfl⟩ := Option.map_eq_some_iff.mp h
        obtain ⟨u, h2, h3⟩ := a_ld_ok hl hw
        obtain ⟨x, rfl, h4⟩ := a_iv_ok hN h3 hq
        have e : (Int32.ofInt v).toInt = v := by rw [Int32.toInt_ofInt, a_bm hv.1 hv.2]
        obtain ⟨y, h5, h6⟩ := a_ib_ok (x := x) (y := Int32.ofInt v) h4 (by rw [e]; exact ⟨Int.le_refl _, Int.le_refl _⟩) h1
        cases h5
        refine a_P1 (lv1 := m_st1 lv' a (.int (x + Int32.ofInt v))) hN ?_ (a_st1_ok hl h6) ht hS
        simp only [m_step, h2]
      · cases h
    · cases h
  · cases h
theorem a_h5_ok (hN : a_gN N ρ) (hl : a_all2 (a_gl ρ) lv lv') (ht : a_all2 (a_gv ρ) st st') (hS : a_gS ρ B S σ) (h : a_h5 N a nx lv st S = some L) : a_Post ρ B fz (5, a, v, l) pc nx lv' st' σ L := by
  unfold a_h5 at h
  split at h
  · rename_i y x r
    split at h
    · rename_i p q hp hq
      obtain ⟨z, h1, rfl⟩ := Option.map_eq_some_iff.mp h
      obtain ⟨w1, t, rfl, g1, ht1⟩ := a_uncons ht
      obtain ⟨w2, t, rfl, g2, ht2⟩ := a_uncons ht1
      obtain ⟨Y, rfl, g3⟩ := a_iv_ok hN g1 hq
      obtain ⟨X, rfl, g4⟩ := a_iv_ok hN g2 hp
      obtain ⟨Z, h5, h6⟩ := a_ib_ok g4 g3 h1
      refine a_P1 (st1 := .int Z :: t) hN ?_ hl ⟨h6, ht2⟩ hS
      simp only [m_step, h5, Option.map_some]
    · cases h
  · cases h
theorem a_h6_ok (hN : a_gN N ρ) (hl : a_all2 (a_gl ρ) lv lv') (ht : a_all2 (a_gv ρ) st st') (hS : a_gS ρ B S σ) (h : a_h6 N a nx lv st S = some L) : a_Post ρ B fz (6, a, v, l) pc nx lv' st' σ L := by
  unfold a_h6 at h
  split at h
  · rename_i y x r
    split at h
    · rename_i p q hp hq
      obtain ⟨z, h1, rfl⟩ := Option.map_eq_some_iff.mp h
      obtain ⟨w1, t, rfl, g1, ht1⟩ := a_uncons ht
      obtain ⟨w2, t, rfl, g2, ht2⟩ := a_uncons ht1
      obtain ⟨Y, rfl, g3⟩ := a_ll_ok hN g1 hq
      obtain ⟨X, rfl, g4⟩ := a_ll_ok hN g2 hp
      obtain ⟨Z, h5, h6⟩ := a_lb_ok g4 g3 h1
      refine a_P1 (st1 := .long Z :: t) hN ?_ hl ⟨h6, ht2⟩ hS
      simp only [m_step, h5, Option.map_some]
    · cases h
  · cases h
theorem a_h28_ok (hN : a_gN N ρ) (hl : a_all2 (a_gl ρ) lv lv') (ht : a_all2 (a_gv ρ) st st') (hS : a_gS ρ B S σ) (h : a_h28 N a nx lv st S = some L) : a_Post ρ B fz (28, a, v, l) pc nx lv' st' σ L := by
  unfold a_h28 at h
  split at h
  · rename_i y x r
    split at h
    · rename_i p q hp hq
      obtain ⟨z, h1, rfl⟩ := Option.map_eq_some_iff.mp h
      obtain ⟨w1, t, rfl, g1, ht1⟩ := a_uncons ht
      obtain ⟨w2, t, rfl, g2, ht2⟩ := a_uncons ht1
      obtain ⟨Y, rfl, g3⟩ := a_iv_ok hN g1 hq
      obtain ⟨X, rfl, g4⟩ := a_ll_ok hN g2 hp
      obtain ⟨Z, h5, h6⟩ := a_lsh_ok g4 g3 h1
      refine a_P1 (st1 := .long Z :: t) hN ?_ hl ⟨h6, ht2⟩ hS
      simp only [m_step, h5, Option.map_some]
    · cases h
  · cases h
theorem a_un_ok {k : Nat} {v z : a_V} {w : Value} (hN : a_gN N ρ) (hv : a_gv ρ v w) (h : a_un N k v = some z) : ∃ u, m_un k w = some u ∧ a_gv ρ z u := by
  unfold a_un at h
  split at h
  · obtain ⟨q, h1, rfl⟩ := Option.map_eq_some_iff.mp h
    obtain ⟨x, rfl, h2⟩ := a_iv_ok hN hv h1
    refine ⟨_, rfl, ?_⟩
    split
    · rename_i e
      rw [a_ex32 e h2.1 h2.2]
      exact ⟨Int.le_refl _, Int.le_refl _⟩
    · exact a_i32 _
  · split at h
    · rename_i e
      obtain ⟨t, b⟩ := v
      dsimp only at e
      subst e
      cases h
      cases w with
      | int x =>
        refine ⟨_, rfl, ?_⟩
        show x.toInt64.toInt = _
        rw [a_i2l]
        exact hv
      | _ => exact hv.elim
    · obtain ⟨q, h1, rfl⟩ := Option.map_eq_some_iff.mp h
      obtain ⟨x, rfl, h2⟩ := a_iv_ok hN hv h1
      refine ⟨_, rfl, ?_⟩
      show q.1 ≤ x.toInt64.toInt ∧ x.toInt64.toInt ≤ q.2
      rw [a_i2l]
      exact h2
  · obtain ⟨q, h1, rfl⟩ := Option.map_eq_some_iff.mp h
    obtain ⟨x, rfl, h2⟩ := a_ll_ok hN hv h1
    refine ⟨_, rfl, ?_⟩
    split
    · rename_i e
      have e2 := a_l2i (x := x) (by omega) (by omega)
      split
      · rename_i e5
        obtain ⟨t, b⟩ := v
        dsimp only at e5
        subst e5
        show x.toInt32.toInt = _
        rw [e2]
        exact hv
      · show q.1 ≤ x.toInt32.toInt ∧ x.toInt32.toInt ≤ q.2
        rw [e2]
        exact h2
    · exact a_i32 _
  · obtain ⟨q, h1, rfl⟩ := Option.map_eq_some_iff.mp h
    obtain ⟨x, rfl, h2⟩ := a_iv_ok hN hv h1
    refine ⟨_, rfl, ?_⟩
    split
    · rename_i e
      rw [a_i2b (x := x) (by omega) (by omega)]
      exact hv
    · exact a_i2bR x
  · obtain ⟨q, h1, rfl⟩ := Option.map_eq_some_iff.mp h
    obtain ⟨x, rfl, h2⟩ := a_iv_ok hN hv h1
    refine ⟨_, rfl, ?_⟩
    split
    · rename_i e
      rw [a_i2s (x := x) (by omega) (by omega)]
      exact hv
    · exact a_i2sR x
  · obtain ⟨q, h1, rfl⟩ := Option.map_eq_some_iff.mp h
    obtain ⟨x, rfl, h2⟩ := a_ll_ok hN hv h1
    refine ⟨_, rfl, ?_⟩
    split
    · rename_i e
      rw [a_ex64 e h2.1 h2.2]
      exact ⟨Int.le_refl _, Int.le_refl _⟩
    · exact a_i64 _
  · cases h
theorem a_h7_ok (hN : a_gN N ρ) (hl : a_all2 (a_gl ρ) lv lv') (ht : a_all2 (a_gv ρ) st st') (hS : a_gS ρ B S σ) (h : a_h7 N a nx lv st S = some L) : a_Post ρ B fz (7, a, v, l) pc nx lv' st' σ L := by
  unfold a_h7 at h
  split at h
  · rename_i w r
    obtain ⟨z, h1, rfl⟩ := Option.map_eq_some_iff.mp h
    obtain ⟨w1, t, rfl, g1, ht1⟩ := a_uncons ht
    obtain ⟨u, h2, h3⟩ := a_un_ok hN g1 h1
    refine a_P1 (st1 := u :: t) hN ?_ hl ⟨h3, ht1⟩ hS
    simp only [m_step, h2, Option.map_some]
  · cases h
theorem a_h8_ok (hN : a_gN N ρ) (hl : a_all2 (a_gl ρ) lv lv') (ht : a_all2 (a_gv ρ) st st') (hS : a_gS ρ B S σ) (h : a_h8 N nx lv st S = some L) : a_Post ρ B fz (8, a, v, l) pc nx lv' st' σ L := by
  unfold a_h8 at h
  split at h
  · rename_i y x r
    obtain ⟨z, h1, rfl⟩ := Option.map_eq_some_iff.mp h
    obtain ⟨w1, t, rfl, g1, ht1⟩ := a_uncons ht
    obtain ⟨w2, t, rfl, g2, ht2⟩ := a_uncons ht1
    unfold a_lcm at h1
    split at h1
    · rename_i p q hp hq
      obtain ⟨Y, rfl, g3⟩ := a_ll_ok hN g1 hq
      obtain ⟨X, rfl, g4⟩ := a_ll_ok hN g2 hp
      refine a_P1 (st1 := .int (lg_cmp X Y) :: t) hN rfl hl ⟨?_, ht2⟩ hS
      split at h1
      · rename_i e
        cases h1
        obtain ⟨t0, b⟩ := x
        obtain ⟨e1, e2⟩ := e
        dsimp only at e1
        subst e1
        show (lg_cmp X Y).toInt = a_sg (ρ b.1.toNat) q.1
        rw [a_cmpI]
        have e3 : X.toInt = ρ b.1.toNat := g2
        have e4 : Y.toInt = q.1 := by omega
        rw [e3, e4]
      · have e0 := a_cmpI X Y
        unfold a_sg at e0
        split at h1
        · cases h1
          rw [if_pos (by omega)] at e0
          show (1 : Int) ≤ (lg_cmp X Y).toInt ∧ (lg_cmp X Y).toInt ≤ 1
          omega
        · split at h1
          · cases h1
            rw [if_neg (by omega), if_neg (by omega)] at e0
            show (-1 : Int) ≤ (lg_cmp X Y).toInt ∧ (lg_cmp X Y).toInt ≤ -1
            omega
          · split at h1
            · cases h1
              rw [if_neg (by omega), if_pos (by omega)] at e0
              show (0 : Int) ≤ (lg_cmp X Y).toInt ∧ (lg_cmp X Y).toInt ≤ 0
              omega
            · cases h1
              show (-1 : Int) ≤ (lg_cmp X Y).toInt ∧ (lg_cmp X Y).toInt ≤ 1
              split at e0
              · omega
              · split at e0 <;> omega
    · cases h1
  · cases h
theorem a_h9_ok (hN : a_gN N ρ) (hl : a_all2 (a_gl ρ) lv lv') (ht : a_all2 (a_gv ρ) st st') (hS : a_gS ρ B S σ) (h : a_h9 N a nx lv st S = some L) : a_Post ρ B fz (9, a, v, l) pc nx lv' st' σ L := by
  unfold a_h9 at h
  obtain ⟨z, h1, rfl⟩ := Option.map_eq_some_iff.mp h
  have key : ∃ t, m_stk a st' = some t ∧ a_all2 (a_gv ρ) z t := by
    unfold a_stk at h1
    split at h1
    · obtain ⟨h2, rfl⟩ := m_if h1
      obtain ⟨w1, t, rfl, g1, ht1⟩ := a_uncons ht
      exact ⟨t, by simp only [m_stk]; rw [if_pos (by rw [← a_gv_cat g1]; exact h2)], ht1⟩
    · obtain ⟨h2, rfl⟩ := m_if h1
      obtain ⟨w1, t, rfl, g1, ht1⟩ := a_uncons ht
      exact ⟨t, by simp only [m_stk]; rw [if_pos (by rw [← a_gv_cat g1]; exact h2)], ht1⟩
    · obtain ⟨h2, rfl⟩ := m_if h1
      obtain ⟨w1, t, rfl, g1, ht1⟩ := a_uncons ht
      exact ⟨w1 :: w1 :: t, by simp only [m_stk]; rw [if_pos (by rw [← a_gv_cat g1]; exact h2)], g1, g1, ht1⟩
    · obtain ⟨h2, rfl⟩ := m_if h1
      obtain ⟨w1, t, rfl, g1, ht1⟩ := a_uncons ht
      obtain ⟨w2, t, rfl, g2, ht2⟩ := a_uncons ht1
      exact ⟨w1 :: w2 :: w1 :: w2 :: t, by simp only [m_stk]; rw [if_pos (by rw [← a_gv_cat g1, ← a_gv_cat g2]; exact h2)], g1, g2, g1, g2, ht2⟩
    · cases h1
  obtain ⟨t, h2, h3⟩ := key
  refine a_P1 (st1 := t) hN ?_ hl h3 hS
  simp only [m_step, h2, Option.map_some]
theorem a_h10_ok (hN : a_gN N ρ) (hl : a_all2 (a_gl ρ) lv lv') (ht : a_all2 (a_gv ρ) st st') (hS : a_gS ρ B S σ) (h : a_h10 N a lv st S = some L) : a_Post ρ B fz (10, a, v, l) pc nx lv' st' σ L := by
  cases h
  exact a_P1 hN rfl hl ht hS
theorem a_h11_ok (hN : a_gN N ρ) (hl : a_all2 (a_gl ρ) lv lv') (ht : a_all2 (a_gv ρ) st st') (hS : a_gS ρ B S σ) (h : a_h11 N a v nx lv st S = some L) : a_Post ρ B fz (11, a, v, l) pc nx lv' st' σ L := by
  unfold a_h11 at h
  split at h
  · rename_i x r
    obtain ⟨w1, t, rfl, g1, ht1⟩ := a_uncons ht
    unfold a_two at h
    split at h
    · rename_i u w hu hw
      cases h
      obtain ⟨X, rfl, k1⟩ := a_br1_ok hN g1 hu
      obtain ⟨X', e, k2⟩ := a_br1_ok hN g1 hw
      cases e
      by_cases hc : m_cd v X 0 = true
      · obtain ⟨M, h1, h2⟩ := k1 ((a_cd_rel _ _ _).mp hc)
        refine ⟨_, List.mem_append_left _ (List.mem_map.mpr ⟨M, h1, rfl⟩), h2, Or.inr ⟨lv', t, σ, ?_, hl, ht1, hS⟩⟩
        simp only [m_step]
        rw [if_pos hc]
      · obtain ⟨M, h1, h2⟩ := k2 (a_ng_rel _ _ _ (fun h9 => hc ((a_cd_rel _ _ _).mpr h9)))
        refine ⟨_, List.mem_append_right _ (List.mem_map.mpr ⟨M, h1, rfl⟩), h2, Or.inr ⟨lv', t, σ, ?_, hl, ht1, hS⟩⟩
        simp only [m_step]
        rw [if_neg hc]
    · cases h
  · cases h
theorem a_h12_ok (hN : a_gN N ρ) (hl : a_all2 (a_gl ρ) lv lv') (ht : a_all2 (a_gv ρ) st st') (hS : a_gS ρ B S σ) (h : a_h12 N a v nx lv st S = some L) : a_Post ρ B fz (12, a, v, l) pc nx lv' st' σ L := by
  unfold a_h12 at h
  split at h
  · rename_i y x r
    obtain ⟨w1, t, rfl, g1, ht1⟩ := a_uncons ht
    obtain ⟨w2, t, rfl, g2, ht2⟩ := a_uncons ht1
    unfold a_two at h
    split at h
    · rename_i u w hu hw
      cases h
      obtain ⟨X, Y, rfl, rfl, k1⟩ := a_cmp_ok hN g2 g1 hu
      obtain ⟨X', Y', e, e', k2⟩ := a_cmp_ok hN g2 g1 hw
      cases e
      cases e'
      by_cases hc : m_cd v X Y = true
      · obtain ⟨M, h1, h2⟩ := k1 ((a_cd_rel _ _ _).mp hc)
        refine ⟨_, List.mem_append_left _ (List.mem_map.mpr ⟨M, h1, rfl⟩), h2, Or.inr ⟨lv', t, σ, ?_, hl, ht2, hS⟩⟩
        simp only [m_step]
        rw [if_pos hc]
      · obtain ⟨M, h1, h2⟩ := k2 (a_ng_rel _ _ _ (fun h9 => hc ((a_cd_rel _ _ _).mpr h9)))
        refine ⟨_, List.mem_append_right _ (List.mem_map.mpr ⟨M, h1, rfl⟩), h2, Or.inr ⟨lv', t, σ, ?_, hl, ht2, hS⟩⟩
        simp only [m_step]
        rw [if_neg hc]
    · cases h
  · cases h
end A19
end
section
/-! the step over bounds is right: switches, cells -/
section A20
variable {ρ : Nat → Int} {N : a_N} {B : List a_E} {S : a_S} {σ : m_S} {lv : a_L} {lv' : m_V} {st : List a_V} {st' : List Value}
variable {fz : List (List Int32)} {af : a_Z} {pc nx a : Nat} {v : Int} {l : List Nat} {L : List a_R}
theorem a_tsw_mem {x : a_V} {q : Int × Int} {r : List a_V} : ∀ (ts : List Nat) (j k t : Nat), ts[k]? = some t → q.1 ≤ ((j + k : Nat) : Int) → ((j + k : Nat) : Int) ≤ q.2 → ((if x.1 = 4 then N.set x.2.1.toNat (((j + k : Nat) : Int), ((j + k : Nat) : Int)) else N), t, lv, r, S) ∈ a_tsw N x q lv r S j ts
  | t0 :: ts, j, 0, t, h, h1, h2 => by
    cases h
    unfold a_tsw
    refine List.mem_append_left _ ?_
    rw [if_pos ⟨h1, h2⟩]
    exact List.mem_singleton.mpr rfl
  | t0 :: ts, j, k + 1, t, h, h1, h2 => by
    unfold a_tsw
    have e : j + (k + 1) = (j + 1) + k := by omega
    rw [e] at h1 h2 ⊢
    exact List.mem_append_right _ (a_tsw_mem ts (j + 1) k t h h1 h2)
theorem a_sym {x : a_V} {X : Int32} (hN : a_gN N ρ) (hx : a_gv ρ x (.int X)) {j : Int} (hj : X.toInt = j) : a_gN (if x.1 = 4 then N.set x.2.1.toNat (j, j) else N) ρ := by
  split
  · rename_i e
    obtain ⟨t, b⟩ := x
    dsimp only at e
    subst e
    have h1 : X.toInt = ρ b.1.toNat := hx
    exact a_gN_set hN (by dsimp only; omega) (by dsimp only; omega)
  · exact hN
theorem a_h13_ok (hN : a_gN N ρ) (hl : a_all2 (a_gl ρ) lv lv') (ht : a_all2 (a_gv ρ) st st') (hS : a_gS ρ B S σ) (h : a_h13 N a v l lv st S = some L) : a_Post ρ B fz (13, a, v, l) pc nx lv' st' σ L := by
  unfold a_h13 at h
  split at h
  · rename_i x r
    split at h
    · rename_i q hq
      split at h
      · cases h
      · rename_i hv0
        split at h
        · rename_i u w hu hw
          cases h
          obtain ⟨w1, t, rfl, g1, ht1⟩ := a_uncons ht
          obtain ⟨X, rfl, g2⟩ := a_iv_ok hN g1 hq
          have fin : ∀ M, a_gN M ρ → (M, m_tsw a v l X.toInt, lv, r, S) ∈ ((u.map fun M => (M, a, lv, r, S)) ++ ((w.map fun M => (M, a, lv, r, S)) ++ a_tsw N x q lv r S v.toNat l)) → a_Post ρ B fz (13, a, v, l) pc nx lv' (.int X :: t) σ ((u.map fun M => (M, a, lv, r, S)) ++ ((w.map fun M => (M, a, lv, r, S)) ++ a_tsw N x q lv r S v.toNat l)) := fun M hM hm => ⟨_, hm, hM, Or.inr ⟨lv', t, σ, by simp only [m_step], hl, ht1, hS⟩⟩
          by_cases c1 : X.toInt < v
          · obtain ⟨X', e, k1⟩ := a_br1_ok hN g1 hu
            cases e
            obtain ⟨M, h1, h2⟩ := k1 c1
            have e : m_tsw a v l X.toInt = a := by simp [m_tsw, c1]
            refine fin M h2 ?_
            rw [e]
            exact List.mem_append_left _ (List.mem_map.mpr ⟨M, h1, rfl⟩)
          · by_cases c2 : v + l.length ≤ X.toInt
            · obtain ⟨X', e, k1⟩ := a_br1_ok hN g1 hw
              cases e
              obtain ⟨M, h1, h2⟩ := k1 c2
              have e : m_tsw a v l X.toInt = a := by
                simp only [m_tsw, c1, if_false]
                rw [List.getElem?_eq_none (by omega)]
                rfl
              refine fin M h2 ?_
              rw [e]
              exact List.mem_append_right _ (List.mem_append_left _ (List.mem_map.mpr ⟨M, h1, rfl⟩))
            · have hk : (X.toInt - v).toNat < l.length := by omega
              have e : m_tsw a v l X.toInt = l[(X.toInt - v).toNat] := by
                simp only [m_tsw, c1, if_false]
                rw [List.getElem?_eq_getElem hk]
                rfl
              have e2 : ((v.toNat + (X.toInt - v).toNat : Nat) : Int) = X.toInt := by omega
              have h1 := a_tsw_mem (N := N) (x := x) (q := q) (lv := lv) (r := r) (S := S) l v.toNat (X.toInt - v).toNat _ (List.getElem?_eq_getElem hk) (by omega) (by omega)
              rw [← e] at h1
              exact fin _ (a_sym hN g1 e2.symm) (List.mem_append_right _ (List.mem_append_right _ h1))
        · cases h
    · cases h
  · cases h
theorem a_mp_ok {f : a_N → Option (List a_N)} : ∀ {Ms : List a_N} {R : List a_N} {M : a_N}, a_mp f Ms = some R → M ∈ Ms → ∃ o, f M = some o ∧ ∀ z ∈ o, z ∈ R
  | M0 :: r, R, M, h, hm => by
    unfold a_mp at h
    split at h
    · rename_i u w hu hw
      cases h
      rcases List.mem_cons.mp hm with rfl | hm
      · exact ⟨u, hu, fun z hz => List.mem_append_left _ hz⟩
      · obtain ⟨o, h1, h2⟩ := a_mp_ok hw hm
        exact ⟨o, h1, fun z hz => List.mem_append_right _ (h2 z hz)⟩
    · cases h
theorem a_lsw_ok {x : a_V} {X : Int32} {r : List a_V} {d : Nat} (hN : a_gN N ρ) (hx : a_gv ρ x (.int X)) : ∀ (n : Nat) (l : List Nat), l.length ≤ n → ∀ (Ms : List a_N) (P : List a_R) (R : List a_N), a_eqs N x lv r S l = some P → a_nes x Ms l = some R → (∃ M ∈ Ms, a_gN M ρ) → (∃ q ∈ P, a_gN q.1 ρ ∧ q.2 = (m_lsw d l X.toInt, lv, r, S)) ∨ (m_lsw d l X.toInt = d ∧ ∃ M ∈ R, a_gN M ρ) := by
  intro n
  induction n with
  | zero =>
    intro l hn Ms P R h1 h2 h3
    have : l = [] := List.eq_nil_of_length_eq_zero (by omega)
    subst this
    cases h1
    cases h2
    exact Or.inr ⟨rfl, h3⟩
  | succ n ih =>
    intro l hn Ms P R h1 h2 h3
    match l, hn, h1, h2 with
    | [], _, h1, h2 => cases h1; cases h2; exact Or.inr ⟨rfl, h3⟩
    | [k], _, h1, h2 => cases h1; cases h2; exact Or.inr ⟨rfl, h3⟩
    | k :: t :: ts, hn, h1, h2 =>
      unfold a_eqs at h1
      split at h1
      · rename_i u P' hu hP'
        cases h1
        unfold a_nes at h2
        split at h2
        · rename_i R' hR'
          by_cases hk : X.toInt = (k : Int)
          · obtain ⟨X', e, k1⟩ := a_br1_ok hN hx hu
            cases e
            obtain ⟨M, g1, g2⟩ := k1 hk
            refine Or.inl ⟨_, List.mem_append_left _ (List.mem_map.mpr ⟨M, g1, rfl⟩), g2, ?_⟩
            unfold m_lsw
            rw [if_pos hk.symm]
          · have e : m_lsw d (k :: t :: ts) X.toInt = m_lsw d ts X.toInt := by
              rw [m_lsw, if_neg (fun h => hk h.symm)]
            obtain ⟨M, g1, g2⟩ := h3
            obtain ⟨o, g3, g4⟩ := a_mp_ok hR' g1
            obtain ⟨X', e', k1⟩ := a_br1_ok g2 hx g3
            cases e'
            obtain ⟨M', g5, g6⟩ := k1 hk
            rcases ih ts (by simp at hn; omega) R' P' R hP' h2 ⟨M', g4 _ g5, g6⟩ with ⟨q, h5, h6, h7⟩ | ⟨h5, h6⟩
            · exact Or.inl ⟨q, List.mem_append_right _ h5, h6, by rw [e]; exact h7⟩
            · exact Or.inr ⟨by rw [e]; exact h5, h6⟩
        · cases h2
      · cases h1
theorem a_h14_ok (hN : a_gN N ρ) (hl : a_all2 (a_gl ρ) lv lv') (ht : a_all2 (a_gv ρ) st st') (hS : a_gS ρ B S σ) (h : a_h14 N a l lv st S = some L) : a_Post ρ B fz (14, a, v, l) pc nx lv' st' σ L := by
  unfold a_h14 at h
  split at h
  · rename_i x r
    split at h
    rotate_left
    · cases h
    rename_i q0 hq0
    obtain ⟨w1, t, rfl, g1, ht1⟩ := a_uncons ht
    obtain ⟨X, rfl, g2⟩ := a_iv_ok hN g1 hq0
    unfold a_lsw at h
    split at h
    · rename_i P R hP hR
      cases h
      rcases a_lsw_ok (d := a) hN g1 l.length l (Nat.le_refl _) [N] P R hP hR ⟨N, List.mem_singleton.mpr rfl, hN⟩ with ⟨q, h5, h6, h7⟩ | ⟨h5, M, h6, h7⟩
      · refine ⟨q, List.mem_append_left _ h5, h6, Or.inr ⟨lv', t, σ, ?_, ?_⟩⟩
        · rw [h7]
          simp only [m_step]
        · rw [h7]
          exact ⟨hl, ht1, hS⟩
      · refine ⟨_, List.mem_append_right _ (List.mem_map.mpr ⟨M, h6, rfl⟩), h7, Or.inr ⟨lv', t, σ, ?_, hl, ht1, hS⟩⟩
        simp only [m_step]
        rw [h5]
    · cases h
  · cases h
theorem a_ref {b : a_V} {w : Value} (h : a_gv ρ b w) (hb : b.1 = 2 ∧ 0 ≤ b.2.1) : w = .ref b.2.1.toNat := by
  obtain ⟨t, c⟩ := b
  obtain ⟨h1, h2⟩ := hb
  dsimp only at h1 h2
  subst h1
  cases w with
  | ref k =>
    have h3 : c.1 = (k : Int) := h
    show Value.ref k = Value.ref c.1.toNat
    rw [h3]
    rfl
  | _ => exact h.elim
theorem a_ge_o {ci : Nat} {fs : List a_V} {z : m_E} (h : a_ge ρ (.inr (ci, fs)) z) : ∃ gs, z = .inr (ci, gs) ∧ a_all2 (a_gv ρ) fs gs := by
  rcases z with ⟨t, xs | xs | xs⟩ | ⟨ci', gs⟩
  · exact h.elim
  · exact h.elim
  · exact h.elim
  · obtain ⟨h1, h2⟩ := h
    subst h1
    exact ⟨gs, rfl, h2⟩
theorem a_h15_ok (hN : a_gN N ρ) (hl : a_all2 (a_gl ρ) lv lv') (ht : a_all2 (a_gv ρ) st st') (hS : a_gS ρ B S σ) (h : a_h15 B N a v nx lv st S = some L) : a_Post ρ B fz (15, a, v, l) pc nx lv' st' σ L := by
  unfold a_h15 at h
  split at h
  · rename_i b r
    split at h
    · rename_i hb
      split at h
      · rename_i ci fs hc
        split at h
        · rename_i w hw
          obtain ⟨rfl, rfl⟩ := m_if h
          obtain ⟨w1, t, rfl, g1, ht1⟩ := a_uncons ht
          rw [a_ref g1 hb]
          obtain ⟨z, h1, h2⟩ := hS.2 _ _ hc
          obtain ⟨gs, rfl, h3⟩ := a_ge_o h2
          obtain ⟨u, h4, h5⟩ := h3.get hw
          refine a_P1 (st1 := u :: t) hN ?_ hl ⟨h5, ht1⟩ hS
          simp only [m_step, h1, h4, if_true]
        · cases h
      · cases h
    · cases h
  · cases h
theorem a_fit_ok {ty : FieldType} {x : a_V} {w : Value} (hx : a_gv ρ x w) (h : a_fit ty x = true) : m_fit ty w = true := by
  have h1 := a_gv_knd hx
  have h2 : x.1 = 2 → ∃ k, w = .ref k := fun e => by
    obtain ⟨t, b⟩ := x
    dsimp only at e
    subst e
    cases w with
    | ref k => exact ⟨k, rfl⟩
    | _ => exact hx.elim
  cases ty <;> simp only [a_fit, decide_eq_true_eq] at h
  all_goals first | (cases h; done) | (obtain ⟨k, rfl⟩ := h2 h; rfl) | (rw [h] at h1; cases w <;> first | rfl | (simp [m_k] at h1))
theorem a_h16_ok (hN : a_gN N ρ) (hl : a_all2 (a_gl ρ) lv lv') (ht : a_all2 (a_gv ρ) st st') (hS : a_gS ρ B S σ) (h : a_h16 B N a v nx lv st S = some L) : a_Post ρ B fz (16, a, v, l) pc nx lv' st' σ L := by
  unfold a_h16 at h
  split at h
  · rename_i w b r
    split at h
    · rename_i hb
      split at h
      · rename_i ci fs hc
        obtain ⟨⟨rfl, h6, h7⟩, rfl⟩ := m_if h
        obtain ⟨w1, t, rfl, g1, ht1⟩ := a_uncons ht
        obtain ⟨w2, t, rfl, g2, ht2⟩ := a_uncons ht1
        rw [a_ref g2 hb]
        obtain ⟨z, h1, h2⟩ := hS.2 _ _ hc
        obtain ⟨gs, rfl, h3⟩ := a_ge_o h2
        have hk := (List.getElem?_eq_some_iff.mp h1).1
        refine a_P1 (st1 := t) (σ1 := σ.set b.2.1.toNat (.inr (ci, gs.set v.toNat w1))) hN ?_ hl ht2 (hS.set hk ⟨rfl, h3.set g1⟩)
        simp only [m_step, h1]
        rw [if_pos ⟨trivial, by rw [← h3.len]; exact h6, a_fit_ok g1 h7⟩]
      · cases h
    · cases h
  · cases h
end A20
end
section
/-! the step over bounds is right: arrays, new cells -/
section A21
variable {ρ : Nat → Int} {N : a_N} {B : List a_E} {S : a_S} {σ : m_S} {lv : a_L} {lv' : m_V} {st : List a_V} {st' : List Value}
variable {fz : List (List Int32)} {af : a_Z} {pc nx a : Nat} {v : Int} {l : List Nat} {L : List a_R}
theorem a_jl_ok (hN : a_gN N ρ) : ∀ {vs : List a_V} {q : Int × Int} {x : a_V} {w : Value}, a_jl N vs = some q → x ∈ vs → a_gv ρ x w → ∃ X, w = .int X ∧ q.1 ≤ X.toInt ∧ X.toInt ≤ q.2
  | [y], q, x, w, h, hx, hg => by
    rw [List.mem_singleton.mp hx] at hg
    exact a_iv_ok hN hg h
  | y :: z :: r, q, x, w, h, hx, hg => by
    rw [a_jl] at h
    split at h
    · rename_i p q' hp hq'
      cases h
      rcases List.mem_cons.mp hx with rfl | hx
      · obtain ⟨X, rfl, h1, h2⟩ := a_iv_ok hN hg hp
        exact ⟨X, rfl, by dsimp only; omega, by dsimp only; omega⟩
      · obtain ⟨X, rfl, h1, h2⟩ := a_jl_ok hN hq' hx hg
        exact ⟨X, rfl, by dsimp only; omega, by dsimp only; omega⟩
    · cases h
    · exact fun h => by cases h
theorem a_jn_ok {u w z : a_V} {W : Value} (hN : a_gN N ρ) (h : a_jn N u w = some z) (hu : a_gv ρ u W ∨ a_gv ρ w W) : a_gv ρ z W := by
  unfold a_jn at h
  split at h
  · rename_i p q hp hq
    cases h
    rcases hu with hu | hu
    · obtain ⟨X, rfl, h1, h2⟩ := a_iv_ok hN hu hp
      show min p.1 q.1 ≤ X.toInt ∧ X.toInt ≤ max p.2 q.2
      omega
    · obtain ⟨X, rfl, h1, h2⟩ := a_iv_ok hN hu hq
      show min p.1 q.1 ≤ X.toInt ∧ X.toInt ≤ max p.2 q.2
      omega
  · split at h
    · rename_i p q hp hq
      cases h
      rcases hu with hu | hu
      · obtain ⟨X, rfl, h1, h2⟩ := a_ll_ok hN hu hp
        show min p.1 q.1 ≤ X.toInt ∧ X.toInt ≤ max p.2 q.2
        omega
      · obtain ⟨X, rfl, h1, h2⟩ := a_ll_ok hN hu hq
        show min p.1 q.1 ≤ X.toInt ∧ X.toInt ≤ max p.2 q.2
        omega
    · cases h
theorem a_le1_ok {w u : a_V} {W : Value} (hN : a_gN N ρ) (h : a_le1 N w u = true) (hw : a_gv ρ w W) : a_gv ρ u W := by
  obtain ⟨t, b, d⟩ := u
  unfold a_le1 at h
  dsimp only at h
  split at h
  · rename_i e
    subst e
    split at h
    · rename_i q hq
      simp only [Bool.and_eq_true, decide_eq_true_eq] at h
      obtain ⟨X, rfl, h1, h2⟩ := a_iv_ok hN hw hq
      show b ≤ X.toInt ∧ X.toInt ≤ d
      omega
    · cases h
  · split at h
    · rename_i e
      subst e
      split at h
      · rename_i q hq
        simp only [Bool.and_eq_true, decide_eq_true_eq] at h
        obtain ⟨X, rfl, h1, h2⟩ := a_ll_ok hN hw hq
        show b ≤ X.toInt ∧ X.toInt ≤ d
        omega
      · cases h
    · cases h
theorem a_mj_ok {w : a_V} (hN : a_gN N ρ) : ∀ {vs us : List a_V} {ws : List Value}, a_mj N w vs = some us → a_all2 (a_gv ρ) vs ws → a_all2 (a_gv ρ) us ws
  | [], us, [], h, _ => by cases h; trivial
  | x :: vs, us, y :: ws, h, g => by
    unfold a_mj at h
    split at h
    · rename_i u t hu ht
      cases h
      exact ⟨a_jn_ok hN hu (Or.inl g.1), a_mj_ok hN ht g.2⟩
    · cases h
theorem a_mj_set {w : a_V} {W : Value} (hN : a_gN N ρ) (hW : a_gv ρ w W) : ∀ {vs us : List a_V} {ws : List Value} (i : Nat), a_mj N w vs = some us → a_all2 (a_gv ρ) vs ws → a_all2 (a_gv ρ) us (ws.set i W)
  | [], us, [], _, h, _ => by cases h; trivial
  | x :: vs, us, y :: ws, i, h, g => by
    unfold a_mj at h
    split at h
    · rename_i u t hu ht
      cases h
      cases i with
      | zero => exact ⟨a_jn_ok hN hu (Or.inr hW), a_mj_ok hN ht g.2⟩
      | succ i => exact ⟨a_jn_ok hN hu (Or.inl g.1), a_mj_set hN hW i ht g.2⟩
    · cases h
theorem a_inb {X : Int32} {q : Int × Int} {n : Nat} (h : q.1 ≤ X.toInt ∧ X.toInt ≤ q.2) (hq : 0 ≤ q.1 ∧ q.2 < n) : m_in X n = true ∧ X.toNatClampNeg < n ∧ X.toInt = X.toNatClampNeg := by
  have e : X.toNatClampNeg = X.toInt.toNat := rfl
  refine ⟨by simp only [m_in, decide_eq_true_eq]; omega, by rw [e]; omega, by rw [e]; omega⟩
theorem a_getD {α : Type} {xs : List α} {k : Nat} {d : α} (h : k < xs.length) : xs[k]? = some (xs.getD k d) := by
  rw [List.getD, List.getElem?_eq_getElem h]
  rfl
theorem a_ald_ok {X : Int32} {q : Int × Int} {b : Nat} {w : a_V} (hN : a_gN N ρ) (hz : a_all2 (a_gz ρ) af fz) (hS : a_gS ρ B S σ) (hX : q.1 ≤ X.toInt ∧ X.toInt ≤ q.2) (h : a_ald af B N a q b S = some w) : ∃ u, m_ald fz a X b σ = some u ∧ a_gv ρ w u := by
  unfold a_ald at h
  unfold m_ald
  split at h
  · rename_i hb
    rw [if_pos hb]
    split at h
    · rename_i hq
      split at h
      · rename_i z haf
        split at h
        · rename_i hlt
          obtain ⟨xs, h1, h2⟩ := hz.get haf
          obtain ⟨g1, g2, g3⟩ := h2
          obtain ⟨x, h3, h4⟩ := g3 _ _ hlt h
          have e1 : X.toInt = q.1 := by omega
          have e2 : X.toNatClampNeg = q.1.toNat := by show X.toInt.toNat = _; rw [e1]
          have hl := (List.getElem?_eq_some_iff.mp h3).1
          rw [h1]
          dsimp only
          rw [if_pos ⟨hq.1, by simp only [m_in, decide_eq_true_eq]; omega⟩]
          refine ⟨_, rfl, ?_⟩
          rw [e2, List.getD, h3]
          exact h4
        · cases h
      · cases h
    · cases h
  · rename_i hb
    rw [if_neg hb]
    split at h
    · rename_i t n arr hat
      split at h
      · rename_i hty
        obtain ⟨z, h1, h2⟩ := hS.2 _ _ hat
        rw [h1]
        unfold a_aget at h
        split at h
        · rename_i hq
          split at h
          · rename_i u
            cases h
            rcases z with ⟨t', xs | xs | xs⟩ | ⟨ci', gs⟩
            · obtain ⟨rfl, g1, g2, g3⟩ := h2
              obtain ⟨k1, k2, k3⟩ := a_inb (n := xs.length) hX (by rw [g2]; exact hq)
              dsimp only
              rw [if_pos ⟨by omega, k1⟩]
              exact ⟨_, rfl, g3 _ (List.mem_of_getElem? (a_getD k2))⟩
            · obtain ⟨rfl, g1, g2, g3⟩ := h2
              obtain ⟨k1, k2, k3⟩ := a_inb (n := xs.length) hX (by rw [g2]; exact hq)
              dsimp only
              rw [if_pos ⟨by omega, by omega, k1⟩]
              exact ⟨_, rfl, g3 _ (List.mem_of_getElem? (a_getD k2))⟩
            · exact h2.elim
            · exact h2.elim
          · rename_i vs
            split at h
            · rename_i hex
              have e2 : X.toNatClampNeg = q.1.toNat := by show X.toInt.toNat = _; congr 1; omega
              rcases z with ⟨t', xs | xs | xs⟩ | ⟨ci', gs⟩
              · obtain ⟨rfl, g1, g2, g3⟩ := h2
                obtain ⟨k1, k2, k3⟩ := a_inb (n := xs.length) hX (by rw [g2]; exact hq)
                obtain ⟨y, h3, h4⟩ := g3.get h
                dsimp only
                rw [if_pos ⟨by omega, k1⟩]
                refine ⟨_, rfl, ?_⟩
                rw [← e2, List.getElem?_map, a_getD (d := 0) k2] at h3
                cases h3
                exact h4
              · obtain ⟨rfl, g1, g2, g3⟩ := h2
                obtain ⟨k1, k2, k3⟩ := a_inb (n := xs.length) hX (by rw [g2]; exact hq)
                obtain ⟨y, h3, h4⟩ := g3.get h
                dsimp only
                rw [if_pos ⟨by omega, by omega, k1⟩]
                refine ⟨_, rfl, ?_⟩
                rw [← e2, List.getElem?_map, a_getD (d := 0) k2] at h3
                cases h3
                exact h4
              · obtain ⟨rfl, g1, g2, g3⟩ := h2
                obtain ⟨k1, k2, k3⟩ := a_inb (n := xs.length) hX (by rw [g2]; exact hq)
                obtain ⟨y, h3, h4⟩ := g3.get h
                dsimp only
                rw [if_pos ⟨by omega, by omega, k1⟩]
                refine ⟨_, rfl, ?_⟩
                rw [← e2, List.getElem?_map, a_getD (d := none) k2] at h3
                cases h3
                exact h4
              · exact h2.elim
            · split at h
              · rename_i ht3
                obtain ⟨q', h3, rfl⟩ := Option.map_eq_some_iff.mp h
                rcases z with ⟨t', xs | xs | xs⟩ | ⟨ci', gs⟩
                · obtain ⟨rfl, g1, g2, g3⟩ := h2
                  obtain ⟨k1, k2, k3⟩ := a_inb (n := xs.length) hX (by rw [g2]; exact hq)
                  dsimp only
                  rw [if_pos ⟨by omega, k1⟩]
                  refine ⟨_, rfl, ?_⟩
                  obtain ⟨x, m1, m2⟩ := g3.mem (List.mem_map.mpr ⟨_, List.mem_of_getElem? (a_getD (d := 0) k2), rfl⟩)
                  obtain ⟨Y, e, m3⟩ := a_jl_ok hN h3 m1 m2
                  cases e
                  exact m3
                · obtain ⟨rfl, g1, g2, g3⟩ := h2
                  omega
                · obtain ⟨rfl, g1, g2, g3⟩ := h2
                  omega
                · exact h2.elim
              · cases h
        · cases h
      · cases h
    · cases h
theorem a_h18_ok (hN : a_gN N ρ) (hz : a_all2 (a_gz ρ) af fz) (hl : a_all2 (a_gl ρ) lv lv') (ht : a_all2 (a_gv ρ) st st') (hS : a_gS ρ B S σ) (h : a_h18 B af N a pc nx lv st S = some L) : a_Post ρ B fz (18, a, v, l) pc nx lv' st' σ L := by
  unfold a_h18 at h
  split at h
  · rename_i i b r
    split at h
    · rename_i hb
      split at h
      · rename_i q hq
        split at h
        · rename_i hsp
          cases h
          have ht0 := ht
          obtain ⟨w1, t, rfl, g1, ht1⟩ := a_uncons ht
          obtain ⟨X, rfl, g3⟩ := a_iv_ok hN g1 hq
          refine ⟨_, List.mem_map.mpr ⟨N.set i.2.1.toNat (q.1 + ((X.toInt - q.1).toNat : Int), q.1 + ((X.toInt - q.1).toNat : Int)), List.mem_map.mpr ⟨(X.toInt - q.1).toNat, List.mem_range.mpr (by omega), rfl⟩, rfl⟩, ?_, Or.inl ⟨rfl, hl, ht0, hS⟩⟩
          have h9 := a_sym hN g1 (j := q.1 + ((X.toInt - q.1).toNat : Int)) (by omega)
          rw [if_pos hsp.2.1] at h9
          exact h9
        · obtain ⟨w, h1, rfl⟩ := Option.map_eq_some_iff.mp h
          obtain ⟨w1, t, rfl, g1, ht1⟩ := a_uncons ht
          obtain ⟨w2, t, rfl, g2, ht2⟩ := a_uncons ht1
          rw [a_ref g2 hb]
          obtain ⟨X, rfl, g3⟩ := a_iv_ok hN g1 hq
          obtain ⟨u, h2, h3⟩ := a_ald_ok hN hz hS g3 h1
          refine a_P1 (st1 := u :: t) hN ?_ hl ⟨h3, ht2⟩ hS
          simp only [m_step, h2, Option.map_some]
      · cases h
    · cases h
  · cases h
theorem a_len_ok {b : Nat} {q : Int × Int} (hz : a_all2 (a_gz ρ) af fz) (hS : a_gS ρ B S σ) (h : a_len af B b S = some q) : ∃ k : Nat, m_len fz b σ = some k ∧ q.1 ≤ (k : Int) ∧ (k : Int) ≤ q.2 := by
  unfold a_len at h
  unfold m_len
  split at h
  · rename_i hb
    rw [if_pos hb]
    obtain ⟨z, h1, rfl⟩ := Option.map_eq_some_iff.mp h
    obtain ⟨xs, h2, g1, g2, g3⟩ := hz.get h1
    rw [h2]
    exact ⟨xs.length, rfl, by dsimp only; omega, by dsimp only; omega⟩
  · rename_i hb
    rw [if_neg hb]
    split at h
    · rename_i t n arr hat
      cases h
      obtain ⟨z, h1, h2⟩ := hS.2 _ _ hat
      rw [h1]
      rcases arr with u | vs
      · rcases z with ⟨t', xs | xs | xs⟩ | ⟨ci', gs⟩
        · obtain ⟨rfl, g1, g2, g3⟩ := h2
          dsimp only
          rw [if_pos g1]
          exact ⟨_, rfl, by omega, by omega⟩
        · obtain ⟨rfl, g1, g2, g3⟩ := h2
          dsimp only
          rw [if_pos g1]
          exact ⟨_, rfl, by omega, by omega⟩
        · exact h2.elim
        · exact h2.elim
      · rcases z with ⟨t', xs | xs | xs⟩ | ⟨ci', gs⟩
        · obtain ⟨rfl, g1, g2, g3⟩ := h2
          dsimp only
          rw [if_pos g1]
          exact ⟨_, rfl, by omega, by omega⟩
        · obtain ⟨rfl, g1, g2, g3⟩ := h2
          dsimp only
          rw [if_pos g1]
          exact ⟨_, rfl, by omega, by omega⟩
        · obtain ⟨rfl, g1, g2, g3⟩ := h2
          dsimp only
          rw [if_pos g1]
          exact ⟨_, rfl, by omega, by omega⟩
        · exact h2.elim
    · cases h
theorem a_h20_ok (hN : a_gN N ρ) (hz : a_all2 (a_gz ρ) af fz) (hl : a_all2 (a_gl ρ) lv lv') (ht : a_all2 (a_gv ρ) st st') (hS : a_gS ρ B S σ) (h : a_h20 B af N nx lv st S = some L) : a_Post ρ B fz (20, a, v, l) pc nx lv' st' σ L := by
  unfold a_h20 at h
  split at h
  · rename_i b r
    split at h
    · rename_i hb
      split at h
      · rename_i q hq
        obtain ⟨h9, rfl⟩ := m_if h
        obtain ⟨w1, t, rfl, g1, ht1⟩ := a_uncons ht
        rw [a_ref g1 hb]
        obtain ⟨k, h1, h2⟩ := a_len_ok hz hS hq
        refine a_P1 (st1 := .int (Int32.ofNat k) :: t) hN ?_ hl ⟨?_, ht1⟩ hS
        · simp only [m_step, h1, Option.map_some]
        · show q.1 ≤ (Int32.ofNat k).toInt ∧ (Int32.ofNat k).toInt ≤ q.2
          have e : (Int32.ofNat k).toInt = (k : Int) := nI_toInt (by omega)
          rw [e]
          exact h2
      · cases h
    · cases h
  · cases h
end A21
end
section
/-! the step over bounds is right: stores, new cells, copies -/
section A22
variable {ρ : Nat → Int} {N : a_N} {B : List a_E} {S : a_S} {σ : m_S} {lv : a_L} {lv' : m_V} {st : List a_V} {st' : List Value}
variable {fz : List (List Int32)} {af : a_Z} {pc nx a : Nat} {v : Int} {l : List Nat} {L : List a_R}
theorem a_bool (x : Int32) : vp_nar .boolean x = x &&& 1 := rfl
theorem a_bool1 {x : Int32} (h1 : 0 ≤ x.toInt) (h2 : x.toInt ≤ 1) : vp_nar .boolean x = x := by
  have h : x = 0 ∨ x = 1 := by
    have e : x.toInt = 0 ∨ x.toInt = 1 := by omega
    rcases e with e | e
    · exact Or.inl (Int32.toInt_inj.mp e)
    · exact Or.inr (Int32.toInt_inj.mp e)
  rcases h with rfl | rfl <;> rfl
theorem a_boolR (x : Int32) : 0 ≤ (vp_nar .boolean x).toInt ∧ (vp_nar .boolean x).toInt ≤ 1 := by
  rw [a_bool]
  exact a_and (x := x) (y := 1) (by decide)
/-- an array with one place put -/
theorem a_aput_ok {α : Type} {f : α → Value} {t n k : Nat} {arr r : a_V ⊕ List a_V} {q : Int × Int} {w : a_V} {xs : List α} {x : α} (hN : a_gN N ρ) (hn : xs.length = n) (hk : k < n) (hq : q.1 = q.2 → q.1.toNat = k) (hw : a_gv ρ w (f x)) (h : a_aput N t arr n q w = some r)
    (hu : ∀ u, arr = .inl u → ∀ y ∈ xs, a_gv ρ u (f y)) (hl : ∀ vs, arr = .inr vs → a_all2 (a_gv ρ) vs (xs.map f)) : (∃ u, r = .inl u ∧ (∃ u0, arr = .inl u0) ∧ ∀ y ∈ xs.set k x, a_gv ρ u (f y)) ∨ ∃ vs, r = .inr vs ∧ a_all2 (a_gv ρ) vs ((xs.set k x).map f) := by
  unfold a_aput at h
  split at h
  · rename_i u
    have h0 := hu u rfl
    split at h
    · rename_i hle
      cases h
      refine Or.inl ⟨u, rfl, ⟨u, rfl⟩, fun y hy => ?_⟩
      rcases List.mem_or_eq_of_mem_set hy with h1 | h1
      · exact h0 y h1
      · rw [h1]
        exact a_le1_ok hN hle hw
    · split at h
      · rename_i he
        cases h
        refine Or.inr ⟨_, rfl, ?_⟩
        rw [hq he.1, List.map_set]
        have h1 : a_all2 (a_gv ρ) (List.replicate (xs.map f).length u) (xs.map f) := a_all2.rep (fun b hb => by
          obtain ⟨y, h2, rfl⟩ := List.mem_map.mp hb
          exact h0 y h2)
        rw [List.length_map, hn] at h1
        exact h1.set hw
      · obtain ⟨j, h1, rfl⟩ := Option.map_eq_some_iff.mp h
        refine Or.inl ⟨j, rfl, ⟨u, rfl⟩, fun y hy => ?_⟩
        rcases List.mem_or_eq_of_mem_set hy with h2 | h2
        · exact a_jn_ok hN h1 (Or.inl (h0 y h2))
        · rw [h2]
          exact a_jn_ok hN h1 (Or.inr hw)
  · rename_i vs
    have h0 := hl vs rfl
    split at h
    · rename_i he
      cases h
      refine Or.inr ⟨_, rfl, ?_⟩
      rw [hq he, List.map_set]
      exact h0.set hw
    · split at h
      · obtain ⟨us, h1, rfl⟩ := Option.map_eq_some_iff.mp h
        refine Or.inr ⟨us, rfl, ?_⟩
        rw [List.map_set]
        exact a_mj_set hN hw k h1 h0
      · cases h
theorem a_ast_ok {X : Int32} {q : Int × Int} {b : Nat} {w : a_V} {W : Value} {S' : a_S} (hN : a_gN N ρ) (hS : a_gS ρ B S σ) (hX : q.1 ≤ X.toInt ∧ X.toInt ≤ q.2) (hw : a_gv ρ w W) (h : a_ast B N a w q b S = some S') : ∃ τ, m_ast a W X b σ = some τ ∧ a_gS ρ B S' τ := by
  unfold a_ast at h
  split at h
  · rename_i t n arr hat
    split at h
    · rename_i hq
      split at h
      · rename_i w' hnar
        obtain ⟨r, h1, rfl⟩ := Option.map_eq_some_iff.mp h
        obtain ⟨z, h2, h3⟩ := hS.2 _ _ hat
        have hkb := (List.getElem?_eq_some_iff.mp h2).1
        have hex : q.1 = q.2 → q.1.toNat = X.toNatClampNeg := fun e => by show _ = X.toInt.toNat; congr 1; omega
        unfold m_ast
        rw [h2]
        unfold a_nar at hnar
        -- an array of ints: any of its three kinds
        have ints : ∀ (y : Int32), t < 3 → a_gv ρ w' (.int y) → ∃ xs : List Int32, z = .inl (t, .inl xs) ∧ m_in X xs.length = true ∧ a_gS ρ B (a_set S b (.inl (t, n, r))) (σ.set b (.inl (t, .inl (xs.set X.toNatClampNeg y)))) := by
          intro y ht hy
          rcases arr with u | vs
          · rcases z with ⟨t', xs | xs | xs⟩ | ⟨ci', gs⟩
            · obtain ⟨rfl, g1, g2, g3⟩ := h3
              obtain ⟨k1, k2, k3⟩ := a_inb (n := xs.length) hX (by rw [g2]; exact hq)
              refine ⟨xs, rfl, k1, hS.set hkb ?_⟩
              rcases a_aput_ok (f := Value.int) hN g2 (by rw [← g2]; exact k2) hex hy h1 (fun u0 e y hy => by cases e; exact g3 y hy) (fun vs e => by cases e) with ⟨u', rfl, -, hh⟩ | ⟨vs', rfl, hh⟩
              · exact ⟨rfl, g1, by rw [List.length_set]; exact g2, hh⟩
              · exact ⟨rfl, g1, by rw [List.length_set]; exact g2, hh⟩
            · obtain ⟨rfl, g1, g2, g3⟩ := h3
              omega
            · exact h3.elim
            · exact h3.elim
          · rcases z with ⟨t', xs | xs | xs⟩ | ⟨ci', gs⟩
            · obtain ⟨rfl, g1, g2, g3⟩ := h3
              obtain ⟨k1, k2, k3⟩ := a_inb (n := xs.length) hX (by rw [g2]; exact hq)
              refine ⟨xs, rfl, k1, hS.set hkb ?_⟩
              rcases a_aput_ok (f := Value.int) hN g2 (by rw [← g2]; exact k2) hex hy h1 (fun u0 e => by cases e) (fun vs e => by cases e; exact g3) with ⟨u', rfl, ⟨u0, e⟩, hh⟩ | ⟨vs', rfl, hh⟩
              · cases e
              · exact ⟨rfl, g1, by rw [List.length_set]; exact g2, hh⟩
            · obtain ⟨rfl, g1, g2, g3⟩ := h3
              omega
            · obtain ⟨rfl, g1, g2, g3⟩ := h3
              omega
            · exact h3.elim
        split at hnar
        · rename_i hat0
          obtain ⟨rfl, rfl⟩ := hat0
          obtain ⟨p, hp, e⟩ := Option.map_eq_some_iff.mp hnar
          subst e
          obtain ⟨y, rfl, -⟩ := a_iv_ok hN hw hp
          obtain ⟨xs, rfl, k1, k2⟩ := ints y (by decide) hw
          dsimp only
          rw [if_pos k1, if_pos ⟨rfl, rfl⟩]
          exact ⟨_, rfl, k2⟩
        · split at hnar
          · rename_i hat0
            obtain ⟨rfl, rfl⟩ := hat0
            obtain ⟨p, hp, e⟩ := Option.map_eq_some_iff.mp hnar
            obtain ⟨y, rfl, hy⟩ := a_iv_ok hN hw hp
            have hg : a_gv ρ w' (.int (vp_nar .byte y)) := by
              rw [vp_nar_byte, ← e]
              split
              · rw [a_i2b (x := y) (by omega) (by omega)]
                exact hw
              · exact a_i2bR y
            obtain ⟨xs, rfl, k1, k2⟩ := ints _ (by decide) hg
            dsimp only
            rw [if_pos k1, if_neg (by omega), if_pos ⟨rfl, rfl⟩]
            exact ⟨_, rfl, k2⟩
          · split at hnar
            · rename_i hat0
              obtain ⟨rfl, rfl⟩ := hat0
              obtain ⟨p, hp, e⟩ := Option.map_eq_some_iff.mp hnar
              obtain ⟨y, rfl, hy⟩ := a_iv_ok hN hw hp
              have hg : a_gv ρ w' (.int (vp_nar .boolean y)) := by
                rw [← e]
                split
                · rw [a_bool1 (x := y) (by omega) (by omega)]
                  exact hw
                · exact a_boolR y
              obtain ⟨xs, rfl, k1, k2⟩ := ints _ (by decide) hg
              dsimp only
              rw [if_pos k1, if_neg (by omega), if_neg (by omega), if_pos ⟨rfl, rfl⟩]
              exact ⟨_, rfl, k2⟩
            · split at hnar
              · rename_i hat0
                obtain ⟨rfl, rfl⟩ := hat0
                obtain ⟨p, hp, e⟩ := Option.map_eq_some_iff.mp hnar
                subst e
                obtain ⟨y, rfl, -⟩ := a_ll_ok hN hw hp
                rcases arr with u | vs
                · rcases z with ⟨t', xs | xs | xs⟩ | ⟨ci', gs⟩
                  · obtain ⟨rfl, g1, g2, g3⟩ := h3
                    omega
                  · obtain ⟨rfl, g1, g2, g3⟩ := h3
                    obtain ⟨k1, k2, k3⟩ := a_inb (n := xs.length) hX (by rw [g2]; exact hq)
                    dsimp only
                    rw [if_pos ⟨rfl, rfl, k1⟩]
                    refine ⟨_, rfl, hS.set hkb ?_⟩
                    rcases a_aput_ok (f := Value.long) hN g2 (by rw [← g2]; exact k2) hex hw h1 (fun u0 e y hy => by cases e; exact g3 y hy) (fun vs e => by cases e) with ⟨u', rfl, -, hh⟩ | ⟨vs', rfl, hh⟩
                    · exact ⟨rfl, g1, by rw [List.length_set]; exact g2, hh⟩
                    · exact ⟨rfl, g1, by rw [List.length_set]; exact g2, hh⟩
                  · exact h3.elim
                  · exact h3.elim
                · rcases z with ⟨t', xs | xs | xs⟩ | ⟨ci', gs⟩
                  · obtain ⟨rfl, g1, g2, g3⟩ := h3
                    omega
                  · obtain ⟨rfl, g1, g2, g3⟩ := h3
                    obtain ⟨k1, k2, k3⟩ := a_inb (n := xs.length) hX (by rw [g2]; exact hq)
                    dsimp only
                    rw [if_pos ⟨rfl, rfl, k1⟩]
                    refine ⟨_, rfl, hS.set hkb ?_⟩
                    rcases a_aput_ok (f := Value.long) hN g2 (by rw [← g2]; exact k2) hex hw h1 (fun u0 e => by cases e) (fun vs e => by cases e; exact g3) with ⟨u', rfl, ⟨u0, e⟩, hh⟩ | ⟨vs', rfl, hh⟩
                    · cases e
                    · exact ⟨rfl, g1, by rw [List.length_set]; exact g2, hh⟩
                  · obtain ⟨rfl, g1, g2, g3⟩ := h3
                    omega
                  · exact h3.elim
              · split at hnar
                · rename_i hat0
                  obtain ⟨rfl, rfl, hr1, hr2⟩ := hat0
                  split at hnar
                  · rename_i fs0 hat2
                    cases hnar
                    obtain ⟨z2, m1, m2⟩ := hS.2 _ _ hat2
                    obtain ⟨gs, rfl, m3⟩ := a_ge_o m2
                    have eW := a_ref hw ⟨hr1, hr2⟩
                    rw [eW] at hw ⊢
                    rcases arr with u | vs
                    · rcases z with ⟨t', xs | xs | xs⟩ | ⟨ci', gs⟩
                      · obtain ⟨rfl, g1, g2, g3⟩ := h3
                        omega
                      · obtain ⟨rfl, g1, g2, g3⟩ := h3
                        omega
                      · exact h3.elim
                      · exact h3.elim
                    · rcases z with ⟨t', xs | xs | xs⟩ | ⟨ci', gs'⟩
                      · obtain ⟨rfl, g1, g2, g3⟩ := h3
                        omega
                      · obtain ⟨rfl, g1, g2, g3⟩ := h3
                        omega
                      · obtain ⟨rfl, g1, g2, g3⟩ := h3
                        obtain ⟨k1, k2, k3⟩ := a_inb (n := xs.length) hX (by rw [g2]; exact hq)
                        dsimp only
                        rw [m1]
                        dsimp only
                        rw [if_pos ⟨rfl, rfl, rfl, k1⟩]
                        refine ⟨_, rfl, hS.set hkb ?_⟩
                        rcases a_aput_ok (f := va_rf) (x := some w.2.1.toNat) hN g2 (by rw [← g2]; exact k2) hex hw h1 (fun u0 e => by cases e) (fun vs e => by cases e; exact g3) with ⟨u', rfl, ⟨u0, e⟩, hh⟩ | ⟨vs', rfl, hh⟩
                        · cases e
                        · exact ⟨rfl, g1, by rw [List.length_set]; exact g2, hh⟩
                      · exact h3.elim
                  · cases hnar
                · cases hnar
      · cases h
    · cases h
  · cases h
theorem a_h19_ok (hN : a_gN N ρ) (hl : a_all2 (a_gl ρ) lv lv') (ht : a_all2 (a_gv ρ) st st') (hS : a_gS ρ B S σ) (h : a_h19 B N a nx lv st S = some L) : a_Post ρ B fz (19, a, v, l) pc nx lv' st' σ L := by
  unfold a_h19 at h
  split at h
  · rename_i w i b r
    split at h
    · rename_i hb
      split at h
      · rename_i q hq
        obtain ⟨τ, h1, rfl⟩ := Option.map_eq_some_iff.mp h
        obtain ⟨w1, t, rfl, g1, ht1⟩ := a_uncons ht
        obtain ⟨w2, t, rfl, g2, ht2⟩ := a_uncons ht1
        obtain ⟨w3, t, rfl, g3, ht3⟩ := a_uncons ht2
        rw [a_ref g3 hb]
        obtain ⟨X, rfl, g4⟩ := a_iv_ok hN g2 hq
        obtain ⟨τ', h2, h3⟩ := a_ast_ok hN hS g4 g1 h1
        refine a_P1 (st1 := t) (σ1 := τ') hN ?_ hl ht3 h3
        simp only [m_step, h2, Option.map_some]
      · cases h
    · cases h
  · cases h
end A22
end
section
/-! the step over bounds is right: new cells, copies; the walk -/
section A23
variable {ρ : Nat → Int} {N : a_N} {B : List a_E} {S : a_S} {σ : m_S} {lv : a_L} {lv' : m_V} {st : List a_V} {st' : List Value}
variable {fz : List (List Int32)} {af : a_Z} {pc nx a : Nat} {v : Int} {l : List Nat} {L : List a_R}
theorem a_okv_ok {n : Nat} {x : a_V} {w : Value} (hx : a_gv ρ x w) (h : a_okv n x = true) : m_okv n w = true := by
  cases w with
  | ref k =>
    obtain ⟨t, b⟩ := x
    have e : t = 2 := by
      unfold a_gv at hx
      split at hx <;> first | exact hx.elim | (rename_i e1 e2; cases e2; done) | (rename_i e1 e2; exact e1)
    subst e
    have e2 : b.1 = (k : Int) := hx
    simp only [a_okv, if_true, Bool.or_eq_true, decide_eq_true_eq] at h
    have h' : b.1 < (n : Int) ∨ (m_fzb : Int) ≤ b.1 := h
    show (decide (k < n) || decide (m_fzb ≤ k)) = true
    rw [Bool.or_eq_true, decide_eq_true_eq, decide_eq_true_eq]
    rw [e2] at h'
    exact h'.imp Int.ofNat_lt.mp Int.ofNat_le.mp
  | _ => rfl
theorem a_okl_ok {n : Nat} (hl : a_all2 (a_gl ρ) lv lv') (h : a_okl n lv = true) : m_okl n lv' = true :=
  a_all2.all (fun x z hxz hx => a_okv_ok hxz.2 hx) hl h
theorem a_oks_ok {n : Nat} (ht : a_all2 (a_gv ρ) st st') (h : st.all (a_okv n) = true) : st'.all (m_okv n) = true :=
  a_all2.all (R := a_gv ρ) (f := a_okv n) (g := m_okv n) (fun x z hxz hx => a_okv_ok hxz hx) ht h
theorem a_oke_ok {n : Nat} {x : a_E} {z : m_E} (hx : a_ge ρ x z) (h : a_oke n x = true) : m_oke n z = true := by
  rcases x with ⟨t, k, u | vs⟩ | ⟨ci, fs⟩
  · rcases z with ⟨t', xs | xs | xs⟩ | ⟨ci', gs⟩
    · rfl
    · rfl
    · exact hx.elim
    · exact hx.elim
  · rcases z with ⟨t', xs | xs | xs⟩ | ⟨ci', gs⟩
    · rfl
    · rfl
    · obtain ⟨rfl, g1, g2, g3⟩ := hx
      subst g1
      simp only [a_oke, Bool.or_eq_true, decide_eq_true_eq] at h
      have h1 := h.resolve_left (by omega)
      have h2 := a_oks_ok g3 h1
      simp only [m_oke, List.all_eq_true]
      rw [List.all_eq_true] at h2
      intro r hr
      have h3 := h2 (va_rf r) (List.mem_map.mpr ⟨r, hr, rfl⟩)
      cases r with
      | none => rfl
      | some k => exact h3
    · exact hx.elim
  · obtain ⟨gs, rfl, h3⟩ := a_ge_o hx
    exact a_oks_ok h3 h
theorem a_wf_ok (hl : a_all2 (a_gl ρ) lv lv') (ht : a_all2 (a_gv ρ) st st') (hS : a_gS ρ B S σ) (h : a_wf B lv st S = true) : m_wf lv' st' σ = true := by
  simp only [a_wf, Bool.and_eq_true, decide_eq_true_eq] at h
  obtain ⟨⟨⟨h1, h2⟩, h3⟩, h4⟩ := h
  simp only [m_wf, Bool.and_eq_true, decide_eq_true_eq]
  rw [← hS.1] at h1 h2 h3 h4
  refine ⟨⟨⟨h1, a_okl_ok hl h2⟩, a_oks_ok ht h3⟩, ?_⟩
  rw [List.all_eq_true] at h4 ⊢
  intro z hz
  obtain ⟨k, hk⟩ := List.getElem?_of_mem hz
  have hlt := (List.getElem?_eq_some_iff.mp hk).1
  have h5 := h4 k (List.mem_range.mpr hlt)
  split at h5
  · rename_i x hx
    obtain ⟨z', g1, g2⟩ := hS.2 _ _ hx
    rw [hk] at g1
    cases g1
    exact a_oke_ok g2 h5
  · cases h5
theorem a_dv_ok {ty : FieldType} (h : a_dok ty = true) : a_gv ρ (a_dv ty) (defaultValue ty) := by
  cases ty <;> first | (cases h; done) | trivial | exact ⟨Int.le_refl _, Int.le_refl _⟩
theorem a_dvs_ok : ∀ {ks : List Nat}, ks.all (fun k => a_dok (m_tyf a k)) = true → a_all2 (a_gv ρ) (ks.map (fun k => a_dv (m_tyf a k))) (ks.map (fun k => defaultValue (m_tyf a k)))
  | [], _ => trivial
  | k :: ks, h => by
    rw [List.all_cons, Bool.and_eq_true] at h
    exact ⟨a_dv_ok h.1, a_dvs_ok (ks := ks) h.2⟩
theorem a_h21_ok (hN : a_gN N ρ) (hl : a_all2 (a_gl ρ) lv lv') (ht : a_all2 (a_gv ρ) st st') (hS : a_gS ρ B S σ) (h : a_h21 B N a nx lv st S = some L) : a_Post ρ B fz (21, a, v, l) pc nx lv' st' σ L := by
  unfold a_h21 at h
  obtain ⟨h1, rfl⟩ := m_if h
  refine a_P1 (st1 := .ref σ.length :: st') (σ1 := σ ++ [.inr (a, m_def a)]) hN ?_ hl ⟨?_, ht⟩ (hS.push (x := .inr (a, (List.range (m_nf a)).map (fun k => a_dv (m_tyf a k)))) (z := .inr (a, m_def a)) ⟨rfl, a_dvs_ok h1.2⟩)
  · simp only [m_step]
    rw [if_pos (a_wf_ok hl ht hS h1.1)]
  · show (S.1 : Int) = (σ.length : Int)
    rw [hS.1]
theorem a_newa_ok {t n : Nat} {x : a_E} (h : a_newa t n = some x) : ∃ z, m_new t n = some z ∧ a_ge ρ x z := by
  have z32 : ∀ y ∈ List.replicate n (0 : Int32), a_gv ρ (0, 0, 0) (.int y) := fun y hy => by
    rw [List.eq_of_mem_replicate hy]
    exact ⟨Int.le_refl _, Int.le_refl _⟩
  have z64 : ∀ y ∈ List.replicate n (0 : Int64), a_gv ρ (1, 0, 0) (.long y) := fun y hy => by
    rw [List.eq_of_mem_replicate hy]
    exact ⟨Int.le_refl _, Int.le_refl _⟩
  unfold a_newa at h
  split at h
  · cases h; exact ⟨_, rfl, rfl, by decide, List.length_replicate, z32⟩
  · cases h; exact ⟨_, rfl, rfl, by decide, List.length_replicate, z32⟩
  · cases h; exact ⟨_, rfl, rfl, by decide, List.length_replicate, z32⟩
  · cases h; exact ⟨_, rfl, rfl, rfl, List.length_replicate, z64⟩
  · cases h
    refine ⟨_, rfl, rfl, rfl, List.length_replicate, ?_⟩
    have h1 : a_all2 (a_gv ρ) (List.replicate ((List.replicate n (none : Option Nat)).map va_rf).length (3, 0, 0)) ((List.replicate n (none : Option Nat)).map va_rf) := a_all2.rep (fun b hb => by
      obtain ⟨y, h2, rfl⟩ := List.mem_map.mp hb
      rw [List.eq_of_mem_replicate h2]
      trivial)
    rw [List.length_map, List.length_replicate] at h1
    exact h1
  · cases h
theorem a_h22_ok (hN : a_gN N ρ) (hl : a_all2 (a_gl ρ) lv lv') (ht : a_all2 (a_gv ρ) st st') (hS : a_gS ρ B S σ) (h : a_h22 B N a nx lv st S = some L) : a_Post ρ B fz (22, a, v, l) pc nx lv' st' σ L := by
  unfold a_h22 at h
  split at h
  · rename_i x r
    split at h
    · rename_i q hq
      split at h
      · rename_i hc
        obtain ⟨z, h1, rfl⟩ := Option.map_eq_some_iff.mp h
        obtain ⟨w1, t, rfl, g1, ht1⟩ := a_uncons ht
        obtain ⟨X, rfl, g2⟩ := a_iv_ok hN g1 hq
        obtain ⟨y, h2, h3⟩ := a_newa_ok (ρ := ρ) h1
        have e : X.toNatClampNeg = q.1.toNat := by show X.toInt.toNat = _; congr 1; omega
        refine a_P1 (st1 := .ref σ.length :: t) (σ1 := σ ++ [y]) hN ?_ hl ⟨?_, ht1⟩ (hS.push h3)
        · simp only [m_step]
          rw [if_pos ⟨a_wf_ok hl ht1 hS hc.1, by omega, by omega⟩, e, h2]
          rfl
        · show (S.1 : Int) = (σ.length : Int)
          rw [hS.1]
      · cases h
    · cases h
  · cases h
theorem a_cats {as : List a_V} {bs : List Value} (h : a_all2 (a_gv ρ) as bs) : (as.map a_cat).sum = (bs.map fun v => v.category).sum := by
  have e : ∀ {as : List a_V} {bs : List Value}, a_all2 (a_gv ρ) as bs → as.map a_cat = bs.map fun v => v.category := by
    intro as
    induction as with
    | nil => intro bs h; rw [a_unnil h]; rfl
    | cons x r ih =>
      intro bs h
      obtain ⟨b, t, rfl, h1, h2⟩ := a_uncons h
      rw [List.map_cons, List.map_cons, a_gv_cat h1, ih h2]
  rw [e h]
theorem a_h25_ok (hN : a_gN N ρ) (hl : a_all2 (a_gl ρ) lv lv') (ht : a_all2 (a_gv ρ) st st') (hS : a_gS ρ B S σ) (h : a_h25 N nx lv st S = some L) : a_Post ρ B fz (25, a, v, l) pc nx lv' st' σ L := by
  unfold a_h25 at h
  split at h
  · rename_i b r
    obtain ⟨h1, rfl⟩ := m_if h
    obtain ⟨w1, t, rfl, g1, ht1⟩ := a_uncons ht
    cases w1 with
    | ref k =>
      refine a_P1 (st1 := t) hN ?_ hl ht1 hS
      simp only [m_step]
      rw [if_pos (by rw [← a_cats ht1]; exact h1.2)]
    | _ =>
      obtain ⟨t0, c⟩ := b
      obtain ⟨e, -⟩ := h1
      dsimp only at e
      subst e
      exact g1.elim
  · cases h
theorem a_acp_ok {n dp b1 sp b0 : Nat} {S' : a_S} (hN : a_gN N ρ) (hS : a_gS ρ B S σ) (h : a_acp B N n dp b1 sp b0 S = some S') : ∃ τ, m_acp n dp b1 sp b0 σ = some τ ∧ a_gS ρ B S' τ := by
  unfold a_acp at h
  split at h
  · rename_i t n0 u t' n1 u' h0 h1
    split at h
    · rename_i hc
      obtain ⟨rfl, ht, hs0, hs1⟩ := hc
      obtain ⟨z0, g0, k0⟩ := hS.2 _ _ h0
      obtain ⟨z1, g1, k1⟩ := hS.2 _ _ h1
      have hkb := (List.getElem?_eq_some_iff.mp g1).1
      have fin : ∀ (u2 : a_V) (S2 : a_S), (∀ W, a_gv ρ u W → a_gv ρ u2 W) → (∀ W, a_gv ρ u' W → a_gv ρ u2 W) → (∀ z, a_ge ρ (.inl (t, n1, .inl u2)) z → a_gS ρ B S2 (σ.set b1 z)) → ∃ τ, m_acp n dp b1 sp b0 σ = some τ ∧ a_gS ρ B S2 τ := by
        intro u2 S2 hu hu' hfin
        unfold m_acp
        rw [g0, g1]
        have mem : ∀ {α : Type} {d : α} {f : α → Value} {xs ys : List α}, sp + n ≤ xs.length → (∀ y ∈ xs, a_gv ρ u (f y)) → (∀ y ∈ ys, a_gv ρ u' (f y)) → ∀ y ∈ m_cpy d xs ys sp dp n, a_gv ρ u2 (f y) := by
          intro α d f xs ys hx1 hx2 hy2 y hy
          obtain ⟨k, hk, rfl⟩ := List.mem_map.mp hy
          have hkl := List.mem_range.mp hk
          by_cases hin : dp ≤ k ∧ k < dp + n
          · rw [pk_cpy_in hin.1 hin.2]
            exact hu _ (hx2 _ (List.mem_of_getElem? (a_getD (by omega))))
          · rw [pk_cpy_out (by omega)]
            exact hu' _ (hy2 _ (List.mem_of_getElem? (a_getD hkl)))
        rcases z0 with ⟨t0, xs | xs | xs⟩ | ⟨ci', gs⟩
        · obtain ⟨rfl, q1, q2, q3⟩ := k0
          rcases z1 with ⟨t1, ys | ys | ys⟩ | ⟨ci', gs⟩
          · obtain ⟨rfl, r1, r2, r3⟩ := k1
            dsimp only
            rw [if_pos ⟨by omega, by omega, by omega, by omega⟩]
            refine ⟨_, rfl, hfin _ ⟨rfl, r1, by rw [m_cpy_len]; exact r2, mem (f := Value.int) (by omega) q3 r3⟩⟩
          · obtain ⟨rfl, r1, r2, r3⟩ := k1
            omega
          · exact k1.elim
          · exact k1.elim
        · obtain ⟨rfl, q1, q2, q3⟩ := k0
          rcases z1 with ⟨t1, ys | ys | ys⟩ | ⟨ci', gs⟩
          · obtain ⟨rfl, r1, r2, r3⟩ := k1
            omega
          · obtain ⟨rfl, r1, r2, r3⟩ := k1
            dsimp only
            rw [if_pos ⟨by omega, by omega, by omega, by omega⟩]
            refine ⟨_, rfl, hfin _ ⟨rfl, r1, by rw [m_cpy_len]; exact r2, mem (f := Value.long) (by omega) q3 r3⟩⟩
          · exact k1.elim
          · exact k1.elim
        · exact k0.elim
        · exact k0.elim
      split at h
      · rename_i hle
        cases h
        refine fin u' S (fun W hW => a_le1_ok hN hle hW) (fun _ hW => hW) (fun z hz => ?_)
        refine ⟨by rw [List.length_set]; exact hS.1, fun j y hj => ?_⟩
        rw [List.getElem?_set]
        by_cases e : b1 = j
        · subst e
          rw [if_pos rfl, if_pos hkb]
          rw [h1] at hj
          cases hj
          exact ⟨z, rfl, hz⟩
        · rw [if_neg e]
          exact hS.2 j y hj
      · obtain ⟨j, h3, rfl⟩ := Option.map_eq_some_iff.mp h
        exact fin j _ (fun W hW => a_jn_ok hN h3 (Or.inr hW)) (fun W hW => a_jn_ok hN h3 (Or.inl hW)) (fun z hz => hS.set hkb hz)
    · cases h
  · cases h
theorem a_h26_ok (hN : a_gN N ρ) (hl : a_all2 (a_gl ρ) lv lv') (ht : a_all2 (a_gv ρ) st st') (hS : a_gS ρ B S σ) (h : a_h26 B N nx lv st S = some L) : a_Post ρ B fz (26, a, v, l) pc nx lv' st' σ L := by
  unfold a_h26 at h
  split at h
  · rename_i n dp b1 sp b0 r
    split at h
    · rename_i qn qd qs hn hd hs
      split at h
      · rename_i hc
        obtain ⟨c1, c2, c3, c4, c5, c6, c7, c8, c9, c10, c11⟩ := hc
        obtain ⟨τ, h1, rfl⟩ := Option.map_eq_some_iff.mp h
        obtain ⟨w1, t, rfl, g1, ht1⟩ := a_uncons ht
        obtain ⟨w2, t, rfl, g2, ht2⟩ := a_uncons ht1
        obtain ⟨w3, t, rfl, g3, ht3⟩ := a_uncons ht2
        obtain ⟨w4, t, rfl, g4, ht4⟩ := a_uncons ht3
        obtain ⟨w5, t, rfl, g5, ht5⟩ := a_uncons ht4
        rw [a_ref g3 ⟨c1, c2⟩, a_ref g5 ⟨c3, c4⟩]
        obtain ⟨X, rfl, k1⟩ := a_iv_ok hN g1 hn
        obtain ⟨Y, rfl, k2⟩ := a_iv_ok hN g2 hd
        obtain ⟨Z, rfl, k3⟩ := a_iv_ok hN g4 hs
        obtain ⟨τ', h2, h3⟩ := a_acp_ok hN hS h1
        have e1 : X.toNatClampNeg = qn.1.toNat := by show X.toInt.toNat = _; congr 1; omega
        have e2 : Y.toNatClampNeg = qd.1.toNat := by show Y.toInt.toNat = _; congr 1; omega
        have e3 : Z.toNatClampNeg = qs.1.toNat := by show Z.toInt.toNat = _; congr 1; omega
        refine a_P1 (st1 := t) (σ1 := τ') hN ?_ hl ht5 h3
        simp only [m_step]
        rw [if_pos ⟨by omega, by omega, by omega, by rw [← a_cats ht5]; exact c11⟩, e1, e2, e3, h2]
        rfl
      · cases h
    · cases h
  · cases h
end A23
end
section
/-! the walk over bounds is right -/
section A24
variable {ρ : Nat → Int} {N : a_N} {B : List a_E} {S : a_S} {σ : m_S} {lv : a_L} {lv' : m_V} {st : List a_V} {st' : List Value}
variable {fz : List (List Int32)} {af : a_Z} {pc nx : Nat} {L : List a_R} {I : m_I}
theorem a_loc_ok (hN : a_gN N ρ) (hz : a_all2 (a_gz ρ) af fz) (hl : a_all2 (a_gl ρ) lv lv') (ht : a_all2 (a_gv ρ) st st') (hS : a_gS ρ B S σ) (h : a_loc af B N I pc nx lv st S = some L) : a_Post ρ B fz I pc nx lv' st' σ L := by
  obtain ⟨op, a, v, l⟩ := I
  match op, h with
  | 0, h => exact a_h0_ok hN hl ht hS h
  | 1, h => exact a_h1_ok hN hl ht hS h
  | 2, h => exact a_h2_ok hN hl ht hS h
  | 3, h => exact a_h3_ok hN hl ht hS h
  | 4, h => exact a_h4_ok hN hl ht hS h
  | 5, h => exact a_h5_ok hN hl ht hS h
  | 6, h => exact a_h6_ok hN hl ht hS h
  | 7, h => exact a_h7_ok hN hl ht hS h
  | 8, h => exact a_h8_ok hN hl ht hS h
  | 9, h => exact a_h9_ok hN hl ht hS h
  | 10, h => exact a_h10_ok hN hl ht hS h
  | 11, h => exact a_h11_ok hN hl ht hS h
  | 12, h => exact a_h12_ok hN hl ht hS h
  | 13, h => exact a_h13_ok hN hl ht hS h
  | 14, h => exact a_h14_ok hN hl ht hS h
  | 15, h => exact a_h15_ok hN hl ht hS h
  | 16, h => exact a_h16_ok hN hl ht hS h
  | 17, h => cases h
  | 18, h => exact a_h18_ok hN hz hl ht hS h
  | 19, h => exact a_h19_ok hN hl ht hS h
  | 20, h => exact a_h20_ok hN hz hl ht hS h
  | 21, h => exact a_h21_ok hN hl ht hS h
  | 22, h => exact a_h22_ok hN hl ht hS h
  | 23, h => cases h
  | 24, h => cases h
  | 25, h => exact a_h25_ok hN hl ht hS h
  | 26, h => exact a_h26_ok hN hl ht hS h
  | 27, h => cases h
  | 28, h => exact a_h28_ok hN hl ht hS h
  | k + 29, h =>
    exfalso
    unfold a_loc at h
    dsimp only at h
    have e : Nat.ble (k + 29) 28 = false := by
      rw [Bool.eq_false_iff]
      intro h9
      have := Nat.le_of_ble_eq_true h9
      omega
    rw [e] at h
    cases h
def a_gQ (ρ : Nat → Int) (B : List a_E) (Q : a_Q) (fs : List m_Fr) (σ : m_S) : Prop := a_gN Q.1 ρ ∧ a_all2 (a_gf ρ) Q.2.1 fs ∧ a_gS ρ B Q.2.2 σ
theorem a_args_ok {as : List a_V} {bs : List Value} (h : a_all2 (a_gv ρ) as bs) : ∀ i, a_all2 (a_gl ρ) (a_args i as) (lv_args i bs) := by
  induction as generalizing bs with
  | nil => intro i; rw [a_unnil h]; trivial
  | cons x r ih =>
    intro i
    obtain ⟨b, t, rfl, h1, h2⟩ := a_uncons h
    unfold a_args lv_args
    rw [a_gv_cat h1]
    exact ⟨⟨rfl, h1⟩, ih h2 _⟩
theorem a_rt_ok {k : Nat} {w : Int} {q : List Nat} {o : Option a_V} (hN : a_gN N ρ) (ht : a_all2 (a_gv ρ) st st') (h : a_rt N k st = some o) : ∃ r : Option Value, m_step fz (27, k, w, q) nx lv' st' σ = some (.inr (.inl r)) ∧ a_all2 (a_gv ρ) o.toList r.toList := by
  unfold a_rt at h
  split at h
  · rename_i x
    obtain ⟨h1, rfl⟩ := m_if h
    obtain ⟨b, t, rfl, g1, g2⟩ := a_uncons ht
    rw [a_unnil g2]
    have h3 := a_gv_knd g1
    rw [h1] at h3
    cases b with
    | int X => exact ⟨some (.int X), rfl, g1, trivial⟩
    | _ => simp [m_k] at h3
  · rename_i x
    obtain ⟨h1, rfl⟩ := m_if h
    obtain ⟨b, t, rfl, g1, g2⟩ := a_uncons ht
    rw [a_unnil g2]
    have h3 := a_gv_knd g1
    rw [h1] at h3
    cases b with
    | long X => exact ⟨some (.long X), rfl, g1, trivial⟩
    | _ => simp [m_k] at h3
  · cases h
    rw [a_unnil ht]
    exact ⟨none, rfl, trivial⟩
  · rename_i x
    split at h
    · rename_i p hp
      obtain ⟨h1, rfl⟩ := m_if h
      obtain ⟨b, t, rfl, g1, g2⟩ := a_uncons ht
      rw [a_unnil g2]
      obtain ⟨X, rfl, g3⟩ := a_iv_ok hN g1 hp
      refine ⟨some (.int X), ?_, g1, trivial⟩
      have e : X = 0 ∨ X = 1 := by
        have e : X.toInt = 0 ∨ X.toInt = 1 := by omega
        rcases e with e | e
        · exact Or.inl (Int32.toInt_inj.mp e)
        · exact Or.inr (Int32.toInt_inj.mp e)
      simp only [m_step]
      rw [if_pos e]
    · cases h
  · cases h
theorem a_cl_ok {as rest : List a_V} (ht : a_all2 (a_gv ρ) st st') (hS : a_gS ρ B S σ) (h24 : I.1 = 24) (h : a_cl B I st S = some (as, rest)) : ∃ as' rest', m_step fz I nx lv' st' σ = some (.inr (.inr (I.2.1, as', rest'))) ∧ a_all2 (a_gv ρ) as as' ∧ a_all2 (a_gv ρ) rest rest' := by
  obtain ⟨op, a, v, l⟩ := I
  dsimp only at h24
  subst h24
  unfold a_cl at h
  dsimp only at h ⊢
  split at h
  · rename_i hv
    obtain ⟨h1, h2⟩ := m_if h
    cases h2
    refine ⟨(st'.take (l.getD 0 0)).reverse, st'.drop (l.getD 0 0), ?_, (ht.take _).rev, ht.drop _⟩
    simp only [m_step]
    rw [if_pos hv, if_pos (by rw [← ht.len]; exact h1)]
  · rename_i hv
    split at h
    · rename_i b r hd
      split at h
      · rename_i hb
        split at h
        · rename_i ci fs hat
          obtain ⟨rfl, h2⟩ := m_if h
          cases h2
          have h3 := ht.drop (l.getD 0 0)
          rw [hd] at h3
          obtain ⟨w, t, e, g1, g2⟩ := a_uncons h3
          rw [a_ref g1 hb] at e g1
          obtain ⟨z, m1, m2⟩ := hS.2 _ _ hat
          obtain ⟨gs, rfl, m3⟩ := a_ge_o m2
          refine ⟨.ref b.2.1.toNat :: (st'.take (l.getD 0 0)).reverse, t, ?_, ⟨g1, (ht.take _).rev⟩, g2⟩
          simp only [m_step]
          rw [if_neg hv, e]
          dsimp only
          rw [m1]
          dsimp only
          rw [if_pos rfl]
        · cases h
      · cases h
    · cases h
theorem a_callOk_ok {as rest : List a_V} {as' rest' : List Value} (hl : a_all2 (a_gl ρ) lv lv') (ha : a_all2 (a_gv ρ) as as') (hr : a_all2 (a_gv ρ) rest rest') (hS : a_gS ρ B S σ) (h : a_callOk I lv as rest S = true) : m_callOk I lv' as' rest' σ = true := by
  simp only [a_callOk, Bool.and_eq_true, decide_eq_true_eq] at h
  obtain ⟨⟨⟨⟨h1, h2⟩, h3⟩, h4⟩, h5⟩ := h
  rw [← hS.1] at h1 h2 h3
  rw [a_cats hr] at h4
  rw [a_cats ha] at h5
  simp only [m_callOk, Bool.and_eq_true, decide_eq_true_eq]
  exact ⟨⟨⟨⟨h1, a_okl_ok hl h2⟩, a_oks_ok hr h3⟩, h4⟩, h5⟩
section A24b
variable {F : Nat → Nat → Option (m_I × Nat)} {fz : List (List Int32)} {mid pc len : Nat} {I : m_I} {lv : m_V} {st : List Value} {σ : m_S} {gs : List m_Fr}
theorem m_next_loc {pc' : Nat} {lv1 : m_V} {st1 : List Value} {σ1 : m_S} (hF : F mid pc = some (I, len)) (hs : m_step fz I (pc + len) lv st σ = some (.inl (pc', lv1, st1, σ1))) : m_next F fz ((mid, pc, lv, st) :: gs) σ = some (.inl ((mid, pc', lv1, st1) :: gs, σ1)) := by
  simp only [m_next, hF, hs]
theorem m_next_ret0 {r : Option Value} (hF : F mid pc = some (I, len)) (hs : m_step fz I (pc + len) lv st σ = some (.inr (.inl r))) : m_next F fz [(mid, pc, lv, st)] σ = some (.inr (r, σ)) := by
  simp only [m_next, hF, hs]
theorem m_next_ret1 {r : Option Value} {m2 p2 : Nat} {l2 : m_V} {s2 : List Value} (hF : F mid pc = some (I, len)) (hs : m_step fz I (pc + len) lv st σ = some (.inr (.inl r))) : m_next F fz ((mid, pc, lv, st) :: (m2, p2, l2, s2) :: gs) σ = some (.inl ((m2, p2, l2, r.toList ++ s2) :: gs, σ)) := by
  simp only [m_next, hF, hs]
theorem m_next_call {mid1 : Nat} {as rest : List Value} (hF : F mid pc = some (I, len)) (hs : m_step fz I (pc + len) lv st σ = some (.inr (.inr (mid1, as, rest)))) (hc : m_callOk I lv as rest σ = true) (hg : gs.length < 60) : m_next F fz ((mid, pc, lv, st) :: gs) σ = some (.inl ((mid1, 0, lv_args 0 as, []) :: (mid, pc + len, lv, rest) :: gs, σ)) := by
  simp only [m_next, hF, hs]
  rw [if_pos ⟨hc, hg⟩]
end A24b
def a_Good (F : Nat → Nat → Option (m_I × Nat)) (af : a_Z) (B : List a_E) (P : Option Value → m_S → Prop) (Q : a_Q) : Prop := ∀ (ρ : Nat → Int) (fz : List (List Int32)) (fs : List m_Fr) (σ : m_S), a_all2 (a_gz ρ) af fz → a_gQ ρ B Q fs σ → ∃ n o, m_go F fz n fs σ = some o ∧ P o.1 o.2
set_option maxHeartbeats 2000000 in
theorem a_next_ok {F : Nat → Nat → Option (m_I × Nat)} {Q : a_Q} {fs : List m_Fr} {o : List a_Q ⊕ (Option a_V × a_N × a_S)} (hz : a_all2 (a_gz ρ) af fz) (hQ : a_gQ ρ B Q fs σ) (h : a_next F af B Q = some o) :
    (∃ Ls, o = .inl Ls ∧ ∃ Q' ∈ Ls, a_gQ ρ B Q' fs σ ∨ ∃ fs' σ', m_next F fz fs σ = some (.inl (fs', σ')) ∧ a_gQ ρ B Q' fs' σ') ∨ (∃ v M T, o = .inr (v, M, T) ∧ a_gN M ρ ∧ a_gS ρ B T σ ∧ ∃ r, m_next F fz fs σ = some (.inr (r, σ)) ∧ a_all2 (a_gv ρ) v.toList r.toList) := by
  obtain ⟨N, Fs, S⟩ := Q
  obtain ⟨hN, hf, hS⟩ := hQ
  dsimp only at hN hf hS
  unfold a_next at h
  dsimp only at h
  split at h
  · cases h
  · rename_i mid pc lv st gs
    obtain ⟨g, hs, rfl, hg, hgs⟩ := a_uncons hf
    obtain ⟨mid', pc', lv', st'⟩ := g
    obtain ⟨e1, e2, hl, ht⟩ := hg
    dsimp only at e1 e2 hl ht
    subst e1
    subst e2
    split at h
    · cases h
    · rename_i I len hF
      by_cases h24 : Nat.beq I.1 24 = true
      · rw [h24] at h
        simp only [cond_true] at h
        unfold a_nx24 at h
        split at h
        · rename_i as rest hcl
          obtain ⟨⟨h1, h2⟩, rfl⟩ := m_if h
          obtain ⟨as', rest', h3, h4, h5⟩ := a_cl_ok (fz := fz) (nx := pc + len) (lv' := lv') ht hS (Nat.eq_of_beq_eq_true h24) hcl
          exact Or.inl ⟨_, rfl, _, List.mem_singleton.mpr rfl, Or.inr ⟨(I.2.1, 0, lv_args 0 as', []) :: (mid, pc + len, lv', rest') :: hs, σ, m_next_call hF h3 (a_callOk_ok hl h4 h5 hS h1) (by rw [← hgs.len]; exact h2), hN, ⟨⟨rfl, rfl, a_args_ok h4 0, trivial⟩, ⟨rfl, rfl, hl, h5⟩, hgs⟩, hS⟩⟩
        · cases h
      · simp only [Bool.not_eq_true] at h24
        rw [h24] at h
        simp only [cond_false] at h
        by_cases h27 : Nat.beq I.1 27 = true
        · rw [h27] at h
          simp only [cond_true] at h
          unfold a_nx27 at h
          split at h
          · rename_i r hrt
            obtain ⟨op, a, v, l⟩ := I
            have e27 := Nat.eq_of_beq_eq_true h27
            dsimp only at e27
            subst e27
            obtain ⟨r', h1, h2⟩ := a_rt_ok (fz := fz) (nx := pc + len) (lv' := lv') (σ := σ) (w := v) (q := l) hN ht hrt
            split at h
            · cases h
              have e0 := a_unnil hgs
              subst e0
              exact Or.inr ⟨_, _, _, rfl, hN, hS, r', m_next_ret0 hF h1, h2⟩
            · rename_i m2 p2 l2 s2 hs2
              cases h
              obtain ⟨g, hs', rfl, hg, hgs'⟩ := a_uncons hgs
              obtain ⟨m3, p3, l3, s3⟩ := g
              obtain ⟨e1, e2, hl3, ht3⟩ := hg
              dsimp only at e1 e2 hl3 ht3
              subst e1
              subst e2
              exact Or.inl ⟨_, rfl, _, List.mem_singleton.mpr rfl, Or.inr ⟨(m2, p2, l3, r'.toList ++ s3) :: hs', σ, m_next_ret1 hF h1, hN, ⟨⟨rfl, rfl, hl3, h2.app ht3⟩, hgs'⟩, hS⟩⟩
          · cases h
        · simp only [Bool.not_eq_true] at h27
          rw [h27] at h
          simp only [cond_false] at h
          unfold a_nx at h
          split at h
          · rename_i Lr hloc
            cases h
            obtain ⟨q, h1, h2, h3⟩ := a_loc_ok hN hz hl ht hS hloc
            refine Or.inl ⟨_, rfl, a_back mid gs q, List.mem_map.mpr ⟨q, h1, rfl⟩, ?_⟩
            rcases h3 with ⟨e, k1, k2, k3⟩ | ⟨lv1, st1, σ1, k0, k1, k2, k3⟩
            · exact Or.inl ⟨h2, ⟨⟨rfl, e, k1, k2⟩, hgs⟩, k3⟩
            · exact Or.inr ⟨(mid, q.2.1, lv1, st1) :: hs, σ1, m_next_loc hF k0, h2, ⟨⟨rfl, rfl, k1, k2⟩, hgs⟩, k3⟩
          · cases h
theorem a_ok_good {F : Nat → Nat → Option (m_I × Nat)} {P : Option Value → m_S → Prop} {G : a_Q → Bool} {fin : Option a_V → a_N → a_S → Bool} (hG : ∀ Q, G Q = true → a_Good F af B P Q) (hP : ∀ (ρ : Nat → Int) v N S (r : Option Value) (σ : m_S), fin v N S = true → a_gN N ρ → a_gS ρ B S σ → a_all2 (a_gv ρ) v.toList r.toList → P r σ) : ∀ (n : Nat) (Q : a_Q), a_ok F af B G fin n Q = true → a_Good F af B P Q := by
  intro n
  induction n with
  | zero => intro Q h; cases h
  | succ n ih =>
    intro Q h
    have h' : (bif G Q then true else match a_next F af B Q with
      | none => false
      | some (.inl L) => L.all (a_ok F af B G fin n)
      | some (.inr (v, N, S)) => fin v N S) = true := h
    by_cases hg : G Q = true
    · exact hG Q hg
    simp only [Bool.not_eq_true] at hg
    rw [hg] at h'
    simp only [cond_false] at h'
    intro ρ fz fs σ hz hQ
    split at h'
    · cases h'
    · rename_i L hL
      rcases a_next_ok hz hQ hL with ⟨Ls, e, Q', h1, h2⟩ | ⟨v, M, T, e, -⟩
      · cases e
        have h3 := ih Q' (List.all_eq_true.mp h' Q' h1)
        rcases h2 with h2 | ⟨fs', σ', h4, h5⟩
        · exact h3 ρ fz fs σ hz h2
        · obtain ⟨m, o, h6, h7⟩ := h3 ρ fz fs' σ' hz h5
          exact ⟨m + 1, o, by simp only [m_go, h4]; exact h6, h7⟩
      · cases e
    · rename_i v N S hL
      rcases a_next_ok hz hQ hL with ⟨Ls, e, -⟩ | ⟨v', M, T, e, h1, h0, r, h2, h3⟩
      · cases e
      · cases e
        exact ⟨1, (r, σ), by simp only [m_go, h2], hP ρ v N S r σ h' h1 h0 h3⟩
def a_P1ok (r : Option Value) (σ : m_S) : Prop := r = some (.int 1) ∧ σ.length ≤ 3000
theorem a_one_ok (ρ : Nat → Int) (v : Option a_V) (N : a_N) (S : a_S) (r : Option Value) (σ : m_S) (h : a_one v N S = true) (hN : a_gN N ρ) (hS : a_gS ρ B S σ) (hr : a_all2 (a_gv ρ) v.toList r.toList) : a_P1ok r σ := by
  unfold a_one at h
  split at h
  · rename_i w
    split at h
    · rename_i q hq
      simp only [Bool.and_eq_true, decide_eq_true_eq] at h
      cases r with
      | none => exact hr.elim
      | some W =>
        obtain ⟨X, rfl, h1, h2⟩ := a_iv_ok hN hr.1 hq
        have e : X = 1 := Int32.toInt_inj.mp (show X.toInt = (1 : Int32).toInt by
          have : (1 : Int32).toInt = 1 := rfl
          omega)
        rw [e]
        exact ⟨rfl, by rw [hS.1]; exact Nat.le_of_ble_eq_true h.2⟩
    · cases h
  · cases h
/-- the same world, with another base -/
theorem a_rebase {F : Nat → Nat → Option (m_I × Nat)} {P : Option Value → m_S → Prop} {B' : List a_E} {N : a_N} {fs : List a_F} {S S' : a_S} (h : a_Good F af B' P (N, fs, S')) (h1 : S'.1 = S.1) (h2 : ∀ k x, a_at B' S' k = some x → a_at B S k = some x) : a_Good F af B P (N, fs, S) := fun ρ fz gs σ hz hQ => h ρ fz gs σ hz ⟨hQ.1, hQ.2.1, ⟨hQ.2.2.1.trans h1.symm, fun k x hk => hQ.2.2.2 k x (h2 k x hk)⟩⟩
end A24
end
section
theorem m_inG {w : Cond} {i : Nat} (h : m_wd i = some w) (hg : goodWord w = true) : w ∈ m_G := List.mem_filter.mpr ⟨m_wd_in h, hg⟩
def m_lc (o : String) (e : Nat × m_I) (ps : List Nat) : Bool := match e.2.1 with
  | 0 => decide (m_wd (ps.getD 0 0) = some (Jvm.Cond.constant o e.1 (Int32.ofInt e.2.2.2.1)))
  | 1 => decide (m_wd (ps.getD 0 0) = some (Jvm.Cond.constantLong o e.1 (Int64.ofInt e.2.2.2.1)))
  | 15 => match vwCl[e.2.2.1]? with
    | some q => decide (e.2.2.2.1.toNat < q.2.2) && decide (m_wd (ps.getD 0 0) = some (Jvm.Cond.fieldLink o e.1 (q.2.1 e.2.2.2.1.toNat).1 (q.2.1 e.2.2.2.1.toNat).2.1 (q.2.1 e.2.2.2.1.toNat).2.2.1))
    | none => false
  | 21 => match vwCl[e.2.2.1]? with
    | some q => decide (m_wd (ps.getD 0 0) = some (Jvm.Cond.classLink o e.1 q.1))
    | none => false
  | 24 => match m_cw e.2.2.1 with
    | some (y, _, n, r) => match e.2.2.2.2 with
      | [np, n', cy] => decide (n' = n) && decide (n ≤ 100) && decide (y.cls ≠ "java/lang/invoke/MethodHandle") && decide (y.cls ≠ "java/lang/invoke/VarHandle") && decide ((parseMethodDescriptor y.desc).map (fun d => d.parameters.length) = some np) && plainName y.cls && decide (m_wd (ps.getD 1 0) = some (Jvm.Cond.initialized y.cls)) &&
        (match e.2.2.2.1 with
        | 0 => decide (m_wd (ps.getD 0 0) = some (Jvm.Cond.methodLink o e.1 y)) && decide (m_wd (ps.getD 2 0) = some (Jvm.Cond.instanceMethod y)) && decide (m_wd (ps.getD 3 0) = some (Jvm.Cond.selects y.cls y y)) && (match vwCl[cy]? with
          | some q => decide (q.1 = y.cls)
          | none => false)
        | 1 => decide (m_wd (ps.getD 0 0) = some (Jvm.Cond.methodLink o e.1 y)) && decide (m_wd (ps.getD 2 0) = some (Jvm.Cond.instanceMethod y)) && decide (y.name = "<init>") && decide (r = none)
        | 2 => decide (m_wd (ps.getD 0 0) = some (Jvm.Cond.methodLink o e.1 y)) && decide (m_wd (ps.getD 2 0) = some (Jvm.Cond.static y))
        | 4 => decide (m_wd (ps.getD 0 0) = some (Jvm.Cond.methodLinkNest o e.1 y "MotherBench")) && decide (m_wd (ps.getD 2 0) = some (Jvm.Cond.instanceMethod y)) && decide (y.name = "<init>") && decide (r = none)
        | 5 => decide (m_wd (ps.getD 0 0) = some (Jvm.Cond.methodLinkNest o e.1 y "MotherBench")) && decide (m_wd (ps.getD 2 0) = some (Jvm.Cond.static y))
        | _ => false)
      | _ => false
    | none => false
  | 25 => decide (m_wd (ps.getD 0 0) = some (Jvm.Cond.methodLink o e.1 objectInit))
  | 26 => decide (m_wd (ps.getD 0 0) = some (Jvm.Cond.methodLink o e.1 arraycopyName))
  | _ => false
theorem m_inN {o : String} {i k : Nat} {y : MethodName} {q : String} (h : m_wd k = some (Jvm.Cond.methodLinkNest o i y q)) : Jvm.Cond.methodLinkNest o i y q ∈ m_nw := by
  rcases List.mem_append.mp (m_wd_in h) with h1 | h1
  · obtain ⟨z, -, h2⟩ := List.mem_map.mp h1
    cases h2
  · exact List.mem_filter.mpr ⟨h1, rfl⟩
set_option maxHeartbeats 2000000 in
theorem m_lc_ok {o : String} {e : Nat × m_I} {ps : List Nat} (h : m_lc o e ps = true) : m_lkOk o e.1 e.2 := by
  obtain ⟨i, op, a, v, l⟩ := e
  unfold m_lc at h
  dsimp only at h
  split at h
  · exact m_inG (of_decide_eq_true h) rfl
  · exact m_inG (of_decide_eq_true h) rfl
  · split at h
    · rename_i q hq
      simp only [Bool.and_eq_true, decide_eq_true_eq] at h
      exact ⟨q, hq, h.1, m_inG h.2 rfl⟩
    · cases h
  · split at h
    · rename_i q hq
      exact ⟨q, hq, m_inG (of_decide_eq_true h) rfl⟩
    · cases h
  · split at h
    · rename_i y b n r hcw
      split at h
      · rename_i np n' cy
        rw [Bool.and_eq_true] at h
        obtain ⟨h0, h⟩ := h
        simp only [Bool.and_eq_true, decide_eq_true_eq] at h0
        obtain ⟨⟨⟨⟨⟨⟨rfl, h2⟩, h3⟩, h4⟩, h5⟩, h6⟩, h7⟩ := h0
        refine ⟨y, b, n', r, np, cy, hcw, rfl, h2, h3, h4, h5, h6, m_inG h7 rfl, ?_⟩
        dsimp only
        split at h
        · split at h
          · rename_i q hq
            simp only [Bool.and_eq_true, decide_eq_true_eq] at h
            exact ⟨fun _ => m_inG h.1.1.1 rfl, fun h9 => by omega, fun _ => ⟨m_inG h.1.1.2 rfl, m_inG h.1.2 rfl, q, hq, h.2⟩, fun h9 => by omega, fun h9 => by omega⟩
          · simp at h
        · simp only [Bool.and_eq_true, decide_eq_true_eq] at h
          exact ⟨fun _ => m_inG h.1.1.1 rfl, fun h9 => by omega, fun h9 => by omega, fun _ => ⟨h.1.2, m_inG h.1.1.2 rfl, h.2⟩, fun h9 => by omega⟩
        · simp only [Bool.and_eq_true, decide_eq_true_eq] at h
          exact ⟨fun _ => m_inG h.1 rfl, fun h9 => by omega, fun h9 => by omega, fun h9 => by omega, fun _ => m_inG h.2 rfl⟩
        · simp only [Bool.and_eq_true, decide_eq_true_eq] at h
          exact ⟨fun h9 => by omega, fun _ => m_inN h.1.1.1, fun h9 => by omega, fun _ => ⟨h.1.2, m_inG h.1.1.2 rfl, h.2⟩, fun h9 => by omega⟩
        · simp only [Bool.and_eq_true, decide_eq_true_eq] at h
          exact ⟨fun h9 => by omega, fun _ => m_inN h.1, fun h9 => by omega, fun h9 => by omega, fun _ => m_inG h.2 rfl⟩
        · cases h
      · cases h
    · cases h
  · exact m_inG (of_decide_eq_true h) rfl
  · exact m_inG (of_decide_eq_true h) rfl
  · cases h
theorem m_zip_ok {o : String} {t : List (Nat × m_I)} {ps : List (List Nat)} (hlen : t.length = ps.length) (h : (t.zip ps).all (fun q => m_lc o q.1 q.2) = true) : ∀ e ∈ t, m_lkOk o e.1 e.2 := by
  intro e he
  obtain ⟨i, hi⟩ := List.getElem?_of_mem he
  have hl := (List.getElem?_eq_some_iff.mp hi).1
  have h1 : (t.zip ps)[i]? = some (e, ps[i]'(by omega)) := by
    rw [List.getElem?_zip_eq_some]
    exact ⟨hi, List.getElem?_eq_getElem _⟩
  exact m_lc_ok (List.all_eq_true.mp h _ (List.mem_of_getElem? h1))
def m_le_0_0 : List (Nat × m_I) := [(7, (21, 9, 0, [])), (9, (24, 0, 1, [0, 2, 9])), (13, (24, 10, 0, [5, 6, 9])), (18, (24, 13, 0, [1, 2, 9])), (23, (24, 14, 0, [0, 1, 9])), (28, (24, 49, 0, [1, 2, 9])), (32, (24, 50, 0, [2, 3, 9])), (37, (24, 52, 0, [1, 2, 9])), (41, (24, 53, 0, [2, 3, 9])), (45, (24, 55, 0, [1, 2, 9])), (49, (24, 56, 0, [1, 2, 9])), (53, (24, 58, 0, [2, 3, 9])), (57, (24, 60, 0, [1, 2, 9])), (61, (24, 62, 0, [1, 2, 9])), (65, (24, 64, 0, [1, 2, 9])), (69, (24, 68, 0, [1, 2, 9])), (73, (24, 70, 0, [0, 3, 9])), (77, (24, 72, 0, [2, 3, 9])), (81, (24, 75, 0, [2, 3, 9])), (85, (24, 77, 0, [1, 2, 9])), (89, (24, 79, 0, [1, 2, 9])), (93, (24, 81, 0, [1, 2, 9])), (97, (24, 83, 0, [1, 2, 9])), (101, (24, 85, 0, [2, 3, 9])), (105, (24, 87, 0, [1, 2, 9]))]
def m_ps_0_0 : List (List Nat) := [[1020], [1022, 1001, 1023], [2157, 1001, 2158, 2159], [2169, 1001, 2170, 2171], [2173, 1001, 2174, 2175], [3137, 1001, 3138, 3139], [3141, 1001, 3142, 3143], [3149, 1001, 3150, 3151], [3153, 1001, 3154, 3155], [3161, 1001, 3162, 3163], [3165, 1001, 3166, 3167], [3173, 1001, 3174, 3175], [3181, 1001, 3182, 3183], [3189, 1001, 3190, 3191], [3197, 1001, 3198, 3199], [3215, 1001, 3216, 3217], [3224, 1001, 3225, 3226], [3233, 1001, 3234, 3235], [4005, 1001, 4006, 4007], [4013, 1001, 4014, 4015], [4021, 1001, 4022, 4023], [4029, 1001, 4030, 4031], [4037, 1001, 4038, 4039], [4045, 1001, 4046, 4047], [4053, 1001, 4054, 4055]]
set_option maxRecDepth 100000 in
theorem m_zk_0_0 : (m_le_0_0.zip m_ps_0_0).all (fun q => m_lc "MotherBenchLaw" q.1 q.2) = true := by decide +kernel
def m_le_0_1 : List (Nat × m_I) := [(109, (24, 90, 0, [2, 3, 9])), (113, (24, 91, 0, [1, 3, 9])), (117, (24, 92, 0, [0, 5, 9])), (121, (24, 93, 0, [0, 1, 9])), (125, (24, 95, 0, [0, 4, 9])), (129, (24, 96, 0, [1, 4, 9])), (133, (24, 97, 0, [1, 4, 9])), (137, (24, 98, 0, [0, 3, 9])), (141, (24, 99, 0, [0, 3, 9])), (145, (24, 100, 0, [1, 2, 9])), (149, (24, 103, 0, [1, 2, 9])), (153, (24, 104, 0, [1, 4, 9])), (157, (24, 105, 0, [1, 2, 9])), (161, (24, 107, 0, [1, 2, 9])), (165, (24, 108, 0, [0, 4, 9])), (169, (24, 109, 0, [0, 5, 9])), (173, (24, 110, 0, [1, 2, 9])), (177, (24, 112, 0, [1, 2, 9])), (181, (24, 113, 0, [0, 1, 9])), (185, (24, 116, 0, [2, 3, 9])), (189, (24, 118, 0, [1, 3, 9])), (193, (24, 121, 0, [1, 2, 9])), (197, (24, 122, 0, [1, 3, 9])), (201, (24, 124, 0, [1, 2, 9])), (205, (24, 125, 0, [1, 2, 9]))]
def m_ps_0_1 : List (List Nat) := [[4065, 1001, 4066, 4067], [4070, 1001, 4071, 4072], [4074, 1001, 4075, 4076], [4078, 1001, 4079, 4080], [4087, 1001, 4088, 4089], [4091, 1001, 4092, 4093], [4095, 1001, 4096, 4097], [4099, 1001, 4100, 4101], [4103, 1001, 4104, 4105], [4107, 1001, 4108, 4109], [4119, 1001, 4120, 4121], [4123, 1001, 4124, 4125], [4127, 1001, 4128, 4129], [4135, 1001, 4136, 4137], [4139, 1001, 4140, 4141], [4143, 1001, 4144, 4145], [4147, 1001, 4148, 4149], [4155, 1001, 4156, 4157], [4160, 1001, 4161, 4162], [4174, 1001, 4175, 4176], [4183, 1001, 4184, 4185], [4198, 1001, 4199, 4200], [4202, 1001, 4203, 4204], [4210, 1001, 4211, 4212], [4214, 1001, 4215, 4216]]
set_option maxRecDepth 100000 in
theorem m_zk_0_1 : (m_le_0_1.zip m_ps_0_1).all (fun q => m_lc "MotherBenchLaw" q.1 q.2) = true := by decide +kernel
def m_le_0_2 : List (Nat × m_I) := [(209, (24, 128, 0, [1, 3, 9])), (213, (24, 131, 0, [1, 2, 9])), (217, (24, 132, 0, [1, 2, 9])), (221, (24, 134, 0, [0, 1, 9])), (225, (24, 136, 0, [2, 4, 9])), (229, (24, 146, 0, [2, 4, 9])), (233, (24, 148, 0, [2, 4, 9])), (237, (24, 150, 0, [2, 4, 9])), (241, (24, 153, 0, [2, 5, 9])), (245, (24, 154, 0, [1, 3, 9])), (249, (24, 156, 0, [1, 2, 9])), (253, (24, 158, 0, [0, 1, 9])), (257, (24, 160, 0, [1, 2, 9])), (261, (24, 162, 0, [2, 3, 9])), (265, (24, 169, 0, [2, 3, 9])), (269, (24, 174, 0, [4, 5, 9])), (274, (24, 176, 0, [3, 4, 9])), (279, (24, 180, 0, [1, 2, 9])), (284, (24, 182, 0, [2, 3, 9])), (288, (24, 184, 0, [2, 3, 9])), (292, (24, 186, 0, [0, 1, 9])), (296, (24, 187, 0, [0, 2, 9])), (300, (24, 188, 0, [2, 4, 9])), (304, (24, 192, 0, [3, 4, 9])), (308, (24, 194, 0, [2, 4, 9]))]
def m_ps_0_2 : List (List Nat) := [[4226, 1001, 4227, 4228], [5004, 1001, 5005, 5006], [5008, 1001, 5009, 5010], [5016, 1001, 5017, 5018], [5026, 1001, 5027, 5028], [5072, 1001, 5073, 5074], [5080, 1001, 5081, 5082], [5088, 1001, 5089, 5090], [5101, 1001, 5102, 5103], [5106, 1001, 5107, 5108], [5114, 1001, 5115, 5116], [5122, 1001, 5123, 5124], [5131, 1001, 5132, 5133], [5140, 1001, 5141, 5142], [5171, 1001, 5172, 5173], [5191, 1001, 5192, 5193], [5201, 1001, 5202, 5203], [5222, 1001, 5223, 5224], [5232, 1001, 5233, 5234], [6000, 1001, 6001, 6002], [6008, 1001, 6009, 6010], [6012, 1001, 6013, 6014], [6016, 1001, 6017, 6018], [6037, 1001, 6038, 6039], [6047, 1001, 6048, 6049]]
set_option maxRecDepth 100000 in
theorem m_zk_0_2 : (m_le_0_2.zip m_ps_0_2).all (fun q => m_lc "MotherBenchLaw" q.1 q.2) = true := by decide +kernel
def m_le_0_3 : List (Nat × m_I) := [(312, (24, 195, 0, [1, 2, 9])), (316, (24, 197, 0, [1, 2, 9])), (320, (24, 198, 0, [1, 2, 9])), (324, (24, 199, 0, [3, 4, 9])), (330, (24, 202, 0, [3, 5, 9])), (335, (24, 205, 0, [5, 6, 9])), (10, (21, 10, 0, [])), (12, (24, 209, 1, [0, 2, 10])), (327, (24, 210, 0, [3, 5, 10])), (334, (24, 213, 0, [3, 5, 10])), (338, (24, 215, 0, [5, 7, 10])), (17, (24, 216, 0, [5, 6, 10])), (22, (24, 218, 0, [1, 2, 10])), (31, (24, 219, 0, [1, 2, 10])), (27, (24, 220, 0, [0, 1, 10])), (36, (24, 244, 0, [2, 3, 10])), (40, (24, 247, 0, [1, 2, 10])), (44, (24, 249, 0, [2, 3, 10])), (48, (24, 252, 0, [1, 4, 10])), (52, (24, 266, 0, [1, 2, 10])), (56, (24, 269, 0, [2, 3, 10])), (60, (24, 270, 0, [1, 2, 10])), (64, (24, 271, 0, [1, 2, 10])), (68, (24, 272, 0, [1, 5, 10])), (72, (24, 273, 0, [1, 2, 10]))]
def m_ps_0_3 : List (List Nat) := [[6051, 1001, 6052, 6053], [6060, 1001, 6061, 6062], [6064, 1001, 6065, 6066], [6068, 1001, 6069, 6070], [6080, 1001, 6081, 6082], [6092, 1001, 6093, 6094], [6109], [6111, 1011, 6112], [7006, 1011, 7007, 7008], [7017, 1011, 7018, 7019], [7024, 1011, 7025, 7026], [7028, 1011, 7029, 7030], [7036, 1011, 7037, 7038], [7040, 1011, 7041, 7042], [7044, 1011, 7045, 7046], [7156, 1011, 7157, 7158], [7169, 1011, 7170, 7171], [7177, 1011, 7178, 7179], [7190, 1011, 7191, 7192], [8002, 1011, 8003, 8004], [8014, 1011, 8015, 8016], [8018, 1011, 8019, 8020], [8022, 1011, 8023, 8024], [8026, 1011, 8027, 8028], [8030, 1011, 8031, 8032]]
set_option maxRecDepth 100000 in
theorem m_zk_0_3 : (m_le_0_3.zip m_ps_0_3).all (fun q => m_lc "MotherBenchLaw" q.1 q.2) = true := by decide +kernel
def m_le_0_4 : List (Nat × m_I) := [(76, (24, 275, 0, [0, 3, 10])), (80, (24, 277, 0, [2, 3, 10])), (84, (24, 279, 0, [2, 3, 10])), (88, (24, 280, 0, [1, 4, 10])), (92, (24, 282, 0, [1, 3, 10])), (96, (24, 283, 0, [1, 4, 10])), (100, (24, 285, 0, [1, 4, 10])), (104, (24, 286, 0, [2, 5, 10])), (108, (24, 287, 0, [1, 2, 10])), (112, (24, 290, 0, [2, 3, 10])), (116, (24, 291, 0, [1, 3, 10])), (120, (24, 292, 0, [0, 3, 10])), (124, (24, 293, 0, [0, 1, 10])), (128, (24, 296, 0, [0, 3, 10])), (132, (24, 297, 0, [1, 2, 10])), (136, (24, 299, 0, [1, 2, 10])), (140, (24, 300, 0, [0, 3, 10])), (144, (24, 301, 0, [0, 3, 10])), (148, (24, 302, 0, [1, 4, 10])), (152, (24, 304, 0, [1, 2, 10])), (156, (24, 305, 0, [1, 4, 10])), (160, (24, 306, 0, [1, 2, 10])), (164, (24, 308, 0, [1, 2, 10])), (168, (24, 309, 0, [0, 3, 10])), (172, (24, 310, 0, [0, 4, 10]))]
def m_ps_0_4 : List (List Nat) := [[8038, 1011, 8039, 8040], [8046, 1011, 8047, 8048], [8054, 1011, 8055, 8056], [8058, 1011, 8059, 8060], [8066, 1011, 8067, 8068], [8070, 1011, 8071, 8072], [8078, 1011, 8079, 8080], [8082, 1011, 8083, 8084], [8086, 1011, 8087, 8088], [8098, 1011, 8099, 8100], [8102, 1011, 8103, 8104], [8106, 1011, 8107, 8108], [8110, 1011, 8111, 8112], [8122, 1011, 8123, 8124], [8126, 1011, 8127, 8128], [8134, 1011, 8135, 8136], [8138, 1011, 8139, 8140], [8142, 1011, 8143, 8144], [8146, 1011, 8147, 8148], [8154, 1011, 8155, 8156], [8158, 1011, 8159, 8160], [8162, 1011, 8163, 8164], [8170, 1011, 8171, 8172], [8174, 1011, 8175, 8176], [8178, 1011, 8179, 8180]]
set_option maxRecDepth 100000 in
theorem m_zk_0_4 : (m_le_0_4.zip m_ps_0_4).all (fun q => m_lc "MotherBenchLaw" q.1 q.2) = true := by decide +kernel
def m_le_0_5 : List (Nat × m_I) := [(176, (24, 311, 0, [1, 4, 10])), (180, (24, 312, 0, [1, 2, 10])), (184, (24, 313, 0, [0, 3, 10])), (188, (24, 316, 0, [2, 3, 10])), (192, (24, 318, 0, [1, 2, 10])), (196, (24, 322, 0, [1, 2, 10])), (200, (24, 323, 0, [1, 2, 10])), (204, (24, 324, 0, [1, 2, 10])), (208, (24, 325, 0, [1, 7, 10])), (212, (24, 326, 0, [1, 3, 10])), (216, (24, 328, 0, [1, 2, 10])), (220, (24, 329, 0, [1, 5, 10])), (224, (24, 330, 0, [0, 6, 10])), (228, (24, 331, 0, [2, 4, 10])), (232, (24, 338, 0, [2, 5, 10])), (236, (24, 339, 0, [2, 5, 10])), (240, (24, 340, 0, [2, 4, 10])), (244, (24, 341, 0, [2, 4, 10])), (248, (24, 342, 0, [1, 5, 10])), (252, (24, 344, 0, [1, 2, 10])), (256, (24, 345, 0, [0, 3, 10])), (260, (24, 346, 0, [1, 2, 10])), (264, (24, 348, 0, [2, 7, 10])), (268, (24, 353, 0, [2, 8, 10])), (273, (24, 356, 0, [4, 5, 10]))]
def m_ps_0_5 : List (List Nat) := [[8182, 1011, 8183, 8184], [8186, 1011, 8187, 8188], [8190, 1011, 8191, 8192], [8201, 1011, 8202, 8203], [8209, 1011, 8210, 8211], [8225, 1011, 8226, 8227], [8229, 1011, 8230, 8231], [8233, 1011, 8234, 8235], [8237, 1011, 8238, 8239], [9001, 1011, 9002, 9003], [9009, 1011, 9010, 9011], [9013, 1011, 9014, 9015], [9017, 1011, 9018, 9019], [9021, 1011, 9022, 9023], [9050, 1011, 9051, 9052], [9054, 1011, 9055, 9056], [9058, 1011, 9059, 9060], [9062, 1011, 9063, 9064], [9066, 1011, 9067, 9068], [9074, 1011, 9075, 9076], [9078, 1011, 9079, 9080], [9082, 1011, 9083, 9084], [9090, 1011, 9091, 9092], [9107, 1011, 9108, 9109], [9119, 1011, 9120, 9121]]
set_option maxRecDepth 100000 in
theorem m_zk_0_5 : (m_le_0_5.zip m_ps_0_5).all (fun q => m_lc "MotherBenchLaw" q.1 q.2) = true := by decide +kernel
def m_le_0_6 : List (Nat × m_I) := [(278, (24, 357, 0, [3, 4, 10])), (283, (24, 360, 0, [1, 2, 10])), (303, (24, 361, 0, [2, 4, 10])), (307, (24, 364, 0, [3, 6, 10])), (287, (24, 365, 0, [2, 3, 10])), (291, (24, 367, 0, [2, 5, 10])), (295, (24, 368, 0, [0, 1, 10])), (299, (24, 369, 0, [0, 2, 10])), (311, (24, 370, 0, [2, 4, 10])), (315, (24, 371, 0, [1, 4, 10])), (319, (24, 372, 0, [1, 2, 10])), (323, (24, 373, 0, [1, 2, 10])), (328, (1, 0, 4294967295, []))]
def m_ps_0_6 : List (List Nat) := [[9123, 1011, 9124, 9125], [9135, 1011, 9136, 9137], [9140, 1011, 9141, 9142], [9156, 1011, 9157, 9158], [9161, 1011, 9162, 9163], [9169, 1011, 9170, 9171], [9173, 1011, 9174, 9175], [9177, 1011, 9178, 9179], [9181, 1011, 9182, 9183], [9186, 1011, 9187, 9188], [9191, 1011, 9192, 9193], [9195, 1011, 9196, 9197], [9199]]
set_option maxRecDepth 100000 in
theorem m_zk_0_6 : (m_le_0_6.zip m_ps_0_6).all (fun q => m_lc "MotherBenchLaw" q.1 q.2) = true := by decide +kernel
theorem m_zz_0 : ∀ e ∈ m_lk_0, m_lkOk "MotherBenchLaw" e.1 e.2 := by
  have h : m_lk_0 = m_le_0_0 ++ (m_le_0_1 ++ (m_le_0_2 ++ (m_le_0_3 ++ (m_le_0_4 ++ (m_le_0_5 ++ (m_le_0_6)))))) := rfl
  rw [h]
  exact List.forall_mem_append.mpr ⟨m_zip_ok rfl m_zk_0_0, List.forall_mem_append.mpr ⟨m_zip_ok rfl m_zk_0_1, List.forall_mem_append.mpr ⟨m_zip_ok rfl m_zk_0_2, List.forall_mem_append.mpr ⟨m_zip_ok rfl m_zk_0_3, List.forall_mem_append.mpr ⟨m_zip_ok rfl m_zk_0_4, List.forall_mem_append.mpr ⟨m_zip_ok rfl m_zk_0_5, m_zip_ok rfl m_zk_0_6⟩⟩⟩⟩⟩⟩
def m_le_1_0 : List (Nat × m_I) := [(3, (25, 0, 0, [])), (9, (21, 5, 0, [])), (11, (24, 1, 4, [0, 1, 5])), (99, (15, 1, 0, [])), (196, (15, 1, 1, [])), (360, (15, 1, 2, [])), (363, (15, 1, 3, [])), (203, (15, 1, 4, [])), (366, (15, 1, 5, [])), (160, (15, 1, 6, [])), (344, (15, 1, 7, [])), (112, (15, 1, 8, [])), (116, (15, 1, 9, [])), (119, (15, 1, 10, [])), (125, (15, 1, 11, [])), (128, (15, 1, 12, [])), (131, (15, 1, 13, [])), (83, (15, 5, 1, [])), (102, (15, 5, 2, [])), (105, (15, 5, 3, [])), (90, (15, 5, 4, [])), (16, (21, 1, 0, [])), (18, (24, 2, 4, [0, 1, 1])), (23, (21, 2, 0, [])), (25, (24, 3, 1, [1, 2, 2]))]
def m_ps_1_0 : List (List Nat) := [[1025], [1028], [1030, 1002, 1031], [1041], [1047], [1053], [1057], [1063], [1066], [1073], [1076], [1081], [1084], [1088], [1092], [1098], [1103], [1150], [1152], [1154], [1156], [1180], [1181, 1003, 1037], [1182], [1184, 1004, 1185]]
set_option maxRecDepth 100000 in
theorem m_zk_1_0 : (m_le_1_0.zip m_ps_1_0).all (fun q => m_lc "MotherBench" q.1 q.2) = true := by decide +kernel
def m_le_1_1 : List (Nat × m_I) := [(134, (15, 2, 13, [])), (221, (15, 2, 14, [])), (32, (21, 4, 0, [])), (34, (24, 4, 1, [1, 2, 4])), (39, (21, 8, 0, [])), (41, (24, 5, 1, [1, 2, 8])), (300, (15, 8, 3, [])), (46, (21, 6, 0, [])), (48, (24, 7, 4, [0, 1, 6])), (53, (21, 7, 0, [])), (55, (24, 8, 1, [2, 3, 7])), (260, (15, 7, 2, [])), (62, (21, 0, 0, [])), (64, (24, 9, 1, [1, 2, 0])), (331, (15, 0, 1, [])), (12, (15, 9, 0, [])), (19, (15, 9, 1, [])), (28, (15, 9, 2, [])), (35, (15, 9, 3, [])), (42, (15, 9, 4, [])), (58, (15, 9, 5, [])), (67, (15, 9, 6, [])), (49, (15, 9, 7, [])), (71, (15, 9, 8, [])), (370, (15, 9, 9, []))]
def m_ps_1_1 : List (List Nat) := [[1202], [1204], [2008], [2010, 1005, 2011], [2021], [2023, 1006, 2024], [2053], [2069], [2071, 1008, 2072], [2086], [2088, 1009, 2089], [2095], [2109], [2111, 1010, 2112], [2119], [2126], [2127], [2128], [2129], [2130], [2131], [2132], [2133], [2134], [2135]]
set_option maxRecDepth 100000 in
theorem m_zk_1_1 : (m_le_1_1.zip m_ps_1_1).all (fun q => m_lc "MotherBench" q.1 q.2) = true := by decide +kernel
def m_le_1_2 : List (Nat × m_I) := [(75, (24, 11, 0, [0, 1, 5])), (79, (24, 12, 0, [1, 3, 5])), (87, (24, 15, 0, [0, 2, 5])), (93, (24, 34, 0, [1, 2, 1])), (96, (24, 35, 0, [0, 1, 9])), (394, (24, 36, 0, [0, 3, 2])), (397, (24, 38, 0, [2, 9, 2])), (108, (24, 51, 0, [1, 2, 9])), (122, (24, 54, 0, [1, 2, 9])), (137, (24, 57, 0, [1, 2, 2])), (141, (24, 59, 0, [2, 3, 2])), (145, (24, 61, 0, [1, 2, 2])), (148, (24, 63, 0, [1, 2, 2])), (151, (24, 65, 0, [1, 4, 2])), (154, (24, 69, 0, [1, 5, 2])), (157, (24, 71, 0, [0, 1, 1])), (163, (24, 40, 0, [1, 2, 2])), (166, (24, 73, 0, [1, 2, 9])), (169, (24, 74, 0, [2, 3, 2])), (172, (24, 76, 0, [2, 3, 2])), (175, (24, 78, 0, [1, 4, 2])), (178, (24, 80, 0, [1, 3, 2])), (181, (24, 82, 0, [1, 4, 2])), (184, (24, 84, 0, [1, 4, 2])), (187, (24, 86, 0, [1, 4, 2]))]
def m_ps_1_2 : List (List Nat) := [[2161, 1002, 2162, 2163], [2165, 1002, 2166, 2167], [2177, 1002, 2178, 2179], [3071, 1003, 3072, 3073], [3078, 1001, 3080, 15], [3082, 1004, 3083, 3084], [3090, 1004, 3091, 3092], [3145, 1001, 3147, 21], [3157, 1001, 3159, 22], [3169, 1004, 3170, 3171], [3177, 1004, 3178, 3179], [3185, 1004, 3186, 3187], [3193, 1004, 3194, 3195], [3201, 1004, 3202, 3203], [3219, 1004, 3220, 3221], [3228, 1003, 3229, 3230], [3232, 1004, 3101, 3102], [3237, 1001, 3239, 24], [4001, 1004, 4002, 4003], [4009, 1004, 4010, 4011], [4017, 1004, 4018, 4019], [4025, 1004, 4026, 4027], [4033, 1004, 4034, 4035], [4041, 1004, 4042, 4043], [4049, 1004, 4050, 4051]]
set_option maxRecDepth 100000 in
theorem m_zk_1_2 : (m_le_1_2.zip m_ps_1_2).all (fun q => m_lc "MotherBench" q.1 q.2) = true := by decide +kernel
def m_le_1_3 : List (Nat × m_I) := [(190, (24, 88, 0, [1, 4, 2])), (193, (24, 89, 0, [2, 5, 2])), (199, (24, 94, 0, [0, 3, 2])), (206, (24, 101, 0, [1, 2, 9])), (209, (24, 102, 0, [1, 4, 2])), (212, (24, 106, 0, [2, 8, 2])), (215, (24, 111, 0, [1, 4, 2])), (218, (24, 39, 0, [0, 1, 1])), (224, (24, 114, 0, [0, 3, 4])), (227, (24, 117, 0, [2, 3, 4])), (230, (24, 119, 0, [1, 6, 4])), (233, (24, 120, 0, [2, 5, 4])), (236, (24, 123, 0, [1, 6, 4])), (239, (24, 126, 0, [1, 6, 4])), (242, (24, 129, 0, [1, 6, 8])), (245, (24, 67, 2, [1, 1, 99])), (250, (24, 133, 0, [1, 6, 8])), (253, (24, 135, 0, [1, 7, 8])), (257, (24, 137, 0, [2, 4, 9])), (275, (24, 138, 0, [1, 2, 6])), (278, (24, 139, 0, [1, 2, 9])), (380, (24, 140, 0, [1, 2, 6])), (403, (24, 141, 0, [1, 8, 7])), (400, (24, 144, 0, [2, 5, 7])), (263, (24, 147, 0, [0, 1, 7]))]
def m_ps_1_3 : List (List Nat) := [[4057, 1004, 4058, 4059], [4069, 1004, 4062, 4063], [4082, 1004, 4083, 4084], [4111, 1001, 4113, 25], [4115, 1004, 4116, 4117], [4131, 1004, 4132, 4133], [4151, 1004, 4152, 4153], [4159, 1003, 3097, 3098], [4164, 1005, 4165, 4166], [4178, 1005, 4179, 4180], [4187, 1005, 4188, 4189], [4197, 1005, 4192, 4193], [4206, 1005, 4207, 4208], [4218, 1005, 4219, 4220], [4230, 1006, 4231, 4232], [5003, 1019, 3210], [5012, 1006, 5013, 5014], [5020, 1006, 5021, 5022], [5030, 1001, 5032, 28], [5034, 1008, 5035, 5036], [5038, 1001, 5040, 29], [5042, 1008, 5043, 5044], [5046, 1009, 5047, 5048], [5061, 1009, 5062, 5063], [5076, 1009, 5077, 5078]]
set_option maxRecDepth 100000 in
theorem m_zk_1_3 : (m_le_1_3.zip m_ps_1_3).all (fun q => m_lc "MotherBench" q.1 q.2) = true := by decide +kernel
def m_le_1_4 : List (Nat × m_I) := [(266, (24, 149, 0, [0, 1, 7])), (269, (24, 151, 0, [0, 5, 7])), (272, (24, 152, 0, [1, 6, 7])), (281, (24, 155, 0, [1, 4, 7])), (284, (24, 157, 0, [1, 2, 8])), (287, (24, 159, 0, [0, 5, 8])), (290, (24, 130, 0, [0, 1, 8])), (293, (24, 161, 0, [1, 2, 8])), (296, (0, 0, (-1000000), [])), (297, (24, 163, 0, [1, 9, 8])), (304, (24, 168, 0, [1, 2, 3])), (310, (24, 170, 0, [2, 3, 9])), (314, (24, 171, 0, [2, 6, 8])), (317, (24, 175, 0, [1, 2, 9])), (320, (24, 172, 0, [4, 5, 8])), (324, (24, 173, 0, [2, 3, 8])), (327, (24, 177, 0, [2, 8, 0])), (332, (1, 0, (-2), [])), (334, (24, 181, 0, [0, 6, 0])), (337, (24, 183, 0, [3, 4, 1])), (341, (24, 185, 0, [0, 3, 2])), (347, (24, 189, 0, [1, 2, 0])), (350, (24, 190, 0, [1, 6, 0])), (353, (24, 191, 0, [1, 2, 0])), (356, (24, 193, 0, [3, 6, 0]))]
def m_ps_1_4 : List (List Nat) := [[5084, 1009, 5085, 5086], [5092, 1009, 5093, 5094], [5105, 1009, 5097, 5098], [5110, 1009, 5111, 5112], [5118, 1006, 5119, 5120], [5126, 1006, 5127, 5128], [5135, 1006, 4235, 4236], [5136, 1006, 5137, 5138], [5144], [5145, 1006, 5146, 5147], [5167, 1007, 5168, 5169], [5175, 1001, 5177, 32], [5179, 1006, 5180, 5181], [5195, 1001, 5197, 33], [5199, 1006, 5184, 5185], [5200, 1006, 5188, 5189], [5205, 1010, 5206, 5207], [5226], [5227, 1010, 5228, 5229], [5236, 1003, 5237, 5238], [6004, 1004, 6005, 6006], [6020, 1010, 6021, 6022], [6025, 1010, 6026, 6027], [6033, 1010, 6034, 6035], [6041, 1010, 6042, 6043]]
set_option maxRecDepth 100000 in
theorem m_zk_1_4 : (m_le_1_4.zip m_ps_1_4).all (fun q => m_lc "MotherBench" q.1 q.2) = true := by decide +kernel
def m_le_1_5 : List (Nat × m_I) := [(369, (24, 196, 0, [0, 3, 6])), (373, (24, 200, 0, [1, 2, 6])), (376, (24, 201, 0, [3, 5, 6])), (383, (24, 203, 0, [3, 5, 6])), (387, (24, 206, 0, [2, 3, 6])), (390, (24, 207, 0, [5, 6, 6]))]
def m_ps_1_5 : List (List Nat) := [[6055, 1008, 6056, 6057], [6072, 1008, 6073, 6074], [6076, 1008, 6077, 6078], [6084, 1008, 6085, 6086], [6096, 1008, 6097, 6098], [6100, 1008, 6101, 6102]]
set_option maxRecDepth 100000 in
theorem m_zk_1_5 : (m_le_1_5.zip m_ps_1_5).all (fun q => m_lc "MotherBench" q.1 q.2) = true := by decide +kernel
theorem m_zz_1 : ∀ e ∈ m_lk_1, m_lkOk "MotherBench" e.1 e.2 := by
  have h : m_lk_1 = m_le_1_0 ++ (m_le_1_1 ++ (m_le_1_2 ++ (m_le_1_3 ++ (m_le_1_4 ++ (m_le_1_5))))) := rfl
  rw [h]
  exact List.forall_mem_append.mpr ⟨m_zip_ok rfl m_zk_1_0, List.forall_mem_append.mpr ⟨m_zip_ok rfl m_zk_1_1, List.forall_mem_append.mpr ⟨m_zip_ok rfl m_zk_1_2, List.forall_mem_append.mpr ⟨m_zip_ok rfl m_zk_1_3, List.forall_mem_append.mpr ⟨m_zip_ok rfl m_zk_1_4, m_zip_ok rfl m_zk_1_5⟩⟩⟩⟩⟩
def m_le_2_0 : List (Nat × m_I) := [(3, (25, 0, 0, [])), (19, (21, 1, 0, [])), (21, (24, 2, 4, [0, 1, 1])), (47, (15, 1, 0, [])), (91, (15, 1, 1, [])), (95, (15, 1, 2, [])), (99, (15, 1, 3, [])), (101, (15, 1, 4, [])), (113, (15, 1, 5, [])), (118, (15, 1, 6, [])), (106, (15, 1, 8, [])), (111, (15, 1, 9, [])), (116, (15, 1, 10, [])), (123, (15, 1, 11, [])), (127, (15, 1, 12, [])), (131, (15, 1, 13, [])), (11, (15, 5, 0, [])), (26, (15, 5, 1, [])), (32, (15, 5, 2, [])), (15, (15, 5, 3, [])), (22, (15, 5, 4, [])), (41, (15, 5, 5, [])), (72, (15, 5, 6, [])), (35, (15, 5, 7, [])), (133, (15, 5, 8, []))]
def m_ps_2_0 : List (List Nat) := [[1033], [1034], [1036, 1003, 1037], [1042], [1046], [1050], [1056], [1061], [1065], [1072], [1082], [1085], [1090], [1093], [1099], [1104], [1148], [1149], [1151], [1153], [1155], [1157], [1158], [1159], [1160]]
set_option maxRecDepth 100000 in
theorem m_zk_2_0 : (m_le_2_0.zip m_ps_2_0).all (fun q => m_lc "MotherBench$Reader" q.1 q.2) = true := by decide +kernel
def m_le_2_1 : List (Nat × m_I) := [(29, (24, 16, 0, [0, 1, 1])), (38, (24, 18, 0, [0, 1, 5])), (146, (24, 19, 0, [1, 2, 5])), (150, (24, 20, 0, [1, 2, 5])), (153, (24, 21, 0, [0, 1, 5])), (156, (24, 22, 0, [1, 2, 5])), (159, (24, 23, 0, [0, 1, 5])), (44, (24, 25, 0, [0, 1, 5])), (50, (24, 26, 0, [0, 1, 5])), (81, (24, 27, 0, [1, 2, 5])), (55, (24, 28, 0, [1, 3, 5])), (75, (24, 29, 0, [2, 3, 5])), (87, (24, 30, 0, [2, 4, 5])), (59, (24, 31, 0, [0, 3, 5])), (64, (24, 32, 0, [0, 4, 5])), (69, (24, 33, 0, [0, 2, 5]))]
def m_ps_2_1 : List (List Nat) := [[2181, 1003, 2182, 2183], [2188, 1002, 2190, 0], [2192, 1002, 2194, 1], [2196, 1002, 2198, 2], [2200, 1002, 2202, 3], [2204, 1002, 2206, 4], [2208, 1002, 2210, 5], [2215, 1002, 2217, 6], [2219, 1002, 2221, 7], [2224, 1002, 2226, 8], [2228, 1002, 2230, 9], [3040, 1002, 3042, 10], [3045, 1002, 3047, 11], [3052, 1002, 3054, 12], [3059, 1002, 3061, 13], [3064, 1002, 3066, 14]]
set_option maxRecDepth 100000 in
theorem m_zk_2_1 : (m_le_2_1.zip m_ps_2_1).all (fun q => m_lc "MotherBench$Reader" q.1 q.2) = true := by decide +kernel
theorem m_zz_2 : ∀ e ∈ m_lk_2, m_lkOk "MotherBench$Reader" e.1 e.2 := by
  have h : m_lk_2 = m_le_2_0 ++ (m_le_2_1) := rfl
  rw [h]
  exact List.forall_mem_append.mpr ⟨m_zip_ok rfl m_zk_2_0, m_zip_ok rfl m_zk_2_1⟩
def m_le_3_0 : List (Nat × m_I) := [(3, (25, 0, 0, [])), (39, (15, 1, 0, [])), (43, (15, 1, 1, [])), (46, (15, 1, 2, [])), (49, (15, 1, 3, [])), (52, (15, 1, 4, [])), (55, (15, 1, 5, [])), (58, (15, 1, 6, [])), (61, (15, 1, 7, [])), (9, (15, 1, 8, [])), (15, (15, 1, 9, [])), (18, (15, 1, 10, [])), (21, (15, 1, 11, [])), (24, (15, 1, 12, [])), (27, (15, 1, 13, [])), (30, (15, 1, 14, [])), (33, (15, 1, 15, [])), (36, (15, 1, 16, [])), (64, (24, 17, 2, [2, 4, 99])), (70, (26, 0, 0, []))]
def m_ps_3_0 : List (List Nat) := [[1039], [1040], [1044], [1048], [1054], [1058], [1064], [1070], [1075], [1077], [1083], [1086], [1091], [1095], [1100], [1105], [1107], [1109], [2185, 1012, 2186], [3075]]
set_option maxRecDepth 100000 in
theorem m_zk_3_0 : (m_le_3_0.zip m_ps_3_0).all (fun q => m_lc "MotherBench$Circuit" q.1 q.2) = true := by decide +kernel
theorem m_zz_3 : ∀ e ∈ m_lk_3, m_lkOk "MotherBench$Circuit" e.1 e.2 := by
  have h : m_lk_3 = m_le_3_0 := rfl
  rw [h]
  exact m_zip_ok rfl m_zk_3_0
def m_le_4_0 : List (Nat × m_I) := [(68, (15, 1, 1, [])), (156, (15, 1, 2, [])), (134, (15, 1, 4, [])), (73, (15, 1, 6, [])), (83, (15, 1, 7, [])), (104, (15, 1, 8, [])), (131, (15, 1, 10, [])), (164, (15, 1, 12, [])), (76, (15, 1, 13, [])), (89, (15, 1, 14, [])), (92, (15, 1, 15, [])), (86, (15, 1, 16, [])), (3, (25, 0, 0, [])), (60, (15, 2, 0, [])), (64, (15, 2, 1, [])), (9, (15, 2, 2, [])), (15, (15, 2, 3, [])), (18, (15, 2, 4, [])), (21, (15, 2, 5, [])), (95, (15, 2, 6, [])), (24, (15, 2, 7, [])), (27, (15, 2, 8, [])), (30, (15, 2, 9, [])), (33, (15, 2, 10, [])), (36, (15, 2, 11, []))]
def m_ps_4_0 : List (List Nat) := [[1043], [1051], [1059], [1068], [1074], [1080], [1087], [1097], [1101], [1106], [1108], [1110], [1187], [1188], [1189], [1190], [1191], [1192], [1193], [1194], [1195], [1196], [1197], [1198], [1199]]
set_option maxRecDepth 100000 in
theorem m_zk_4_0 : (m_le_4_0.zip m_ps_4_0).all (fun q => m_lc "MotherBench$Court" q.1 q.2) = true := by decide +kernel
def m_le_4_1 : List (Nat × m_I) := [(39, (15, 2, 12, [])), (42, (15, 2, 13, [])), (45, (15, 2, 14, [])), (48, (15, 2, 15, [])), (51, (15, 2, 16, [])), (54, (15, 2, 17, [])), (57, (15, 2, 18, [])), (79, (24, 37, 0, [3, 4, 2])), (98, (24, 17, 2, [2, 4, 99])), (107, (26, 0, 0, [])), (113, (24, 39, 0, [0, 1, 1])), (117, (24, 40, 0, [1, 2, 2])), (121, (24, 41, 0, [1, 6, 2])), (128, (24, 42, 0, [1, 4, 2])), (125, (24, 43, 0, [3, 9, 2])), (137, (24, 44, 0, [3, 6, 1])), (141, (24, 46, 5, [3, 3, 9])), (144, (24, 47, 0, [3, 4, 2])), (159, (24, 48, 2, [2, 2, 99])), (167, (24, 66, 0, [2, 5, 2])), (176, (24, 67, 2, [1, 1, 99])), (170, (24, 59, 0, [2, 3, 2])), (179, (24, 89, 0, [2, 5, 2])), (173, (24, 61, 0, [1, 2, 2]))]
def m_ps_4_1 : List (List Nat) := [[1200], [1201], [1203], [1205], [1206], [1207], [1208], [3086, 1004, 3088, 16], [3094, 1012, 2186], [3095], [3096, 1003, 3097, 3098], [3100, 1004, 3101, 3102], [3104, 1004, 3106, 17], [3108, 1004, 3110, 18], [3112, 1004, 3114, 19], [3116, 1003, 3117, 3118], [3123, 1001, 3124], [3128, 1004, 3130, 20], [3132, 1019, 3133], [3205, 1004, 3207, 23], [3209, 1019, 3210], [3223, 1004, 3178, 3179], [4061, 1004, 4062, 4063], [4086, 1004, 3186, 3187]]
set_option maxRecDepth 100000 in
theorem m_zk_4_1 : (m_le_4_1.zip m_ps_4_1).all (fun q => m_lc "MotherBench$Court" q.1 q.2) = true := by decide +kernel
theorem m_zz_4 : ∀ e ∈ m_lk_4, m_lkOk "MotherBench$Court" e.1 e.2 := by
  have h : m_lk_4 = m_le_4_0 ++ (m_le_4_1) := rfl
  rw [h]
  exact List.forall_mem_append.mpr ⟨m_zip_ok rfl m_zk_4_0, m_zip_ok rfl m_zk_4_1⟩
def m_le_5_0 : List (Nat × m_I) := [(69, (15, 1, 1, [])), (89, (15, 1, 2, [])), (95, (15, 1, 4, [])), (76, (15, 1, 6, [])), (111, (15, 1, 11, [])), (53, (15, 1, 12, [])), (73, (15, 1, 13, [])), (3, (25, 0, 0, [])), (15, (21, 1, 0, [])), (17, (24, 2, 4, [0, 1, 1])), (21, (21, 2, 0, [])), (23, (24, 3, 1, [1, 2, 2])), (30, (21, 3, 0, [])), (32, (24, 6, 4, [0, 1, 3])), (9, (15, 8, 0, [])), (18, (15, 8, 1, [])), (26, (15, 8, 2, [])), (33, (15, 8, 3, [])), (37, (15, 8, 4, [])), (41, (15, 8, 5, [])), (50, (24, 130, 0, [0, 1, 8])), (44, (24, 34, 0, [1, 2, 1])), (47, (24, 36, 0, [0, 3, 2])), (56, (24, 38, 0, [2, 9, 2])), (60, (24, 61, 0, [1, 2, 2]))]
def m_ps_5_0 : List (List Nat) := [[1045], [1049], [1062], [1071], [1094], [1096], [1102], [2026], [2027], [2028, 1003, 1037], [2029], [2030, 1004, 1185], [2031], [2033, 1007, 2034], [2044], [2047], [2049], [2052], [2054], [2055], [4234, 1006, 4235, 4236], [4238, 1003, 3072, 3073], [4239, 1004, 3083, 3084], [5000, 1004, 3091, 3092], [5001, 1004, 3186, 3187]]
set_option maxRecDepth 100000 in
theorem m_zk_5_0 : (m_le_5_0.zip m_ps_5_0).all (fun q => m_lc "MotherBench$Trial" q.1 q.2) = true := by decide +kernel
def m_le_5_1 : List (Nat × m_I) := [(64, (24, 67, 2, [1, 1, 99])), (79, (24, 94, 0, [0, 3, 2])), (92, (24, 157, 0, [1, 2, 8])), (98, (24, 39, 0, [0, 1, 1])), (104, (24, 161, 0, [1, 2, 8])), (107, (24, 164, 0, [2, 7, 3])), (114, (24, 172, 0, [4, 5, 8])), (118, (24, 173, 0, [2, 3, 8]))]
def m_ps_5_1 : List (List Nat) := [[5002, 1019, 3210], [5024, 1004, 4083, 4084], [5130, 1006, 5119, 5120], [5149, 1003, 3097, 3098], [5152, 1006, 5137, 5138], [5153, 1007, 5154, 5155], [5183, 1006, 5184, 5185], [5187, 1006, 5188, 5189]]
set_option maxRecDepth 100000 in
theorem m_zk_5_1 : (m_le_5_1.zip m_ps_5_1).all (fun q => m_lc "MotherBench$Trial" q.1 q.2) = true := by decide +kernel
theorem m_zz_5 : ∀ e ∈ m_lk_5, m_lkOk "MotherBench$Trial" e.1 e.2 := by
  have h : m_lk_5 = m_le_5_0 ++ (m_le_5_1) := rfl
  rw [h]
  exact List.forall_mem_append.mpr ⟨m_zip_ok rfl m_zk_5_0, m_zip_ok rfl m_zk_5_1⟩
def m_le_6_0 : List (Nat × m_I) := [(90, (15, 1, 2, [])), (42, (15, 1, 6, [])), (61, (15, 1, 8, [])), (36, (15, 8, 0, [])), (58, (15, 8, 1, [])), (64, (15, 8, 2, [])), (3, (25, 0, 0, [])), (18, (15, 7, 0, [])), (22, (15, 7, 1, [])), (55, (15, 7, 2, [])), (9, (15, 7, 3, [])), (15, (15, 7, 4, [])), (26, (24, 142, 0, [1, 2, 6])), (32, (24, 143, 0, [2, 3, 6])), (48, (1, 0, (-1), [])), (50, (1, 0, 200, [])), (52, (24, 130, 0, [0, 1, 8])), (68, (24, 38, 0, [2, 9, 2])), (74, (24, 145, 0, [1, 4, 7])), (78, (24, 61, 0, [1, 2, 2])), (81, (24, 152, 0, [1, 6, 7]))]
def m_ps_6_0 : List (List Nat) := [[1052], [1069], [1079], [2046], [2048], [2051], [2091], [2092], [2093], [2094], [2096], [2097], [5050, 1008, 5051, 5052], [5055, 1008, 5056, 5057], [5059], [5060], [5065, 1006, 4235, 4236], [5066, 1004, 3091, 3092], [5067, 1009, 5069, 30], [5071, 1004, 3186, 3187], [5096, 1009, 5097, 5098]]
set_option maxRecDepth 100000 in
theorem m_zk_6_0 : (m_le_6_0.zip m_ps_6_0).all (fun q => m_lc "MotherBench$Seen" q.1 q.2) = true := by decide +kernel
theorem m_zz_6 : ∀ e ∈ m_lk_6, m_lkOk "MotherBench$Seen" e.1 e.2 := by
  have h : m_lk_6 = m_le_6_0 := rfl
  rw [h]
  exact m_zip_ok rfl m_zk_6_0
def m_le_7_0 : List (Nat × m_I) := [(67, (15, 1, 3, [])), (31, (15, 1, 6, [])), (27, (15, 8, 0, [])), (41, (15, 8, 2, [])), (3, (25, 0, 0, [])), (15, (21, 3, 0, [])), (17, (24, 6, 4, [0, 1, 3])), (9, (15, 0, 0, [])), (18, (15, 0, 1, [])), (22, (24, 130, 0, [0, 1, 8])), (37, (24, 178, 0, [1, 5, 0])), (45, (24, 38, 0, [2, 9, 2])), (51, (24, 61, 0, [1, 2, 2])), (55, (24, 179, 0, [0, 4, 0])), (70, (1, 0, 10, [])), (59, (24, 164, 0, [2, 7, 3])), (63, (24, 94, 0, [0, 3, 2])), (72, (0, 0, 2000000000, [])), (73, (1, 0, 1103515245, [])), (75, (1, 0, 12345, [])), (77, (1, 0, 2147483648, [])), (79, (1, 0, 65536, [])), (81, (24, 190, 0, [1, 6, 0])), (84, (24, 40, 0, [1, 2, 2]))]
def m_ps_7_0 : List (List Nat) := [[1055], [1067], [2045], [2050], [2114], [2115], [2116, 1007, 2034], [2117], [2118], [5209, 1006, 4235, 4236], [5210, 1010, 5212, 34], [5214, 1004, 3091, 3092], [5215, 1004, 3186, 3187], [5216, 1010, 5218, 35], [5220], [5221, 1007, 5154, 5155], [5231, 1004, 4083, 4084], [6024], [6029], [6030], [6031], [6032], [6045, 1010, 6026, 6027], [6046, 1004, 3101, 3102]]
set_option maxRecDepth 100000 in
theorem m_zk_7_0 : (m_le_7_0.zip m_ps_7_0).all (fun q => m_lc "MotherBench$Chances" q.1 q.2) = true := by decide +kernel
theorem m_zz_7 : ∀ e ∈ m_lk_7, m_lkOk "MotherBench$Chances" e.1 e.2 := by
  have h : m_lk_7 = m_le_7_0 := rfl
  rw [h]
  exact m_zip_ok rfl m_zk_7_0
def m_le_8_0 : List (Nat × m_I) := [(40, (15, 1, 4, [])), (29, (15, 1, 8, [])), (53, (15, 1, 10, [])), (3, (25, 0, 0, [])), (15, (15, 4, 0, [])), (9, (15, 4, 1, [])), (19, (24, 39, 0, [0, 1, 1])), (25, (24, 115, 0, [1, 3, 4])), (47, (24, 67, 2, [1, 1, 99])), (32, (24, 44, 0, [3, 6, 1])), (36, (24, 120, 0, [2, 5, 4])), (56, (24, 117, 0, [2, 3, 4])), (59, (24, 46, 5, [3, 3, 9])), (44, (24, 127, 0, [2, 6, 4]))]
def m_ps_8_0 : List (List Nat) := [[1060], [1078], [1089], [2013], [2014], [2015], [4168, 1003, 3097, 3098], [4169, 1005, 4171, 26], [4173, 1019, 3210], [4182, 1003, 3117, 3118], [4191, 1005, 4192, 4193], [4195, 1005, 4179, 4180], [4196, 1001, 3124], [4222, 1005, 4224, 27]]
set_option maxRecDepth 100000 in
theorem m_zk_8_0 : (m_le_8_0.zip m_ps_8_0).all (fun q => m_lc "MotherBench$Panels" q.1 q.2) = true := by decide +kernel
theorem m_zz_8 : ∀ e ∈ m_lk_8, m_lkOk "MotherBench$Panels" e.1 e.2 := by
  have h : m_lk_8 = m_le_8_0 := rfl
  rw [h]
  exact m_zip_ok rfl m_zk_8_0
def m_le_9_0 : List (Nat × m_I) := [(1, (25, 0, 0, [])), (26, (15, 3, 0, [])), (7, (15, 3, 1, [])), (19, (24, 166, 0, [2, 12, 3]))]
def m_ps_9_0 : List (List Nat) := [[2036], [2037], [2038], [5160, 1007, 5162, 31]]
set_option maxRecDepth 100000 in
theorem m_zk_9_0 : (m_le_9_0.zip m_ps_9_0).all (fun q => m_lc "MotherBench$Fraction" q.1 q.2) = true := by decide +kernel
theorem m_zz_9 : ∀ e ∈ m_lk_9, m_lkOk "MotherBench$Fraction" e.1 e.2 := by
  have h : m_lk_9 = m_le_9_0 := rfl
  rw [h]
  exact m_zip_ok rfl m_zk_9_0
def m_le_10_0 : List (Nat × m_I) := [(3, (25, 0, 0, [])), (11, (15, 6, 0, [])), (15, (15, 6, 1, [])), (19, (15, 6, 2, [])), (22, (24, 140, 0, [1, 2, 6])), (32, (24, 204, 0, [2, 4, 6])), (36, (24, 208, 0, [3, 4, 6])), (40, (26, 0, 0, []))]
def m_ps_10_0 : List (List Nat) := [[2074], [2075], [2076], [2077], [6059, 1008, 5043, 5044], [6088, 1008, 6090, 36], [6104, 1008, 6106, 37], [6108]]
set_option maxRecDepth 100000 in
theorem m_zk_10_0 : (m_le_10_0.zip m_ps_10_0).all (fun q => m_lc "MotherBench$Rows" q.1 q.2) = true := by decide +kernel
theorem m_zz_10 : ∀ e ∈ m_lk_10, m_lkOk "MotherBench$Rows" e.1 e.2 := by
  have h : m_lk_10 = m_le_10_0 := rfl
  rw [h]
  exact m_zip_ok rfl m_zk_10_0
def m_le_11_0 : List (Nat × m_I) := [(265, (0, 0, 1431655765, [])), (266, (0, 0, 858993459, [])), (267, (0, 0, 252645135, []))]
def m_ps_11_0 : List (List Nat) := [[3212], [3213], [3214]]
set_option maxRecDepth 100000 in
theorem m_zk_11_0 : (m_le_11_0.zip m_ps_11_0).all (fun q => m_lc "java/lang/Integer" q.1 q.2) = true := by decide +kernel
theorem m_zz_11 : ∀ e ∈ m_lk_11, m_lkOk "java/lang/Integer" e.1 e.2 := by
  have h : m_lk_11 = m_le_11_0 := rfl
  rw [h]
  exact m_zip_ok rfl m_zk_11_0
def m_le_12_0 : List (Nat × m_I) := [(1, (25, 0, 0, [])), (92, (15, 10, 0, [])), (7, (15, 10, 1, [])), (13, (15, 10, 2, [])), (16, (15, 10, 3, [])), (20, (15, 10, 4, [])), (23, (15, 10, 5, [])), (109, (15, 10, 6, [])), (116, (15, 10, 7, [])), (133, (15, 10, 8, [])), (123, (15, 10, 9, [])), (126, (15, 10, 10, [])), (129, (15, 10, 11, [])), (144, (15, 10, 12, [])), (147, (15, 10, 13, [])), (171, (15, 10, 14, [])), (27, (15, 10, 15, [])), (31, (15, 10, 16, [])), (34, (15, 10, 17, [])), (37, (15, 10, 18, [])), (40, (15, 10, 19, [])), (43, (15, 10, 20, [])), (46, (15, 10, 21, [])), (49, (15, 10, 22, [])), (268, (15, 10, 23, []))]
def m_ps_12_0 : List (List Nat) := [[6114], [6115], [6116], [6117], [6118], [6119], [6120], [6121], [6122], [6123], [6124], [6125], [6126], [6127], [6128], [6129], [6130], [6131], [6132], [6133], [6134], [6135], [6136], [6137], [6138]]
set_option maxRecDepth 100000 in
theorem m_zk_12_0 : (m_le_12_0.zip m_ps_12_0).all (fun q => m_lc "MotherBenchModel" q.1 q.2) = true := by decide +kernel
def m_le_12_1 : List (Nat × m_I) := [(271, (15, 10, 24, [])), (274, (15, 10, 25, [])), (53, (15, 10, 26, [])), (56, (15, 10, 27, [])), (59, (15, 10, 28, [])), (62, (15, 10, 29, [])), (292, (15, 10, 30, [])), (65, (15, 10, 31, [])), (68, (15, 10, 32, [])), (71, (15, 10, 33, [])), (74, (15, 10, 34, [])), (77, (15, 10, 35, [])), (80, (15, 10, 36, [])), (83, (15, 10, 37, [])), (86, (15, 10, 38, [])), (397, (15, 10, 39, [])), (403, (15, 10, 40, [])), (391, (15, 10, 41, [])), (89, (15, 10, 42, [])), (101, (24, 211, 2, [1, 1, 10])), (95, (1, 0, 3, [])), (97, (24, 212, 2, [3, 6, 10])), (105, (24, 214, 2, [2, 3, 10])), (112, (24, 217, 0, [1, 3, 10])), (218, (24, 221, 0, [0, 2, 10]))]
def m_ps_12_1 : List (List Nat) := [[6139], [6140], [6141], [6142], [6143], [6144], [6145], [6146], [6147], [6148], [6149], [6150], [6151], [6152], [6153], [6154], [6155], [6156], [6157], [7010, 1011, 7011], [7013], [7014, 1011, 7015], [7021, 1011, 7022], [7032, 1011, 7034, 38], [7048, 1011, 7050, 39]]
set_option maxRecDepth 100000 in
theorem m_zk_12_1 : (m_le_12_1.zip m_ps_12_1).all (fun q => m_lc "MotherBenchModel" q.1 q.2) = true := by decide +kernel
def m_le_12_2 : List (Nat × m_I) := [(185, (24, 222, 0, [2, 3, 10])), (221, (24, 223, 0, [0, 1, 10])), (154, (24, 224, 0, [0, 2, 10])), (119, (24, 225, 0, [3, 4, 10])), (136, (1, 0, (-1), [])), (138, (1, 0, 27, [])), (140, (1, 0, 96, [])), (142, (0, 0, 100000, [])), (143, (0, 0, 1000000, [])), (224, (24, 226, 0, [0, 1, 10])), (228, (1, 0, 1301042189, [])), (163, (24, 227, 0, [1, 3, 10])), (157, (24, 228, 0, [1, 3, 10])), (150, (24, 229, 0, [1, 3, 10])), (160, (24, 230, 0, [1, 2, 10])), (230, (1, 0, 80155, [])), (180, (24, 231, 0, [3, 5, 10])), (167, (24, 232, 0, [2, 4, 10])), (232, (1, 0, 8798, [])), (234, (1, 0, 298288, [])), (236, (24, 233, 0, [0, 1, 10])), (199, (1, 0, 194907051, [])), (201, (24, 234, 0, [3, 4, 10])), (174, (24, 235, 0, [1, 2, 10])), (205, (24, 236, 0, [0, 3, 10]))]
def m_ps_12_2 : List (List Nat) := [[7052, 1011, 7054, 40], [7056, 1011, 7058, 41], [7060, 1011, 7062, 42], [7064, 1011, 7066, 43], [7068], [7069], [7070], [7071], [7072], [7073, 1011, 7075, 44], [7077], [7078, 1011, 7080, 45], [7082, 1011, 7084, 46], [7086, 1011, 7088, 47], [7090, 1011, 7092, 48], [7094], [7095, 1011, 7097, 49], [7099, 1011, 7101, 50], [7103], [7104], [7105, 1011, 7107, 51], [7109], [7110, 1011, 7112, 52], [7114, 1011, 7116, 53], [7118, 1011, 7120, 54]]
set_option maxRecDepth 100000 in
theorem m_zk_12_2 : (m_le_12_2.zip m_ps_12_2).all (fun q => m_lc "MotherBenchModel" q.1 q.2) = true := by decide +kernel
def m_le_12_3 : List (Nat × m_I) := [(178, (1, 0, 283619009, [])), (183, (1, 0, 454132, [])), (208, (1, 0, 8276, [])), (210, (24, 237, 0, [0, 2, 10])), (189, (24, 238, 0, [2, 6, 10])), (213, (1, 0, 1629833, [])), (215, (24, 239, 0, [0, 2, 10])), (193, (1, 0, 332864551, [])), (195, (1, 0, 10280026, [])), (197, (1, 0, 47, [])), (239, (24, 240, 0, [0, 1, 10])), (242, (24, 241, 0, [0, 1, 10])), (245, (24, 242, 0, [2, 3, 10])), (248, (24, 243, 2, [4, 5, 10])), (325, (24, 245, 0, [1, 2, 10])), (252, (24, 246, 0, [0, 1, 10])), (328, (1, 0, 4, [])), (280, (24, 248, 0, [1, 4, 10])), (265, (24, 250, 0, [1, 3, 10])), (256, (24, 251, 0, [0, 1, 10])), (330, (1, 0, 2, [])), (332, (24, 253, 0, [0, 1, 10])), (313, (24, 254, 0, [0, 2, 10])), (316, (24, 255, 0, [0, 5, 10])), (262, (24, 256, 0, [0, 1, 10]))]
def m_ps_12_3 : List (List Nat) := [[7122], [7123], [7124], [7125, 1011, 7127, 55], [7129, 1011, 7131, 56], [7133], [7134, 1011, 7136, 57], [7138], [7139], [7140], [7141, 1011, 7143, 58], [7145, 1011, 7147, 59], [7149, 1011, 7151, 60], [7153, 1011, 7154], [7160, 1011, 7162, 61], [7164, 1011, 7166, 62], [7168], [7173, 1011, 7175, 63], [7181, 1011, 7183, 64], [7185, 1011, 7187, 65], [7189], [7194, 1011, 7196, 66], [7198, 1011, 7200, 67], [7202, 1011, 7204, 68], [7206, 1011, 7208, 69]]
set_option maxRecDepth 100000 in
theorem m_zk_12_3 : (m_le_12_3.zip m_ps_12_3).all (fun q => m_lc "MotherBenchModel" q.1 q.2) = true := by decide +kernel
def m_le_12_4 : List (Nat × m_I) := [(306, (24, 257, 0, [1, 4, 10])), (277, (24, 258, 2, [2, 2, 10])), (309, (24, 259, 0, [3, 8, 10])), (289, (24, 260, 0, [1, 7, 10])), (295, (24, 261, 0, [4, 7, 10])), (283, (24, 262, 2, [2, 2, 10])), (299, (24, 263, 2, [3, 3, 10])), (286, (24, 264, 2, [2, 2, 10])), (303, (24, 265, 0, [2, 7, 10])), (335, (24, 267, 0, [3, 4, 10])), (319, (24, 268, 0, [1, 2, 10])), (338, (24, 274, 0, [1, 3, 10])), (259, (24, 276, 0, [0, 1, 10])), (341, (24, 278, 0, [1, 2, 10])), (344, (24, 281, 0, [2, 3, 10])), (347, (24, 284, 0, [2, 5, 10])), (353, (24, 288, 0, [1, 4, 10])), (350, (24, 289, 0, [2, 5, 10])), (356, (24, 294, 0, [0, 3, 10])), (322, (24, 295, 0, [1, 2, 10])), (359, (24, 298, 0, [2, 5, 10])), (362, (24, 303, 0, [1, 2, 10])), (365, (24, 307, 0, [2, 7, 10])), (371, (24, 314, 0, [1, 3, 10])), (368, (24, 315, 2, [1, 3, 10]))]
def m_ps_12_4 : List (List Nat) := [[7210, 1011, 7212, 70], [7214, 1011, 7215], [7217, 1011, 7219, 71], [7221, 1011, 7223, 72], [7225, 1011, 7227, 73], [7229, 1011, 7230], [7232, 1011, 7233], [7235, 1011, 7236], [7238, 1011, 8000, 74], [8006, 1011, 8008, 75], [8010, 1011, 8012, 76], [8034, 1011, 8036, 77], [8042, 1011, 8044, 78], [8050, 1011, 8052, 79], [8062, 1011, 8064, 80], [8074, 1011, 8076, 81], [8090, 1011, 8092, 82], [8094, 1011, 8096, 83], [8114, 1011, 8116, 84], [8118, 1011, 8120, 85], [8130, 1011, 8132, 86], [8150, 1011, 8152, 87], [8166, 1011, 8168, 88], [8194, 1011, 8196, 89], [8198, 1011, 8199]]
set_option maxRecDepth 100000 in
theorem m_zk_12_4 : (m_le_12_4.zip m_ps_12_4).all (fun q => m_lc "MotherBenchModel" q.1 q.2) = true := by decide +kernel
def m_le_12_5 : List (Nat × m_I) := [(374, (24, 317, 0, [2, 3, 10])), (383, (24, 319, 0, [2, 4, 10])), (380, (24, 320, 0, [2, 5, 10])), (377, (24, 321, 0, [2, 5, 10])), (386, (24, 327, 0, [1, 6, 10])), (412, (24, 332, 0, [2, 5, 10])), (389, (1, 0, 200, [])), (416, (24, 333, 0, [2, 5, 10])), (394, (24, 334, 0, [1, 3, 10])), (400, (24, 335, 0, [0, 3, 10])), (409, (24, 336, 0, [1, 2, 10])), (406, (24, 337, 0, [1, 6, 10])), (419, (24, 343, 0, [1, 2, 10])), (422, (24, 347, 0, [1, 2, 10])), (432, (24, 349, 2, [1, 1, 10])), (435, (0, 0, (-1000000), [])), (425, (24, 350, 2, [1, 1, 10])), (436, (24, 351, 2, [3, 5, 10])), (428, (24, 352, 2, [2, 4, 10])), (440, (24, 354, 0, [2, 3, 10])), (443, (24, 355, 0, [5, 6, 10])), (452, (24, 358, 0, [2, 8, 10])), (450, (1, 0, 10, [])), (447, (24, 359, 2, [2, 3, 10])), (456, (1, 0, (-2), []))]
def m_ps_12_5 : List (List Nat) := [[8205, 1011, 8207, 90], [8213, 1011, 8215, 91], [8217, 1011, 8219, 92], [8221, 1011, 8223, 93], [9005, 1011, 9007, 94], [9025, 1011, 9027, 95], [9029], [9030, 1011, 9032, 96], [9034, 1011, 9036, 97], [9038, 1011, 9040, 98], [9042, 1011, 9044, 99], [9046, 1011, 9048, 100], [9070, 1011, 9072, 101], [9086, 1011, 9088, 102], [9094, 1011, 9095], [9097], [9098, 1011, 9099], [9101, 1011, 9102], [9104, 1011, 9105], [9111, 1011, 9113, 103], [9115, 1011, 9117, 104], [9127, 1011, 9129, 105], [9131], [9132, 1011, 9133], [9139]]
set_option maxRecDepth 100000 in
theorem m_zk_12_5 : (m_le_12_5.zip m_ps_12_5).all (fun q => m_lc "MotherBenchModel" q.1 q.2) = true := by decide +kernel
def m_le_12_6 : List (Nat × m_I) := [(468, (24, 362, 2, [1, 1, 10])), (466, (1, 0, 2000000000, [])), (471, (24, 363, 0, [1, 7, 10])), (458, (1, 0, 1103515245, [])), (460, (1, 0, 12345, [])), (462, (1, 0, 2147483648, [])), (464, (1, 0, 65536, [])), (475, (1, 0, 20, [])), (477, (24, 366, 0, [3, 5, 10])), (480, (1, 0, 15, [])), (482, (1, 0, 6, []))]
def m_ps_12_6 : List (List Nat) := [[9144, 1011, 9145], [9147], [9148, 1011, 9150, 106], [9152], [9153], [9154], [9155], [9160], [9165, 1011, 9167, 107], [9185], [9190]]
set_option maxRecDepth 100000 in
theorem m_zk_12_6 : (m_le_12_6.zip m_ps_12_6).all (fun q => m_lc "MotherBenchModel" q.1 q.2) = true := by decide +kernel
theorem m_zz_12 : ∀ e ∈ m_lk_12, m_lkOk "MotherBenchModel" e.1 e.2 := by
  have h : m_lk_12 = m_le_12_0 ++ (m_le_12_1 ++ (m_le_12_2 ++ (m_le_12_3 ++ (m_le_12_4 ++ (m_le_12_5 ++ (m_le_12_6)))))) := rfl
  rw [h]
  exact List.forall_mem_append.mpr ⟨m_zip_ok rfl m_zk_12_0, List.forall_mem_append.mpr ⟨m_zip_ok rfl m_zk_12_1, List.forall_mem_append.mpr ⟨m_zip_ok rfl m_zk_12_2, List.forall_mem_append.mpr ⟨m_zip_ok rfl m_zk_12_3, List.forall_mem_append.mpr ⟨m_zip_ok rfl m_zk_12_4, List.forall_mem_append.mpr ⟨m_zip_ok rfl m_zk_12_5, m_zip_ok rfl m_zk_12_6⟩⟩⟩⟩⟩⟩
theorem m_lko_ok : ∀ q ∈ m_lko, ∀ e ∈ q.2, m_lkOk q.1 e.1 e.2 := List.forall_mem_cons.mpr ⟨m_zz_0, List.forall_mem_cons.mpr ⟨m_zz_1, List.forall_mem_cons.mpr ⟨m_zz_2, List.forall_mem_cons.mpr ⟨m_zz_3, List.forall_mem_cons.mpr ⟨m_zz_4, List.forall_mem_cons.mpr ⟨m_zz_5, List.forall_mem_cons.mpr ⟨m_zz_6, List.forall_mem_cons.mpr ⟨m_zz_7, List.forall_mem_cons.mpr ⟨m_zz_8, List.forall_mem_cons.mpr ⟨m_zz_9, List.forall_mem_cons.mpr ⟨m_zz_10, List.forall_mem_cons.mpr ⟨m_zz_11, List.forall_mem_cons.mpr ⟨m_zz_12, fun _ h => absurd h List.not_mem_nil⟩⟩⟩⟩⟩⟩⟩⟩⟩⟩⟩⟩⟩
theorem m_lkS {α β : Type} [BEq α] [LawfulBEq α] : ∀ {l : List (α × β)} {k : α} {a : β}, l.lookup k = some a → (k, a) ∈ l
  | (k', a') :: l, k, a, h => by
    rw [List.lookup_cons] at h
    by_cases hk : (k == k') = true
    · rw [hk] at h
      cases h
      rw [beq_iff_eq.mp hk]
      exact List.mem_cons_self
    · simp only [Bool.not_eq_true] at hk
      rw [hk] at h
      exact List.mem_cons_of_mem _ (m_lkS h)
theorem m_lk_all : m_lkAll := by
  intro o i I h
  unfold m_lk at h
  split at h
  · rename_i t ht
    exact m_lko_ok (o, t) (m_lkS ht) (i, I) (m_lkS h)
  · cases h
theorem m_uw_0 : ∀ w ∈ u_ws RX0 TX0 2, w ∈ m_G := by
  have h : (u_ws RX0 TX0 2) = [2120, 2122].filterMap (fun i => m_wd i) := by decide +kernel
  have g : (u_ws RX0 TX0 2).all goodWord = true := by decide +kernel
  intro w hw
  have g1 := List.all_eq_true.mp g w hw
  rw [h] at hw
  obtain ⟨i, -, hi⟩ := List.mem_filterMap.mp hw
  exact m_inG hi g1
theorem m_ui_0 : Jvm.Cond.instantiable RX0 2 ∈ m_G ∧ Jvm.Cond.initialized RX0 ∈ m_G := ⟨m_inG (i := 2110) (by decide +kernel) rfl, m_inG (i := 1010) (by decide +kernel) rfl⟩
theorem m_uw_1 : ∀ w ∈ u_ws RX1 TX1 17, w ∈ m_G := by
  have h : (u_ws RX1 TX1 17) = [1111, 1113, 1115, 1117, 1119, 1121, 1123, 1125, 1127, 1129, 1131, 1133, 1135, 1137, 1139, 1141, 1143].filterMap (fun i => m_wd i) := by decide +kernel
  have g : (u_ws RX1 TX1 17).all goodWord = true := by decide +kernel
  intro w hw
  have g1 := List.all_eq_true.mp g w hw
  rw [h] at hw
  obtain ⟨i, -, hi⟩ := List.mem_filterMap.mp hw
  exact m_inG hi g1
theorem m_ui_1 : Jvm.Cond.instantiable RX1 17 ∈ m_G ∧ Jvm.Cond.initialized RX1 ∈ m_G := ⟨m_inG (i := 1035) (by decide +kernel) rfl, m_inG (i := 1003) (by decide +kernel) rfl⟩
theorem m_uw_2 : ∀ w ∈ u_ws RX2 TX2 19, w ∈ m_G := by
  have h : (u_ws RX2 TX2 19) = [1209, 1211, 1213, 1215, 1217, 1219, 1221, 1223, 1225, 1227, 1229, 1231, 1233, 1235, 1237, 1239, 2001, 2003, 2005].filterMap (fun i => m_wd i) := by decide +kernel
  have g : (u_ws RX2 TX2 19).all goodWord = true := by decide +kernel
  intro w hw
  have g1 := List.all_eq_true.mp g w hw
  rw [h] at hw
  obtain ⟨i, -, hi⟩ := List.mem_filterMap.mp hw
  exact m_inG hi g1
theorem m_ui_2 : Jvm.Cond.instantiable RX2 19 ∈ m_G ∧ Jvm.Cond.initialized RX2 ∈ m_G := ⟨m_inG (i := 1183) (by decide +kernel) rfl, m_inG (i := 1004) (by decide +kernel) rfl⟩
theorem m_uw_3 : ∀ w ∈ u_ws RX3 TX3 2, w ∈ m_G := by
  have h : (u_ws RX3 TX3 2) = [2039, 2041].filterMap (fun i => m_wd i) := by decide +kernel
  have g : (u_ws RX3 TX3 2).all goodWord = true := by decide +kernel
  intro w hw
  have g1 := List.all_eq_true.mp g w hw
  rw [h] at hw
  obtain ⟨i, -, hi⟩ := List.mem_filterMap.mp hw
  exact m_inG hi g1
theorem m_ui_3 : Jvm.Cond.instantiable RX3 2 ∈ m_G ∧ Jvm.Cond.initialized RX3 ∈ m_G := ⟨m_inG (i := 2032) (by decide +kernel) rfl, m_inG (i := 1007) (by decide +kernel) rfl⟩
theorem m_uw_4 : ∀ w ∈ u_ws RX4 TX4 2, w ∈ m_G := by
  have h : (u_ws RX4 TX4 2) = [2016, 2018].filterMap (fun i => m_wd i) := by decide +kernel
  have g : (u_ws RX4 TX4 2).all goodWord = true := by decide +kernel
  intro w hw
  have g1 := List.all_eq_true.mp g w hw
  rw [h] at hw
  obtain ⟨i, -, hi⟩ := List.mem_filterMap.mp hw
  exact m_inG hi g1
theorem m_ui_4 : Jvm.Cond.instantiable RX4 2 ∈ m_G ∧ Jvm.Cond.initialized RX4 ∈ m_G := ⟨m_inG (i := 2009) (by decide +kernel) rfl, m_inG (i := 1005) (by decide +kernel) rfl⟩
theorem m_uw_5 : ∀ w ∈ u_ws RX5 TX5 9, w ∈ m_G := by
  have h : (u_ws RX5 TX5 9) = [1161, 1163, 1165, 1167, 1169, 1171, 1173, 1175, 1177].filterMap (fun i => m_wd i) := by decide +kernel
  have g : (u_ws RX5 TX5 9).all goodWord = true := by decide +kernel
  intro w hw
  have g1 := List.all_eq_true.mp g w hw
  rw [h] at hw
  obtain ⟨i, -, hi⟩ := List.mem_filterMap.mp hw
  exact m_inG hi g1
theorem m_ui_5 : Jvm.Cond.instantiable RX5 9 ∈ m_G ∧ Jvm.Cond.initialized RX5 ∈ m_G := ⟨m_inG (i := 1029) (by decide +kernel) rfl, m_inG (i := 1002) (by decide +kernel) rfl⟩
theorem m_uw_6 : ∀ w ∈ u_ws RX6 TX6 3, w ∈ m_G := by
  have h : (u_ws RX6 TX6 3) = [2078, 2080, 2082].filterMap (fun i => m_wd i) := by decide +kernel
  have g : (u_ws RX6 TX6 3).all goodWord = true := by decide +kernel
  intro w hw
  have g1 := List.all_eq_true.mp g w hw
  rw [h] at hw
  obtain ⟨i, -, hi⟩ := List.mem_filterMap.mp hw
  exact m_inG hi g1
theorem m_ui_6 : Jvm.Cond.instantiable RX6 3 ∈ m_G ∧ Jvm.Cond.initialized RX6 ∈ m_G := ⟨m_inG (i := 2070) (by decide +kernel) rfl, m_inG (i := 1008) (by decide +kernel) rfl⟩
theorem m_uw_7 : ∀ w ∈ u_ws RX7 TX7 5, w ∈ m_G := by
  have h : (u_ws RX7 TX7 5) = [2098, 2100, 2102, 2104, 2106].filterMap (fun i => m_wd i) := by decide +kernel
  have g : (u_ws RX7 TX7 5).all goodWord = true := by decide +kernel
  intro w hw
  have g1 := List.all_eq_true.mp g w hw
  rw [h] at hw
  obtain ⟨i, -, hi⟩ := List.mem_filterMap.mp hw
  exact m_inG hi g1
theorem m_ui_7 : Jvm.Cond.instantiable RX7 5 ∈ m_G ∧ Jvm.Cond.initialized RX7 ∈ m_G := ⟨m_inG (i := 2087) (by decide +kernel) rfl, m_inG (i := 1009) (by decide +kernel) rfl⟩
theorem m_uw_8 : ∀ w ∈ u_ws RX8 TX8 6, w ∈ m_G := by
  have h : (u_ws RX8 TX8 6) = [2056, 2058, 2060, 2062, 2064, 2066].filterMap (fun i => m_wd i) := by decide +kernel
  have g : (u_ws RX8 TX8 6).all goodWord = true := by decide +kernel
  intro w hw
  have g1 := List.all_eq_true.mp g w hw
  rw [h] at hw
  obtain ⟨i, -, hi⟩ := List.mem_filterMap.mp hw
  exact m_inG hi g1
theorem m_ui_8 : Jvm.Cond.instantiable RX8 6 ∈ m_G ∧ Jvm.Cond.initialized RX8 ∈ m_G := ⟨m_inG (i := 2022) (by decide +kernel) rfl, m_inG (i := 1006) (by decide +kernel) rfl⟩
theorem m_uw_9 : ∀ w ∈ u_ws RX9 TX9 10, w ∈ m_G := by
  have h : (u_ws RX9 TX9 10) = [2136, 2138, 2140, 2142, 2144, 2146, 2148, 2150, 2152, 2154].filterMap (fun i => m_wd i) := by decide +kernel
  have g : (u_ws RX9 TX9 10).all goodWord = true := by decide +kernel
  intro w hw
  have g1 := List.all_eq_true.mp g w hw
  rw [h] at hw
  obtain ⟨i, -, hi⟩ := List.mem_filterMap.mp hw
  exact m_inG hi g1
theorem m_ui_9 : Jvm.Cond.instantiable RX9 10 ∈ m_G ∧ Jvm.Cond.initialized RX9 ∈ m_G := ⟨m_inG (i := 1021) (by decide +kernel) rfl, m_inG (i := 1001) (by decide +kernel) rfl⟩
theorem m_uw_10 : ∀ w ∈ u_ws RX10 TX10 43, w ∈ m_G := by
  have h : (u_ws RX10 TX10 43) = [6158, 6160, 6162, 6164, 6166, 6168, 6170, 6172, 6174, 6176, 6178, 6180, 6182, 6184, 6186, 6188, 6190, 6192, 6194, 6196, 6198, 6200, 6202, 6204, 6206, 6208, 6210, 6212, 6214, 6216, 6218, 6220, 6222, 6224, 6226, 6228, 6230, 6232, 6234, 6236, 6238, 7000, 7002].filterMap (fun i => m_wd i) := by decide +kernel
  have g : (u_ws RX10 TX10 43).all goodWord = true := by decide +kernel
  intro w hw
  have g1 := List.all_eq_true.mp g w hw
  rw [h] at hw
  obtain ⟨i, -, hi⟩ := List.mem_filterMap.mp hw
  exact m_inG hi g1
theorem m_ui_10 : Jvm.Cond.instantiable RX10 43 ∈ m_G ∧ Jvm.Cond.initialized RX10 ∈ m_G := ⟨m_inG (i := 6110) (by decide +kernel) rfl, m_inG (i := 1011) (by decide +kernel) rfl⟩
theorem m_cls_ok : m_clsOk := by
  intro a C T N h
  match a, h with
  | 0, h => cases h; exact ⟨m_uw_0, tyX0_ok, nmX0, rfl, m_ui_0⟩
  | 1, h => cases h; exact ⟨m_uw_1, tyX1_ok, nmX1, rfl, m_ui_1⟩
  | 2, h => cases h; exact ⟨m_uw_2, tyX2_ok, nmX2, rfl, m_ui_2⟩
  | 3, h => cases h; exact ⟨m_uw_3, tyX3_ok, nmX3, rfl, m_ui_3⟩
  | 4, h => cases h; exact ⟨m_uw_4, tyX4_ok, nmX4, rfl, m_ui_4⟩
  | 5, h => cases h; exact ⟨m_uw_5, tyX5_ok, nmX5, rfl, m_ui_5⟩
  | 6, h => cases h; exact ⟨m_uw_6, tyX6_ok, nmX6, rfl, m_ui_6⟩
  | 7, h => cases h; exact ⟨m_uw_7, tyX7_ok, nmX7, rfl, m_ui_7⟩
  | 8, h => cases h; exact ⟨m_uw_8, tyX8_ok, nmX8, rfl, m_ui_8⟩
  | 9, h => cases h; exact ⟨m_uw_9, tyX9_ok, nmX9, rfl, m_ui_9⟩
  | 10, h => cases h; exact ⟨m_uw_10, tyX10_ok, nmX10, rfl, m_ui_10⟩
  | k + 11, h => simp [vwCl] at h
theorem m_glob_ok : m_glob := by
  refine ⟨fun t ht => ?_, m_inG (i := 1026) (by decide +kernel) rfl, m_inG (i := 1027) (by decide +kernel) rfl, m_inG (i := 3077) (by decide +kernel) rfl, m_inG (i := 3076) (by decide +kernel) rfl, m_inG (i := 1018) (by decide +kernel) rfl⟩
  match t, ht with
  | 0, _ => exact m_inG (i := 1147) (by decide +kernel) rfl
  | 1, _ => exact m_inG (i := 1146) (by decide +kernel) rfl
  | 2, _ => exact m_inG (i := 7005) (by decide +kernel) rfl
  | 3, _ => exact m_inG (i := 2085) (by decide +kernel) rfl
  | _ + 4, h => omega
theorem m_1000 : ∀ k y b n r, m_cw k = some (y, b, n, r) → k ≠ 1000 := by
  intro k y b n r h e
  subst e
  have h1 : m_pos[1000]? = none := by decide +kernel
  unfold m_cw at h
  rw [h1] at h
  cases h
theorem m_ao : Jvm.Cond.arrayOver (.object "MotherBench$Circuit") ∈ lw_tbl := m_wd_in (q := 2125) (by decide +kernel)
end
section
def m_ck1 (k : Nat) (q : Nat × (m_I × Nat)) : Bool := match m_me k with
  | some (y, b, n, r) => match decode b q.1 with
    | .ok (ins, len) => decide (len = q.2.2) && decide (m_tri y n r q.1 ins len = some q.2.1)
    | .error _ => false
  | none => false
abbrev m_T : Type := List (List (Nat × (m_I × Nat)))
end
section
def m_t_0 : m_T := [[(0, ((2, 0, 2, []), 1)), (1, ((25, 0, 0, []), 3)), (4, ((2, 0, 2, []), 1)), (5, ((21, 5, 0, []), 3)), (8, ((9, 2, 0, []), 1)), (9, ((24, 1, 4, [0, 1, 5]), 3)), (12, ((16, 9, 0, []), 3)), (15, ((2, 0, 2, []), 1))], [(16, ((21, 1, 0, []), 3)), (19, ((9, 2, 0, []), 1)), (20, ((24, 2, 4, [0, 1, 1]), 3)), (23, ((16, 9, 1, []), 3)), (26, ((2, 0, 2, []), 1)), (27, ((21, 2, 0, []), 3)), (30, ((9, 2, 0, []), 1)), (31, ((2, 0, 2, []), 1))], [(32, ((15, 9, 1, []), 3)), (35, ((24, 3, 1, [1, 2, 2]), 3)), (38, ((16, 9, 2, []), 3)), (41, ((2, 0, 2, []), 1)), (42, ((21, 4, 0, []), 3)), (45, ((9, 2, 0, []), 1)), (46, ((2, 0, 2, []), 1)), (47, ((15, 9, 1, []), 3))], [(50, ((24, 4, 1, [1, 2, 4]), 3)), (53, ((16, 9, 3, []), 3)), (56, ((2, 0, 2, []), 1)), (57, ((21, 8, 0, []), 3)), (60, ((9, 2, 0, []), 1)), (61, ((2, 0, 2, []), 1)), (62, ((15, 9, 1, []), 3))], [(65, ((24, 5, 1, [1, 2, 8]), 3)), (68, ((16, 9, 4, []), 3)), (71, ((2, 0, 2, []), 1)), (72, ((21, 6, 0, []), 3)), (75, ((9, 2, 0, []), 1)), (76, ((24, 7, 4, [0, 1, 6]), 3)), (79, ((16, 9, 7, []), 3))], [(82, ((2, 0, 2, []), 1)), (83, ((21, 7, 0, []), 3)), (86, ((9, 2, 0, []), 1)), (87, ((2, 0, 2, []), 1)), (88, ((15, 9, 4, []), 3)), (91, ((2, 0, 2, []), 1)), (92, ((15, 9, 7, []), 3)), (95, ((24, 8, 1, [2, 3, 7]), 3))], [(98, ((16, 9, 5, []), 3)), (101, ((2, 0, 2, []), 1)), (102, ((21, 0, 0, []), 3)), (105, ((9, 2, 0, []), 1)), (106, ((2, 0, 2, []), 1)), (107, ((15, 9, 4, []), 3)), (110, ((24, 9, 1, [1, 2, 0]), 3))], [(113, ((16, 9, 6, []), 3)), (116, ((2, 0, 2, []), 1)), (117, ((0, 0, 3, []), 1)), (118, ((22, 4, 0, []), 3)), (121, ((16, 9, 8, []), 3)), (124, ((0, 0, 0, []), 1)), (125, ((3, 1, 0, []), 1)), (126, ((2, 1, 0, []), 1)), (127, ((0, 0, 3, []), 1))], [(128, ((12, 150, 3, []), 3)), (131, ((2, 0, 2, []), 1)), (132, ((15, 9, 8, []), 3)), (135, ((2, 1, 0, []), 1)), (136, ((21, 1, 0, []), 3)), (139, ((9, 2, 0, []), 1)), (140, ((24, 2, 4, [0, 1, 1]), 3)), (143, ((19, 3, 0, []), 1))], [(144, ((4, 1, 1, []), 3)), (147, ((10, 126, 0, []), 3)), (150, ((27, 2, 0, []), 1))]]
set_option maxRecDepth 100000 in
theorem m_ok_0 : m_t_0.all (fun c => c.all (m_ck1 0)) = true := by decide +kernel
def m_t_1 : m_T := [[(0, ((2, 0, 2, []), 1)), (1, ((25, 0, 0, []), 3)), (4, ((2, 0, 2, []), 1)), (5, ((0, 0, 700, []), 3)), (8, ((22, 1, 0, []), 2)), (10, ((16, 5, 0, []), 3)), (13, ((2, 0, 2, []), 1)), (14, ((0, 0, (-1), []), 1)), (15, ((16, 5, 3, []), 3))], [(18, ((2, 0, 2, []), 1)), (19, ((21, 1, 0, []), 3)), (22, ((9, 2, 0, []), 1)), (23, ((24, 2, 4, [0, 1, 1]), 3)), (26, ((16, 5, 4, []), 3)), (29, ((27, 2, 0, []), 1))]]
set_option maxRecDepth 100000 in
theorem m_ok_1 : m_t_1.all (fun c => c.all (m_ck1 1)) = true := by decide +kernel
def m_t_2 : m_T := [[(0, ((2, 0, 2, []), 1)), (1, ((25, 0, 0, []), 3)), (4, ((2, 0, 2, []), 1)), (5, ((0, 0, 7, []), 2)), (7, ((22, 0, 0, []), 2)), (9, ((16, 1, 8, []), 3)), (12, ((2, 0, 2, []), 1)), (13, ((0, 0, 28, []), 2)), (15, ((22, 0, 0, []), 2))], [(17, ((16, 1, 9, []), 3)), (20, ((2, 0, 2, []), 1)), (21, ((0, 0, 7, []), 2)), (23, ((22, 0, 0, []), 2)), (25, ((16, 1, 10, []), 3)), (28, ((2, 0, 2, []), 1)), (29, ((0, 0, 8, []), 2)), (31, ((22, 0, 0, []), 2))], [(33, ((16, 1, 11, []), 3)), (36, ((2, 0, 2, []), 1)), (37, ((0, 0, 8, []), 2)), (39, ((22, 0, 0, []), 2)), (41, ((16, 1, 12, []), 3)), (44, ((2, 0, 2, []), 1)), (45, ((0, 0, 8, []), 2)), (47, ((22, 0, 0, []), 2))], [(49, ((16, 1, 13, []), 3)), (52, ((2, 0, 2, []), 1)), (53, ((0, 0, 20, []), 2)), (55, ((22, 0, 0, []), 2)), (57, ((16, 1, 14, []), 3)), (60, ((2, 0, 2, []), 1)), (61, ((0, 0, 20, []), 2)), (63, ((22, 0, 0, []), 2))], [(65, ((16, 1, 15, []), 3)), (68, ((2, 0, 2, []), 1)), (69, ((0, 0, 20, []), 2)), (71, ((22, 0, 0, []), 2)), (73, ((16, 1, 16, []), 3)), (76, ((27, 2, 0, []), 1))]]
set_option maxRecDepth 100000 in
theorem m_ok_2 : m_t_2.all (fun c => c.all (m_ck1 2)) = true := by decide +kernel
def m_t_3 : m_T := [[(0, ((2, 0, 2, []), 1)), (1, ((25, 0, 0, []), 3)), (4, ((2, 0, 2, []), 1)), (5, ((0, 0, 28, []), 2)), (7, ((22, 0, 0, []), 2)), (9, ((16, 2, 2, []), 3)), (12, ((2, 0, 2, []), 1)), (13, ((0, 0, 28, []), 2)), (15, ((22, 0, 0, []), 2))], [(17, ((16, 2, 3, []), 3)), (20, ((2, 0, 2, []), 1)), (21, ((0, 0, 28, []), 2)), (23, ((22, 0, 0, []), 2)), (25, ((16, 2, 4, []), 3)), (28, ((2, 0, 2, []), 1)), (29, ((0, 0, 14, []), 2)), (31, ((22, 0, 0, []), 2))], [(33, ((16, 2, 5, []), 3)), (36, ((2, 0, 2, []), 1)), (37, ((0, 0, 28, []), 2)), (39, ((22, 0, 0, []), 2)), (41, ((16, 2, 7, []), 3)), (44, ((2, 0, 2, []), 1)), (45, ((0, 0, 28, []), 2)), (47, ((22, 0, 0, []), 2))], [(49, ((16, 2, 8, []), 3)), (52, ((2, 0, 2, []), 1)), (53, ((0, 0, 28, []), 2)), (55, ((22, 0, 0, []), 2)), (57, ((16, 2, 9, []), 3)), (60, ((2, 0, 2, []), 1)), (61, ((0, 0, 28, []), 2)), (63, ((22, 0, 0, []), 2))], [(65, ((16, 2, 10, []), 3)), (68, ((2, 0, 2, []), 1)), (69, ((0, 0, 84, []), 2)), (71, ((22, 0, 0, []), 2)), (73, ((16, 2, 11, []), 3)), (76, ((2, 0, 2, []), 1)), (77, ((0, 0, 8, []), 2)), (79, ((22, 0, 0, []), 2))], [(81, ((16, 2, 12, []), 3)), (84, ((2, 0, 2, []), 1)), (85, ((0, 0, 8, []), 2)), (87, ((22, 0, 0, []), 2)), (89, ((16, 2, 13, []), 3)), (92, ((2, 0, 2, []), 1)), (93, ((0, 0, 8, []), 2)), (95, ((22, 0, 0, []), 2))], [(97, ((16, 2, 14, []), 3)), (100, ((2, 0, 2, []), 1)), (101, ((0, 0, 7, []), 2)), (103, ((22, 0, 0, []), 2)), (105, ((16, 2, 15, []), 3)), (108, ((2, 0, 2, []), 1)), (109, ((0, 0, 7, []), 2)), (111, ((22, 0, 0, []), 2))], [(113, ((16, 2, 16, []), 3)), (116, ((2, 0, 2, []), 1)), (117, ((0, 0, 105, []), 2)), (119, ((22, 0, 0, []), 2)), (121, ((16, 2, 17, []), 3)), (124, ((2, 0, 2, []), 1)), (125, ((0, 0, 105, []), 2)), (127, ((22, 0, 0, []), 2))], [(129, ((16, 2, 18, []), 3)), (132, ((2, 0, 2, []), 1)), (133, ((2, 1, 2, []), 1)), (134, ((16, 2, 0, []), 3)), (137, ((27, 2, 0, []), 1))]]
set_option maxRecDepth 100000 in
theorem m_ok_3 : m_t_3.all (fun c => c.all (m_ck1 3)) = true := by decide +kernel
def m_t_4 : m_T := [[(0, ((2, 0, 2, []), 1)), (1, ((25, 0, 0, []), 3)), (4, ((2, 0, 2, []), 1)), (5, ((0, 0, 3, []), 1)), (6, ((22, 0, 0, []), 2)), (8, ((16, 4, 1, []), 3)), (11, ((2, 0, 2, []), 1)), (12, ((2, 1, 2, []), 1)), (13, ((16, 4, 0, []), 3))], [(16, ((27, 2, 0, []), 1))]]
set_option maxRecDepth 100000 in
theorem m_ok_4 : m_t_4.all (fun c => c.all (m_ck1 4)) = true := by decide +kernel
def m_t_5 : m_T := [[(0, ((2, 0, 2, []), 1)), (1, ((25, 0, 0, []), 3)), (4, ((2, 0, 2, []), 1)), (5, ((2, 1, 2, []), 1)), (6, ((16, 8, 0, []), 3)), (9, ((2, 0, 2, []), 1)), (10, ((21, 1, 0, []), 3)), (13, ((9, 2, 0, []), 1)), (14, ((24, 2, 4, [0, 1, 1]), 3))], [(17, ((16, 8, 1, []), 3)), (20, ((2, 0, 2, []), 1)), (21, ((21, 2, 0, []), 3)), (24, ((9, 2, 0, []), 1)), (25, ((2, 0, 2, []), 1)), (26, ((15, 8, 1, []), 3)), (29, ((24, 3, 1, [1, 2, 2]), 3))], [(32, ((16, 8, 2, []), 3)), (35, ((2, 0, 2, []), 1)), (36, ((21, 3, 0, []), 3)), (39, ((9, 2, 0, []), 1)), (40, ((24, 6, 4, [0, 1, 3]), 3)), (43, ((16, 8, 3, []), 3)), (46, ((2, 0, 2, []), 1)), (47, ((0, 0, 4, []), 1))], [(48, ((22, 0, 0, []), 2)), (50, ((16, 8, 4, []), 3)), (53, ((2, 0, 2, []), 1)), (54, ((0, 0, 4, []), 1)), (55, ((22, 0, 0, []), 2)), (57, ((16, 8, 5, []), 3)), (60, ((27, 2, 0, []), 1))]]
set_option maxRecDepth 100000 in
theorem m_ok_5 : m_t_5.all (fun c => c.all (m_ck1 5)) = true := by decide +kernel
def m_t_6 : m_T := [[(0, ((2, 0, 2, []), 1)), (1, ((25, 0, 0, []), 3)), (4, ((2, 0, 2, []), 1)), (5, ((1, 0, 1, []), 1)), (6, ((16, 3, 1, []), 3)), (9, ((27, 2, 0, []), 1))]]
set_option maxRecDepth 100000 in
theorem m_ok_6 : m_t_6.all (fun c => c.all (m_ck1 6)) = true := by decide +kernel
def m_t_7 : m_T := [[(0, ((2, 0, 2, []), 1)), (1, ((25, 0, 0, []), 3)), (4, ((2, 0, 2, []), 1)), (5, ((0, 0, 240, []), 3)), (8, ((22, 3, 0, []), 2)), (10, ((16, 6, 0, []), 3)), (13, ((2, 0, 2, []), 1)), (14, ((0, 0, 4, []), 1)), (15, ((22, 0, 0, []), 2))], [(17, ((16, 6, 1, []), 3)), (20, ((2, 0, 2, []), 1)), (21, ((0, 0, 4, []), 1)), (22, ((22, 0, 0, []), 2)), (24, ((9, 2, 0, []), 1)), (25, ((0, 0, 0, []), 1)), (26, ((0, 0, (-1), []), 1)), (27, ((19, 0, 0, []), 1)), (28, ((9, 2, 0, []), 1)), (29, ((0, 0, 1, []), 1)), (30, ((0, 0, (-1), []), 1)), (31, ((19, 0, 0, []), 1))], [(32, ((9, 2, 0, []), 1)), (33, ((0, 0, 2, []), 1)), (34, ((0, 0, (-1), []), 1)), (35, ((19, 0, 0, []), 1)), (36, ((9, 2, 0, []), 1)), (37, ((0, 0, 3, []), 1)), (38, ((0, 0, (-1), []), 1)), (39, ((19, 0, 0, []), 1)), (40, ((16, 6, 2, []), 3)), (43, ((27, 2, 0, []), 1))]]
set_option maxRecDepth 100000 in
theorem m_ok_7 : m_t_7.all (fun c => c.all (m_ck1 7)) = true := by decide +kernel
def m_t_8 : m_T := [[(0, ((2, 0, 2, []), 1)), (1, ((25, 0, 0, []), 3)), (4, ((2, 0, 2, []), 1)), (5, ((0, 0, 41, []), 2)), (7, ((22, 0, 0, []), 2)), (9, ((16, 7, 3, []), 3)), (12, ((2, 0, 2, []), 1)), (13, ((0, 0, 328, []), 3))], [(16, ((22, 0, 0, []), 2)), (18, ((16, 7, 4, []), 3)), (21, ((2, 0, 2, []), 1)), (22, ((2, 1, 2, []), 1)), (23, ((16, 7, 0, []), 3)), (26, ((2, 0, 2, []), 1)), (27, ((2, 2, 2, []), 1)), (28, ((16, 7, 1, []), 3)), (31, ((27, 2, 0, []), 1))]]
set_option maxRecDepth 100000 in
theorem m_ok_8 : m_t_8.all (fun c => c.all (m_ck1 8)) = true := by decide +kernel
def m_t_9 : m_T := [[(0, ((2, 0, 2, []), 1)), (1, ((25, 0, 0, []), 3)), (4, ((2, 0, 2, []), 1)), (5, ((2, 1, 2, []), 1)), (6, ((16, 0, 0, []), 3)), (9, ((2, 0, 2, []), 1)), (10, ((21, 3, 0, []), 3)), (13, ((9, 2, 0, []), 1)), (14, ((24, 6, 4, [0, 1, 3]), 3))], [(17, ((16, 0, 1, []), 3)), (20, ((27, 2, 0, []), 1))]]
set_option maxRecDepth 100000 in
theorem m_ok_9 : m_t_9.all (fun c => c.all (m_ck1 9)) = true := by decide +kernel
def m_t_10 : m_T := [[(0, ((2, 0, 2, []), 1)), (1, ((15, 9, 0, []), 3)), (4, ((24, 11, 0, [0, 1, 5]), 3)), (7, ((11, 12, 1, []), 3)), (10, ((0, 0, (-1), []), 1)), (11, ((27, 0, 0, []), 1)), (12, ((2, 0, 2, []), 1)), (13, ((15, 9, 0, []), 3))], [(16, ((2, 1, 0, []), 1)), (17, ((24, 12, 0, [1, 3, 5]), 3)), (20, ((2, 0, 2, []), 1)), (21, ((15, 9, 0, []), 3)), (24, ((2, 2, 0, []), 1)), (25, ((24, 12, 0, [1, 3, 5]), 3)), (28, ((2, 0, 2, []), 1)), (29, ((15, 9, 0, []), 3))], [(32, ((2, 3, 0, []), 1)), (33, ((24, 12, 0, [1, 3, 5]), 3)), (36, ((2, 0, 2, []), 1)), (37, ((15, 9, 0, []), 3)), (40, ((2, 4, 0, []), 2)), (42, ((24, 12, 0, [1, 3, 5]), 3)), (45, ((2, 0, 2, []), 1)), (46, ((15, 9, 0, []), 3))], [(49, ((2, 5, 0, []), 2)), (51, ((24, 12, 0, [1, 3, 5]), 3)), (54, ((2, 0, 2, []), 1)), (55, ((15, 9, 0, []), 3)), (58, ((15, 5, 1, []), 3)), (61, ((27, 0, 0, []), 1))]]
set_option maxRecDepth 100000 in
theorem m_ok_10 : m_t_10.all (fun c => c.all (m_ck1 10)) = true := by decide +kernel
def m_t_11 : m_T := [[(0, ((2, 0, 2, []), 1)), (1, ((15, 5, 1, []), 3)), (4, ((0, 0, 20, []), 2)), (6, ((5, 0, 0, []), 1)), (7, ((0, 0, 700, []), 3)), (10, ((12, 17, 4, []), 3)), (13, ((0, 0, 1, []), 1)), (14, ((10, 18, 0, []), 3))], [(17, ((0, 0, 0, []), 1)), (18, ((27, 3, 0, []), 1))]]
set_option maxRecDepth 100000 in
theorem m_ok_11 : m_t_11.all (fun c => c.all (m_ck1 11)) = true := by decide +kernel
def m_t_12 : m_T := [[(0, ((0, 0, 24, []), 2)), (2, ((3, 2, 0, []), 1)), (3, ((2, 2, 0, []), 1)), (4, ((11, 46, 2, []), 3)), (7, ((2, 0, 2, []), 1)), (8, ((15, 5, 1, []), 3)), (11, ((0, 0, 700, []), 3)), (14, ((12, 46, 3, []), 3))], [(17, ((2, 0, 2, []), 1)), (18, ((15, 5, 0, []), 3)), (21, ((2, 0, 2, []), 1)), (22, ((15, 5, 1, []), 3)), (25, ((2, 1, 0, []), 1)), (26, ((2, 2, 0, []), 1)), (27, ((5, 7, 0, []), 1)), (28, ((7, 3, 0, []), 1)), (29, ((19, 1, 0, []), 1)), (30, ((2, 0, 2, []), 1)), (31, ((9, 2, 0, []), 1))], [(32, ((15, 5, 1, []), 3)), (35, ((0, 0, 1, []), 1)), (36, ((5, 0, 0, []), 1)), (37, ((16, 5, 1, []), 3)), (40, ((4, 2, (-8), []), 3)), (43, ((10, 3, 0, []), 3)), (46, ((27, 2, 0, []), 1))]]
set_option maxRecDepth 100000 in
theorem m_ok_12 : m_t_12.all (fun c => c.all (m_ck1 12)) = true := by decide +kernel
def m_t_13 : m_T := [[(0, ((2, 1, 0, []), 1)), (1, ((11, 15, 2, []), 3)), (4, ((2, 1, 0, []), 1)), (5, ((2, 0, 2, []), 1)), (6, ((15, 9, 0, []), 3)), (9, ((15, 5, 1, []), 3)), (12, ((12, 17, 5, []), 3)), (15, ((0, 0, (-1), []), 1))], [(16, ((27, 0, 0, []), 1)), (17, ((2, 0, 2, []), 1)), (18, ((15, 9, 0, []), 3)), (21, ((2, 1, 0, []), 1)), (22, ((16, 5, 1, []), 3)), (25, ((2, 1, 0, []), 1)), (26, ((27, 0, 0, []), 1))]]
set_option maxRecDepth 100000 in
theorem m_ok_13 : m_t_13.all (fun c => c.all (m_ck1 13)) = true := by decide +kernel
def m_t_14 : m_T := [[(0, ((2, 0, 2, []), 1)), (1, ((15, 9, 0, []), 3)), (4, ((24, 15, 0, [0, 2, 5]), 3)), (7, ((11, 13, 1, []), 3)), (10, ((0, 0, (-4), []), 2)), (12, ((27, 0, 0, []), 1)), (13, ((2, 0, 2, []), 1)), (14, ((15, 9, 1, []), 3))], [(17, ((2, 0, 2, []), 1)), (18, ((15, 9, 0, []), 3)), (21, ((15, 5, 4, []), 3)), (24, ((24, 34, 0, [1, 2, 1]), 3)), (27, ((2, 0, 2, []), 1)), (28, ((15, 9, 0, []), 3)), (31, ((0, 0, 0, []), 1))], [(32, ((16, 5, 1, []), 3)), (35, ((2, 0, 2, []), 1)), (36, ((24, 35, 0, [0, 1, 9]), 3)), (39, ((2, 0, 2, []), 1)), (40, ((15, 9, 1, []), 3)), (43, ((15, 1, 0, []), 3)), (46, ((27, 0, 0, []), 1))]]
set_option maxRecDepth 100000 in
theorem m_ok_14 : m_t_14.all (fun c => c.all (m_ck1 14)) = true := by decide +kernel
def m_t_15 : m_T := [[(0, ((2, 0, 2, []), 1)), (1, ((15, 5, 4, []), 3)), (4, ((24, 16, 0, [0, 1, 1]), 3)), (7, ((2, 0, 2, []), 1)), (8, ((0, 0, 0, []), 1)), (9, ((16, 5, 2, []), 3)), (12, ((2, 0, 2, []), 1)), (13, ((0, 0, (-1), []), 1)), (14, ((16, 5, 3, []), 3))], [(17, ((2, 0, 2, []), 1)), (18, ((0, 0, 0, []), 1)), (19, ((16, 5, 7, []), 3)), (22, ((2, 0, 2, []), 1)), (23, ((24, 18, 0, [0, 1, 5]), 3)), (26, ((0, 0, 0, []), 1)), (27, ((3, 1, 0, []), 1)), (28, ((2, 1, 0, []), 1)), (29, ((0, 0, 700, []), 3))], [(32, ((12, 59, 3, []), 3)), (35, ((2, 0, 2, []), 1)), (36, ((15, 5, 5, []), 3)), (39, ((11, 59, 0, []), 3)), (42, ((2, 0, 2, []), 1)), (43, ((15, 5, 2, []), 3)), (46, ((11, 59, 1, []), 3))], [(49, ((2, 0, 2, []), 1)), (50, ((24, 25, 0, [0, 1, 5]), 3)), (53, ((4, 1, 1, []), 3)), (56, ((10, 28, 0, []), 3)), (59, ((2, 0, 2, []), 1)), (60, ((15, 5, 2, []), 3)), (63, ((11, 70, 1, []), 3))], [(66, ((0, 0, 1, []), 1)), (67, ((10, 71, 0, []), 3)), (70, ((0, 0, 0, []), 1)), (71, ((27, 3, 0, []), 1))]]
set_option maxRecDepth 100000 in
theorem m_ok_15 : m_t_15.all (fun c => c.all (m_ck1 15)) = true := by decide +kernel
def m_t_16 : m_T := [[(0, ((2, 0, 2, []), 1)), (1, ((0, 0, 0, []), 1)), (2, ((16, 1, 0, []), 3)), (5, ((2, 0, 2, []), 1)), (6, ((0, 0, 0, []), 1)), (7, ((16, 1, 1, []), 3)), (10, ((2, 0, 2, []), 1)), (11, ((0, 0, 0, []), 1)), (12, ((16, 1, 2, []), 3)), (15, ((2, 0, 2, []), 1))], [(16, ((0, 0, 0, []), 1)), (17, ((16, 1, 3, []), 3)), (20, ((2, 0, 2, []), 1)), (21, ((0, 0, 0, []), 1)), (22, ((16, 1, 4, []), 3)), (25, ((2, 0, 2, []), 1)), (26, ((0, 0, 0, []), 1)), (27, ((16, 1, 5, []), 3)), (30, ((2, 0, 2, []), 1)), (31, ((0, 0, 0, []), 1))], [(32, ((16, 1, 6, []), 3)), (35, ((2, 0, 2, []), 1)), (36, ((0, 0, 0, []), 1)), (37, ((16, 1, 7, []), 3)), (40, ((2, 0, 2, []), 1)), (41, ((15, 1, 10, []), 3)), (44, ((0, 0, 0, []), 1)), (45, ((24, 17, 2, [2, 4, 99]), 3))], [(48, ((27, 2, 0, []), 1))]]
set_option maxRecDepth 100000 in
theorem m_ok_16 : m_t_16.all (fun c => c.all (m_ck1 16)) = true := by decide +kernel
def m_t_17 : m_T := [[(0, ((0, 0, 0, []), 1)), (1, ((3, 2, 0, []), 1)), (2, ((2, 0, 2, []), 1)), (3, ((20, 0, 0, []), 1)), (4, ((3, 3, 0, []), 1)), (5, ((2, 2, 0, []), 1)), (6, ((2, 3, 0, []), 1)), (7, ((12, 20, 3, []), 3)), (10, ((2, 0, 2, []), 1)), (11, ((2, 2, 0, []), 1)), (12, ((2, 1, 0, []), 1)), (13, ((19, 0, 0, []), 1)), (14, ((4, 2, 1, []), 3))], [(17, ((10, 5, 0, []), 3)), (20, ((27, 2, 0, []), 1))]]
set_option maxRecDepth 100000 in
theorem m_ok_17 : m_t_17.all (fun c => c.all (m_ck1 17)) = true := by decide +kernel
def m_t_18 : m_T := [[(0, ((2, 0, 2, []), 1)), (1, ((15, 5, 7, []), 3)), (4, ((2, 0, 2, []), 1)), (5, ((15, 5, 1, []), 3)), (8, ((12, 40, 3, []), 3)), (11, ((2, 0, 2, []), 1)), (12, ((2, 0, 2, []), 1)), (13, ((15, 5, 0, []), 3))], [(16, ((2, 0, 2, []), 1)), (17, ((15, 5, 7, []), 3)), (20, ((18, 1, 0, []), 1)), (21, ((24, 19, 0, [1, 2, 5]), 3)), (24, ((11, 40, 0, []), 3)), (27, ((2, 0, 2, []), 1)), (28, ((9, 2, 0, []), 1)), (29, ((15, 5, 7, []), 3))], [(32, ((0, 0, 1, []), 1)), (33, ((5, 0, 0, []), 1)), (34, ((16, 5, 7, []), 3)), (37, ((10, 0, 0, []), 3)), (40, ((2, 0, 2, []), 1)), (41, ((2, 0, 2, []), 1)), (42, ((15, 5, 7, []), 3)), (45, ((16, 5, 6, []), 3))], [(48, ((2, 0, 2, []), 1)), (49, ((15, 5, 7, []), 3)), (52, ((2, 0, 2, []), 1)), (53, ((15, 5, 1, []), 3)), (56, ((12, 67, 2, []), 3)), (59, ((2, 0, 2, []), 1)), (60, ((0, 0, 0, []), 1)), (61, ((16, 5, 5, []), 3))], [(64, ((10, 146, 0, []), 3)), (67, ((2, 0, 2, []), 1)), (68, ((2, 0, 2, []), 1)), (69, ((15, 5, 0, []), 3)), (72, ((2, 0, 2, []), 1)), (73, ((15, 5, 7, []), 3)), (76, ((18, 1, 0, []), 1)), (77, ((24, 20, 0, [1, 2, 5]), 3))], [(80, ((11, 90, 0, []), 3)), (83, ((2, 0, 2, []), 1)), (84, ((24, 21, 0, [0, 1, 5]), 3)), (87, ((10, 146, 0, []), 3)), (90, ((2, 0, 2, []), 1)), (91, ((2, 0, 2, []), 1)), (92, ((15, 5, 0, []), 3)), (95, ((2, 0, 2, []), 1))], [(96, ((15, 5, 7, []), 3)), (99, ((18, 1, 0, []), 1)), (100, ((24, 22, 0, [1, 2, 5]), 3)), (103, ((11, 113, 0, []), 3)), (106, ((2, 0, 2, []), 1)), (107, ((24, 23, 0, [0, 1, 5]), 3)), (110, ((10, 146, 0, []), 3))], [(113, ((2, 0, 2, []), 1)), (114, ((2, 0, 2, []), 1)), (115, ((15, 5, 0, []), 3)), (118, ((2, 0, 2, []), 1)), (119, ((15, 5, 7, []), 3)), (122, ((18, 1, 0, []), 1)), (123, ((0, 0, 59, []), 2)), (125, ((12, 132, 1, []), 3))], [(128, ((0, 0, 3, []), 1)), (129, ((10, 133, 0, []), 3)), (132, ((0, 0, 4, []), 1)), (133, ((16, 5, 5, []), 3)), (136, ((2, 0, 2, []), 1)), (137, ((9, 2, 0, []), 1)), (138, ((15, 5, 7, []), 3)), (141, ((0, 0, 1, []), 1)), (142, ((5, 0, 0, []), 1)), (143, ((16, 5, 7, []), 3))], [(146, ((27, 2, 0, []), 1))]]
set_option maxRecDepth 100000 in
theorem m_ok_18 : m_t_18.all (fun c => c.all (m_ck1 18)) = true := by decide +kernel
def m_t_34 : m_T := [[(0, ((2, 0, 2, []), 1)), (1, ((2, 1, 2, []), 1)), (2, ((15, 1, 0, []), 3)), (5, ((16, 1, 0, []), 3)), (8, ((2, 0, 2, []), 1)), (9, ((2, 1, 2, []), 1)), (10, ((15, 1, 1, []), 3)), (13, ((16, 1, 1, []), 3))], [(16, ((2, 0, 2, []), 1)), (17, ((2, 1, 2, []), 1)), (18, ((15, 1, 2, []), 3)), (21, ((16, 1, 2, []), 3)), (24, ((2, 0, 2, []), 1)), (25, ((2, 1, 2, []), 1)), (26, ((15, 1, 3, []), 3)), (29, ((16, 1, 3, []), 3))], [(32, ((2, 0, 2, []), 1)), (33, ((2, 1, 2, []), 1)), (34, ((15, 1, 4, []), 3)), (37, ((16, 1, 4, []), 3)), (40, ((2, 0, 2, []), 1)), (41, ((2, 1, 2, []), 1)), (42, ((15, 1, 5, []), 3)), (45, ((16, 1, 5, []), 3))], [(48, ((2, 0, 2, []), 1)), (49, ((2, 1, 2, []), 1)), (50, ((15, 1, 6, []), 3)), (53, ((16, 1, 6, []), 3)), (56, ((2, 0, 2, []), 1)), (57, ((2, 1, 2, []), 1)), (58, ((15, 1, 7, []), 3)), (61, ((16, 1, 7, []), 3))], [(64, ((2, 1, 2, []), 1)), (65, ((15, 1, 8, []), 3)), (68, ((0, 0, 0, []), 1)), (69, ((2, 0, 2, []), 1)), (70, ((15, 1, 8, []), 3)), (73, ((0, 0, 0, []), 1)), (74, ((0, 0, 7, []), 2)), (76, ((26, 0, 0, []), 3)), (79, ((2, 1, 2, []), 1))], [(80, ((15, 1, 9, []), 3)), (83, ((0, 0, 0, []), 1)), (84, ((2, 0, 2, []), 1)), (85, ((15, 1, 9, []), 3)), (88, ((0, 0, 0, []), 1)), (89, ((0, 0, 28, []), 2)), (91, ((26, 0, 0, []), 3)), (94, ((2, 1, 2, []), 1)), (95, ((15, 1, 10, []), 3))], [(98, ((0, 0, 0, []), 1)), (99, ((2, 0, 2, []), 1)), (100, ((15, 1, 10, []), 3)), (103, ((0, 0, 0, []), 1)), (104, ((0, 0, 7, []), 2)), (106, ((26, 0, 0, []), 3)), (109, ((2, 1, 2, []), 1)), (110, ((15, 1, 11, []), 3))], [(113, ((0, 0, 0, []), 1)), (114, ((2, 0, 2, []), 1)), (115, ((15, 1, 11, []), 3)), (118, ((0, 0, 0, []), 1)), (119, ((0, 0, 8, []), 2)), (121, ((26, 0, 0, []), 3)), (124, ((2, 1, 2, []), 1)), (125, ((15, 1, 12, []), 3))], [(128, ((0, 0, 0, []), 1)), (129, ((2, 0, 2, []), 1)), (130, ((15, 1, 12, []), 3)), (133, ((0, 0, 0, []), 1)), (134, ((0, 0, 8, []), 2)), (136, ((26, 0, 0, []), 3)), (139, ((2, 1, 2, []), 1)), (140, ((15, 1, 13, []), 3)), (143, ((0, 0, 0, []), 1))], [(144, ((2, 0, 2, []), 1)), (145, ((15, 1, 13, []), 3)), (148, ((0, 0, 0, []), 1)), (149, ((0, 0, 8, []), 2)), (151, ((26, 0, 0, []), 3)), (154, ((2, 1, 2, []), 1)), (155, ((15, 1, 14, []), 3)), (158, ((0, 0, 0, []), 1)), (159, ((2, 0, 2, []), 1))], [(160, ((15, 1, 14, []), 3)), (163, ((0, 0, 0, []), 1)), (164, ((0, 0, 20, []), 2)), (166, ((26, 0, 0, []), 3)), (169, ((2, 1, 2, []), 1)), (170, ((15, 1, 15, []), 3)), (173, ((0, 0, 0, []), 1)), (174, ((2, 0, 2, []), 1)), (175, ((15, 1, 15, []), 3))], [(178, ((0, 0, 0, []), 1)), (179, ((0, 0, 20, []), 2)), (181, ((26, 0, 0, []), 3)), (184, ((2, 1, 2, []), 1)), (185, ((15, 1, 16, []), 3)), (188, ((0, 0, 0, []), 1)), (189, ((2, 0, 2, []), 1)), (190, ((15, 1, 16, []), 3))], [(193, ((0, 0, 0, []), 1)), (194, ((0, 0, 20, []), 2)), (196, ((26, 0, 0, []), 3)), (199, ((27, 2, 0, []), 1))]]
set_option maxRecDepth 100000 in
theorem m_ok_34 : m_t_34.all (fun c => c.all (m_ck1 34)) = true := by decide +kernel
def m_t_35 : m_T := [[(0, ((2, 0, 2, []), 1)), (1, ((15, 9, 2, []), 3)), (4, ((24, 36, 0, [0, 3, 2]), 3)), (7, ((2, 0, 2, []), 1)), (8, ((15, 9, 2, []), 3)), (11, ((0, 0, 255, []), 3)), (14, ((0, 0, 127, []), 2))], [(16, ((24, 38, 0, [2, 9, 2]), 3)), (19, ((27, 2, 0, []), 1))]]
set_option maxRecDepth 100000 in
theorem m_ok_35 : m_t_35.all (fun c => c.all (m_ck1 35)) = true := by decide +kernel
def m_t_36 : m_T := [[(0, ((2, 0, 2, []), 1)), (1, ((0, 0, 0, []), 1)), (2, ((16, 2, 1, []), 3)), (5, ((0, 0, 0, []), 1)), (6, ((3, 1, 0, []), 1)), (7, ((2, 1, 0, []), 1)), (8, ((2, 0, 2, []), 1)), (9, ((15, 2, 0, []), 3)), (12, ((15, 1, 1, []), 3)), (15, ((12, 156, 3, []), 3))], [(18, ((2, 0, 2, []), 1)), (19, ((15, 2, 5, []), 3)), (22, ((2, 1, 0, []), 1)), (23, ((0, 0, 0, []), 1)), (24, ((19, 0, 0, []), 1)), (25, ((0, 0, 0, []), 1)), (26, ((3, 2, 0, []), 1)), (27, ((2, 2, 0, []), 1)), (28, ((2, 0, 2, []), 1)), (29, ((15, 2, 0, []), 3))], [(32, ((15, 1, 6, []), 3)), (35, ((12, 64, 3, []), 3)), (38, ((2, 0, 2, []), 1)), (39, ((15, 2, 0, []), 3)), (42, ((15, 1, 13, []), 3)), (45, ((2, 2, 0, []), 1)), (46, ((18, 0, 0, []), 1)), (47, ((2, 1, 0, []), 1))], [(48, ((12, 58, 1, []), 3)), (51, ((2, 0, 2, []), 1)), (52, ((2, 2, 0, []), 1)), (53, ((2, 1, 0, []), 1)), (54, ((0, 0, 0, []), 1)), (55, ((24, 37, 0, [3, 4, 2]), 3)), (58, ((4, 2, 1, []), 3)), (61, ((10, 27, 0, []), 3))], [(64, ((0, 0, 0, []), 1)), (65, ((3, 2, 0, []), 1)), (66, ((2, 2, 0, []), 1)), (67, ((2, 0, 2, []), 1)), (68, ((15, 2, 0, []), 3)), (71, ((15, 1, 7, []), 3)), (74, ((12, 150, 3, []), 3)), (77, ((2, 0, 2, []), 1)), (78, ((15, 2, 0, []), 3))], [(81, ((15, 1, 16, []), 3)), (84, ((2, 2, 0, []), 1)), (85, ((18, 0, 0, []), 1)), (86, ((2, 1, 0, []), 1)), (87, ((12, 93, 0, []), 3)), (90, ((10, 144, 0, []), 3)), (93, ((2, 0, 2, []), 1)), (94, ((15, 2, 0, []), 3))], [(97, ((15, 1, 14, []), 3)), (100, ((2, 2, 0, []), 1)), (101, ((18, 0, 0, []), 1)), (102, ((0, 0, 1, []), 1)), (103, ((12, 124, 1, []), 3)), (106, ((2, 0, 2, []), 1)), (107, ((2, 0, 2, []), 1)), (108, ((15, 2, 0, []), 3)), (111, ((15, 1, 15, []), 3))], [(114, ((2, 2, 0, []), 1)), (115, ((18, 0, 0, []), 1)), (116, ((2, 1, 0, []), 1)), (117, ((0, 0, 1, []), 1)), (118, ((24, 37, 0, [3, 4, 2]), 3)), (121, ((10, 144, 0, []), 3)), (124, ((2, 0, 2, []), 1)), (125, ((15, 2, 5, []), 3))], [(128, ((2, 1, 0, []), 1)), (129, ((9, 3, 0, []), 1)), (130, ((18, 0, 0, []), 1)), (131, ((0, 0, 1, []), 1)), (132, ((2, 0, 2, []), 1)), (133, ((15, 2, 0, []), 3)), (136, ((15, 1, 15, []), 3)), (139, ((2, 2, 0, []), 1)), (140, ((18, 0, 0, []), 1)), (141, ((5, 6, 0, []), 1)), (142, ((5, 4, 0, []), 1)), (143, ((19, 0, 0, []), 1))], [(144, ((4, 2, 1, []), 3)), (147, ((10, 66, 0, []), 3)), (150, ((4, 1, 1, []), 3)), (153, ((10, 7, 0, []), 3)), (156, ((27, 2, 0, []), 1))]]
set_option maxRecDepth 100000 in
theorem m_ok_36 : m_t_36.all (fun c => c.all (m_ck1 36)) = true := by decide +kernel
end
section
def m_t_38 : m_T := [[(0, ((2, 0, 2, []), 1)), (1, ((0, 0, 0, []), 1)), (2, ((16, 2, 6, []), 3)), (5, ((2, 0, 2, []), 1)), (6, ((15, 2, 12, []), 3)), (9, ((0, 0, (-1), []), 1)), (10, ((24, 17, 2, [2, 4, 99]), 3)), (13, ((2, 0, 2, []), 1)), (14, ((15, 2, 13, []), 3))], [(17, ((0, 0, 0, []), 1)), (18, ((24, 17, 2, [2, 4, 99]), 3)), (21, ((2, 0, 2, []), 1)), (22, ((15, 2, 14, []), 3)), (25, ((0, 0, 0, []), 1)), (26, ((24, 17, 2, [2, 4, 99]), 3)), (29, ((2, 0, 2, []), 1)), (30, ((15, 2, 16, []), 3))], [(33, ((0, 0, 0, []), 1)), (34, ((24, 17, 2, [2, 4, 99]), 3)), (37, ((2, 0, 2, []), 1)), (38, ((15, 2, 0, []), 3)), (41, ((15, 1, 8, []), 3)), (44, ((0, 0, 0, []), 1)), (45, ((2, 0, 2, []), 1)), (46, ((15, 2, 15, []), 3))], [(49, ((0, 0, 0, []), 1)), (50, ((0, 0, 7, []), 2)), (52, ((26, 0, 0, []), 3)), (55, ((2, 2, 0, []), 1)), (56, ((2, 0, 2, []), 1)), (57, ((15, 2, 0, []), 3)), (60, ((24, 39, 0, [0, 1, 1]), 3)), (63, ((5, 3, 0, []), 1))], [(64, ((3, 3, 0, []), 1)), (65, ((0, 0, 0, []), 1)), (66, ((3, 4, 0, []), 2)), (68, ((0, 0, 0, []), 1)), (69, ((3, 5, 0, []), 2)), (71, ((2, 5, 0, []), 2)), (73, ((2, 0, 2, []), 1)), (74, ((15, 2, 0, []), 3)), (77, ((15, 1, 1, []), 3))], [(80, ((12, 258, 4, []), 3)), (83, ((2, 0, 2, []), 1)), (84, ((15, 2, 15, []), 3)), (87, ((0, 0, 0, []), 1)), (88, ((2, 0, 2, []), 1)), (89, ((15, 2, 17, []), 3)), (92, ((0, 0, 7, []), 2)), (94, ((2, 5, 0, []), 2))], [(96, ((5, 2, 0, []), 1)), (97, ((0, 0, 7, []), 2)), (99, ((26, 0, 0, []), 3)), (102, ((2, 0, 2, []), 1)), (103, ((15, 2, 16, []), 3)), (106, ((0, 0, 0, []), 1)), (107, ((2, 0, 2, []), 1)), (108, ((15, 2, 18, []), 3)), (111, ((0, 0, 7, []), 2))], [(113, ((2, 5, 0, []), 2)), (115, ((5, 2, 0, []), 1)), (116, ((0, 0, 7, []), 2)), (118, ((26, 0, 0, []), 3)), (121, ((2, 4, 0, []), 2)), (123, ((2, 0, 2, []), 1)), (124, ((15, 2, 1, []), 3)), (127, ((12, 252, 3, []), 3))], [(130, ((2, 0, 2, []), 1)), (131, ((15, 2, 3, []), 3)), (134, ((2, 4, 0, []), 2)), (136, ((18, 0, 0, []), 1)), (137, ((2, 5, 0, []), 2)), (139, ((12, 252, 1, []), 3)), (142, ((2, 0, 2, []), 1)), (143, ((15, 2, 2, []), 3))], [(146, ((2, 4, 0, []), 2)), (148, ((18, 0, 0, []), 1)), (149, ((3, 6, 0, []), 2)), (151, ((2, 1, 0, []), 1)), (152, ((2, 6, 0, []), 2)), (154, ((5, 7, 0, []), 1)), (155, ((0, 0, 1, []), 1)), (156, ((5, 3, 0, []), 1)), (157, ((11, 183, 0, []), 3))], [(160, ((2, 0, 2, []), 1)), (161, ((15, 2, 4, []), 3)), (164, ((2, 4, 0, []), 2)), (166, ((18, 0, 0, []), 1)), (167, ((11, 179, 0, []), 3)), (170, ((2, 0, 2, []), 1)), (171, ((2, 6, 0, []), 2)), (173, ((24, 40, 0, [1, 2, 2]), 3))], [(176, ((11, 183, 0, []), 3)), (179, ((0, 0, 1, []), 1)), (180, ((10, 184, 0, []), 3)), (183, ((0, 0, 0, []), 1)), (184, ((3, 7, 0, []), 2)), (186, ((2, 7, 0, []), 2)), (188, ((11, 219, 0, []), 3)), (191, ((2, 0, 2, []), 1))], [(192, ((2, 3, 0, []), 1)), (193, ((2, 0, 2, []), 1)), (194, ((15, 2, 5, []), 3)), (197, ((2, 5, 0, []), 2)), (199, ((18, 0, 0, []), 1)), (200, ((0, 0, (-1), []), 1)), (201, ((5, 5, 0, []), 1)), (202, ((5, 3, 0, []), 1)), (203, ((2, 0, 2, []), 1)), (204, ((15, 2, 14, []), 3)), (207, ((2, 6, 0, []), 2))], [(209, ((18, 0, 0, []), 1)), (210, ((0, 0, (-1), []), 1)), (211, ((5, 5, 0, []), 1)), (212, ((5, 3, 0, []), 1)), (213, ((24, 41, 0, [1, 6, 2]), 3)), (216, ((10, 220, 0, []), 3)), (219, ((0, 0, 0, []), 1)), (220, ((3, 8, 0, []), 2)), (222, ((2, 8, 0, []), 2))], [(224, ((11, 246, 0, []), 3)), (227, ((2, 0, 2, []), 1)), (228, ((15, 2, 6, []), 3)), (231, ((0, 0, 28, []), 2)), (233, ((12, 246, 3, []), 3)), (236, ((2, 0, 2, []), 1)), (237, ((2, 6, 0, []), 2)), (239, ((2, 5, 0, []), 2))], [(241, ((2, 8, 0, []), 2)), (243, ((24, 43, 0, [3, 9, 2]), 3)), (246, ((4, 4, 1, []), 3)), (249, ((10, 121, 0, []), 3)), (252, ((4, 5, 1, []), 3)), (255, ((10, 71, 0, []), 3))], [(258, ((27, 2, 0, []), 1))]]
set_option maxRecDepth 100000 in
theorem m_ok_38 : m_t_38.all (fun c => c.all (m_ck1 38)) = true := by decide +kernel
def m_t_39 : m_T := [[(0, ((0, 0, 1, []), 1)), (1, ((2, 0, 2, []), 1)), (2, ((15, 1, 4, []), 3)), (5, ((5, 6, 0, []), 1)), (6, ((0, 0, 1, []), 1)), (7, ((5, 1, 0, []), 1)), (8, ((27, 0, 0, []), 1))]]
set_option maxRecDepth 100000 in
theorem m_ok_39 : m_t_39.all (fun c => c.all (m_ck1 39)) = true := by decide +kernel
def m_t_49 : m_T := [[(0, ((2, 1, 0, []), 1)), (1, ((14, 44, 0, [0, 28, 1, 36]), 27))], [(28, ((2, 0, 2, []), 1)), (29, ((15, 9, 0, []), 3))], [(32, ((15, 5, 2, []), 3)), (35, ((27, 0, 0, []), 1)), (36, ((2, 0, 2, []), 1)), (37, ((15, 9, 0, []), 3)), (40, ((15, 5, 3, []), 3)), (43, ((27, 0, 0, []), 1)), (44, ((0, 0, (-1), []), 1)), (45, ((27, 0, 0, []), 1))]]
set_option maxRecDepth 100000 in
theorem m_ok_49 : m_t_49.all (fun c => c.all (m_ck1 49)) = true := by decide +kernel
def m_t_50 : m_T := [[(0, ((2, 0, 2, []), 1)), (1, ((2, 1, 0, []), 1)), (2, ((24, 51, 0, [1, 2, 9]), 3)), (5, ((11, 17, 0, []), 3)), (8, ((2, 2, 0, []), 1)), (9, ((11, 17, 2, []), 3)), (12, ((2, 2, 0, []), 1)), (13, ((0, 0, 4, []), 1)), (14, ((12, 20, 5, []), 3))], [(17, ((0, 0, (-2), []), 2)), (19, ((27, 0, 0, []), 1)), (20, ((2, 2, 0, []), 1)), (21, ((11, 36, 1, []), 3)), (24, ((2, 0, 2, []), 1)), (25, ((15, 9, 1, []), 3)), (28, ((15, 1, 8, []), 3)), (31, ((2, 1, 0, []), 1))], [(32, ((18, 0, 0, []), 1)), (33, ((10, 51, 0, []), 3)), (36, ((2, 0, 2, []), 1)), (37, ((15, 9, 1, []), 3)), (40, ((15, 1, 9, []), 3)), (43, ((0, 0, 4, []), 1)), (44, ((2, 1, 0, []), 1)), (45, ((5, 2, 0, []), 1)), (46, ((2, 2, 0, []), 1)), (47, ((5, 0, 0, []), 1))], [(48, ((0, 0, 1, []), 1)), (49, ((5, 1, 0, []), 1)), (50, ((18, 0, 0, []), 1)), (51, ((27, 0, 0, []), 1))]]
set_option maxRecDepth 100000 in
theorem m_ok_50 : m_t_50.all (fun c => c.all (m_ck1 50)) = true := by decide +kernel
def m_t_51 : m_T := [[(0, ((2, 1, 0, []), 1)), (1, ((11, 19, 2, []), 3)), (4, ((2, 1, 0, []), 1)), (5, ((2, 0, 2, []), 1)), (6, ((15, 9, 1, []), 3)), (9, ((15, 1, 4, []), 3)), (12, ((12, 19, 3, []), 3)), (15, ((0, 0, 1, []), 1))], [(16, ((10, 20, 0, []), 3)), (19, ((0, 0, 0, []), 1)), (20, ((27, 3, 0, []), 1))]]
set_option maxRecDepth 100000 in
theorem m_ok_51 : m_t_51.all (fun c => c.all (m_ck1 51)) = true := by decide +kernel
def m_t_52 : m_T := [[(0, ((2, 0, 2, []), 1)), (1, ((2, 1, 0, []), 1)), (2, ((24, 51, 0, [1, 2, 9]), 3)), (5, ((11, 20, 0, []), 3)), (8, ((2, 0, 2, []), 1)), (9, ((15, 9, 1, []), 3)), (12, ((15, 1, 10, []), 3)), (15, ((2, 1, 0, []), 1))], [(16, ((18, 0, 0, []), 1)), (17, ((10, 22, 0, []), 3)), (20, ((0, 0, (-2), []), 2)), (22, ((27, 0, 0, []), 1))]]
set_option maxRecDepth 100000 in
theorem m_ok_52 : m_t_52.all (fun c => c.all (m_ck1 52)) = true := by decide +kernel
def m_t_53 : m_T := [[(0, ((2, 0, 2, []), 1)), (1, ((2, 1, 0, []), 1)), (2, ((24, 54, 0, [1, 2, 9]), 3)), (5, ((11, 11, 1, []), 3)), (8, ((0, 0, (-2), []), 2)), (10, ((27, 0, 0, []), 1)), (11, ((2, 2, 0, []), 1)), (12, ((13, 70, 0, [40, 50, 60]), 28))], [], [(40, ((2, 0, 2, []), 1)), (41, ((15, 9, 1, []), 3)), (44, ((15, 1, 11, []), 3)), (47, ((2, 1, 0, []), 1))], [(48, ((18, 0, 0, []), 1)), (49, ((27, 0, 0, []), 1)), (50, ((2, 0, 2, []), 1)), (51, ((15, 9, 1, []), 3)), (54, ((15, 1, 12, []), 3)), (57, ((2, 1, 0, []), 1)), (58, ((18, 0, 0, []), 1)), (59, ((27, 0, 0, []), 1)), (60, ((2, 0, 2, []), 1)), (61, ((15, 9, 1, []), 3))], [(64, ((15, 1, 13, []), 3)), (67, ((2, 1, 0, []), 1)), (68, ((18, 0, 0, []), 1)), (69, ((27, 0, 0, []), 1)), (70, ((0, 0, (-2), []), 2)), (72, ((27, 0, 0, []), 1))]]
set_option maxRecDepth 100000 in
theorem m_ok_53 : m_t_53.all (fun c => c.all (m_ck1 53)) = true := by decide +kernel
def m_t_54 : m_T := [[(0, ((2, 1, 0, []), 1)), (1, ((11, 19, 2, []), 3)), (4, ((2, 1, 0, []), 1)), (5, ((2, 0, 2, []), 1)), (6, ((15, 9, 1, []), 3)), (9, ((15, 1, 6, []), 3)), (12, ((12, 19, 3, []), 3)), (15, ((0, 0, 1, []), 1))], [(16, ((10, 20, 0, []), 3)), (19, ((0, 0, 0, []), 1)), (20, ((27, 3, 0, []), 1))]]
set_option maxRecDepth 100000 in
theorem m_ok_54 : m_t_54.all (fun c => c.all (m_ck1 54)) = true := by decide +kernel
def m_t_55 : m_T := [[(0, ((2, 0, 2, []), 1)), (1, ((2, 1, 0, []), 1)), (2, ((24, 54, 0, [1, 2, 9]), 3)), (5, ((11, 20, 0, []), 3)), (8, ((2, 0, 2, []), 1)), (9, ((15, 9, 2, []), 3)), (12, ((15, 2, 13, []), 3)), (15, ((2, 1, 0, []), 1))], [(16, ((18, 0, 0, []), 1)), (17, ((10, 22, 0, []), 3)), (20, ((0, 0, (-2), []), 2)), (22, ((27, 0, 0, []), 1))]]
set_option maxRecDepth 100000 in
theorem m_ok_55 : m_t_55.all (fun c => c.all (m_ck1 55)) = true := by decide +kernel
def m_t_56 : m_T := [[(0, ((2, 0, 2, []), 1)), (1, ((2, 1, 0, []), 1)), (2, ((24, 54, 0, [1, 2, 9]), 3)), (5, ((11, 19, 0, []), 3)), (8, ((2, 0, 2, []), 1)), (9, ((15, 9, 2, []), 3)), (12, ((2, 1, 0, []), 1)), (13, ((24, 57, 0, [1, 2, 2]), 3))], [(16, ((10, 21, 0, []), 3)), (19, ((0, 0, (-2), []), 2)), (21, ((27, 0, 0, []), 1))]]
set_option maxRecDepth 100000 in
theorem m_ok_56 : m_t_56.all (fun c => c.all (m_ck1 56)) = true := by decide +kernel
def m_t_58 : m_T := [[(0, ((2, 0, 2, []), 1)), (1, ((2, 1, 0, []), 1)), (2, ((24, 54, 0, [1, 2, 9]), 3)), (5, ((11, 17, 0, []), 3)), (8, ((2, 2, 0, []), 1)), (9, ((11, 17, 2, []), 3)), (12, ((2, 2, 0, []), 1)), (13, ((0, 0, 3, []), 1)), (14, ((12, 20, 2, []), 3))], [(17, ((0, 0, (-2), []), 2)), (19, ((27, 0, 0, []), 1)), (20, ((2, 0, 2, []), 1)), (21, ((15, 9, 2, []), 3)), (24, ((2, 1, 0, []), 1)), (25, ((2, 2, 0, []), 1)), (26, ((24, 59, 0, [2, 3, 2]), 3)), (29, ((27, 0, 0, []), 1))]]
set_option maxRecDepth 100000 in
theorem m_ok_58 : m_t_58.all (fun c => c.all (m_ck1 58)) = true := by decide +kernel
def m_t_60 : m_T := [[(0, ((2, 0, 2, []), 1)), (1, ((2, 1, 0, []), 1)), (2, ((24, 54, 0, [1, 2, 9]), 3)), (5, ((11, 19, 0, []), 3)), (8, ((2, 0, 2, []), 1)), (9, ((15, 9, 2, []), 3)), (12, ((2, 1, 0, []), 1)), (13, ((24, 61, 0, [1, 2, 2]), 3))], [(16, ((10, 21, 0, []), 3)), (19, ((0, 0, (-2), []), 2)), (21, ((27, 0, 0, []), 1))]]
set_option maxRecDepth 100000 in
theorem m_ok_60 : m_t_60.all (fun c => c.all (m_ck1 60)) = true := by decide +kernel
def m_t_62 : m_T := [[(0, ((2, 0, 2, []), 1)), (1, ((2, 1, 0, []), 1)), (2, ((24, 54, 0, [1, 2, 9]), 3)), (5, ((11, 19, 0, []), 3)), (8, ((2, 0, 2, []), 1)), (9, ((15, 9, 2, []), 3)), (12, ((2, 1, 0, []), 1)), (13, ((24, 63, 0, [1, 2, 2]), 3))], [(16, ((10, 21, 0, []), 3)), (19, ((0, 0, (-2), []), 2)), (21, ((27, 0, 0, []), 1))]]
set_option maxRecDepth 100000 in
theorem m_ok_62 : m_t_62.all (fun c => c.all (m_ck1 62)) = true := by decide +kernel
def m_t_64 : m_T := [[(0, ((2, 0, 2, []), 1)), (1, ((2, 1, 0, []), 1)), (2, ((24, 54, 0, [1, 2, 9]), 3)), (5, ((11, 19, 0, []), 3)), (8, ((2, 0, 2, []), 1)), (9, ((15, 9, 2, []), 3)), (12, ((2, 1, 0, []), 1)), (13, ((24, 65, 0, [1, 4, 2]), 3))], [(16, ((10, 21, 0, []), 3)), (19, ((0, 0, (-2), []), 2)), (21, ((27, 0, 0, []), 1))]]
set_option maxRecDepth 100000 in
theorem m_ok_64 : m_t_64.all (fun c => c.all (m_ck1 64)) = true := by decide +kernel
def m_t_68 : m_T := [[(0, ((2, 0, 2, []), 1)), (1, ((2, 1, 0, []), 1)), (2, ((24, 54, 0, [1, 2, 9]), 3)), (5, ((11, 19, 0, []), 3)), (8, ((2, 0, 2, []), 1)), (9, ((15, 9, 2, []), 3)), (12, ((2, 1, 0, []), 1)), (13, ((24, 69, 0, [1, 5, 2]), 3))], [(16, ((10, 21, 0, []), 3)), (19, ((0, 0, (-2), []), 2)), (21, ((27, 0, 0, []), 1))]]
set_option maxRecDepth 100000 in
theorem m_ok_68 : m_t_68.all (fun c => c.all (m_ck1 68)) = true := by decide +kernel
def m_t_70 : m_T := [[(0, ((2, 0, 2, []), 1)), (1, ((15, 9, 1, []), 3)), (4, ((24, 71, 0, [0, 1, 1]), 3)), (7, ((11, 13, 1, []), 3)), (10, ((0, 0, (-2), []), 2)), (12, ((27, 0, 0, []), 1)), (13, ((0, 0, 0, []), 1)), (14, ((3, 1, 0, []), 1)), (15, ((0, 0, 0, []), 1))], [(16, ((3, 2, 0, []), 1)), (17, ((2, 2, 0, []), 1)), (18, ((2, 0, 2, []), 1)), (19, ((15, 9, 1, []), 3)), (22, ((15, 1, 6, []), 3)), (25, ((12, 55, 3, []), 3)), (28, ((2, 1, 0, []), 1)), (29, ((2, 0, 2, []), 1)), (30, ((15, 9, 2, []), 3))], [(33, ((2, 2, 0, []), 1)), (34, ((24, 40, 0, [1, 2, 2]), 3)), (37, ((11, 44, 0, []), 3)), (40, ((0, 0, 0, []), 1)), (41, ((10, 47, 0, []), 3)), (44, ((0, 0, 1, []), 1)), (45, ((2, 2, 0, []), 1)), (46, ((5, 6, 0, []), 1)), (47, ((5, 4, 0, []), 1))], [(48, ((3, 1, 0, []), 1)), (49, ((4, 2, 1, []), 3)), (52, ((10, 17, 0, []), 3)), (55, ((2, 1, 0, []), 1)), (56, ((27, 0, 0, []), 1))]]
set_option maxRecDepth 100000 in
theorem m_ok_70 : m_t_70.all (fun c => c.all (m_ck1 70)) = true := by decide +kernel
def m_t_71 : m_T := [[(0, ((2, 0, 2, []), 1)), (1, ((15, 1, 0, []), 3)), (4, ((11, 11, 5, []), 3)), (7, ((0, 0, 1, []), 1)), (8, ((10, 12, 0, []), 3)), (11, ((0, 0, 0, []), 1)), (12, ((27, 3, 0, []), 1))]]
set_option maxRecDepth 100000 in
theorem m_ok_71 : m_t_71.all (fun c => c.all (m_ck1 71)) = true := by decide +kernel
def m_t_72 : m_T := [[(0, ((2, 0, 2, []), 1)), (1, ((2, 1, 0, []), 1)), (2, ((24, 51, 0, [1, 2, 9]), 3)), (5, ((11, 28, 0, []), 3)), (8, ((2, 0, 2, []), 1)), (9, ((2, 2, 0, []), 1)), (10, ((24, 73, 0, [1, 2, 9]), 3)), (13, ((11, 28, 0, []), 3))], [(16, ((2, 0, 2, []), 1)), (17, ((15, 9, 2, []), 3)), (20, ((2, 1, 0, []), 1)), (21, ((2, 2, 0, []), 1)), (22, ((24, 74, 0, [2, 3, 2]), 3)), (25, ((10, 30, 0, []), 3)), (28, ((0, 0, (-2), []), 2)), (30, ((27, 0, 0, []), 1))]]
set_option maxRecDepth 100000 in
theorem m_ok_72 : m_t_72.all (fun c => c.all (m_ck1 72)) = true := by decide +kernel
def m_t_73 : m_T := [[(0, ((2, 0, 2, []), 1)), (1, ((15, 9, 1, []), 3)), (4, ((24, 71, 0, [0, 1, 1]), 3)), (7, ((11, 29, 0, []), 3)), (10, ((2, 1, 0, []), 1)), (11, ((11, 29, 2, []), 3)), (14, ((2, 1, 0, []), 1)), (15, ((2, 0, 2, []), 1))], [(16, ((15, 9, 1, []), 3)), (19, ((15, 1, 1, []), 3)), (22, ((12, 29, 4, []), 3)), (25, ((0, 0, 1, []), 1)), (26, ((10, 30, 0, []), 3)), (29, ((0, 0, 0, []), 1)), (30, ((27, 3, 0, []), 1))]]
set_option maxRecDepth 100000 in
theorem m_ok_73 : m_t_73.all (fun c => c.all (m_ck1 73)) = true := by decide +kernel
def m_t_75 : m_T := [[(0, ((2, 0, 2, []), 1)), (1, ((2, 1, 0, []), 1)), (2, ((24, 51, 0, [1, 2, 9]), 3)), (5, ((11, 28, 0, []), 3)), (8, ((2, 0, 2, []), 1)), (9, ((2, 2, 0, []), 1)), (10, ((24, 73, 0, [1, 2, 9]), 3)), (13, ((11, 28, 0, []), 3))], [(16, ((2, 0, 2, []), 1)), (17, ((15, 9, 2, []), 3)), (20, ((2, 1, 0, []), 1)), (21, ((2, 2, 0, []), 1)), (22, ((24, 76, 0, [2, 3, 2]), 3)), (25, ((10, 30, 0, []), 3)), (28, ((0, 0, (-2), []), 2)), (30, ((27, 0, 0, []), 1))]]
set_option maxRecDepth 100000 in
theorem m_ok_75 : m_t_75.all (fun c => c.all (m_ck1 75)) = true := by decide +kernel
def m_t_77 : m_T := [[(0, ((2, 0, 2, []), 1)), (1, ((2, 1, 0, []), 1)), (2, ((24, 51, 0, [1, 2, 9]), 3)), (5, ((11, 19, 0, []), 3)), (8, ((2, 0, 2, []), 1)), (9, ((15, 9, 2, []), 3)), (12, ((2, 1, 0, []), 1)), (13, ((24, 78, 0, [1, 4, 2]), 3))], [(16, ((10, 21, 0, []), 3)), (19, ((0, 0, (-2), []), 2)), (21, ((27, 0, 0, []), 1))]]
set_option maxRecDepth 100000 in
theorem m_ok_77 : m_t_77.all (fun c => c.all (m_ck1 77)) = true := by decide +kernel
def m_t_79 : m_T := [[(0, ((2, 0, 2, []), 1)), (1, ((2, 1, 0, []), 1)), (2, ((24, 51, 0, [1, 2, 9]), 3)), (5, ((11, 19, 0, []), 3)), (8, ((2, 0, 2, []), 1)), (9, ((15, 9, 2, []), 3)), (12, ((2, 1, 0, []), 1)), (13, ((24, 80, 0, [1, 3, 2]), 3))], [(16, ((10, 21, 0, []), 3)), (19, ((0, 0, (-2), []), 2)), (21, ((27, 0, 0, []), 1))]]
set_option maxRecDepth 100000 in
theorem m_ok_79 : m_t_79.all (fun c => c.all (m_ck1 79)) = true := by decide +kernel
def m_t_81 : m_T := [[(0, ((2, 0, 2, []), 1)), (1, ((2, 1, 0, []), 1)), (2, ((24, 51, 0, [1, 2, 9]), 3)), (5, ((11, 19, 0, []), 3)), (8, ((2, 0, 2, []), 1)), (9, ((15, 9, 2, []), 3)), (12, ((2, 1, 0, []), 1)), (13, ((24, 82, 0, [1, 4, 2]), 3))], [(16, ((10, 21, 0, []), 3)), (19, ((0, 0, (-2), []), 2)), (21, ((27, 0, 0, []), 1))]]
set_option maxRecDepth 100000 in
theorem m_ok_81 : m_t_81.all (fun c => c.all (m_ck1 81)) = true := by decide +kernel
def m_t_83 : m_T := [[(0, ((2, 0, 2, []), 1)), (1, ((2, 1, 0, []), 1)), (2, ((24, 51, 0, [1, 2, 9]), 3)), (5, ((11, 19, 0, []), 3)), (8, ((2, 0, 2, []), 1)), (9, ((15, 9, 2, []), 3)), (12, ((2, 1, 0, []), 1)), (13, ((24, 84, 0, [1, 4, 2]), 3))], [(16, ((10, 21, 0, []), 3)), (19, ((0, 0, (-2), []), 2)), (21, ((27, 0, 0, []), 1))]]
set_option maxRecDepth 100000 in
theorem m_ok_83 : m_t_83.all (fun c => c.all (m_ck1 83)) = true := by decide +kernel
def m_t_85 : m_T := [[(0, ((2, 0, 2, []), 1)), (1, ((2, 1, 0, []), 1)), (2, ((24, 51, 0, [1, 2, 9]), 3)), (5, ((11, 33, 0, []), 3)), (8, ((2, 0, 2, []), 1)), (9, ((2, 2, 0, []), 1)), (10, ((24, 51, 0, [1, 2, 9]), 3)), (13, ((11, 33, 0, []), 3))], [(16, ((2, 0, 2, []), 1)), (17, ((15, 9, 2, []), 3)), (20, ((0, 0, 1, []), 1)), (21, ((2, 1, 0, []), 1)), (22, ((5, 6, 0, []), 1)), (23, ((0, 0, 1, []), 1)), (24, ((2, 2, 0, []), 1)), (25, ((5, 6, 0, []), 1)), (26, ((5, 4, 0, []), 1)), (27, ((24, 86, 0, [1, 4, 2]), 3)), (30, ((10, 35, 0, []), 3))], [(33, ((0, 0, (-2), []), 2)), (35, ((27, 0, 0, []), 1))]]
set_option maxRecDepth 100000 in
theorem m_ok_85 : m_t_85.all (fun c => c.all (m_ck1 85)) = true := by decide +kernel
def m_t_87 : m_T := [[(0, ((2, 0, 2, []), 1)), (1, ((2, 1, 0, []), 1)), (2, ((24, 73, 0, [1, 2, 9]), 3)), (5, ((11, 19, 0, []), 3)), (8, ((2, 0, 2, []), 1)), (9, ((15, 9, 2, []), 3)), (12, ((2, 1, 0, []), 1)), (13, ((24, 88, 0, [1, 4, 2]), 3))], [(16, ((10, 21, 0, []), 3)), (19, ((0, 0, (-2), []), 2)), (21, ((27, 0, 0, []), 1))]]
set_option maxRecDepth 100000 in
theorem m_ok_87 : m_t_87.all (fun c => c.all (m_ck1 87)) = true := by decide +kernel
def m_t_90 : m_T := [[(0, ((2, 0, 2, []), 1)), (1, ((2, 1, 0, []), 1)), (2, ((24, 54, 0, [1, 2, 9]), 3)), (5, ((11, 28, 0, []), 3)), (8, ((2, 0, 2, []), 1)), (9, ((2, 2, 0, []), 1)), (10, ((24, 73, 0, [1, 2, 9]), 3)), (13, ((11, 28, 0, []), 3))], [(16, ((2, 0, 2, []), 1)), (17, ((15, 9, 2, []), 3)), (20, ((2, 1, 0, []), 1)), (21, ((2, 2, 0, []), 1)), (22, ((24, 89, 0, [2, 5, 2]), 3)), (25, ((10, 30, 0, []), 3)), (28, ((0, 0, (-2), []), 2)), (30, ((27, 0, 0, []), 1))]]
set_option maxRecDepth 100000 in
theorem m_ok_90 : m_t_90.all (fun c => c.all (m_ck1 90)) = true := by decide +kernel
def m_t_91 : m_T := [[(0, ((2, 0, 2, []), 1)), (1, ((2, 1, 0, []), 1)), (2, ((24, 54, 0, [1, 2, 9]), 3)), (5, ((11, 11, 1, []), 3)), (8, ((0, 0, (-2), []), 2)), (10, ((27, 0, 0, []), 1)), (11, ((2, 0, 2, []), 1)), (12, ((15, 9, 2, []), 3)), (15, ((2, 1, 0, []), 1))], [(16, ((24, 40, 0, [1, 2, 2]), 3)), (19, ((11, 24, 1, []), 3)), (22, ((0, 0, (-1), []), 1)), (23, ((27, 0, 0, []), 1)), (24, ((2, 0, 2, []), 1)), (25, ((15, 9, 2, []), 3)), (28, ((2, 1, 0, []), 1)), (29, ((24, 63, 0, [1, 2, 2]), 3))], [(32, ((0, 0, 1, []), 1)), (33, ((5, 0, 0, []), 1)), (34, ((2, 0, 2, []), 1)), (35, ((15, 9, 2, []), 3)), (38, ((2, 1, 0, []), 1)), (39, ((24, 61, 0, [1, 2, 2]), 3)), (42, ((5, 0, 0, []), 1)), (43, ((3, 2, 0, []), 1)), (44, ((2, 2, 0, []), 1)), (45, ((2, 0, 2, []), 1)), (46, ((15, 9, 1, []), 3))], [(49, ((15, 1, 1, []), 3)), (52, ((12, 59, 4, []), 3)), (55, ((2, 2, 0, []), 1)), (56, ((10, 60, 0, []), 3)), (59, ((0, 0, (-1), []), 1)), (60, ((27, 0, 0, []), 1))]]
set_option maxRecDepth 100000 in
theorem m_ok_91 : m_t_91.all (fun c => c.all (m_ck1 91)) = true := by decide +kernel
def m_t_92 : m_T := [[(0, ((2, 0, 2, []), 1)), (1, ((15, 9, 1, []), 3)), (4, ((24, 71, 0, [0, 1, 1]), 3)), (7, ((11, 13, 1, []), 3)), (10, ((0, 0, (-2), []), 2)), (12, ((27, 0, 0, []), 1)), (13, ((0, 0, 0, []), 1)), (14, ((3, 1, 0, []), 1)), (15, ((0, 0, 0, []), 1))], [(16, ((3, 2, 0, []), 1)), (17, ((0, 0, 0, []), 1)), (18, ((3, 3, 0, []), 1)), (19, ((2, 3, 0, []), 1)), (20, ((2, 0, 2, []), 1)), (21, ((15, 9, 1, []), 3)), (24, ((15, 1, 1, []), 3)), (27, ((12, 57, 4, []), 3)), (30, ((2, 0, 2, []), 1)), (31, ((15, 9, 2, []), 3))], [(34, ((2, 3, 0, []), 1)), (35, ((24, 88, 0, [1, 4, 2]), 3)), (38, ((3, 4, 0, []), 2)), (40, ((2, 4, 0, []), 2)), (42, ((2, 2, 0, []), 1)), (43, ((12, 51, 5, []), 3)), (46, ((2, 4, 0, []), 2))], [(48, ((3, 2, 0, []), 1)), (49, ((2, 3, 0, []), 1)), (50, ((3, 1, 0, []), 1)), (51, ((4, 3, 1, []), 3)), (54, ((10, 19, 0, []), 3)), (57, ((2, 1, 0, []), 1)), (58, ((27, 0, 0, []), 1))]]
set_option maxRecDepth 100000 in
theorem m_ok_92 : m_t_92.all (fun c => c.all (m_ck1 92)) = true := by decide +kernel
def m_t_93 : m_T := [[(0, ((2, 0, 2, []), 1)), (1, ((15, 9, 1, []), 3)), (4, ((24, 71, 0, [0, 1, 1]), 3)), (7, ((11, 20, 0, []), 3)), (10, ((2, 0, 2, []), 1)), (11, ((15, 9, 2, []), 3)), (14, ((24, 94, 0, [0, 3, 2]), 3))], [(17, ((10, 22, 0, []), 3)), (20, ((0, 0, (-2), []), 2)), (22, ((27, 0, 0, []), 1))]]
set_option maxRecDepth 100000 in
theorem m_ok_93 : m_t_93.all (fun c => c.all (m_ck1 93)) = true := by decide +kernel
def m_t_95 : m_T := [[(0, ((2, 0, 2, []), 1)), (1, ((15, 9, 1, []), 3)), (4, ((24, 71, 0, [0, 1, 1]), 3)), (7, ((11, 13, 1, []), 3)), (10, ((0, 0, (-2), []), 2)), (12, ((27, 0, 0, []), 1)), (13, ((0, 0, (-1), []), 1)), (14, ((3, 1, 0, []), 1)), (15, ((0, 0, (-1), []), 1))], [(16, ((3, 2, 0, []), 1)), (17, ((0, 0, 0, []), 1)), (18, ((3, 3, 0, []), 1)), (19, ((2, 3, 0, []), 1)), (20, ((2, 0, 2, []), 1)), (21, ((15, 9, 1, []), 3)), (24, ((15, 1, 6, []), 3)), (27, ((12, 59, 3, []), 3)), (30, ((2, 0, 2, []), 1)), (31, ((15, 9, 2, []), 3))], [(34, ((2, 3, 0, []), 1)), (35, ((24, 61, 0, [1, 2, 2]), 3)), (38, ((2, 2, 0, []), 1)), (39, ((12, 53, 5, []), 3)), (42, ((2, 0, 2, []), 1)), (43, ((15, 9, 2, []), 3)), (46, ((2, 3, 0, []), 1)), (47, ((24, 61, 0, [1, 2, 2]), 3))], [(50, ((3, 2, 0, []), 1)), (51, ((2, 3, 0, []), 1)), (52, ((3, 1, 0, []), 1)), (53, ((4, 3, 1, []), 3)), (56, ((10, 19, 0, []), 3)), (59, ((2, 1, 0, []), 1)), (60, ((27, 0, 0, []), 1))]]
set_option maxRecDepth 100000 in
theorem m_ok_95 : m_t_95.all (fun c => c.all (m_ck1 95)) = true := by decide +kernel
def m_t_96 : m_T := [[(0, ((2, 0, 2, []), 1)), (1, ((2, 1, 0, []), 1)), (2, ((24, 73, 0, [1, 2, 9]), 3)), (5, ((11, 11, 1, []), 3)), (8, ((0, 0, (-2), []), 2)), (10, ((27, 0, 0, []), 1)), (11, ((0, 0, (-1), []), 1)), (12, ((3, 2, 0, []), 1)), (13, ((0, 0, 0, []), 1)), (14, ((3, 3, 0, []), 1)), (15, ((2, 3, 0, []), 1))], [(16, ((2, 0, 2, []), 1)), (17, ((15, 9, 1, []), 3)), (20, ((15, 1, 4, []), 3)), (23, ((12, 60, 3, []), 3)), (26, ((2, 2, 0, []), 1)), (27, ((0, 0, (-1), []), 1)), (28, ((12, 52, 0, []), 3)), (31, ((2, 0, 2, []), 1))], [(32, ((15, 9, 2, []), 3)), (35, ((2, 3, 0, []), 1)), (36, ((2, 1, 0, []), 1)), (37, ((24, 74, 0, [2, 3, 2]), 3)), (40, ((2, 0, 2, []), 1)), (41, ((15, 9, 2, []), 3)), (44, ((2, 2, 0, []), 1)), (45, ((2, 1, 0, []), 1)), (46, ((24, 74, 0, [2, 3, 2]), 3))], [(49, ((12, 54, 5, []), 3)), (52, ((2, 3, 0, []), 1)), (53, ((3, 2, 0, []), 1)), (54, ((4, 3, 1, []), 3)), (57, ((10, 15, 0, []), 3)), (60, ((2, 2, 0, []), 1)), (61, ((27, 0, 0, []), 1))]]
set_option maxRecDepth 100000 in
theorem m_ok_96 : m_t_96.all (fun c => c.all (m_ck1 96)) = true := by decide +kernel
def m_t_97 : m_T := [[(0, ((2, 0, 2, []), 1)), (1, ((2, 1, 0, []), 1)), (2, ((24, 73, 0, [1, 2, 9]), 3)), (5, ((11, 11, 1, []), 3)), (8, ((0, 0, (-2), []), 2)), (10, ((27, 0, 0, []), 1)), (11, ((0, 0, (-1), []), 1)), (12, ((3, 2, 0, []), 1)), (13, ((0, 0, 0, []), 1)), (14, ((3, 3, 0, []), 1)), (15, ((2, 3, 0, []), 1))], [(16, ((2, 0, 2, []), 1)), (17, ((15, 9, 1, []), 3)), (20, ((15, 1, 4, []), 3)), (23, ((12, 60, 3, []), 3)), (26, ((2, 2, 0, []), 1)), (27, ((0, 0, (-1), []), 1)), (28, ((12, 52, 0, []), 3)), (31, ((2, 0, 2, []), 1))], [(32, ((15, 9, 2, []), 3)), (35, ((2, 3, 0, []), 1)), (36, ((2, 1, 0, []), 1)), (37, ((24, 74, 0, [2, 3, 2]), 3)), (40, ((2, 0, 2, []), 1)), (41, ((15, 9, 2, []), 3)), (44, ((2, 2, 0, []), 1)), (45, ((2, 1, 0, []), 1)), (46, ((24, 74, 0, [2, 3, 2]), 3))], [(49, ((12, 54, 3, []), 3)), (52, ((2, 3, 0, []), 1)), (53, ((3, 2, 0, []), 1)), (54, ((4, 3, 1, []), 3)), (57, ((10, 15, 0, []), 3)), (60, ((2, 2, 0, []), 1)), (61, ((27, 0, 0, []), 1))]]
set_option maxRecDepth 100000 in
theorem m_ok_97 : m_t_97.all (fun c => c.all (m_ck1 97)) = true := by decide +kernel
def m_t_98 : m_T := [[(0, ((2, 0, 2, []), 1)), (1, ((15, 9, 1, []), 3)), (4, ((24, 71, 0, [0, 1, 1]), 3)), (7, ((11, 13, 1, []), 3)), (10, ((0, 0, (-2), []), 2)), (12, ((27, 0, 0, []), 1)), (13, ((0, 0, (-1), []), 1)), (14, ((3, 1, 0, []), 1)), (15, ((0, 0, 0, []), 1))], [(16, ((3, 2, 0, []), 1)), (17, ((2, 2, 0, []), 1)), (18, ((2, 0, 2, []), 1)), (19, ((15, 9, 1, []), 3)), (22, ((15, 1, 4, []), 3)), (25, ((12, 74, 3, []), 3)), (28, ((2, 1, 0, []), 1)), (29, ((0, 0, (-1), []), 1)), (30, ((12, 66, 0, []), 3))], [(33, ((2, 0, 2, []), 1)), (34, ((15, 9, 2, []), 3)), (37, ((2, 2, 0, []), 1)), (38, ((2, 0, 2, []), 1)), (39, ((15, 9, 1, []), 3)), (42, ((15, 1, 1, []), 3)), (45, ((24, 76, 0, [2, 3, 2]), 3))], [(48, ((2, 0, 2, []), 1)), (49, ((15, 9, 2, []), 3)), (52, ((2, 1, 0, []), 1)), (53, ((2, 0, 2, []), 1)), (54, ((15, 9, 1, []), 3)), (57, ((15, 1, 1, []), 3)), (60, ((24, 76, 0, [2, 3, 2]), 3)), (63, ((12, 68, 5, []), 3))], [(66, ((2, 2, 0, []), 1)), (67, ((3, 1, 0, []), 1)), (68, ((4, 2, 1, []), 3)), (71, ((10, 17, 0, []), 3)), (74, ((2, 1, 0, []), 1)), (75, ((27, 0, 0, []), 1))]]
set_option maxRecDepth 100000 in
theorem m_ok_98 : m_t_98.all (fun c => c.all (m_ck1 98)) = true := by decide +kernel
end
section
def m_t_99 : m_T := [[(0, ((2, 0, 2, []), 1)), (1, ((15, 9, 1, []), 3)), (4, ((24, 71, 0, [0, 1, 1]), 3)), (7, ((11, 13, 1, []), 3)), (10, ((0, 0, (-2), []), 2)), (12, ((27, 0, 0, []), 1)), (13, ((0, 0, 0, []), 1)), (14, ((3, 1, 0, []), 1)), (15, ((0, 0, 0, []), 1))], [(16, ((3, 2, 0, []), 1)), (17, ((2, 2, 0, []), 1)), (18, ((2, 0, 2, []), 1)), (19, ((15, 9, 1, []), 3)), (22, ((15, 1, 4, []), 3)), (25, ((12, 62, 3, []), 3)), (28, ((2, 1, 0, []), 1)), (29, ((2, 0, 2, []), 1)), (30, ((15, 9, 2, []), 3))], [(33, ((2, 2, 0, []), 1)), (34, ((2, 0, 2, []), 1)), (35, ((15, 9, 1, []), 3)), (38, ((15, 1, 1, []), 3)), (41, ((24, 76, 0, [2, 3, 2]), 3)), (44, ((11, 53, 1, []), 3)), (47, ((0, 0, 1, []), 1))], [(48, ((2, 2, 0, []), 1)), (49, ((5, 6, 0, []), 1)), (50, ((10, 54, 0, []), 3)), (53, ((0, 0, 0, []), 1)), (54, ((5, 4, 0, []), 1)), (55, ((3, 1, 0, []), 1)), (56, ((4, 2, 1, []), 3)), (59, ((10, 17, 0, []), 3)), (62, ((2, 1, 0, []), 1)), (63, ((27, 0, 0, []), 1))]]
set_option maxRecDepth 100000 in
theorem m_ok_99 : m_t_99.all (fun c => c.all (m_ck1 99)) = true := by decide +kernel
def m_t_100 : m_T := [[(0, ((2, 0, 2, []), 1)), (1, ((2, 1, 0, []), 1)), (2, ((24, 101, 0, [1, 2, 9]), 3)), (5, ((11, 19, 0, []), 3)), (8, ((2, 0, 2, []), 1)), (9, ((15, 9, 2, []), 3)), (12, ((2, 1, 0, []), 1)), (13, ((24, 102, 0, [1, 4, 2]), 3))], [(16, ((10, 21, 0, []), 3)), (19, ((0, 0, (-2), []), 2)), (21, ((27, 0, 0, []), 1))]]
set_option maxRecDepth 100000 in
theorem m_ok_100 : m_t_100.all (fun c => c.all (m_ck1 100)) = true := by decide +kernel
def m_t_101 : m_T := [[(0, ((2, 1, 0, []), 1)), (1, ((11, 19, 2, []), 3)), (4, ((2, 1, 0, []), 1)), (5, ((2, 0, 2, []), 1)), (6, ((15, 9, 1, []), 3)), (9, ((15, 1, 1, []), 3)), (12, ((12, 19, 3, []), 3)), (15, ((0, 0, 1, []), 1))], [(16, ((10, 20, 0, []), 3)), (19, ((0, 0, 0, []), 1)), (20, ((27, 3, 0, []), 1))]]
set_option maxRecDepth 100000 in
theorem m_ok_101 : m_t_101.all (fun c => c.all (m_ck1 101)) = true := by decide +kernel
def m_t_103 : m_T := [[(0, ((2, 0, 2, []), 1)), (1, ((2, 1, 0, []), 1)), (2, ((24, 51, 0, [1, 2, 9]), 3)), (5, ((11, 12, 1, []), 3)), (8, ((0, 0, (-1000), []), 3)), (11, ((27, 0, 0, []), 1)), (12, ((2, 0, 2, []), 1)), (13, ((15, 9, 2, []), 3))], [(16, ((2, 1, 0, []), 1)), (17, ((2, 0, 2, []), 1)), (18, ((15, 9, 1, []), 3)), (21, ((15, 1, 1, []), 3)), (24, ((24, 74, 0, [2, 3, 2]), 3)), (27, ((2, 0, 2, []), 1)), (28, ((15, 9, 1, []), 3)), (31, ((15, 1, 8, []), 3))], [(34, ((2, 1, 0, []), 1)), (35, ((18, 0, 0, []), 1)), (36, ((5, 1, 0, []), 1)), (37, ((27, 0, 0, []), 1))]]
set_option maxRecDepth 100000 in
theorem m_ok_103 : m_t_103.all (fun c => c.all (m_ck1 103)) = true := by decide +kernel
def m_t_104 : m_T := [[(0, ((2, 0, 2, []), 1)), (1, ((2, 1, 0, []), 1)), (2, ((24, 73, 0, [1, 2, 9]), 3)), (5, ((11, 11, 1, []), 3)), (8, ((0, 0, (-2), []), 2)), (10, ((27, 0, 0, []), 1)), (11, ((0, 0, 0, []), 1)), (12, ((3, 2, 0, []), 1)), (13, ((0, 0, 0, []), 1)), (14, ((3, 3, 0, []), 1)), (15, ((2, 3, 0, []), 1))], [(16, ((2, 0, 2, []), 1)), (17, ((15, 9, 1, []), 3)), (20, ((15, 1, 6, []), 3)), (23, ((12, 54, 3, []), 3)), (26, ((2, 2, 0, []), 1)), (27, ((2, 0, 2, []), 1)), (28, ((15, 9, 2, []), 3)), (31, ((2, 3, 0, []), 1))], [(32, ((2, 1, 0, []), 1)), (33, ((24, 89, 0, [2, 5, 2]), 3)), (36, ((11, 45, 5, []), 3)), (39, ((0, 0, 1, []), 1)), (40, ((2, 3, 0, []), 1)), (41, ((5, 6, 0, []), 1)), (42, ((10, 46, 0, []), 3)), (45, ((0, 0, 0, []), 1)), (46, ((5, 4, 0, []), 1)), (47, ((3, 2, 0, []), 1))], [(48, ((4, 3, 1, []), 3)), (51, ((10, 15, 0, []), 3)), (54, ((2, 2, 0, []), 1)), (55, ((27, 0, 0, []), 1))]]
set_option maxRecDepth 100000 in
theorem m_ok_104 : m_t_104.all (fun c => c.all (m_ck1 104)) = true := by decide +kernel
def m_t_105 : m_T := [[(0, ((2, 0, 2, []), 1)), (1, ((2, 1, 0, []), 1)), (2, ((24, 51, 0, [1, 2, 9]), 3)), (5, ((11, 20, 0, []), 3)), (8, ((2, 0, 2, []), 1)), (9, ((15, 9, 2, []), 3)), (12, ((2, 1, 0, []), 1)), (13, ((0, 0, 1, []), 1)), (14, ((24, 106, 0, [2, 8, 2]), 3))], [(17, ((10, 22, 0, []), 3)), (20, ((0, 0, (-2), []), 2)), (22, ((27, 0, 0, []), 1))]]
set_option maxRecDepth 100000 in
theorem m_ok_105 : m_t_105.all (fun c => c.all (m_ck1 105)) = true := by decide +kernel
def m_t_107 : m_T := [[(0, ((2, 0, 2, []), 1)), (1, ((2, 1, 0, []), 1)), (2, ((24, 51, 0, [1, 2, 9]), 3)), (5, ((11, 20, 0, []), 3)), (8, ((2, 0, 2, []), 1)), (9, ((15, 9, 2, []), 3)), (12, ((2, 1, 0, []), 1)), (13, ((0, 0, (-1), []), 1)), (14, ((24, 106, 0, [2, 8, 2]), 3))], [(17, ((10, 22, 0, []), 3)), (20, ((0, 0, (-2), []), 2)), (22, ((27, 0, 0, []), 1))]]
set_option maxRecDepth 100000 in
theorem m_ok_107 : m_t_107.all (fun c => c.all (m_ck1 107)) = true := by decide +kernel
def m_t_108 : m_T := [[(0, ((2, 0, 2, []), 1)), (1, ((15, 9, 1, []), 3)), (4, ((24, 71, 0, [0, 1, 1]), 3)), (7, ((11, 13, 1, []), 3)), (10, ((0, 0, (-2), []), 2)), (12, ((27, 0, 0, []), 1)), (13, ((0, 0, (-1), []), 1)), (14, ((3, 1, 0, []), 1)), (15, ((0, 0, (-1), []), 1))], [(16, ((3, 2, 0, []), 1)), (17, ((0, 0, 0, []), 1)), (18, ((3, 3, 0, []), 1)), (19, ((2, 3, 0, []), 1)), (20, ((2, 0, 2, []), 1)), (21, ((15, 9, 1, []), 3)), (24, ((15, 1, 6, []), 3)), (27, ((12, 59, 3, []), 3)), (30, ((2, 0, 2, []), 1)), (31, ((15, 9, 2, []), 3))], [(34, ((2, 3, 0, []), 1)), (35, ((24, 69, 0, [1, 5, 2]), 3)), (38, ((2, 2, 0, []), 1)), (39, ((12, 53, 5, []), 3)), (42, ((2, 0, 2, []), 1)), (43, ((15, 9, 2, []), 3)), (46, ((2, 3, 0, []), 1)), (47, ((24, 69, 0, [1, 5, 2]), 3))], [(50, ((3, 2, 0, []), 1)), (51, ((2, 3, 0, []), 1)), (52, ((3, 1, 0, []), 1)), (53, ((4, 3, 1, []), 3)), (56, ((10, 19, 0, []), 3)), (59, ((2, 1, 0, []), 1)), (60, ((27, 0, 0, []), 1))]]
set_option maxRecDepth 100000 in
theorem m_ok_108 : m_t_108.all (fun c => c.all (m_ck1 108)) = true := by decide +kernel
def m_t_109 : m_T := [[(0, ((2, 0, 2, []), 1)), (1, ((15, 9, 1, []), 3)), (4, ((24, 71, 0, [0, 1, 1]), 3)), (7, ((11, 13, 1, []), 3)), (10, ((0, 0, (-2), []), 2)), (12, ((27, 0, 0, []), 1)), (13, ((0, 0, 0, []), 1)), (14, ((3, 1, 0, []), 1)), (15, ((0, 0, 0, []), 1))], [(16, ((3, 2, 0, []), 1)), (17, ((2, 2, 0, []), 1)), (18, ((2, 0, 2, []), 1)), (19, ((15, 9, 1, []), 3)), (22, ((15, 1, 6, []), 3)), (25, ((12, 105, 3, []), 3)), (28, ((2, 2, 0, []), 1)), (29, ((0, 0, 1, []), 1)), (30, ((5, 0, 0, []), 1)), (31, ((3, 3, 0, []), 1))], [(32, ((2, 3, 0, []), 1)), (33, ((2, 0, 2, []), 1)), (34, ((15, 9, 1, []), 3)), (37, ((15, 1, 6, []), 3)), (40, ((12, 99, 3, []), 3)), (43, ((2, 0, 2, []), 1)), (44, ((15, 9, 2, []), 3)), (47, ((2, 2, 0, []), 1))], [(48, ((24, 57, 0, [1, 2, 2]), 3)), (51, ((2, 0, 2, []), 1)), (52, ((15, 9, 2, []), 3)), (55, ((2, 3, 0, []), 1)), (56, ((24, 57, 0, [1, 2, 2]), 3)), (59, ((12, 66, 1, []), 3)), (62, ((0, 0, 1, []), 1)), (63, ((10, 67, 0, []), 3))], [(66, ((0, 0, 0, []), 1)), (67, ((3, 4, 0, []), 2)), (69, ((2, 1, 0, []), 1)), (70, ((2, 0, 2, []), 1)), (71, ((15, 9, 2, []), 3)), (74, ((2, 2, 0, []), 1)), (75, ((24, 40, 0, [1, 2, 2]), 3)), (78, ((11, 90, 0, []), 3))], [(81, ((2, 4, 0, []), 2)), (83, ((11, 90, 0, []), 3)), (86, ((0, 0, 1, []), 1)), (87, ((10, 91, 0, []), 3)), (90, ((0, 0, 0, []), 1)), (91, ((5, 0, 0, []), 1)), (92, ((3, 1, 0, []), 1)), (93, ((4, 3, 1, []), 3))], [(96, ((10, 32, 0, []), 3)), (99, ((4, 2, 1, []), 3)), (102, ((10, 17, 0, []), 3)), (105, ((2, 1, 0, []), 1)), (106, ((27, 0, 0, []), 1))]]
set_option maxRecDepth 100000 in
theorem m_ok_109 : m_t_109.all (fun c => c.all (m_ck1 109)) = true := by decide +kernel
def m_t_110 : m_T := [[(0, ((2, 0, 2, []), 1)), (1, ((2, 1, 0, []), 1)), (2, ((24, 101, 0, [1, 2, 9]), 3)), (5, ((11, 19, 0, []), 3)), (8, ((2, 0, 2, []), 1)), (9, ((15, 9, 2, []), 3)), (12, ((2, 1, 0, []), 1)), (13, ((24, 111, 0, [1, 4, 2]), 3))], [(16, ((10, 21, 0, []), 3)), (19, ((0, 0, (-2), []), 2)), (21, ((27, 0, 0, []), 1))]]
set_option maxRecDepth 100000 in
theorem m_ok_110 : m_t_110.all (fun c => c.all (m_ck1 110)) = true := by decide +kernel
def m_t_112 : m_T := [[(0, ((2, 0, 2, []), 1)), (1, ((2, 1, 0, []), 1)), (2, ((24, 54, 0, [1, 2, 9]), 3)), (5, ((11, 30, 0, []), 3)), (8, ((2, 0, 2, []), 1)), (9, ((15, 9, 1, []), 3)), (12, ((24, 39, 0, [0, 1, 1]), 3)), (15, ((2, 0, 2, []), 1))], [(16, ((15, 9, 2, []), 3)), (19, ((15, 2, 14, []), 3)), (22, ((2, 1, 0, []), 1)), (23, ((18, 0, 0, []), 1)), (24, ((0, 0, (-1), []), 1)), (25, ((5, 5, 0, []), 1)), (26, ((5, 3, 0, []), 1)), (27, ((10, 32, 0, []), 3)), (30, ((0, 0, (-2), []), 2))], [(32, ((27, 0, 0, []), 1))]]
set_option maxRecDepth 100000 in
theorem m_ok_112 : m_t_112.all (fun c => c.all (m_ck1 112)) = true := by decide +kernel
def m_t_113 : m_T := [[(0, ((2, 0, 2, []), 1)), (1, ((15, 9, 1, []), 3)), (4, ((24, 71, 0, [0, 1, 1]), 3)), (7, ((11, 20, 0, []), 3)), (10, ((2, 0, 2, []), 1)), (11, ((15, 9, 3, []), 3)), (14, ((24, 114, 0, [0, 3, 4]), 3))], [(17, ((10, 22, 0, []), 3)), (20, ((0, 0, (-2), []), 2)), (22, ((27, 0, 0, []), 1))]]
set_option maxRecDepth 100000 in
theorem m_ok_113 : m_t_113.all (fun c => c.all (m_ck1 113)) = true := by decide +kernel
def m_t_116 : m_T := [[(0, ((2, 0, 2, []), 1)), (1, ((2, 1, 0, []), 1)), (2, ((24, 51, 0, [1, 2, 9]), 3)), (5, ((11, 28, 0, []), 3)), (8, ((2, 0, 2, []), 1)), (9, ((2, 2, 0, []), 1)), (10, ((24, 54, 0, [1, 2, 9]), 3)), (13, ((11, 28, 0, []), 3))], [(16, ((2, 0, 2, []), 1)), (17, ((15, 9, 3, []), 3)), (20, ((2, 1, 0, []), 1)), (21, ((2, 2, 0, []), 1)), (22, ((24, 117, 0, [2, 3, 4]), 3)), (25, ((10, 30, 0, []), 3)), (28, ((0, 0, (-2), []), 2)), (30, ((27, 0, 0, []), 1))]]
set_option maxRecDepth 100000 in
theorem m_ok_116 : m_t_116.all (fun c => c.all (m_ck1 116)) = true := by decide +kernel
def m_t_118 : m_T := [[(0, ((2, 0, 2, []), 1)), (1, ((2, 1, 0, []), 1)), (2, ((24, 54, 0, [1, 2, 9]), 3)), (5, ((11, 11, 1, []), 3)), (8, ((0, 0, (-2), []), 2)), (10, ((27, 0, 0, []), 1)), (11, ((2, 0, 2, []), 1)), (12, ((15, 9, 3, []), 3)), (15, ((2, 1, 0, []), 1))], [(16, ((24, 119, 0, [1, 6, 4]), 3)), (19, ((3, 2, 0, []), 1)), (20, ((2, 2, 0, []), 1)), (21, ((0, 0, (-1), []), 1)), (22, ((12, 29, 1, []), 3)), (25, ((0, 0, (-1), []), 1)), (26, ((10, 38, 0, []), 3)), (29, ((2, 0, 2, []), 1)), (30, ((15, 9, 3, []), 3))], [(33, ((2, 2, 0, []), 1)), (34, ((2, 1, 0, []), 1)), (35, ((24, 120, 0, [2, 5, 4]), 3)), (38, ((27, 0, 0, []), 1))]]
set_option maxRecDepth 100000 in
theorem m_ok_118 : m_t_118.all (fun c => c.all (m_ck1 118)) = true := by decide +kernel
def m_t_121 : m_T := [[(0, ((2, 0, 2, []), 1)), (1, ((2, 1, 0, []), 1)), (2, ((24, 54, 0, [1, 2, 9]), 3)), (5, ((11, 19, 0, []), 3)), (8, ((2, 0, 2, []), 1)), (9, ((15, 9, 3, []), 3)), (12, ((2, 1, 0, []), 1)), (13, ((24, 119, 0, [1, 6, 4]), 3))], [(16, ((10, 21, 0, []), 3)), (19, ((0, 0, (-2), []), 2)), (21, ((27, 0, 0, []), 1))]]
set_option maxRecDepth 100000 in
theorem m_ok_121 : m_t_121.all (fun c => c.all (m_ck1 121)) = true := by decide +kernel
def m_t_122 : m_T := [[(0, ((2, 0, 2, []), 1)), (1, ((2, 1, 0, []), 1)), (2, ((24, 54, 0, [1, 2, 9]), 3)), (5, ((11, 11, 1, []), 3)), (8, ((0, 0, (-2), []), 2)), (10, ((27, 0, 0, []), 1)), (11, ((2, 0, 2, []), 1)), (12, ((15, 9, 3, []), 3)), (15, ((2, 1, 0, []), 1))], [(16, ((24, 123, 0, [1, 6, 4]), 3)), (19, ((3, 2, 0, []), 1)), (20, ((2, 2, 0, []), 1)), (21, ((0, 0, (-1), []), 1)), (22, ((12, 29, 1, []), 3)), (25, ((0, 0, (-1), []), 1)), (26, ((10, 38, 0, []), 3)), (29, ((2, 0, 2, []), 1)), (30, ((15, 9, 3, []), 3))], [(33, ((2, 2, 0, []), 1)), (34, ((2, 1, 0, []), 1)), (35, ((24, 120, 0, [2, 5, 4]), 3)), (38, ((27, 0, 0, []), 1))]]
set_option maxRecDepth 100000 in
theorem m_ok_122 : m_t_122.all (fun c => c.all (m_ck1 122)) = true := by decide +kernel
def m_t_124 : m_T := [[(0, ((2, 0, 2, []), 1)), (1, ((2, 1, 0, []), 1)), (2, ((24, 54, 0, [1, 2, 9]), 3)), (5, ((11, 19, 0, []), 3)), (8, ((2, 0, 2, []), 1)), (9, ((15, 9, 3, []), 3)), (12, ((2, 1, 0, []), 1)), (13, ((24, 123, 0, [1, 6, 4]), 3))], [(16, ((10, 21, 0, []), 3)), (19, ((0, 0, (-2), []), 2)), (21, ((27, 0, 0, []), 1))]]
set_option maxRecDepth 100000 in
theorem m_ok_124 : m_t_124.all (fun c => c.all (m_ck1 124)) = true := by decide +kernel
def m_t_125 : m_T := [[(0, ((2, 0, 2, []), 1)), (1, ((2, 1, 0, []), 1)), (2, ((24, 54, 0, [1, 2, 9]), 3)), (5, ((11, 19, 0, []), 3)), (8, ((2, 0, 2, []), 1)), (9, ((15, 9, 3, []), 3)), (12, ((2, 1, 0, []), 1)), (13, ((24, 126, 0, [1, 6, 4]), 3))], [(16, ((10, 21, 0, []), 3)), (19, ((0, 0, (-2), []), 2)), (21, ((27, 0, 0, []), 1))]]
set_option maxRecDepth 100000 in
theorem m_ok_125 : m_t_125.all (fun c => c.all (m_ck1 125)) = true := by decide +kernel
def m_t_128 : m_T := [[(0, ((2, 0, 2, []), 1)), (1, ((2, 1, 0, []), 1)), (2, ((24, 54, 0, [1, 2, 9]), 3)), (5, ((11, 11, 1, []), 3)), (8, ((0, 0, (-2), []), 2)), (10, ((27, 0, 0, []), 1)), (11, ((2, 0, 2, []), 1)), (12, ((15, 9, 4, []), 3)), (15, ((2, 1, 0, []), 1))], [(16, ((24, 129, 0, [1, 6, 8]), 3)), (19, ((3, 2, 0, []), 1)), (20, ((2, 2, 0, []), 1)), (21, ((0, 0, (-1), []), 1)), (22, ((12, 29, 1, []), 3)), (25, ((0, 0, (-1), []), 1)), (26, ((10, 33, 0, []), 3)), (29, ((2, 2, 0, []), 1)), (30, ((24, 67, 2, [1, 1, 99]), 3))], [(33, ((27, 0, 0, []), 1))]]
set_option maxRecDepth 100000 in
theorem m_ok_128 : m_t_128.all (fun c => c.all (m_ck1 128)) = true := by decide +kernel
def m_t_131 : m_T := [[(0, ((2, 0, 2, []), 1)), (1, ((2, 1, 0, []), 1)), (2, ((24, 54, 0, [1, 2, 9]), 3)), (5, ((11, 19, 0, []), 3)), (8, ((2, 0, 2, []), 1)), (9, ((15, 9, 4, []), 3)), (12, ((2, 1, 0, []), 1)), (13, ((24, 129, 0, [1, 6, 8]), 3))], [(16, ((10, 21, 0, []), 3)), (19, ((0, 0, (-2), []), 2)), (21, ((27, 0, 0, []), 1))]]
set_option maxRecDepth 100000 in
theorem m_ok_131 : m_t_131.all (fun c => c.all (m_ck1 131)) = true := by decide +kernel
def m_t_132 : m_T := [[(0, ((2, 0, 2, []), 1)), (1, ((2, 1, 0, []), 1)), (2, ((24, 54, 0, [1, 2, 9]), 3)), (5, ((11, 19, 0, []), 3)), (8, ((2, 0, 2, []), 1)), (9, ((15, 9, 4, []), 3)), (12, ((2, 1, 0, []), 1)), (13, ((24, 133, 0, [1, 6, 8]), 3))], [(16, ((10, 21, 0, []), 3)), (19, ((0, 0, (-2), []), 2)), (21, ((27, 0, 0, []), 1))]]
set_option maxRecDepth 100000 in
theorem m_ok_132 : m_t_132.all (fun c => c.all (m_ck1 132)) = true := by decide +kernel
def m_t_134 : m_T := [[(0, ((2, 0, 2, []), 1)), (1, ((15, 9, 1, []), 3)), (4, ((24, 71, 0, [0, 1, 1]), 3)), (7, ((11, 24, 0, []), 3)), (10, ((2, 0, 2, []), 1)), (11, ((15, 9, 4, []), 3)), (14, ((2, 0, 2, []), 1)), (15, ((15, 9, 2, []), 3))], [(18, ((24, 135, 0, [1, 7, 8]), 3)), (21, ((10, 26, 0, []), 3)), (24, ((0, 0, (-2), []), 2)), (26, ((27, 0, 0, []), 1))]]
set_option maxRecDepth 100000 in
theorem m_ok_134 : m_t_134.all (fun c => c.all (m_ck1 134)) = true := by decide +kernel
def m_t_136 : m_T := [[(0, ((2, 0, 2, []), 1)), (1, ((2, 1, 0, []), 1)), (2, ((2, 2, 0, []), 1)), (3, ((24, 137, 0, [2, 4, 9]), 3)), (6, ((3, 3, 0, []), 1)), (7, ((2, 3, 0, []), 1)), (8, ((11, 15, 0, []), 3)), (11, ((2, 3, 0, []), 1)), (12, ((10, 22, 0, []), 3)), (15, ((2, 0, 2, []), 1))], [(16, ((15, 9, 5, []), 3)), (19, ((15, 7, 2, []), 3)), (22, ((27, 0, 0, []), 1))]]
set_option maxRecDepth 100000 in
theorem m_ok_136 : m_t_136.all (fun c => c.all (m_ck1 136)) = true := by decide +kernel
def m_t_137 : m_T := [[(0, ((2, 0, 2, []), 1)), (1, ((15, 9, 7, []), 3)), (4, ((2, 1, 0, []), 1)), (5, ((24, 138, 0, [1, 2, 6]), 3)), (8, ((11, 19, 0, []), 3)), (11, ((2, 0, 2, []), 1)), (12, ((2, 2, 0, []), 1)), (13, ((24, 51, 0, [1, 2, 9]), 3))], [(16, ((11, 22, 1, []), 3)), (19, ((0, 0, (-2), []), 2)), (21, ((27, 0, 0, []), 1)), (22, ((2, 0, 2, []), 1)), (23, ((2, 1, 0, []), 1)), (24, ((24, 139, 0, [1, 2, 9]), 3)), (27, ((3, 3, 0, []), 1)), (28, ((2, 3, 0, []), 1)), (29, ((11, 41, 1, []), 3))], [(32, ((2, 0, 2, []), 1)), (33, ((15, 9, 5, []), 3)), (36, ((2, 1, 0, []), 1)), (37, ((2, 2, 0, []), 1)), (38, ((24, 144, 0, [2, 5, 7]), 3)), (41, ((2, 3, 0, []), 1)), (42, ((27, 0, 0, []), 1))]]
set_option maxRecDepth 100000 in
theorem m_ok_137 : m_t_137.all (fun c => c.all (m_ck1 137)) = true := by decide +kernel
def m_t_138 : m_T := [[(0, ((2, 1, 0, []), 1)), (1, ((11, 13, 2, []), 3)), (4, ((2, 1, 0, []), 1)), (5, ((0, 0, 4, []), 1)), (6, ((12, 13, 3, []), 3)), (9, ((0, 0, 1, []), 1)), (10, ((10, 14, 0, []), 3)), (13, ((0, 0, 0, []), 1)), (14, ((27, 3, 0, []), 1))]]
set_option maxRecDepth 100000 in
theorem m_ok_138 : m_t_138.all (fun c => c.all (m_ck1 138)) = true := by decide +kernel
def m_t_140 : m_T := [[(0, ((2, 0, 2, []), 1)), (1, ((15, 6, 2, []), 3)), (4, ((2, 1, 0, []), 1)), (5, ((18, 0, 0, []), 1)), (6, ((0, 0, (-1), []), 1)), (7, ((12, 14, 0, []), 3)), (10, ((0, 0, 1, []), 1)), (11, ((10, 15, 0, []), 3)), (14, ((0, 0, 0, []), 1)), (15, ((27, 3, 0, []), 1))]]
set_option maxRecDepth 100000 in
theorem m_ok_140 : m_t_140.all (fun c => c.all (m_ck1 140)) = true := by decide +kernel
def m_t_146 : m_T := [[(0, ((2, 0, 2, []), 1)), (1, ((2, 1, 0, []), 1)), (2, ((2, 2, 0, []), 1)), (3, ((24, 137, 0, [2, 4, 9]), 3)), (6, ((3, 3, 0, []), 1)), (7, ((2, 3, 0, []), 1)), (8, ((11, 15, 0, []), 3)), (11, ((2, 3, 0, []), 1)), (12, ((10, 22, 0, []), 3)), (15, ((2, 0, 2, []), 1))], [(16, ((15, 9, 5, []), 3)), (19, ((24, 147, 0, [0, 1, 7]), 3)), (22, ((27, 0, 0, []), 1))]]
set_option maxRecDepth 100000 in
theorem m_ok_146 : m_t_146.all (fun c => c.all (m_ck1 146)) = true := by decide +kernel
def m_t_148 : m_T := [[(0, ((2, 0, 2, []), 1)), (1, ((2, 1, 0, []), 1)), (2, ((2, 2, 0, []), 1)), (3, ((24, 137, 0, [2, 4, 9]), 3)), (6, ((3, 3, 0, []), 1)), (7, ((2, 3, 0, []), 1)), (8, ((11, 15, 0, []), 3)), (11, ((2, 3, 0, []), 1)), (12, ((10, 22, 0, []), 3)), (15, ((2, 0, 2, []), 1))], [(16, ((15, 9, 5, []), 3)), (19, ((24, 149, 0, [0, 1, 7]), 3)), (22, ((27, 0, 0, []), 1))]]
set_option maxRecDepth 100000 in
theorem m_ok_148 : m_t_148.all (fun c => c.all (m_ck1 148)) = true := by decide +kernel
def m_t_150 : m_T := [[(0, ((2, 0, 2, []), 1)), (1, ((2, 1, 0, []), 1)), (2, ((2, 2, 0, []), 1)), (3, ((24, 137, 0, [2, 4, 9]), 3)), (6, ((3, 3, 0, []), 1)), (7, ((2, 3, 0, []), 1)), (8, ((11, 15, 0, []), 3)), (11, ((2, 3, 0, []), 1)), (12, ((10, 22, 0, []), 3)), (15, ((2, 0, 2, []), 1))], [(16, ((15, 9, 5, []), 3)), (19, ((24, 151, 0, [0, 5, 7]), 3)), (22, ((27, 0, 0, []), 1))]]
set_option maxRecDepth 100000 in
theorem m_ok_150 : m_t_150.all (fun c => c.all (m_ck1 150)) = true := by decide +kernel
def m_t_153 : m_T := [[(0, ((2, 0, 2, []), 1)), (1, ((2, 1, 0, []), 1)), (2, ((2, 2, 0, []), 1)), (3, ((24, 137, 0, [2, 4, 9]), 3)), (6, ((3, 3, 0, []), 1)), (7, ((2, 3, 0, []), 1)), (8, ((11, 13, 0, []), 3)), (11, ((2, 3, 0, []), 1)), (12, ((27, 0, 0, []), 1)), (13, ((2, 0, 2, []), 1)), (14, ((15, 9, 5, []), 3))], [(17, ((24, 151, 0, [0, 5, 7]), 3)), (20, ((3, 4, 0, []), 2)), (22, ((2, 4, 0, []), 2)), (24, ((0, 0, (-1), []), 1)), (25, ((12, 38, 1, []), 3)), (28, ((2, 0, 2, []), 1)), (29, ((15, 9, 5, []), 3))], [(32, ((15, 7, 2, []), 3)), (35, ((10, 47, 0, []), 3)), (38, ((2, 0, 2, []), 1)), (39, ((15, 9, 5, []), 3)), (42, ((2, 4, 0, []), 2)), (44, ((24, 152, 0, [1, 6, 7]), 3)), (47, ((27, 0, 0, []), 1))]]
set_option maxRecDepth 100000 in
theorem m_ok_153 : m_t_153.all (fun c => c.all (m_ck1 153)) = true := by decide +kernel
def m_t_154 : m_T := [[(0, ((2, 0, 2, []), 1)), (1, ((15, 9, 7, []), 3)), (4, ((2, 1, 0, []), 1)), (5, ((24, 138, 0, [1, 2, 6]), 3)), (8, ((11, 21, 0, []), 3)), (11, ((2, 0, 2, []), 1)), (12, ((15, 9, 1, []), 3)), (15, ((24, 71, 0, [0, 1, 1]), 3))], [(18, ((11, 24, 1, []), 3)), (21, ((0, 0, (-2), []), 2)), (23, ((27, 0, 0, []), 1)), (24, ((2, 0, 2, []), 1)), (25, ((2, 1, 0, []), 1)), (26, ((24, 139, 0, [1, 2, 9]), 3)), (29, ((3, 2, 0, []), 1)), (30, ((2, 2, 0, []), 1)), (31, ((11, 38, 0, []), 3))], [(34, ((2, 2, 0, []), 1)), (35, ((10, 46, 0, []), 3)), (38, ((2, 0, 2, []), 1)), (39, ((15, 9, 5, []), 3)), (42, ((2, 1, 0, []), 1)), (43, ((24, 155, 0, [1, 4, 7]), 3)), (46, ((27, 0, 0, []), 1))]]
set_option maxRecDepth 100000 in
theorem m_ok_154 : m_t_154.all (fun c => c.all (m_ck1 154)) = true := by decide +kernel
def m_t_156 : m_T := [[(0, ((2, 0, 2, []), 1)), (1, ((15, 9, 1, []), 3)), (4, ((24, 71, 0, [0, 1, 1]), 3)), (7, ((11, 19, 0, []), 3)), (10, ((2, 1, 0, []), 1)), (11, ((11, 19, 2, []), 3)), (14, ((2, 1, 0, []), 1)), (15, ((0, 0, 4, []), 1))], [(16, ((12, 22, 2, []), 3)), (19, ((0, 0, (-2), []), 2)), (21, ((27, 0, 0, []), 1)), (22, ((2, 0, 2, []), 1)), (23, ((15, 9, 4, []), 3)), (26, ((2, 1, 0, []), 1)), (27, ((24, 157, 0, [1, 2, 8]), 3)), (30, ((27, 0, 0, []), 1))]]
set_option maxRecDepth 100000 in
theorem m_ok_156 : m_t_156.all (fun c => c.all (m_ck1 156)) = true := by decide +kernel
def m_t_158 : m_T := [[(0, ((2, 0, 2, []), 1)), (1, ((15, 9, 1, []), 3)), (4, ((24, 71, 0, [0, 1, 1]), 3)), (7, ((11, 20, 0, []), 3)), (10, ((2, 0, 2, []), 1)), (11, ((15, 9, 4, []), 3)), (14, ((24, 159, 0, [0, 5, 8]), 3))], [(17, ((10, 22, 0, []), 3)), (20, ((0, 0, (-2), []), 2)), (22, ((27, 0, 0, []), 1))]]
set_option maxRecDepth 100000 in
theorem m_ok_158 : m_t_158.all (fun c => c.all (m_ck1 158)) = true := by decide +kernel
def m_t_160 : m_T := [[(0, ((2, 0, 2, []), 1)), (1, ((15, 9, 1, []), 3)), (4, ((24, 71, 0, [0, 1, 1]), 3)), (7, ((11, 25, 0, []), 3)), (10, ((2, 1, 0, []), 1)), (11, ((11, 25, 2, []), 3)), (14, ((2, 1, 0, []), 1)), (15, ((2, 0, 2, []), 1))], [(16, ((15, 9, 1, []), 3)), (19, ((24, 39, 0, [0, 1, 1]), 3)), (22, ((12, 28, 5, []), 3)), (25, ((0, 0, (-2), []), 2)), (27, ((27, 0, 0, []), 1)), (28, ((2, 0, 2, []), 1)), (29, ((15, 9, 4, []), 3))], [(32, ((24, 130, 0, [0, 1, 8]), 3)), (35, ((2, 0, 2, []), 1)), (36, ((15, 9, 4, []), 3)), (39, ((2, 1, 0, []), 1)), (40, ((24, 161, 0, [1, 2, 8]), 3)), (43, ((27, 0, 0, []), 1))]]
set_option maxRecDepth 100000 in
theorem m_ok_160 : m_t_160.all (fun c => c.all (m_ck1 160)) = true := by decide +kernel
def m_t_162 : m_T := [[(0, ((2, 0, 2, []), 1)), (1, ((2, 1, 0, []), 1)), (2, ((24, 51, 0, [1, 2, 9]), 3)), (5, ((11, 17, 0, []), 3)), (8, ((2, 2, 0, []), 1)), (9, ((11, 17, 2, []), 3)), (12, ((2, 2, 0, []), 1)), (13, ((0, 0, 1, []), 1)), (14, ((12, 21, 5, []), 3))], [(17, ((0, 0, (-1000000), []), 3)), (20, ((27, 0, 0, []), 1)), (21, ((2, 0, 2, []), 1)), (22, ((15, 9, 4, []), 3)), (25, ((2, 1, 0, []), 1)), (26, ((24, 163, 0, [1, 9, 8]), 3)), (29, ((2, 0, 2, []), 1)), (30, ((15, 9, 4, []), 3))], [(33, ((15, 8, 3, []), 3)), (36, ((2, 2, 0, []), 1)), (37, ((24, 168, 0, [1, 2, 3]), 3)), (40, ((7, 2, 0, []), 1)), (41, ((27, 0, 0, []), 1))]]
set_option maxRecDepth 100000 in
theorem m_ok_162 : m_t_162.all (fun c => c.all (m_ck1 162)) = true := by decide +kernel
def m_t_169 : m_T := [[(0, ((2, 0, 2, []), 1)), (1, ((2, 1, 0, []), 1)), (2, ((2, 2, 0, []), 1)), (3, ((24, 170, 0, [2, 3, 9]), 3)), (6, ((11, 21, 0, []), 3)), (9, ((2, 0, 2, []), 1)), (10, ((15, 9, 4, []), 3)), (13, ((2, 1, 0, []), 1)), (14, ((2, 2, 0, []), 1)), (15, ((24, 171, 0, [2, 6, 8]), 3))], [(18, ((10, 23, 0, []), 3)), (21, ((0, 0, (-2), []), 2)), (23, ((27, 0, 0, []), 1))]]
set_option maxRecDepth 100000 in
theorem m_ok_169 : m_t_169.all (fun c => c.all (m_ck1 169)) = true := by decide +kernel
def m_t_170 : m_T := [[(0, ((2, 0, 2, []), 1)), (1, ((2, 1, 0, []), 1)), (2, ((24, 54, 0, [1, 2, 9]), 3)), (5, ((11, 25, 0, []), 3)), (8, ((2, 0, 2, []), 1)), (9, ((2, 2, 0, []), 1)), (10, ((24, 54, 0, [1, 2, 9]), 3)), (13, ((11, 25, 0, []), 3))], [(16, ((2, 1, 0, []), 1)), (17, ((2, 2, 0, []), 1)), (18, ((12, 25, 0, []), 3)), (21, ((0, 0, 1, []), 1)), (22, ((10, 26, 0, []), 3)), (25, ((0, 0, 0, []), 1)), (26, ((27, 3, 0, []), 1))]]
set_option maxRecDepth 100000 in
theorem m_ok_170 : m_t_170.all (fun c => c.all (m_ck1 170)) = true := by decide +kernel
def m_t_174 : m_T := [[(0, ((2, 0, 2, []), 1)), (1, ((2, 1, 0, []), 1)), (2, ((2, 2, 0, []), 1)), (3, ((24, 170, 0, [2, 3, 9]), 3)), (6, ((11, 26, 0, []), 3)), (9, ((2, 0, 2, []), 1)), (10, ((2, 3, 0, []), 1)), (11, ((24, 175, 0, [1, 2, 9]), 3)), (14, ((11, 26, 0, []), 3))], [(17, ((2, 0, 2, []), 1)), (18, ((2, 4, 0, []), 2)), (20, ((24, 175, 0, [1, 2, 9]), 3)), (23, ((11, 30, 1, []), 3)), (26, ((0, 0, (-1000), []), 3)), (29, ((27, 0, 0, []), 1)), (30, ((2, 0, 2, []), 1)), (31, ((15, 9, 4, []), 3))], [(34, ((2, 1, 0, []), 1)), (35, ((2, 2, 0, []), 1)), (36, ((2, 3, 0, []), 1)), (37, ((2, 4, 0, []), 2)), (39, ((24, 172, 0, [4, 5, 8]), 3)), (42, ((2, 0, 2, []), 1)), (43, ((15, 9, 4, []), 3)), (46, ((2, 1, 0, []), 1)), (47, ((2, 3, 0, []), 1))], [(48, ((24, 173, 0, [2, 3, 8]), 3)), (51, ((27, 0, 0, []), 1))]]
set_option maxRecDepth 100000 in
theorem m_ok_174 : m_t_174.all (fun c => c.all (m_ck1 174)) = true := by decide +kernel
def m_t_176 : m_T := [[(0, ((2, 0, 2, []), 1)), (1, ((2, 1, 0, []), 1)), (2, ((24, 54, 0, [1, 2, 9]), 3)), (5, ((11, 28, 0, []), 3)), (8, ((2, 2, 0, []), 1)), (9, ((11, 28, 2, []), 3)), (12, ((2, 2, 0, []), 1)), (13, ((0, 0, 200, []), 3))], [(16, ((12, 28, 4, []), 3)), (19, ((2, 3, 0, []), 1)), (20, ((11, 28, 2, []), 3)), (23, ((2, 3, 0, []), 1)), (24, ((0, 0, 1, []), 1)), (25, ((12, 31, 5, []), 3)), (28, ((0, 0, (-2), []), 2)), (30, ((27, 0, 0, []), 1)), (31, ((2, 0, 2, []), 1))], [(32, ((15, 9, 6, []), 3)), (35, ((2, 1, 0, []), 1)), (36, ((2, 2, 0, []), 1)), (37, ((24, 177, 0, [2, 8, 0]), 3)), (40, ((2, 0, 2, []), 1)), (41, ((15, 9, 6, []), 3)), (44, ((15, 0, 1, []), 3)), (47, ((2, 3, 0, []), 1))], [(48, ((24, 168, 0, [1, 2, 3]), 3)), (51, ((7, 2, 0, []), 1)), (52, ((27, 0, 0, []), 1))]]
set_option maxRecDepth 100000 in
theorem m_ok_176 : m_t_176.all (fun c => c.all (m_ck1 176)) = true := by decide +kernel
end
section
def m_t_180 : m_T := [[(0, ((2, 0, 2, []), 1)), (1, ((15, 9, 1, []), 3)), (4, ((24, 71, 0, [0, 1, 1]), 3)), (7, ((11, 19, 0, []), 3)), (10, ((2, 1, 0, []), 1)), (11, ((11, 19, 2, []), 3)), (14, ((2, 1, 0, []), 1)), (15, ((0, 0, 1, []), 1))], [(16, ((12, 23, 5, []), 3)), (19, ((1, 0, (-2), []), 3)), (22, ((27, 1, 0, []), 1)), (23, ((2, 0, 2, []), 1)), (24, ((15, 9, 6, []), 3)), (27, ((24, 181, 0, [0, 6, 0]), 3)), (30, ((2, 0, 2, []), 1)), (31, ((15, 9, 6, []), 3))], [(34, ((15, 0, 1, []), 3)), (37, ((2, 1, 0, []), 1)), (38, ((24, 168, 0, [1, 2, 3]), 3)), (41, ((27, 1, 0, []), 1))]]
set_option maxRecDepth 100000 in
theorem m_ok_180 : m_t_180.all (fun c => c.all (m_ck1 180)) = true := by decide +kernel
def m_t_182 : m_T := [[(0, ((2, 0, 2, []), 1)), (1, ((2, 1, 0, []), 1)), (2, ((24, 54, 0, [1, 2, 9]), 3)), (5, ((11, 16, 0, []), 3)), (8, ((2, 0, 2, []), 1)), (9, ((2, 2, 0, []), 1)), (10, ((24, 101, 0, [1, 2, 9]), 3)), (13, ((11, 19, 1, []), 3))], [(16, ((0, 0, (-2), []), 2)), (18, ((27, 0, 0, []), 1)), (19, ((2, 0, 2, []), 1)), (20, ((15, 9, 1, []), 3)), (23, ((0, 0, 1, []), 1)), (24, ((2, 1, 0, []), 1)), (25, ((2, 2, 0, []), 1)), (26, ((24, 183, 0, [3, 4, 1]), 3)), (29, ((11, 35, 1, []), 3))], [(32, ((0, 0, (-5), []), 2)), (34, ((27, 0, 0, []), 1)), (35, ((2, 0, 2, []), 1)), (36, ((24, 35, 0, [0, 1, 9]), 3)), (39, ((2, 0, 2, []), 1)), (40, ((15, 9, 2, []), 3)), (43, ((2, 1, 0, []), 1)), (44, ((24, 61, 0, [1, 2, 2]), 3)), (47, ((27, 0, 0, []), 1))]]
set_option maxRecDepth 100000 in
theorem m_ok_182 : m_t_182.all (fun c => c.all (m_ck1 182)) = true := by decide +kernel
def m_t_184 : m_T := [[(0, ((2, 0, 2, []), 1)), (1, ((2, 1, 0, []), 1)), (2, ((24, 51, 0, [1, 2, 9]), 3)), (5, ((11, 16, 0, []), 3)), (8, ((2, 0, 2, []), 1)), (9, ((2, 2, 0, []), 1)), (10, ((24, 101, 0, [1, 2, 9]), 3)), (13, ((11, 19, 1, []), 3))], [(16, ((0, 0, (-2), []), 2)), (18, ((27, 0, 0, []), 1)), (19, ((2, 0, 2, []), 1)), (20, ((15, 9, 1, []), 3)), (23, ((0, 0, 0, []), 1)), (24, ((2, 1, 0, []), 1)), (25, ((2, 2, 0, []), 1)), (26, ((24, 183, 0, [3, 4, 1]), 3)), (29, ((11, 35, 1, []), 3))], [(32, ((0, 0, (-5), []), 2)), (34, ((27, 0, 0, []), 1)), (35, ((2, 0, 2, []), 1)), (36, ((24, 35, 0, [0, 1, 9]), 3)), (39, ((2, 0, 2, []), 1)), (40, ((15, 9, 2, []), 3)), (43, ((24, 185, 0, [0, 3, 2]), 3)), (46, ((27, 0, 0, []), 1))]]
set_option maxRecDepth 100000 in
theorem m_ok_184 : m_t_184.all (fun c => c.all (m_ck1 184)) = true := by decide +kernel
def m_t_186 : m_T := [[(0, ((2, 0, 2, []), 1)), (1, ((15, 9, 1, []), 3)), (4, ((24, 71, 0, [0, 1, 1]), 3)), (7, ((11, 13, 1, []), 3)), (10, ((0, 0, (-2), []), 2)), (12, ((27, 0, 0, []), 1)), (13, ((2, 0, 2, []), 1)), (14, ((15, 9, 1, []), 3))], [(17, ((15, 1, 7, []), 3)), (20, ((11, 26, 1, []), 3)), (23, ((0, 0, (-5), []), 2)), (25, ((27, 0, 0, []), 1)), (26, ((2, 0, 2, []), 1)), (27, ((15, 9, 1, []), 3)), (30, ((9, 2, 0, []), 1)), (31, ((15, 1, 7, []), 3))], [(34, ((0, 0, 1, []), 1)), (35, ((5, 1, 0, []), 1)), (36, ((16, 1, 7, []), 3)), (39, ((2, 0, 2, []), 1)), (40, ((24, 35, 0, [0, 1, 9]), 3)), (43, ((2, 0, 2, []), 1)), (44, ((15, 9, 1, []), 3)), (47, ((15, 1, 7, []), 3))], [(50, ((27, 0, 0, []), 1))]]
set_option maxRecDepth 100000 in
theorem m_ok_186 : m_t_186.all (fun c => c.all (m_ck1 186)) = true := by decide +kernel
def m_t_187 : m_T := [[(0, ((2, 0, 2, []), 1)), (1, ((15, 9, 1, []), 3)), (4, ((24, 71, 0, [0, 1, 1]), 3)), (7, ((11, 13, 1, []), 3)), (10, ((0, 0, (-2), []), 2)), (12, ((27, 0, 0, []), 1)), (13, ((2, 0, 2, []), 1)), (14, ((15, 9, 1, []), 3))], [(17, ((15, 1, 7, []), 3)), (20, ((3, 1, 0, []), 1)), (21, ((2, 0, 2, []), 1)), (22, ((15, 9, 1, []), 3)), (25, ((0, 0, 0, []), 1)), (26, ((16, 1, 7, []), 3)), (29, ((2, 0, 2, []), 1)), (30, ((24, 35, 0, [0, 1, 9]), 3))], [(33, ((2, 1, 0, []), 1)), (34, ((27, 0, 0, []), 1))]]
set_option maxRecDepth 100000 in
theorem m_ok_187 : m_t_187.all (fun c => c.all (m_ck1 187)) = true := by decide +kernel
def m_t_188 : m_T := [[(0, ((2, 0, 2, []), 1)), (1, ((15, 9, 1, []), 3)), (4, ((24, 71, 0, [0, 1, 1]), 3)), (7, ((11, 30, 0, []), 3)), (10, ((2, 0, 2, []), 1)), (11, ((15, 9, 6, []), 3)), (14, ((2, 1, 0, []), 1)), (15, ((24, 189, 0, [1, 2, 0]), 3))], [(18, ((11, 30, 0, []), 3)), (21, ((2, 2, 0, []), 1)), (22, ((11, 30, 2, []), 3)), (25, ((2, 2, 0, []), 1)), (26, ((0, 0, 1, []), 1)), (27, ((12, 33, 5, []), 3)), (30, ((0, 0, (-2), []), 2))], [(32, ((27, 0, 0, []), 1)), (33, ((2, 0, 2, []), 1)), (34, ((15, 9, 6, []), 3)), (37, ((2, 1, 0, []), 1)), (38, ((24, 190, 0, [1, 6, 0]), 3)), (41, ((3, 3, 0, []), 1)), (42, ((2, 2, 0, []), 1)), (43, ((11, 50, 1, []), 3)), (46, ((2, 3, 0, []), 1)), (47, ((10, 58, 0, []), 3))], [(50, ((2, 0, 2, []), 1)), (51, ((15, 9, 6, []), 3)), (54, ((2, 3, 0, []), 1)), (55, ((24, 191, 0, [1, 2, 0]), 3)), (58, ((27, 0, 0, []), 1))]]
set_option maxRecDepth 100000 in
theorem m_ok_188 : m_t_188.all (fun c => c.all (m_ck1 188)) = true := by decide +kernel
def m_t_192 : m_T := [[(0, ((2, 0, 2, []), 1)), (1, ((2, 3, 0, []), 1)), (2, ((24, 54, 0, [1, 2, 9]), 3)), (5, ((11, 30, 0, []), 3)), (8, ((2, 0, 2, []), 1)), (9, ((15, 9, 6, []), 3)), (12, ((2, 1, 0, []), 1)), (13, ((24, 189, 0, [1, 2, 0]), 3))], [(16, ((11, 30, 0, []), 3)), (19, ((2, 2, 0, []), 1)), (20, ((0, 0, 1, []), 1)), (21, ((12, 30, 2, []), 3)), (24, ((2, 2, 0, []), 1)), (25, ((0, 0, 20, []), 2)), (27, ((12, 33, 5, []), 3)), (30, ((0, 0, (-2), []), 2))], [(32, ((27, 0, 0, []), 1)), (33, ((2, 0, 2, []), 1)), (34, ((15, 9, 6, []), 3)), (37, ((2, 1, 0, []), 1)), (38, ((2, 2, 0, []), 1)), (39, ((2, 3, 0, []), 1)), (40, ((24, 193, 0, [3, 6, 0]), 3)), (43, ((27, 0, 0, []), 1))]]
set_option maxRecDepth 100000 in
theorem m_ok_192 : m_t_192.all (fun c => c.all (m_ck1 192)) = true := by decide +kernel
def m_t_194 : m_T := [[(0, ((2, 0, 2, []), 1)), (1, ((2, 1, 0, []), 1)), (2, ((24, 54, 0, [1, 2, 9]), 3)), (5, ((11, 18, 0, []), 3)), (8, ((2, 2, 0, []), 1)), (9, ((11, 18, 2, []), 3)), (12, ((2, 2, 0, []), 1)), (13, ((0, 0, 15, []), 2)), (15, ((12, 21, 5, []), 3))], [(18, ((0, 0, (-2), []), 2)), (20, ((27, 0, 0, []), 1)), (21, ((2, 0, 2, []), 1)), (22, ((15, 9, 1, []), 3)), (25, ((15, 1, 7, []), 3)), (28, ((11, 34, 5, []), 3)), (31, ((0, 0, (-5), []), 2))], [(33, ((27, 0, 0, []), 1)), (34, ((2, 0, 2, []), 1)), (35, ((15, 9, 1, []), 3)), (38, ((15, 1, 12, []), 3)), (41, ((2, 1, 0, []), 1)), (42, ((18, 0, 0, []), 1)), (43, ((3, 3, 0, []), 1)), (44, ((2, 0, 2, []), 1)), (45, ((15, 9, 1, []), 3))], [(48, ((15, 1, 12, []), 3)), (51, ((2, 1, 0, []), 1)), (52, ((2, 2, 0, []), 1)), (53, ((19, 0, 0, []), 1)), (54, ((2, 0, 2, []), 1)), (55, ((24, 35, 0, [0, 1, 9]), 3)), (58, ((2, 3, 0, []), 1)), (59, ((27, 0, 0, []), 1))]]
set_option maxRecDepth 100000 in
theorem m_ok_194 : m_t_194.all (fun c => c.all (m_ck1 194)) = true := by decide +kernel
def m_t_195 : m_T := [[(0, ((2, 1, 0, []), 1)), (1, ((13, 136, 0, [56, 64, 72, 80, 88, 96, 104, 112, 120, 128]), 55))], [], [], [(56, ((2, 0, 2, []), 1)), (57, ((15, 9, 1, []), 3)), (60, ((15, 1, 1, []), 3)), (63, ((27, 0, 0, []), 1))], [(64, ((2, 0, 2, []), 1)), (65, ((15, 9, 1, []), 3)), (68, ((15, 1, 2, []), 3)), (71, ((27, 0, 0, []), 1)), (72, ((2, 0, 2, []), 1)), (73, ((15, 9, 1, []), 3)), (76, ((15, 1, 3, []), 3)), (79, ((27, 0, 0, []), 1))], [(80, ((2, 0, 2, []), 1)), (81, ((15, 9, 1, []), 3)), (84, ((15, 1, 4, []), 3)), (87, ((27, 0, 0, []), 1)), (88, ((2, 0, 2, []), 1)), (89, ((15, 9, 1, []), 3)), (92, ((15, 1, 5, []), 3)), (95, ((27, 0, 0, []), 1))], [(96, ((2, 0, 2, []), 1)), (97, ((15, 9, 1, []), 3)), (100, ((15, 1, 6, []), 3)), (103, ((27, 0, 0, []), 1)), (104, ((2, 0, 2, []), 1)), (105, ((15, 9, 1, []), 3)), (108, ((15, 1, 7, []), 3)), (111, ((27, 0, 0, []), 1))], [(112, ((2, 0, 2, []), 1)), (113, ((15, 9, 1, []), 3)), (116, ((15, 1, 0, []), 3)), (119, ((27, 0, 0, []), 1)), (120, ((2, 0, 2, []), 1)), (121, ((15, 9, 0, []), 3)), (124, ((15, 5, 1, []), 3)), (127, ((27, 0, 0, []), 1))], [(128, ((2, 0, 2, []), 1)), (129, ((15, 9, 7, []), 3)), (132, ((24, 196, 0, [0, 3, 6]), 3)), (135, ((27, 0, 0, []), 1)), (136, ((0, 0, (-1), []), 1)), (137, ((27, 0, 0, []), 1))]]
set_option maxRecDepth 100000 in
theorem m_ok_195 : m_t_195.all (fun c => c.all (m_ck1 195)) = true := by decide +kernel
def m_t_196 : m_T := [[(0, ((0, 0, 0, []), 1)), (1, ((3, 1, 0, []), 1)), (2, ((0, 0, 0, []), 1)), (3, ((3, 2, 0, []), 1)), (4, ((2, 2, 0, []), 1)), (5, ((0, 0, 4, []), 1)), (6, ((12, 31, 3, []), 3)), (9, ((2, 1, 0, []), 1)), (10, ((2, 0, 2, []), 1)), (11, ((2, 2, 0, []), 1)), (12, ((24, 140, 0, [1, 2, 6]), 3)), (15, ((11, 22, 0, []), 3))], [(18, ((0, 0, 1, []), 1)), (19, ((10, 23, 0, []), 3)), (22, ((0, 0, 0, []), 1)), (23, ((5, 0, 0, []), 1)), (24, ((3, 1, 0, []), 1)), (25, ((4, 2, 1, []), 3)), (28, ((10, 4, 0, []), 3)), (31, ((2, 1, 0, []), 1))], [(32, ((27, 0, 0, []), 1))]]
set_option maxRecDepth 100000 in
theorem m_ok_196 : m_t_196.all (fun c => c.all (m_ck1 196)) = true := by decide +kernel
def m_t_197 : m_T := [[(0, ((2, 1, 0, []), 1)), (1, ((11, 9, 2, []), 3)), (4, ((2, 1, 0, []), 1)), (5, ((0, 0, 3, []), 1)), (6, ((12, 12, 2, []), 3)), (9, ((0, 0, (-2), []), 2)), (11, ((27, 0, 0, []), 1)), (12, ((2, 0, 2, []), 1)), (13, ((15, 9, 8, []), 3))], [(16, ((2, 1, 0, []), 1)), (17, ((18, 3, 0, []), 1)), (18, ((2, 0, 2, []), 1)), (19, ((15, 9, 1, []), 3)), (22, ((24, 34, 0, [1, 2, 1]), 3)), (25, ((2, 0, 2, []), 1)), (26, ((9, 2, 0, []), 1)), (27, ((15, 9, 9, []), 3)), (30, ((0, 0, 1, []), 1)), (31, ((2, 1, 0, []), 1))], [(32, ((5, 6, 0, []), 1)), (33, ((5, 4, 0, []), 1)), (34, ((16, 9, 9, []), 3)), (37, ((0, 0, 0, []), 1)), (38, ((27, 0, 0, []), 1))]]
set_option maxRecDepth 100000 in
theorem m_ok_197 : m_t_197.all (fun c => c.all (m_ck1 197)) = true := by decide +kernel
def m_t_198 : m_T := [[(0, ((2, 1, 0, []), 1)), (1, ((11, 9, 2, []), 3)), (4, ((2, 1, 0, []), 1)), (5, ((0, 0, 3, []), 1)), (6, ((12, 12, 2, []), 3)), (9, ((0, 0, (-2), []), 2)), (11, ((27, 0, 0, []), 1)), (12, ((2, 0, 2, []), 1)), (13, ((15, 9, 9, []), 3))], [(16, ((2, 1, 0, []), 1)), (17, ((5, 7, 0, []), 1)), (18, ((0, 0, 1, []), 1)), (19, ((5, 3, 0, []), 1)), (20, ((11, 26, 1, []), 3)), (23, ((0, 0, (-6), []), 2)), (25, ((27, 0, 0, []), 1)), (26, ((2, 0, 2, []), 1)), (27, ((15, 9, 1, []), 3)), (30, ((2, 0, 2, []), 1)), (31, ((15, 9, 8, []), 3))], [(34, ((2, 1, 0, []), 1)), (35, ((18, 3, 0, []), 1)), (36, ((24, 34, 0, [1, 2, 1]), 3)), (39, ((2, 0, 2, []), 1)), (40, ((24, 35, 0, [0, 1, 9]), 3)), (43, ((0, 0, 0, []), 1)), (44, ((27, 0, 0, []), 1))]]
set_option maxRecDepth 100000 in
theorem m_ok_198 : m_t_198.all (fun c => c.all (m_ck1 198)) = true := by decide +kernel
def m_t_199 : m_T := [[(0, ((2, 0, 2, []), 1)), (1, ((15, 9, 7, []), 3)), (4, ((2, 1, 0, []), 1)), (5, ((24, 138, 0, [1, 2, 6]), 3)), (8, ((11, 28, 0, []), 3)), (11, ((2, 0, 2, []), 1)), (12, ((15, 9, 7, []), 3)), (15, ((2, 2, 0, []), 1))], [(16, ((24, 200, 0, [1, 2, 6]), 3)), (19, ((11, 28, 0, []), 3)), (22, ((2, 3, 0, []), 1)), (23, ((0, 0, 60, []), 2)), (25, ((12, 31, 5, []), 3)), (28, ((0, 0, (-2), []), 2)), (30, ((27, 0, 0, []), 1)), (31, ((2, 3, 0, []), 1))], [(32, ((11, 38, 3, []), 3)), (35, ((0, 0, (-3), []), 2)), (37, ((27, 0, 0, []), 1)), (38, ((2, 0, 2, []), 1)), (39, ((15, 9, 7, []), 3)), (42, ((2, 1, 0, []), 1)), (43, ((2, 2, 0, []), 1)), (44, ((2, 3, 0, []), 1)), (45, ((24, 201, 0, [3, 5, 6]), 3))], [(48, ((0, 0, 0, []), 1)), (49, ((27, 0, 0, []), 1))]]
set_option maxRecDepth 100000 in
theorem m_ok_199 : m_t_199.all (fun c => c.all (m_ck1 199)) = true := by decide +kernel
def m_t_200 : m_T := [[(0, ((2, 1, 0, []), 1)), (1, ((11, 13, 2, []), 3)), (4, ((2, 1, 0, []), 1)), (5, ((0, 0, 4, []), 1)), (6, ((12, 13, 3, []), 3)), (9, ((0, 0, 1, []), 1)), (10, ((10, 14, 0, []), 3)), (13, ((0, 0, 0, []), 1)), (14, ((27, 3, 0, []), 1))]]
set_option maxRecDepth 100000 in
theorem m_ok_200 : m_t_200.all (fun c => c.all (m_ck1 200)) = true := by decide +kernel
def m_t_201 : m_T := [[(0, ((2, 0, 2, []), 1)), (1, ((15, 6, 1, []), 3)), (4, ((2, 1, 0, []), 1)), (5, ((2, 2, 0, []), 1)), (6, ((19, 0, 0, []), 1)), (7, ((2, 0, 2, []), 1)), (8, ((15, 6, 2, []), 3)), (11, ((2, 1, 0, []), 1)), (12, ((2, 3, 0, []), 1)), (13, ((19, 0, 0, []), 1)), (14, ((0, 0, 0, []), 1)), (15, ((3, 4, 0, []), 2))], [(17, ((2, 4, 0, []), 2)), (19, ((2, 3, 0, []), 1)), (20, ((12, 49, 3, []), 3)), (23, ((2, 4, 0, []), 2)), (25, ((0, 0, 60, []), 2)), (27, ((12, 49, 3, []), 3)), (30, ((2, 0, 2, []), 1)), (31, ((15, 6, 0, []), 3))], [(34, ((0, 0, 60, []), 2)), (36, ((2, 1, 0, []), 1)), (37, ((5, 2, 0, []), 1)), (38, ((2, 4, 0, []), 2)), (40, ((5, 0, 0, []), 1)), (41, ((1, 0, 0, []), 1)), (42, ((19, 2, 0, []), 1)), (43, ((4, 4, 1, []), 3)), (46, ((10, 17, 0, []), 3))], [(49, ((27, 2, 0, []), 1))]]
set_option maxRecDepth 100000 in
theorem m_ok_201 : m_t_201.all (fun c => c.all (m_ck1 201)) = true := by decide +kernel
def m_t_202 : m_T := [[(0, ((2, 0, 2, []), 1)), (1, ((15, 9, 7, []), 3)), (4, ((2, 1, 0, []), 1)), (5, ((24, 138, 0, [1, 2, 6]), 3)), (8, ((11, 14, 1, []), 3)), (11, ((0, 0, (-2), []), 2)), (13, ((27, 0, 0, []), 1)), (14, ((2, 0, 2, []), 1)), (15, ((15, 9, 7, []), 3))], [(18, ((2, 1, 0, []), 1)), (19, ((24, 140, 0, [1, 2, 6]), 3)), (22, ((11, 28, 1, []), 3)), (25, ((0, 0, (-6), []), 2)), (27, ((27, 0, 0, []), 1)), (28, ((2, 0, 2, []), 1)), (29, ((15, 9, 7, []), 3))], [(32, ((2, 1, 0, []), 1)), (33, ((2, 2, 0, []), 1)), (34, ((2, 3, 1, []), 1)), (35, ((24, 203, 0, [3, 5, 6]), 3)), (38, ((11, 45, 0, []), 3)), (41, ((0, 0, 0, []), 1)), (42, ((10, 47, 0, []), 3)), (45, ((0, 0, (-7), []), 2)), (47, ((27, 0, 0, []), 1))]]
set_option maxRecDepth 100000 in
theorem m_ok_202 : m_t_202.all (fun c => c.all (m_ck1 202)) = true := by decide +kernel
def m_t_205 : m_T := [[(0, ((2, 0, 2, []), 1)), (1, ((15, 9, 7, []), 3)), (4, ((2, 1, 0, []), 1)), (5, ((24, 138, 0, [1, 2, 6]), 3)), (8, ((11, 22, 0, []), 3)), (11, ((2, 0, 2, []), 1)), (12, ((15, 9, 7, []), 3)), (15, ((2, 3, 0, []), 1))], [(16, ((24, 138, 0, [1, 2, 6]), 3)), (19, ((11, 25, 1, []), 3)), (22, ((0, 0, (-2), []), 2)), (24, ((27, 0, 0, []), 1)), (25, ((2, 0, 2, []), 1)), (26, ((15, 9, 7, []), 3)), (29, ((2, 1, 0, []), 1)), (30, ((24, 140, 0, [1, 2, 6]), 3))], [(33, ((11, 47, 0, []), 3)), (36, ((2, 0, 2, []), 1)), (37, ((15, 9, 7, []), 3)), (40, ((2, 3, 0, []), 1)), (41, ((24, 140, 0, [1, 2, 6]), 3)), (44, ((11, 50, 1, []), 3)), (47, ((0, 0, (-6), []), 2))], [(49, ((27, 0, 0, []), 1)), (50, ((2, 0, 2, []), 1)), (51, ((15, 9, 7, []), 3)), (54, ((2, 1, 0, []), 1)), (55, ((2, 3, 0, []), 1)), (56, ((24, 206, 0, [2, 3, 6]), 3)), (59, ((11, 65, 1, []), 3)), (62, ((0, 0, (-8), []), 2))], [(64, ((27, 0, 0, []), 1)), (65, ((2, 0, 2, []), 1)), (66, ((15, 9, 7, []), 3)), (69, ((2, 1, 0, []), 1)), (70, ((2, 2, 0, []), 1)), (71, ((2, 3, 0, []), 1)), (72, ((2, 4, 0, []), 2)), (74, ((2, 5, 0, []), 2)), (76, ((24, 207, 0, [5, 6, 6]), 3)), (79, ((11, 86, 0, []), 3))], [(82, ((0, 0, 0, []), 1)), (83, ((10, 88, 0, []), 3)), (86, ((0, 0, (-7), []), 2)), (88, ((27, 0, 0, []), 1))]]
set_option maxRecDepth 100000 in
theorem m_ok_205 : m_t_205.all (fun c => c.all (m_ck1 205)) = true := by decide +kernel
def m_t_209 : m_T := [[(0, ((2, 0, 2, []), 1)), (1, ((25, 0, 0, []), 3)), (4, ((2, 0, 2, []), 1)), (5, ((0, 0, 4, []), 1)), (6, ((22, 0, 0, []), 2)), (8, ((16, 10, 1, []), 3)), (11, ((2, 0, 2, []), 1)), (12, ((0, 0, 4, []), 1)), (13, ((22, 0, 0, []), 2)), (15, ((16, 10, 2, []), 3))], [(18, ((2, 0, 2, []), 1)), (19, ((0, 0, 240, []), 3)), (22, ((22, 3, 0, []), 2)), (24, ((16, 10, 3, []), 3)), (27, ((2, 0, 2, []), 1)), (28, ((0, 0, 60, []), 2)), (30, ((22, 3, 0, []), 2))], [(32, ((16, 10, 4, []), 3)), (35, ((2, 0, 2, []), 1)), (36, ((0, 0, 700, []), 3)), (39, ((22, 1, 0, []), 2)), (41, ((16, 10, 5, []), 3)), (44, ((2, 0, 2, []), 1)), (45, ((0, 0, (-1), []), 1)), (46, ((16, 10, 15, []), 3))], [(49, ((2, 0, 2, []), 1)), (50, ((0, 0, 5, []), 1)), (51, ((22, 0, 0, []), 2)), (53, ((16, 10, 16, []), 3)), (56, ((2, 0, 2, []), 1)), (57, ((0, 0, 35, []), 2)), (59, ((22, 0, 0, []), 2)), (61, ((16, 10, 17, []), 3))], [(64, ((2, 0, 2, []), 1)), (65, ((0, 0, 175, []), 3)), (68, ((22, 0, 0, []), 2)), (70, ((16, 10, 18, []), 3)), (73, ((2, 0, 2, []), 1)), (74, ((0, 0, 80, []), 2)), (76, ((22, 0, 0, []), 2)), (78, ((16, 10, 19, []), 3))], [(81, ((2, 0, 2, []), 1)), (82, ((0, 0, 120, []), 2)), (84, ((22, 0, 0, []), 2)), (86, ((16, 10, 20, []), 3)), (89, ((2, 0, 2, []), 1)), (90, ((0, 0, 300, []), 3)), (93, ((22, 0, 0, []), 2)), (95, ((16, 10, 21, []), 3))], [(98, ((2, 0, 2, []), 1)), (99, ((0, 0, 3, []), 1)), (100, ((22, 2, 0, []), 2)), (102, ((16, 10, 22, []), 3)), (105, ((2, 0, 2, []), 1)), (106, ((0, 0, 7, []), 2)), (108, ((22, 0, 0, []), 2)), (110, ((16, 10, 26, []), 3))], [(113, ((2, 0, 2, []), 1)), (114, ((0, 0, 8, []), 2)), (116, ((22, 0, 0, []), 2)), (118, ((16, 10, 27, []), 3)), (121, ((2, 0, 2, []), 1)), (122, ((0, 0, 8, []), 2)), (124, ((22, 0, 0, []), 2)), (126, ((16, 10, 28, []), 3))], [(129, ((2, 0, 2, []), 1)), (130, ((0, 0, 8, []), 2)), (132, ((22, 0, 0, []), 2)), (134, ((16, 10, 29, []), 3)), (137, ((2, 0, 2, []), 1)), (138, ((0, 0, 196, []), 3)), (141, ((22, 0, 0, []), 2)), (143, ((16, 10, 31, []), 3))], [(146, ((2, 0, 2, []), 1)), (147, ((0, 0, 105, []), 2)), (149, ((22, 0, 0, []), 2)), (151, ((16, 10, 32, []), 3)), (154, ((2, 0, 2, []), 1)), (155, ((0, 0, 105, []), 2)), (157, ((22, 0, 0, []), 2)), (159, ((16, 10, 33, []), 3))], [(162, ((2, 0, 2, []), 1)), (163, ((0, 0, 7, []), 2)), (165, ((22, 0, 0, []), 2)), (167, ((16, 10, 34, []), 3)), (170, ((2, 0, 2, []), 1)), (171, ((0, 0, 7, []), 2)), (173, ((22, 0, 0, []), 2)), (175, ((16, 10, 35, []), 3))], [(178, ((2, 0, 2, []), 1)), (179, ((0, 0, 8, []), 2)), (181, ((22, 0, 0, []), 2)), (183, ((16, 10, 36, []), 3)), (186, ((2, 0, 2, []), 1)), (187, ((0, 0, 8, []), 2)), (189, ((22, 0, 0, []), 2)), (191, ((16, 10, 37, []), 3))], [(194, ((2, 0, 2, []), 1)), (195, ((0, 0, 3, []), 1)), (196, ((22, 0, 0, []), 2)), (198, ((16, 10, 38, []), 3)), (201, ((2, 0, 2, []), 1)), (202, ((0, 0, 328, []), 3)), (205, ((22, 0, 0, []), 2)), (207, ((16, 10, 42, []), 3))], [(210, ((0, 0, 0, []), 1)), (211, ((3, 1, 0, []), 1)), (212, ((2, 1, 0, []), 1)), (213, ((0, 0, 4, []), 1)), (214, ((12, 230, 3, []), 3)), (217, ((2, 0, 2, []), 1)), (218, ((15, 10, 1, []), 3)), (221, ((2, 1, 0, []), 1)), (222, ((0, 0, (-1), []), 1)), (223, ((19, 0, 0, []), 1))], [(224, ((4, 1, 1, []), 3)), (227, ((10, 212, 0, []), 3)), (230, ((27, 2, 0, []), 1))]]
set_option maxRecDepth 100000 in
theorem m_ok_209 : m_t_209.all (fun c => c.all (m_ck1 209)) = true := by decide +kernel
def m_t_210 : m_T := [[(0, ((2, 0, 2, []), 1)), (1, ((0, 0, 0, []), 1)), (2, ((16, 10, 0, []), 3)), (5, ((2, 1, 0, []), 1)), (6, ((24, 211, 2, [1, 1, 10]), 3)), (9, ((11, 30, 0, []), 3)), (12, ((2, 2, 0, []), 1)), (13, ((7, 1, 0, []), 1)), (14, ((1, 0, 0, []), 1)), (15, ((1, 0, 3, []), 3))], [(18, ((24, 212, 2, [3, 6, 10]), 3)), (21, ((11, 30, 0, []), 3)), (24, ((2, 3, 0, []), 1)), (25, ((0, 0, 60, []), 2)), (27, ((12, 33, 5, []), 3)), (30, ((0, 0, (-2), []), 2))], [(32, ((27, 0, 0, []), 1)), (33, ((2, 3, 0, []), 1)), (34, ((11, 40, 3, []), 3)), (37, ((0, 0, (-3), []), 2)), (39, ((27, 0, 0, []), 1)), (40, ((2, 0, 2, []), 1)), (41, ((15, 10, 1, []), 3)), (44, ((2, 1, 0, []), 1)), (45, ((2, 2, 0, []), 1)), (46, ((19, 0, 0, []), 1)), (47, ((2, 0, 2, []), 1))], [(48, ((15, 10, 2, []), 3)), (51, ((2, 1, 0, []), 1)), (52, ((2, 3, 0, []), 1)), (53, ((19, 0, 0, []), 1)), (54, ((0, 0, 0, []), 1)), (55, ((3, 4, 0, []), 2)), (57, ((2, 4, 0, []), 2)), (59, ((2, 3, 0, []), 1)), (60, ((12, 82, 3, []), 3)), (63, ((2, 0, 2, []), 1))], [(64, ((15, 10, 3, []), 3)), (67, ((0, 0, 60, []), 2)), (69, ((2, 1, 0, []), 1)), (70, ((5, 2, 0, []), 1)), (71, ((2, 4, 0, []), 2)), (73, ((5, 0, 0, []), 1)), (74, ((1, 0, 0, []), 1)), (75, ((19, 2, 0, []), 1)), (76, ((4, 4, 1, []), 3)), (79, ((10, 57, 0, []), 3))], [(82, ((0, 0, 0, []), 1)), (83, ((27, 0, 0, []), 1))]]
set_option maxRecDepth 100000 in
theorem m_ok_210 : m_t_210.all (fun c => c.all (m_ck1 210)) = true := by decide +kernel
def m_t_211 : m_T := [[(0, ((2, 0, 0, []), 1)), (1, ((7, 1, 0, []), 1)), (2, ((1, 0, 0, []), 1)), (3, ((1, 0, 3, []), 3)), (6, ((24, 212, 2, [3, 6, 10]), 3)), (9, ((27, 3, 0, []), 1))]]
set_option maxRecDepth 100000 in
theorem m_ok_211 : m_t_211.all (fun c => c.all (m_ck1 211)) = true := by decide +kernel
def m_t_212 : m_T := [[(0, ((2, 0, 1, []), 1)), (1, ((2, 2, 1, []), 1)), (2, ((8, 0, 0, []), 1)), (3, ((11, 17, 2, []), 3)), (6, ((2, 0, 1, []), 1)), (7, ((2, 4, 1, []), 2)), (9, ((8, 0, 0, []), 1)), (10, ((11, 17, 4, []), 3)), (13, ((0, 0, 1, []), 1)), (14, ((10, 18, 0, []), 3))], [(17, ((0, 0, 0, []), 1)), (18, ((27, 3, 0, []), 1))]]
set_option maxRecDepth 100000 in
theorem m_ok_212 : m_t_212.all (fun c => c.all (m_ck1 212)) = true := by decide +kernel
def m_t_213 : m_T := [[(0, ((2, 0, 2, []), 1)), (1, ((0, 0, 0, []), 1)), (2, ((16, 10, 0, []), 3)), (5, ((2, 1, 0, []), 1)), (6, ((24, 211, 2, [1, 1, 10]), 3)), (9, ((11, 15, 1, []), 3)), (12, ((0, 0, (-2), []), 2)), (14, ((27, 0, 0, []), 1)), (15, ((2, 0, 2, []), 1))], [(16, ((15, 10, 1, []), 3)), (19, ((2, 1, 0, []), 1)), (20, ((18, 0, 0, []), 1)), (21, ((0, 0, (-1), []), 1)), (22, ((12, 28, 1, []), 3)), (25, ((0, 0, (-6), []), 2)), (27, ((27, 0, 0, []), 1)), (28, ((2, 2, 0, []), 1)), (29, ((7, 1, 0, []), 1)), (30, ((1, 0, 0, []), 1)), (31, ((2, 0, 2, []), 1))], [(32, ((15, 10, 2, []), 3)), (35, ((2, 1, 0, []), 1)), (36, ((18, 0, 0, []), 1)), (37, ((0, 0, 1, []), 1)), (38, ((5, 1, 0, []), 1)), (39, ((7, 1, 0, []), 1)), (40, ((24, 212, 2, [3, 6, 10]), 3)), (43, ((11, 49, 1, []), 3)), (46, ((0, 0, (-7), []), 2))], [(48, ((27, 0, 0, []), 1)), (49, ((2, 0, 2, []), 1)), (50, ((15, 10, 3, []), 3)), (53, ((0, 0, 60, []), 2)), (55, ((2, 1, 0, []), 1)), (56, ((5, 2, 0, []), 1)), (57, ((2, 2, 0, []), 1)), (58, ((5, 0, 0, []), 1)), (59, ((2, 3, 1, []), 1)), (60, ((2, 0, 2, []), 1)), (61, ((15, 10, 1, []), 3))], [(64, ((2, 1, 0, []), 1)), (65, ((18, 0, 0, []), 1)), (66, ((24, 214, 2, [2, 3, 10]), 3)), (69, ((19, 2, 0, []), 1)), (70, ((0, 0, 0, []), 1)), (71, ((27, 0, 0, []), 1))]]
set_option maxRecDepth 100000 in
theorem m_ok_213 : m_t_213.all (fun c => c.all (m_ck1 213)) = true := by decide +kernel
def m_t_215 : m_T := [[(0, ((2, 0, 2, []), 1)), (1, ((0, 0, 0, []), 1)), (2, ((16, 10, 0, []), 3)), (5, ((2, 1, 0, []), 1)), (6, ((24, 211, 2, [1, 1, 10]), 3)), (9, ((11, 19, 0, []), 3)), (12, ((2, 3, 0, []), 1)), (13, ((24, 211, 2, [1, 1, 10]), 3))], [(16, ((11, 22, 1, []), 3)), (19, ((0, 0, (-2), []), 2)), (21, ((27, 0, 0, []), 1)), (22, ((2, 0, 2, []), 1)), (23, ((15, 10, 1, []), 3)), (26, ((2, 1, 0, []), 1)), (27, ((18, 0, 0, []), 1)), (28, ((0, 0, (-1), []), 1)), (29, ((12, 42, 0, []), 3))], [(32, ((2, 0, 2, []), 1)), (33, ((15, 10, 1, []), 3)), (36, ((2, 3, 0, []), 1)), (37, ((18, 0, 0, []), 1)), (38, ((0, 0, (-1), []), 1)), (39, ((12, 45, 1, []), 3)), (42, ((0, 0, (-6), []), 2)), (44, ((27, 0, 0, []), 1)), (45, ((2, 0, 2, []), 1)), (46, ((15, 10, 1, []), 3))], [(49, ((2, 1, 0, []), 1)), (50, ((18, 0, 0, []), 1)), (51, ((2, 0, 2, []), 1)), (52, ((15, 10, 1, []), 3)), (55, ((2, 3, 0, []), 1)), (56, ((18, 0, 0, []), 1)), (57, ((12, 63, 0, []), 3)), (60, ((0, 0, (-8), []), 2)), (62, ((27, 0, 0, []), 1)), (63, ((2, 2, 0, []), 1))], [(64, ((11, 112, 2, []), 3)), (67, ((2, 4, 0, []), 2)), (69, ((11, 112, 2, []), 3)), (72, ((2, 5, 0, []), 2)), (74, ((11, 112, 2, []), 3)), (77, ((2, 2, 0, []), 1)), (78, ((7, 1, 0, []), 1)), (79, ((2, 5, 0, []), 2))], [(81, ((7, 1, 0, []), 1)), (82, ((6, 0, 0, []), 1)), (83, ((2, 0, 2, []), 1)), (84, ((15, 10, 2, []), 3)), (87, ((2, 1, 0, []), 1)), (88, ((18, 0, 0, []), 1)), (89, ((7, 1, 0, []), 1)), (90, ((8, 0, 0, []), 1)), (91, ((11, 112, 4, []), 3)), (94, ((2, 4, 0, []), 2))], [(96, ((7, 1, 0, []), 1)), (97, ((2, 5, 0, []), 2)), (99, ((7, 1, 0, []), 1)), (100, ((6, 0, 0, []), 1)), (101, ((2, 0, 2, []), 1)), (102, ((15, 10, 2, []), 3)), (105, ((2, 3, 0, []), 1)), (106, ((18, 0, 0, []), 1)), (107, ((7, 1, 0, []), 1)), (108, ((8, 0, 0, []), 1)), (109, ((11, 115, 5, []), 3))], [(112, ((0, 0, (-7), []), 2)), (114, ((27, 0, 0, []), 1)), (115, ((0, 0, 0, []), 1)), (116, ((3, 6, 0, []), 2)), (118, ((2, 6, 0, []), 2)), (120, ((2, 5, 0, []), 2)), (122, ((12, 152, 3, []), 3)), (125, ((2, 0, 2, []), 1)), (126, ((15, 10, 4, []), 3))], [(129, ((2, 6, 0, []), 2)), (131, ((2, 0, 2, []), 1)), (132, ((15, 10, 3, []), 3)), (135, ((0, 0, 60, []), 2)), (137, ((2, 1, 0, []), 1)), (138, ((5, 2, 0, []), 1)), (139, ((2, 2, 0, []), 1)), (140, ((5, 0, 0, []), 1)), (141, ((2, 6, 0, []), 2)), (143, ((5, 0, 0, []), 1))], [(144, ((18, 2, 0, []), 1)), (145, ((19, 2, 0, []), 1)), (146, ((4, 6, 1, []), 3)), (149, ((10, 118, 0, []), 3)), (152, ((0, 0, 0, []), 1)), (153, ((3, 6, 0, []), 2)), (155, ((2, 6, 0, []), 2)), (157, ((2, 5, 0, []), 2)), (159, ((12, 190, 3, []), 3))], [(162, ((2, 0, 2, []), 1)), (163, ((15, 10, 3, []), 3)), (166, ((0, 0, 60, []), 2)), (168, ((2, 3, 0, []), 1)), (169, ((5, 2, 0, []), 1)), (170, ((2, 4, 0, []), 2)), (172, ((5, 0, 0, []), 1)), (173, ((2, 6, 0, []), 2)), (175, ((5, 0, 0, []), 1))], [(176, ((2, 0, 2, []), 1)), (177, ((15, 10, 4, []), 3)), (180, ((2, 6, 0, []), 2)), (182, ((18, 2, 0, []), 1)), (183, ((19, 2, 0, []), 1)), (184, ((4, 6, 1, []), 3)), (187, ((10, 155, 0, []), 3)), (190, ((0, 0, 0, []), 1)), (191, ((27, 0, 0, []), 1))]]
set_option maxRecDepth 100000 in
theorem m_ok_215 : m_t_215.all (fun c => c.all (m_ck1 215)) = true := by decide +kernel
end
section
def m_t_216 : m_T := [[(0, ((2, 0, 2, []), 1)), (1, ((0, 0, 0, []), 1)), (2, ((16, 10, 0, []), 3)), (5, ((2, 0, 2, []), 1)), (6, ((15, 10, 6, []), 3)), (9, ((0, 0, 20, []), 2)), (11, ((5, 0, 0, []), 1)), (12, ((0, 0, 700, []), 3)), (15, ((12, 20, 5, []), 3))], [(18, ((0, 0, (-1), []), 1)), (19, ((27, 0, 0, []), 1)), (20, ((2, 0, 2, []), 1)), (21, ((2, 1, 0, []), 1)), (22, ((24, 217, 0, [1, 3, 10]), 3)), (25, ((2, 0, 2, []), 1)), (26, ((2, 2, 0, []), 1)), (27, ((24, 217, 0, [1, 3, 10]), 3)), (30, ((2, 0, 2, []), 1)), (31, ((2, 3, 0, []), 1))], [(32, ((24, 217, 0, [1, 3, 10]), 3)), (35, ((2, 0, 2, []), 1)), (36, ((2, 4, 0, []), 2)), (38, ((24, 217, 0, [1, 3, 10]), 3)), (41, ((2, 0, 2, []), 1)), (42, ((2, 5, 0, []), 2)), (44, ((24, 217, 0, [1, 3, 10]), 3)), (47, ((2, 0, 2, []), 1))], [(48, ((15, 10, 6, []), 3)), (51, ((27, 0, 0, []), 1))]]
set_option maxRecDepth 100000 in
theorem m_ok_216 : m_t_216.all (fun c => c.all (m_ck1 216)) = true := by decide +kernel
def m_t_217 : m_T := [[(0, ((0, 0, 24, []), 2)), (2, ((3, 2, 0, []), 1)), (3, ((2, 2, 0, []), 1)), (4, ((11, 36, 2, []), 3)), (7, ((2, 0, 2, []), 1)), (8, ((15, 10, 5, []), 3)), (11, ((2, 0, 2, []), 1)), (12, ((15, 10, 6, []), 3)), (15, ((2, 1, 0, []), 1))], [(16, ((2, 2, 0, []), 1)), (17, ((5, 7, 0, []), 1)), (18, ((7, 3, 0, []), 1)), (19, ((19, 1, 0, []), 1)), (20, ((2, 0, 2, []), 1)), (21, ((9, 2, 0, []), 1)), (22, ((15, 10, 6, []), 3)), (25, ((0, 0, 1, []), 1)), (26, ((5, 0, 0, []), 1)), (27, ((16, 10, 6, []), 3)), (30, ((4, 2, (-8), []), 3))], [(33, ((10, 3, 0, []), 3)), (36, ((27, 2, 0, []), 1))]]
set_option maxRecDepth 100000 in
theorem m_ok_217 : m_t_217.all (fun c => c.all (m_ck1 217)) = true := by decide +kernel
def m_t_218 : m_T := [[(0, ((2, 0, 2, []), 1)), (1, ((0, 0, 0, []), 1)), (2, ((16, 10, 0, []), 3)), (5, ((2, 1, 0, []), 1)), (6, ((7, 1, 0, []), 1)), (7, ((1, 0, 0, []), 1)), (8, ((2, 0, 2, []), 1)), (9, ((15, 10, 6, []), 3)), (12, ((7, 1, 0, []), 1)), (13, ((24, 212, 2, [3, 6, 10]), 3))], [(16, ((11, 21, 1, []), 3)), (19, ((0, 0, (-1), []), 1)), (20, ((27, 0, 0, []), 1)), (21, ((2, 0, 2, []), 1)), (22, ((2, 1, 0, []), 1)), (23, ((16, 10, 6, []), 3)), (26, ((2, 1, 0, []), 1)), (27, ((27, 0, 0, []), 1))]]
set_option maxRecDepth 100000 in
theorem m_ok_218 : m_t_218.all (fun c => c.all (m_ck1 218)) = true := by decide +kernel
def m_t_219 : m_T := [[(0, ((2, 0, 2, []), 1)), (1, ((0, 0, 0, []), 1)), (2, ((16, 10, 0, []), 3)), (5, ((2, 1, 0, []), 1)), (6, ((11, 16, 1, []), 3)), (9, ((2, 0, 2, []), 1)), (10, ((15, 10, 14, []), 3)), (13, ((10, 29, 0, []), 3))], [(16, ((2, 1, 0, []), 1)), (17, ((0, 0, 1, []), 1)), (18, ((12, 28, 1, []), 3)), (21, ((2, 0, 2, []), 1)), (22, ((15, 10, 15, []), 3)), (25, ((10, 29, 0, []), 3)), (28, ((0, 0, (-1), []), 1)), (29, ((27, 0, 0, []), 1))]]
set_option maxRecDepth 100000 in
theorem m_ok_219 : m_t_219.all (fun c => c.all (m_ck1 219)) = true := by decide +kernel
def m_t_220 : m_T := [[(0, ((2, 0, 2, []), 1)), (1, ((0, 0, 0, []), 1)), (2, ((16, 10, 0, []), 3)), (5, ((2, 0, 2, []), 1)), (6, ((24, 221, 0, [0, 2, 10]), 3)), (9, ((2, 0, 2, []), 1)), (10, ((24, 223, 0, [0, 1, 10]), 3)), (13, ((2, 0, 2, []), 1)), (14, ((24, 226, 0, [0, 1, 10]), 3))], [(17, ((11, 118, 0, []), 3)), (20, ((2, 0, 2, []), 1)), (21, ((15, 10, 8, []), 3)), (24, ((11, 118, 0, []), 3)), (27, ((2, 0, 2, []), 1)), (28, ((15, 10, 16, []), 3)), (31, ((0, 0, 4, []), 1))], [(32, ((18, 0, 0, []), 1)), (33, ((11, 90, 1, []), 3)), (36, ((2, 0, 2, []), 1)), (37, ((1, 0, 1301042189, []), 3)), (40, ((24, 227, 0, [1, 3, 10]), 3)), (43, ((2, 0, 2, []), 1)), (44, ((0, 0, 0, []), 1)), (45, ((2, 0, 2, []), 1)), (46, ((1, 0, 80155, []), 3))], [(49, ((0, 0, 1, []), 1)), (50, ((0, 0, 14, []), 2)), (52, ((24, 231, 0, [3, 5, 10]), 3)), (55, ((24, 222, 0, [2, 3, 10]), 3)), (58, ((2, 0, 2, []), 1)), (59, ((0, 0, 1, []), 1)), (60, ((2, 0, 2, []), 1)), (61, ((1, 0, 8798, []), 3))], [(64, ((0, 0, 0, []), 1)), (65, ((0, 0, 3, []), 1)), (66, ((24, 231, 0, [3, 5, 10]), 3)), (69, ((24, 222, 0, [2, 3, 10]), 3)), (72, ((2, 0, 2, []), 1)), (73, ((0, 0, 2, []), 1)), (74, ((2, 0, 2, []), 1)), (75, ((1, 0, 298288, []), 3)), (78, ((0, 0, 0, []), 1)), (79, ((0, 0, 10, []), 2))], [(81, ((24, 231, 0, [3, 5, 10]), 3)), (84, ((24, 222, 0, [2, 3, 10]), 3)), (87, ((10, 94, 0, []), 3)), (90, ((2, 0, 2, []), 1)), (91, ((24, 233, 0, [0, 1, 10]), 3)), (94, ((2, 0, 2, []), 1)), (95, ((24, 226, 0, [0, 1, 10]), 3))], [(98, ((11, 105, 0, []), 3)), (101, ((2, 0, 2, []), 1)), (102, ((24, 240, 0, [0, 1, 10]), 3)), (105, ((2, 0, 2, []), 1)), (106, ((15, 10, 16, []), 3)), (109, ((0, 0, 4, []), 1)), (110, ((9, 3, 0, []), 1)), (111, ((18, 0, 0, []), 1))], [(112, ((0, 0, 1, []), 1)), (113, ((5, 0, 0, []), 1)), (114, ((19, 0, 0, []), 1)), (115, ((10, 13, 0, []), 3)), (118, ((2, 0, 2, []), 1)), (119, ((24, 241, 0, [0, 1, 10]), 3)), (122, ((2, 0, 2, []), 1)), (123, ((15, 10, 12, []), 3)), (126, ((11, 132, 0, []), 3))], [(129, ((0, 0, (-4), []), 2)), (131, ((27, 0, 0, []), 1)), (132, ((2, 0, 2, []), 1)), (133, ((0, 0, 4, []), 1)), (134, ((0, 0, 0, []), 1)), (135, ((24, 242, 0, [2, 3, 10]), 3)), (138, ((2, 0, 2, []), 1)), (139, ((15, 10, 16, []), 3)), (142, ((0, 0, 0, []), 1)), (143, ((18, 0, 0, []), 1))], [(144, ((27, 0, 0, []), 1))]]
set_option maxRecDepth 100000 in
theorem m_ok_220 : m_t_220.all (fun c => c.all (m_ck1 220)) = true := by decide +kernel
def m_t_221 : m_T := [[(0, ((2, 0, 2, []), 1)), (1, ((15, 10, 16, []), 3)), (4, ((0, 0, 4, []), 1)), (5, ((0, 0, 0, []), 1)), (6, ((19, 0, 0, []), 1)), (7, ((0, 0, 0, []), 1)), (8, ((3, 1, 0, []), 1)), (9, ((2, 1, 0, []), 1)), (10, ((0, 0, 7, []), 2)), (12, ((12, 27, 3, []), 3)), (15, ((2, 0, 2, []), 1))], [(16, ((2, 1, 0, []), 1)), (17, ((0, 0, 0, []), 1)), (18, ((24, 222, 0, [2, 3, 10]), 3)), (21, ((4, 1, 1, []), 3)), (24, ((10, 9, 0, []), 3)), (27, ((27, 2, 0, []), 1))]]
set_option maxRecDepth 100000 in
theorem m_ok_221 : m_t_221.all (fun c => c.all (m_ck1 221)) = true := by decide +kernel
def m_t_222 : m_T := [[(0, ((2, 0, 2, []), 1)), (1, ((15, 10, 17, []), 3)), (4, ((0, 0, 28, []), 2)), (6, ((2, 1, 0, []), 1)), (7, ((5, 0, 0, []), 1)), (8, ((2, 2, 0, []), 1)), (9, ((19, 0, 0, []), 1)), (10, ((27, 2, 0, []), 1))]]
set_option maxRecDepth 100000 in
theorem m_ok_222 : m_t_222.all (fun c => c.all (m_ck1 222)) = true := by decide +kernel
def m_t_223 : m_T := [[(0, ((2, 0, 2, []), 1)), (1, ((0, 0, 0, []), 1)), (2, ((16, 10, 12, []), 3)), (5, ((2, 0, 2, []), 1)), (6, ((0, 0, (-1), []), 1)), (7, ((16, 10, 13, []), 3)), (10, ((2, 0, 2, []), 1)), (11, ((0, 0, 0, []), 1)), (12, ((16, 10, 7, []), 3)), (15, ((2, 0, 2, []), 1))], [(16, ((24, 224, 0, [0, 2, 10]), 3)), (19, ((27, 2, 0, []), 1))]]
set_option maxRecDepth 100000 in
theorem m_ok_223 : m_t_223.all (fun c => c.all (m_ck1 223)) = true := by decide +kernel
def m_t_224 : m_T := [[(0, ((2, 0, 2, []), 1)), (1, ((2, 0, 2, []), 1)), (2, ((15, 10, 7, []), 3)), (5, ((0, 0, 32, []), 2)), (7, ((0, 0, 32, []), 2)), (9, ((24, 225, 0, [3, 4, 10]), 3)), (12, ((11, 30, 1, []), 3)), (15, ((2, 0, 2, []), 1))], [(16, ((2, 0, 2, []), 1)), (17, ((15, 10, 7, []), 3)), (20, ((0, 0, 10, []), 2)), (22, ((0, 0, 10, []), 2)), (24, ((24, 225, 0, [3, 4, 10]), 3)), (27, ((11, 43, 0, []), 3)), (30, ((2, 0, 2, []), 1)), (31, ((9, 2, 0, []), 1))], [(32, ((15, 10, 7, []), 3)), (35, ((0, 0, 1, []), 1)), (36, ((5, 0, 0, []), 1)), (37, ((16, 10, 7, []), 3)), (40, ((10, 0, 0, []), 3)), (43, ((2, 0, 2, []), 1)), (44, ((2, 0, 2, []), 1)), (45, ((15, 10, 7, []), 3))], [(48, ((16, 10, 9, []), 3)), (51, ((2, 0, 2, []), 1)), (52, ((0, 0, 0, []), 1)), (53, ((16, 10, 10, []), 3)), (56, ((2, 0, 2, []), 1)), (57, ((1, 0, 0, []), 1)), (58, ((16, 10, 11, []), 3)), (61, ((2, 0, 2, []), 1)), (62, ((15, 10, 7, []), 3))], [(65, ((2, 0, 2, []), 1)), (66, ((15, 10, 6, []), 3)), (69, ((12, 80, 1, []), 3)), (72, ((2, 0, 2, []), 1)), (73, ((0, 0, 0, []), 1)), (74, ((16, 10, 8, []), 3)), (77, ((10, 307, 0, []), 3))], [(80, ((2, 0, 2, []), 1)), (81, ((2, 0, 2, []), 1)), (82, ((15, 10, 7, []), 3)), (85, ((0, 0, 97, []), 2)), (87, ((0, 0, 122, []), 2)), (89, ((24, 225, 0, [3, 4, 10]), 3)), (92, ((11, 188, 0, []), 3)), (95, ((2, 0, 2, []), 1))], [(96, ((0, 0, 1, []), 1)), (97, ((16, 10, 8, []), 3)), (100, ((0, 0, 0, []), 1)), (101, ((3, 1, 0, []), 1)), (102, ((2, 0, 2, []), 1)), (103, ((2, 0, 2, []), 1)), (104, ((15, 10, 7, []), 3)), (107, ((0, 0, 97, []), 2)), (109, ((0, 0, 122, []), 2)), (111, ((24, 225, 0, [3, 4, 10]), 3))], [(114, ((11, 185, 0, []), 3)), (117, ((2, 0, 2, []), 1)), (118, ((2, 1, 0, []), 1)), (119, ((0, 0, 11, []), 2)), (121, ((12, 130, 5, []), 3)), (124, ((1, 0, (-1), []), 3)), (127, ((10, 153, 0, []), 3))], [(130, ((1, 0, 27, []), 3)), (133, ((2, 0, 2, []), 1)), (134, ((15, 10, 11, []), 3)), (137, ((6, 2, 0, []), 1)), (138, ((2, 0, 2, []), 1)), (139, ((15, 10, 5, []), 3)), (142, ((2, 0, 2, []), 1)), (143, ((15, 10, 7, []), 3))], [(146, ((18, 1, 0, []), 1)), (147, ((7, 1, 0, []), 1)), (148, ((6, 0, 0, []), 1)), (149, ((1, 0, 96, []), 3)), (152, ((6, 1, 0, []), 1)), (153, ((16, 10, 11, []), 3)), (156, ((2, 1, 0, []), 1)), (157, ((0, 0, 11, []), 2)), (159, ((12, 169, 5, []), 3))], [(162, ((2, 0, 2, []), 1)), (163, ((1, 0, (-1), []), 3)), (166, ((16, 10, 11, []), 3)), (169, ((2, 0, 2, []), 1)), (170, ((9, 2, 0, []), 1)), (171, ((15, 10, 7, []), 3)), (174, ((0, 0, 1, []), 1)), (175, ((5, 0, 0, []), 1))], [(176, ((16, 10, 7, []), 3)), (179, ((4, 1, 1, []), 3)), (182, ((10, 102, 0, []), 3)), (185, ((10, 307, 0, []), 3)), (188, ((2, 0, 2, []), 1)), (189, ((2, 0, 2, []), 1)), (190, ((15, 10, 7, []), 3))], [(193, ((0, 0, 48, []), 2)), (195, ((0, 0, 57, []), 2)), (197, ((24, 225, 0, [3, 4, 10]), 3)), (200, ((11, 274, 0, []), 3)), (203, ((2, 0, 2, []), 1)), (204, ((0, 0, 2, []), 1)), (205, ((16, 10, 8, []), 3))], [(208, ((2, 0, 2, []), 1)), (209, ((2, 0, 2, []), 1)), (210, ((15, 10, 7, []), 3)), (213, ((0, 0, 48, []), 2)), (215, ((0, 0, 57, []), 2)), (217, ((24, 225, 0, [3, 4, 10]), 3)), (220, ((11, 307, 0, []), 3)), (223, ((2, 0, 2, []), 1))], [(224, ((2, 0, 2, []), 1)), (225, ((15, 10, 10, []), 3)), (228, ((0, 0, 100000, []), 2)), (230, ((12, 238, 5, []), 3)), (233, ((0, 0, 1000000, []), 2)), (235, ((10, 258, 0, []), 3)), (238, ((0, 0, 10, []), 2))], [(240, ((2, 0, 2, []), 1)), (241, ((15, 10, 10, []), 3)), (244, ((5, 2, 0, []), 1)), (245, ((2, 0, 2, []), 1)), (246, ((15, 10, 5, []), 3)), (249, ((2, 0, 2, []), 1)), (250, ((15, 10, 7, []), 3)), (253, ((18, 1, 0, []), 1)), (254, ((5, 0, 0, []), 1)), (255, ((0, 0, 48, []), 2))], [(257, ((5, 1, 0, []), 1)), (258, ((16, 10, 10, []), 3)), (261, ((2, 0, 2, []), 1)), (262, ((9, 2, 0, []), 1)), (263, ((15, 10, 7, []), 3)), (266, ((0, 0, 1, []), 1)), (267, ((5, 0, 0, []), 1)), (268, ((16, 10, 7, []), 3)), (271, ((10, 208, 0, []), 3))], [(274, ((2, 0, 2, []), 1)), (275, ((2, 0, 2, []), 1)), (276, ((15, 10, 5, []), 3)), (279, ((2, 0, 2, []), 1)), (280, ((15, 10, 7, []), 3)), (283, ((18, 1, 0, []), 1)), (284, ((0, 0, 59, []), 2)), (286, ((12, 293, 1, []), 3))], [(289, ((0, 0, 3, []), 1)), (290, ((10, 294, 0, []), 3)), (293, ((0, 0, 4, []), 1)), (294, ((16, 10, 8, []), 3)), (297, ((2, 0, 2, []), 1)), (298, ((9, 2, 0, []), 1)), (299, ((15, 10, 7, []), 3)), (302, ((0, 0, 1, []), 1)), (303, ((5, 0, 0, []), 1))], [(304, ((16, 10, 7, []), 3)), (307, ((27, 2, 0, []), 1))]]
set_option maxRecDepth 100000 in
theorem m_ok_224 : m_t_224.all (fun c => c.all (m_ck1 224)) = true := by decide +kernel
def m_t_225 : m_T := [[(0, ((2, 1, 0, []), 1)), (1, ((2, 0, 2, []), 1)), (2, ((15, 10, 6, []), 3)), (5, ((12, 32, 3, []), 3)), (8, ((2, 0, 2, []), 1)), (9, ((15, 10, 5, []), 3)), (12, ((2, 1, 0, []), 1)), (13, ((18, 1, 0, []), 1)), (14, ((2, 2, 0, []), 1)), (15, ((12, 32, 2, []), 3))], [(18, ((2, 0, 2, []), 1)), (19, ((15, 10, 5, []), 3)), (22, ((2, 1, 0, []), 1)), (23, ((18, 1, 0, []), 1)), (24, ((2, 3, 0, []), 1)), (25, ((12, 32, 4, []), 3)), (28, ((0, 0, 1, []), 1)), (29, ((10, 33, 0, []), 3))], [(32, ((0, 0, 0, []), 1)), (33, ((27, 3, 0, []), 1))]]
set_option maxRecDepth 100000 in
theorem m_ok_225 : m_t_225.all (fun c => c.all (m_ck1 225)) = true := by decide +kernel
def m_t_226 : m_T := [[(0, ((2, 0, 2, []), 1)), (1, ((15, 10, 12, []), 3)), (4, ((11, 11, 1, []), 3)), (7, ((0, 0, 1, []), 1)), (8, ((10, 12, 0, []), 3)), (11, ((0, 0, 0, []), 1)), (12, ((27, 3, 0, []), 1))]]
set_option maxRecDepth 100000 in
theorem m_ok_226 : m_t_226.all (fun c => c.all (m_ck1 226)) = true := by decide +kernel
def m_t_241 : m_T := [[(0, ((2, 0, 2, []), 1)), (1, ((0, 0, 0, []), 1)), (2, ((16, 10, 6, []), 3)), (5, ((2, 0, 2, []), 1)), (6, ((2, 0, 2, []), 1)), (7, ((15, 10, 12, []), 3)), (10, ((16, 10, 14, []), 3)), (13, ((2, 0, 2, []), 1)), (14, ((2, 0, 2, []), 1)), (15, ((15, 10, 12, []), 3))], [(18, ((11, 25, 1, []), 3)), (21, ((0, 0, (-1), []), 1)), (22, ((10, 29, 0, []), 3)), (25, ((2, 0, 2, []), 1)), (26, ((15, 10, 13, []), 3)), (29, ((16, 10, 15, []), 3))], [(32, ((27, 2, 0, []), 1))]]
set_option maxRecDepth 100000 in
theorem m_ok_241 : m_t_241.all (fun c => c.all (m_ck1 241)) = true := by decide +kernel
def m_t_242 : m_T := [[(0, ((2, 0, 2, []), 1)), (1, ((15, 10, 16, []), 3)), (4, ((0, 0, 1, []), 1)), (5, ((2, 1, 0, []), 1)), (6, ((2, 2, 0, []), 1)), (7, ((24, 243, 2, [4, 5, 10]), 3)), (10, ((2, 0, 2, []), 1)), (11, ((15, 10, 17, []), 3)), (14, ((0, 0, 7, []), 2))], [(16, ((2, 1, 0, []), 1)), (17, ((2, 2, 0, []), 1)), (18, ((24, 243, 2, [4, 5, 10]), 3)), (21, ((2, 0, 2, []), 1)), (22, ((15, 10, 18, []), 3)), (25, ((0, 0, 35, []), 2)), (27, ((2, 1, 0, []), 1)), (28, ((2, 2, 0, []), 1)), (29, ((24, 243, 2, [4, 5, 10]), 3))], [(32, ((2, 0, 2, []), 1)), (33, ((15, 10, 19, []), 3)), (36, ((0, 0, 16, []), 2)), (38, ((2, 1, 0, []), 1)), (39, ((2, 2, 0, []), 1)), (40, ((24, 243, 2, [4, 5, 10]), 3)), (43, ((2, 0, 2, []), 1)), (44, ((15, 10, 20, []), 3)), (47, ((0, 0, 24, []), 2))], [(49, ((2, 1, 0, []), 1)), (50, ((2, 2, 0, []), 1)), (51, ((24, 243, 2, [4, 5, 10]), 3)), (54, ((2, 0, 2, []), 1)), (55, ((15, 10, 21, []), 3)), (58, ((0, 0, 60, []), 2)), (60, ((2, 1, 0, []), 1)), (61, ((2, 2, 0, []), 1)), (62, ((24, 243, 2, [4, 5, 10]), 3))], [(65, ((27, 2, 0, []), 1))]]
set_option maxRecDepth 100000 in
theorem m_ok_242 : m_t_242.all (fun c => c.all (m_ck1 242)) = true := by decide +kernel
def m_t_243 : m_T := [[(0, ((0, 0, 0, []), 1)), (1, ((3, 4, 0, []), 2)), (3, ((2, 4, 0, []), 2)), (5, ((2, 1, 0, []), 1)), (6, ((12, 31, 3, []), 3)), (9, ((2, 0, 2, []), 1)), (10, ((2, 1, 0, []), 1)), (11, ((2, 3, 0, []), 1)), (12, ((5, 2, 0, []), 1)), (13, ((2, 4, 0, []), 2)), (15, ((5, 0, 0, []), 1))], [(16, ((2, 0, 2, []), 1)), (17, ((2, 1, 0, []), 1)), (18, ((2, 2, 0, []), 1)), (19, ((5, 2, 0, []), 1)), (20, ((2, 4, 0, []), 2)), (22, ((5, 0, 0, []), 1)), (23, ((18, 0, 0, []), 1)), (24, ((19, 0, 0, []), 1)), (25, ((4, 4, 1, []), 3)), (28, ((10, 3, 0, []), 3)), (31, ((27, 2, 0, []), 1))]]
set_option maxRecDepth 100000 in
theorem m_ok_243 : m_t_243.all (fun c => c.all (m_ck1 243)) = true := by decide +kernel
def m_t_244 : m_T := [[(0, ((2, 0, 2, []), 1)), (1, ((0, 0, 0, []), 1)), (2, ((16, 10, 0, []), 3)), (5, ((2, 0, 2, []), 1)), (6, ((2, 1, 0, []), 1)), (7, ((24, 245, 0, [1, 2, 10]), 3)), (10, ((11, 38, 0, []), 3)), (13, ((2, 2, 0, []), 1)), (14, ((7, 1, 0, []), 1)), (15, ((1, 0, 0, []), 1))], [(16, ((1, 0, 4, []), 3)), (19, ((24, 212, 2, [3, 6, 10]), 3)), (22, ((11, 38, 0, []), 3)), (25, ((2, 0, 2, []), 1)), (26, ((15, 10, 18, []), 3)), (29, ((0, 0, 5, []), 1)), (30, ((2, 1, 0, []), 1)), (31, ((5, 2, 0, []), 1))], [(32, ((2, 2, 0, []), 1)), (33, ((5, 0, 0, []), 1)), (34, ((18, 0, 0, []), 1)), (35, ((10, 40, 0, []), 3)), (38, ((0, 0, (-2), []), 2)), (40, ((27, 0, 0, []), 1))]]
set_option maxRecDepth 100000 in
theorem m_ok_244 : m_t_244.all (fun c => c.all (m_ck1 244)) = true := by decide +kernel
def m_t_245 : m_T := [[(0, ((2, 1, 0, []), 1)), (1, ((7, 1, 0, []), 1)), (2, ((1, 0, 0, []), 1)), (3, ((2, 0, 2, []), 1)), (4, ((24, 246, 0, [0, 1, 10]), 3)), (7, ((7, 1, 0, []), 1)), (8, ((1, 0, 1, []), 1)), (9, ((6, 1, 0, []), 1)), (10, ((24, 212, 2, [3, 6, 10]), 3)), (13, ((27, 3, 0, []), 1))]]
set_option maxRecDepth 100000 in
theorem m_ok_245 : m_t_245.all (fun c => c.all (m_ck1 245)) = true := by decide +kernel
def m_t_246 : m_T := [[(0, ((2, 0, 2, []), 1)), (1, ((15, 10, 17, []), 3)), (4, ((0, 0, 3, []), 1)), (5, ((18, 0, 0, []), 1)), (6, ((27, 0, 0, []), 1))]]
set_option maxRecDepth 100000 in
theorem m_ok_246 : m_t_246.all (fun c => c.all (m_ck1 246)) = true := by decide +kernel
def m_t_247 : m_T := [[(0, ((2, 0, 2, []), 1)), (1, ((0, 0, 0, []), 1)), (2, ((16, 10, 0, []), 3)), (5, ((2, 0, 2, []), 1)), (6, ((2, 1, 0, []), 1)), (7, ((24, 245, 0, [1, 2, 10]), 3)), (10, ((11, 21, 0, []), 3)), (13, ((2, 0, 2, []), 1)), (14, ((2, 1, 0, []), 1)), (15, ((24, 248, 0, [1, 4, 10]), 3))], [(18, ((10, 23, 0, []), 3)), (21, ((0, 0, (-2), []), 2)), (23, ((27, 0, 0, []), 1))]]
set_option maxRecDepth 100000 in
theorem m_ok_247 : m_t_247.all (fun c => c.all (m_ck1 247)) = true := by decide +kernel
def m_t_249 : m_T := [[(0, ((2, 0, 2, []), 1)), (1, ((0, 0, 0, []), 1)), (2, ((16, 10, 0, []), 3)), (5, ((2, 0, 2, []), 1)), (6, ((2, 1, 0, []), 1)), (7, ((7, 1, 0, []), 1)), (8, ((24, 250, 0, [1, 3, 10]), 3)), (11, ((11, 39, 0, []), 3)), (14, ((2, 2, 0, []), 1)), (15, ((7, 1, 0, []), 1))], [(16, ((1, 0, 0, []), 1)), (17, ((1, 0, 2, []), 3)), (20, ((24, 212, 2, [3, 6, 10]), 3)), (23, ((11, 39, 0, []), 3)), (26, ((2, 0, 2, []), 1)), (27, ((15, 10, 20, []), 3)), (30, ((0, 0, 3, []), 1)), (31, ((2, 1, 0, []), 1))], [(32, ((5, 2, 0, []), 1)), (33, ((2, 2, 0, []), 1)), (34, ((5, 0, 0, []), 1)), (35, ((18, 0, 0, []), 1)), (36, ((10, 41, 0, []), 3)), (39, ((0, 0, (-2), []), 2)), (41, ((27, 0, 0, []), 1))]]
set_option maxRecDepth 100000 in
theorem m_ok_249 : m_t_249.all (fun c => c.all (m_ck1 249)) = true := by decide +kernel
def m_t_250 : m_T := [[(0, ((2, 1, 1, []), 1)), (1, ((1, 0, 0, []), 1)), (2, ((2, 0, 2, []), 1)), (3, ((24, 251, 0, [0, 1, 10]), 3)), (6, ((7, 1, 0, []), 1)), (7, ((1, 0, 1, []), 1)), (8, ((6, 1, 0, []), 1)), (9, ((24, 212, 2, [3, 6, 10]), 3)), (12, ((27, 3, 0, []), 1))]]
set_option maxRecDepth 100000 in
theorem m_ok_250 : m_t_250.all (fun c => c.all (m_ck1 250)) = true := by decide +kernel
def m_t_251 : m_T := [[(0, ((2, 0, 2, []), 1)), (1, ((15, 10, 17, []), 3)), (4, ((0, 0, 5, []), 1)), (5, ((18, 0, 0, []), 1)), (6, ((27, 0, 0, []), 1))]]
set_option maxRecDepth 100000 in
theorem m_ok_251 : m_t_251.all (fun c => c.all (m_ck1 251)) = true := by decide +kernel
def m_t_252 : m_T := [[(0, ((2, 0, 2, []), 1)), (1, ((0, 0, 0, []), 1)), (2, ((16, 10, 0, []), 3)), (5, ((2, 0, 2, []), 1)), (6, ((2, 1, 0, []), 1)), (7, ((7, 1, 0, []), 1)), (8, ((24, 250, 0, [1, 3, 10]), 3)), (11, ((11, 17, 1, []), 3)), (14, ((0, 0, (-2), []), 2))], [(16, ((27, 0, 0, []), 1)), (17, ((2, 0, 2, []), 1)), (18, ((24, 253, 0, [0, 1, 10]), 3)), (21, ((0, 0, 0, []), 1)), (22, ((3, 2, 0, []), 1)), (23, ((0, 0, 0, []), 1)), (24, ((3, 3, 0, []), 1)), (25, ((2, 3, 0, []), 1)), (26, ((2, 0, 2, []), 1)), (27, ((15, 10, 30, []), 3)), (30, ((12, 60, 3, []), 3))], [(33, ((2, 2, 0, []), 1)), (34, ((2, 0, 2, []), 1)), (35, ((15, 10, 31, []), 3)), (38, ((0, 0, 7, []), 2)), (40, ((2, 3, 0, []), 1)), (41, ((5, 2, 0, []), 1)), (42, ((18, 0, 0, []), 1)), (43, ((2, 1, 0, []), 1)), (44, ((12, 51, 1, []), 3)), (47, ((0, 0, 1, []), 1))], [(48, ((10, 52, 0, []), 3)), (51, ((0, 0, 0, []), 1)), (52, ((5, 0, 0, []), 1)), (53, ((3, 2, 0, []), 1)), (54, ((4, 3, 1, []), 3)), (57, ((10, 25, 0, []), 3)), (60, ((2, 2, 0, []), 1)), (61, ((27, 0, 0, []), 1))]]
set_option maxRecDepth 100000 in
theorem m_ok_252 : m_t_252.all (fun c => c.all (m_ck1 252)) = true := by decide +kernel
def m_t_256 : m_T := [[(0, ((2, 0, 2, []), 1)), (1, ((15, 10, 17, []), 3)), (4, ((0, 0, 0, []), 1)), (5, ((18, 0, 0, []), 1)), (6, ((27, 0, 0, []), 1))]]
set_option maxRecDepth 100000 in
theorem m_ok_256 : m_t_256.all (fun c => c.all (m_ck1 256)) = true := by decide +kernel
def m_t_266 : m_T := [[(0, ((2, 0, 2, []), 1)), (1, ((0, 0, 0, []), 1)), (2, ((16, 10, 0, []), 3)), (5, ((2, 0, 2, []), 1)), (6, ((2, 1, 0, []), 1)), (7, ((7, 1, 0, []), 1)), (8, ((24, 250, 0, [1, 3, 10]), 3)), (11, ((11, 24, 0, []), 3)), (14, ((2, 0, 2, []), 1)), (15, ((2, 1, 0, []), 1))], [(16, ((0, 0, 2, []), 1)), (17, ((0, 0, 0, []), 1)), (18, ((24, 267, 0, [3, 4, 10]), 3)), (21, ((10, 26, 0, []), 3)), (24, ((0, 0, (-2), []), 2)), (26, ((27, 0, 0, []), 1))]]
set_option maxRecDepth 100000 in
theorem m_ok_266 : m_t_266.all (fun c => c.all (m_ck1 266)) = true := by decide +kernel
def m_t_269 : m_T := [[(0, ((2, 0, 2, []), 1)), (1, ((0, 0, 0, []), 1)), (2, ((16, 10, 0, []), 3)), (5, ((2, 0, 2, []), 1)), (6, ((2, 1, 0, []), 1)), (7, ((7, 1, 0, []), 1)), (8, ((24, 250, 0, [1, 3, 10]), 3)), (11, ((11, 38, 0, []), 3)), (14, ((2, 2, 0, []), 1)), (15, ((7, 1, 0, []), 1))], [(16, ((1, 0, 0, []), 1)), (17, ((1, 0, 2, []), 3)), (20, ((24, 212, 2, [3, 6, 10]), 3)), (23, ((11, 38, 0, []), 3)), (26, ((2, 0, 2, []), 1)), (27, ((2, 1, 0, []), 1)), (28, ((0, 0, 3, []), 1)), (29, ((2, 2, 0, []), 1)), (30, ((5, 0, 0, []), 1)), (31, ((0, 0, (-1), []), 1))], [(32, ((24, 267, 0, [3, 4, 10]), 3)), (35, ((10, 40, 0, []), 3)), (38, ((0, 0, (-2), []), 2)), (40, ((27, 0, 0, []), 1))]]
set_option maxRecDepth 100000 in
theorem m_ok_269 : m_t_269.all (fun c => c.all (m_ck1 269)) = true := by decide +kernel
def m_t_270 : m_T := [[(0, ((2, 0, 2, []), 1)), (1, ((0, 0, 0, []), 1)), (2, ((16, 10, 0, []), 3)), (5, ((2, 0, 2, []), 1)), (6, ((2, 1, 0, []), 1)), (7, ((7, 1, 0, []), 1)), (8, ((24, 250, 0, [1, 3, 10]), 3)), (11, ((11, 25, 0, []), 3)), (14, ((2, 0, 2, []), 1)), (15, ((2, 1, 0, []), 1))], [(16, ((0, 0, 6, []), 2)), (18, ((0, 0, (-1), []), 1)), (19, ((24, 267, 0, [3, 4, 10]), 3)), (22, ((10, 27, 0, []), 3)), (25, ((0, 0, (-2), []), 2)), (27, ((27, 0, 0, []), 1))]]
set_option maxRecDepth 100000 in
theorem m_ok_270 : m_t_270.all (fun c => c.all (m_ck1 270)) = true := by decide +kernel
def m_t_271 : m_T := [[(0, ((2, 0, 2, []), 1)), (1, ((0, 0, 0, []), 1)), (2, ((16, 10, 0, []), 3)), (5, ((2, 0, 2, []), 1)), (6, ((2, 1, 0, []), 1)), (7, ((7, 1, 0, []), 1)), (8, ((24, 250, 0, [1, 3, 10]), 3)), (11, ((11, 24, 0, []), 3)), (14, ((2, 0, 2, []), 1)), (15, ((2, 1, 0, []), 1))], [(16, ((0, 0, 1, []), 1)), (17, ((0, 0, (-1), []), 1)), (18, ((24, 267, 0, [3, 4, 10]), 3)), (21, ((10, 26, 0, []), 3)), (24, ((0, 0, (-2), []), 2)), (26, ((27, 0, 0, []), 1))]]
set_option maxRecDepth 100000 in
theorem m_ok_271 : m_t_271.all (fun c => c.all (m_ck1 271)) = true := by decide +kernel
def m_t_272 : m_T := [[(0, ((2, 0, 2, []), 1)), (1, ((0, 0, 0, []), 1)), (2, ((16, 10, 0, []), 3)), (5, ((2, 0, 2, []), 1)), (6, ((2, 1, 0, []), 1)), (7, ((7, 1, 0, []), 1)), (8, ((24, 250, 0, [1, 3, 10]), 3)), (11, ((11, 17, 1, []), 3)), (14, ((0, 0, (-2), []), 2))], [(16, ((27, 0, 0, []), 1)), (17, ((2, 0, 2, []), 1)), (18, ((24, 253, 0, [0, 1, 10]), 3)), (21, ((0, 0, 0, []), 1)), (22, ((3, 2, 0, []), 1)), (23, ((0, 0, 0, []), 1)), (24, ((3, 3, 0, []), 1)), (25, ((2, 3, 0, []), 1)), (26, ((2, 0, 2, []), 1)), (27, ((24, 246, 0, [0, 1, 10]), 3)), (30, ((12, 106, 3, []), 3))], [(33, ((2, 0, 2, []), 1)), (34, ((2, 1, 0, []), 1)), (35, ((24, 268, 0, [1, 2, 10]), 3)), (38, ((11, 106, 0, []), 3)), (41, ((0, 0, 7, []), 2)), (43, ((2, 0, 2, []), 1)), (44, ((15, 10, 36, []), 3)), (47, ((2, 1, 0, []), 1))], [(48, ((18, 0, 0, []), 1)), (49, ((5, 2, 0, []), 1)), (50, ((3, 4, 0, []), 2)), (52, ((2, 0, 2, []), 1)), (53, ((15, 10, 31, []), 3)), (56, ((2, 4, 0, []), 2)), (58, ((0, 0, 2, []), 1)), (59, ((5, 0, 0, []), 1)), (60, ((18, 0, 0, []), 1)), (61, ((2, 3, 0, []), 1)), (62, ((24, 258, 2, [2, 2, 10]), 3))], [(65, ((11, 71, 1, []), 3)), (68, ((10, 100, 0, []), 3)), (71, ((2, 0, 2, []), 1)), (72, ((15, 10, 31, []), 3)), (75, ((2, 4, 0, []), 2)), (77, ((0, 0, 3, []), 1)), (78, ((5, 0, 0, []), 1)), (79, ((2, 2, 0, []), 1))], [(80, ((5, 0, 0, []), 1)), (81, ((18, 0, 0, []), 1)), (82, ((2, 0, 2, []), 1)), (83, ((15, 10, 31, []), 3)), (86, ((2, 4, 0, []), 2)), (88, ((0, 0, 6, []), 2)), (90, ((5, 0, 0, []), 1)), (91, ((18, 0, 0, []), 1)), (92, ((12, 97, 1, []), 3)), (95, ((2, 3, 0, []), 1))], [(96, ((27, 0, 0, []), 1)), (97, ((4, 2, 1, []), 3)), (100, ((4, 3, 1, []), 3)), (103, ((10, 25, 0, []), 3)), (106, ((0, 0, (-1), []), 1)), (107, ((27, 0, 0, []), 1))]]
set_option maxRecDepth 100000 in
theorem m_ok_272 : m_t_272.all (fun c => c.all (m_ck1 272)) = true := by decide +kernel
end
section
def m_t_273 : m_T := [[(0, ((2, 0, 2, []), 1)), (1, ((0, 0, 0, []), 1)), (2, ((16, 10, 0, []), 3)), (5, ((2, 0, 2, []), 1)), (6, ((2, 1, 0, []), 1)), (7, ((7, 1, 0, []), 1)), (8, ((24, 250, 0, [1, 3, 10]), 3)), (11, ((11, 17, 1, []), 3)), (14, ((0, 0, (-2), []), 2))], [(16, ((27, 0, 0, []), 1)), (17, ((2, 0, 2, []), 1)), (18, ((24, 253, 0, [0, 1, 10]), 3)), (21, ((2, 0, 2, []), 1)), (22, ((2, 1, 0, []), 1)), (23, ((24, 268, 0, [1, 2, 10]), 3)), (26, ((11, 37, 0, []), 3)), (29, ((2, 0, 2, []), 1)), (30, ((2, 1, 0, []), 1)), (31, ((24, 274, 0, [1, 3, 10]), 3))], [(34, ((10, 38, 0, []), 3)), (37, ((0, 0, (-1), []), 1)), (38, ((27, 0, 0, []), 1))]]
set_option maxRecDepth 100000 in
theorem m_ok_273 : m_t_273.all (fun c => c.all (m_ck1 273)) = true := by decide +kernel
def m_t_275 : m_T := [[(0, ((2, 0, 2, []), 1)), (1, ((0, 0, 0, []), 1)), (2, ((16, 10, 0, []), 3)), (5, ((2, 0, 2, []), 1)), (6, ((24, 276, 0, [0, 1, 10]), 3)), (9, ((11, 15, 1, []), 3)), (12, ((0, 0, (-2), []), 2)), (14, ((27, 0, 0, []), 1)), (15, ((2, 0, 2, []), 1))], [(16, ((24, 253, 0, [0, 1, 10]), 3)), (19, ((0, 0, 0, []), 1)), (20, ((3, 1, 0, []), 1)), (21, ((0, 0, 0, []), 1)), (22, ((3, 2, 0, []), 1)), (23, ((2, 2, 0, []), 1)), (24, ((2, 0, 2, []), 1)), (25, ((24, 251, 0, [0, 1, 10]), 3)), (28, ((12, 55, 3, []), 3)), (31, ((2, 1, 0, []), 1))], [(32, ((2, 0, 2, []), 1)), (33, ((2, 2, 0, []), 1)), (34, ((24, 268, 0, [1, 2, 10]), 3)), (37, ((11, 44, 0, []), 3)), (40, ((0, 0, 0, []), 1)), (41, ((10, 47, 0, []), 3)), (44, ((0, 0, 1, []), 1)), (45, ((2, 2, 0, []), 1)), (46, ((5, 6, 0, []), 1)), (47, ((5, 4, 0, []), 1))], [(48, ((3, 1, 0, []), 1)), (49, ((4, 2, 1, []), 3)), (52, ((10, 23, 0, []), 3)), (55, ((2, 1, 0, []), 1)), (56, ((27, 0, 0, []), 1))]]
set_option maxRecDepth 100000 in
theorem m_ok_275 : m_t_275.all (fun c => c.all (m_ck1 275)) = true := by decide +kernel
def m_t_276 : m_T := [[(0, ((2, 0, 2, []), 1)), (1, ((15, 10, 16, []), 3)), (4, ((0, 0, 0, []), 1)), (5, ((18, 0, 0, []), 1)), (6, ((11, 13, 5, []), 3)), (9, ((0, 0, 1, []), 1)), (10, ((10, 14, 0, []), 3)), (13, ((0, 0, 0, []), 1)), (14, ((27, 3, 0, []), 1))]]
set_option maxRecDepth 100000 in
theorem m_ok_276 : m_t_276.all (fun c => c.all (m_ck1 276)) = true := by decide +kernel
def m_t_277 : m_T := [[(0, ((2, 0, 2, []), 1)), (1, ((0, 0, 0, []), 1)), (2, ((16, 10, 0, []), 3)), (5, ((2, 0, 2, []), 1)), (6, ((2, 1, 0, []), 1)), (7, ((24, 245, 0, [1, 2, 10]), 3)), (10, ((11, 21, 0, []), 3)), (13, ((2, 0, 2, []), 1)), (14, ((2, 2, 0, []), 1)), (15, ((24, 278, 0, [1, 2, 10]), 3))], [(18, ((11, 24, 1, []), 3)), (21, ((0, 0, (-2), []), 2)), (23, ((27, 0, 0, []), 1)), (24, ((2, 0, 2, []), 1)), (25, ((24, 253, 0, [0, 1, 10]), 3)), (28, ((2, 0, 2, []), 1)), (29, ((15, 10, 32, []), 3))], [(32, ((0, 0, 7, []), 2)), (34, ((2, 2, 0, []), 1)), (35, ((5, 2, 0, []), 1)), (36, ((2, 1, 0, []), 1)), (37, ((5, 0, 0, []), 1)), (38, ((18, 0, 0, []), 1)), (39, ((27, 0, 0, []), 1))]]
set_option maxRecDepth 100000 in
theorem m_ok_277 : m_t_277.all (fun c => c.all (m_ck1 277)) = true := by decide +kernel
def m_t_278 : m_T := [[(0, ((2, 0, 2, []), 1)), (1, ((24, 276, 0, [0, 1, 10]), 3)), (4, ((11, 25, 0, []), 3)), (7, ((2, 1, 0, []), 1)), (8, ((7, 1, 0, []), 1)), (9, ((1, 0, 0, []), 1)), (10, ((2, 0, 2, []), 1)), (11, ((24, 256, 0, [0, 1, 10]), 3)), (14, ((7, 1, 0, []), 1)), (15, ((24, 212, 2, [3, 6, 10]), 3))], [(18, ((11, 25, 0, []), 3)), (21, ((0, 0, 1, []), 1)), (22, ((10, 26, 0, []), 3)), (25, ((0, 0, 0, []), 1)), (26, ((27, 3, 0, []), 1))]]
set_option maxRecDepth 100000 in
theorem m_ok_278 : m_t_278.all (fun c => c.all (m_ck1 278)) = true := by decide +kernel
def m_t_279 : m_T := [[(0, ((2, 0, 2, []), 1)), (1, ((0, 0, 0, []), 1)), (2, ((16, 10, 0, []), 3)), (5, ((2, 0, 2, []), 1)), (6, ((2, 1, 0, []), 1)), (7, ((24, 245, 0, [1, 2, 10]), 3)), (10, ((11, 21, 0, []), 3)), (13, ((2, 0, 2, []), 1)), (14, ((2, 2, 0, []), 1)), (15, ((24, 278, 0, [1, 2, 10]), 3))], [(18, ((11, 24, 1, []), 3)), (21, ((0, 0, (-2), []), 2)), (23, ((27, 0, 0, []), 1)), (24, ((2, 0, 2, []), 1)), (25, ((24, 253, 0, [0, 1, 10]), 3)), (28, ((2, 0, 2, []), 1)), (29, ((15, 10, 33, []), 3))], [(32, ((0, 0, 7, []), 2)), (34, ((2, 2, 0, []), 1)), (35, ((5, 2, 0, []), 1)), (36, ((2, 1, 0, []), 1)), (37, ((5, 0, 0, []), 1)), (38, ((18, 0, 0, []), 1)), (39, ((27, 0, 0, []), 1))]]
set_option maxRecDepth 100000 in
theorem m_ok_279 : m_t_279.all (fun c => c.all (m_ck1 279)) = true := by decide +kernel
def m_t_280 : m_T := [[(0, ((2, 0, 2, []), 1)), (1, ((0, 0, 0, []), 1)), (2, ((16, 10, 0, []), 3)), (5, ((2, 0, 2, []), 1)), (6, ((2, 1, 0, []), 1)), (7, ((24, 245, 0, [1, 2, 10]), 3)), (10, ((11, 16, 1, []), 3)), (13, ((0, 0, (-2), []), 2)), (15, ((27, 0, 0, []), 1))], [(16, ((2, 0, 2, []), 1)), (17, ((24, 253, 0, [0, 1, 10]), 3)), (20, ((0, 0, 0, []), 1)), (21, ((3, 2, 0, []), 1)), (22, ((0, 0, 0, []), 1)), (23, ((3, 3, 0, []), 1)), (24, ((2, 3, 0, []), 1)), (25, ((2, 0, 2, []), 1)), (26, ((15, 10, 30, []), 3)), (29, ((12, 65, 3, []), 3))], [(32, ((2, 2, 0, []), 1)), (33, ((2, 0, 2, []), 1)), (34, ((2, 1, 0, []), 1)), (35, ((2, 3, 0, []), 1)), (36, ((24, 281, 0, [2, 3, 10]), 3)), (39, ((11, 56, 0, []), 3)), (42, ((0, 0, 1, []), 1)), (43, ((2, 0, 2, []), 1)), (44, ((15, 10, 31, []), 3)), (47, ((0, 0, 7, []), 2))], [(49, ((2, 3, 0, []), 1)), (50, ((5, 2, 0, []), 1)), (51, ((18, 0, 0, []), 1)), (52, ((5, 6, 0, []), 1)), (53, ((10, 57, 0, []), 3)), (56, ((0, 0, 0, []), 1)), (57, ((5, 4, 0, []), 1)), (58, ((3, 2, 0, []), 1)), (59, ((4, 3, 1, []), 3)), (62, ((10, 24, 0, []), 3))], [(65, ((2, 2, 0, []), 1)), (66, ((27, 0, 0, []), 1))]]
set_option maxRecDepth 100000 in
theorem m_ok_280 : m_t_280.all (fun c => c.all (m_ck1 280)) = true := by decide +kernel
def m_t_282 : m_T := [[(0, ((2, 0, 2, []), 1)), (1, ((0, 0, 0, []), 1)), (2, ((16, 10, 0, []), 3)), (5, ((2, 0, 2, []), 1)), (6, ((2, 1, 0, []), 1)), (7, ((24, 245, 0, [1, 2, 10]), 3)), (10, ((11, 16, 1, []), 3)), (13, ((0, 0, (-2), []), 2)), (15, ((27, 0, 0, []), 1))], [(16, ((2, 0, 2, []), 1)), (17, ((24, 253, 0, [0, 1, 10]), 3)), (20, ((0, 0, 0, []), 1)), (21, ((3, 2, 0, []), 1)), (22, ((2, 2, 0, []), 1)), (23, ((2, 0, 2, []), 1)), (24, ((15, 10, 30, []), 3)), (27, ((12, 55, 3, []), 3)), (30, ((2, 0, 2, []), 1)), (31, ((2, 1, 0, []), 1))], [(32, ((2, 2, 0, []), 1)), (33, ((24, 281, 0, [2, 3, 10]), 3)), (36, ((11, 49, 0, []), 3)), (39, ((2, 0, 2, []), 1)), (40, ((15, 10, 31, []), 3)), (43, ((0, 0, 7, []), 2)), (45, ((2, 2, 0, []), 1)), (46, ((5, 2, 0, []), 1)), (47, ((18, 0, 0, []), 1))], [(48, ((27, 0, 0, []), 1)), (49, ((4, 2, 1, []), 3)), (52, ((10, 22, 0, []), 3)), (55, ((0, 0, (-1), []), 1)), (56, ((27, 0, 0, []), 1))]]
set_option maxRecDepth 100000 in
theorem m_ok_282 : m_t_282.all (fun c => c.all (m_ck1 282)) = true := by decide +kernel
def m_t_283 : m_T := [[(0, ((2, 0, 2, []), 1)), (1, ((0, 0, 0, []), 1)), (2, ((16, 10, 0, []), 3)), (5, ((2, 0, 2, []), 1)), (6, ((2, 1, 0, []), 1)), (7, ((24, 245, 0, [1, 2, 10]), 3)), (10, ((11, 16, 1, []), 3)), (13, ((0, 0, (-2), []), 2)), (15, ((27, 0, 0, []), 1))], [(16, ((2, 0, 2, []), 1)), (17, ((24, 253, 0, [0, 1, 10]), 3)), (20, ((0, 0, 0, []), 1)), (21, ((3, 2, 0, []), 1)), (22, ((0, 0, 0, []), 1)), (23, ((3, 3, 0, []), 1)), (24, ((2, 3, 0, []), 1)), (25, ((2, 0, 2, []), 1)), (26, ((15, 10, 30, []), 3)), (29, ((12, 76, 3, []), 3))], [(32, ((2, 2, 0, []), 1)), (33, ((2, 0, 2, []), 1)), (34, ((2, 1, 0, []), 1)), (35, ((2, 3, 0, []), 1)), (36, ((24, 281, 0, [2, 3, 10]), 3)), (39, ((11, 67, 0, []), 3)), (42, ((2, 0, 2, []), 1)), (43, ((2, 1, 0, []), 1)), (44, ((2, 3, 0, []), 1)), (45, ((24, 284, 0, [2, 5, 10]), 3))], [(48, ((2, 0, 2, []), 1)), (49, ((15, 10, 31, []), 3)), (52, ((0, 0, 7, []), 2)), (54, ((2, 3, 0, []), 1)), (55, ((5, 2, 0, []), 1)), (56, ((0, 0, 6, []), 2)), (58, ((5, 0, 0, []), 1)), (59, ((18, 0, 0, []), 1)), (60, ((12, 67, 1, []), 3)), (63, ((0, 0, 1, []), 1))], [(64, ((10, 68, 0, []), 3)), (67, ((0, 0, 0, []), 1)), (68, ((5, 0, 0, []), 1)), (69, ((3, 2, 0, []), 1)), (70, ((4, 3, 1, []), 3)), (73, ((10, 24, 0, []), 3)), (76, ((2, 2, 0, []), 1)), (77, ((27, 0, 0, []), 1))]]
set_option maxRecDepth 100000 in
theorem m_ok_283 : m_t_283.all (fun c => c.all (m_ck1 283)) = true := by decide +kernel
def m_t_285 : m_T := [[(0, ((2, 0, 2, []), 1)), (1, ((0, 0, 0, []), 1)), (2, ((16, 10, 0, []), 3)), (5, ((2, 0, 2, []), 1)), (6, ((2, 1, 0, []), 1)), (7, ((24, 245, 0, [1, 2, 10]), 3)), (10, ((11, 16, 1, []), 3)), (13, ((0, 0, (-2), []), 2)), (15, ((27, 0, 0, []), 1))], [(16, ((2, 0, 2, []), 1)), (17, ((24, 253, 0, [0, 1, 10]), 3)), (20, ((0, 0, 0, []), 1)), (21, ((3, 2, 0, []), 1)), (22, ((0, 0, 0, []), 1)), (23, ((3, 3, 0, []), 1)), (24, ((2, 3, 0, []), 1)), (25, ((2, 0, 2, []), 1)), (26, ((15, 10, 30, []), 3)), (29, ((12, 60, 3, []), 3))], [(32, ((2, 2, 0, []), 1)), (33, ((2, 0, 2, []), 1)), (34, ((2, 1, 0, []), 1)), (35, ((2, 3, 0, []), 1)), (36, ((24, 281, 0, [2, 3, 10]), 3)), (39, ((11, 51, 0, []), 3)), (42, ((2, 0, 2, []), 1)), (43, ((2, 1, 0, []), 1)), (44, ((2, 3, 0, []), 1)), (45, ((24, 284, 0, [2, 5, 10]), 3))], [(48, ((10, 52, 0, []), 3)), (51, ((0, 0, 0, []), 1)), (52, ((5, 0, 0, []), 1)), (53, ((3, 2, 0, []), 1)), (54, ((4, 3, 1, []), 3)), (57, ((10, 24, 0, []), 3)), (60, ((2, 2, 0, []), 1)), (61, ((27, 0, 0, []), 1))]]
set_option maxRecDepth 100000 in
theorem m_ok_285 : m_t_285.all (fun c => c.all (m_ck1 285)) = true := by decide +kernel
def m_t_286 : m_T := [[(0, ((2, 0, 2, []), 1)), (1, ((0, 0, 0, []), 1)), (2, ((16, 10, 0, []), 3)), (5, ((2, 0, 2, []), 1)), (6, ((2, 1, 0, []), 1)), (7, ((24, 245, 0, [1, 2, 10]), 3)), (10, ((11, 21, 0, []), 3)), (13, ((2, 0, 2, []), 1)), (14, ((2, 2, 0, []), 1)), (15, ((24, 245, 0, [1, 2, 10]), 3))], [(18, ((11, 24, 1, []), 3)), (21, ((0, 0, (-2), []), 2)), (23, ((27, 0, 0, []), 1)), (24, ((2, 0, 2, []), 1)), (25, ((24, 253, 0, [0, 1, 10]), 3)), (28, ((0, 0, 0, []), 1)), (29, ((3, 3, 0, []), 1)), (30, ((0, 0, 0, []), 1)), (31, ((3, 4, 0, []), 2))], [(33, ((2, 4, 0, []), 2)), (35, ((2, 0, 2, []), 1)), (36, ((15, 10, 30, []), 3)), (39, ((12, 76, 3, []), 3)), (42, ((2, 3, 0, []), 1)), (43, ((2, 0, 2, []), 1)), (44, ((2, 1, 0, []), 1)), (45, ((2, 4, 0, []), 2)), (47, ((24, 281, 0, [2, 3, 10]), 3))], [(50, ((11, 67, 0, []), 3)), (53, ((2, 0, 2, []), 1)), (54, ((2, 2, 0, []), 1)), (55, ((2, 4, 0, []), 2)), (57, ((24, 281, 0, [2, 3, 10]), 3)), (60, ((11, 67, 0, []), 3)), (63, ((0, 0, 1, []), 1))], [(64, ((10, 68, 0, []), 3)), (67, ((0, 0, 0, []), 1)), (68, ((5, 0, 0, []), 1)), (69, ((3, 3, 0, []), 1)), (70, ((4, 4, 1, []), 3)), (73, ((10, 33, 0, []), 3)), (76, ((2, 3, 0, []), 1)), (77, ((27, 0, 0, []), 1))]]
set_option maxRecDepth 100000 in
theorem m_ok_286 : m_t_286.all (fun c => c.all (m_ck1 286)) = true := by decide +kernel
def m_t_287 : m_T := [[(0, ((2, 0, 2, []), 1)), (1, ((0, 0, 0, []), 1)), (2, ((16, 10, 0, []), 3)), (5, ((2, 0, 2, []), 1)), (6, ((2, 1, 0, []), 1)), (7, ((24, 278, 0, [1, 2, 10]), 3)), (10, ((11, 16, 1, []), 3)), (13, ((0, 0, (-2), []), 2)), (15, ((27, 0, 0, []), 1))], [(16, ((2, 0, 2, []), 1)), (17, ((24, 253, 0, [0, 1, 10]), 3)), (20, ((2, 0, 2, []), 1)), (21, ((2, 1, 0, []), 1)), (22, ((24, 288, 0, [1, 4, 10]), 3)), (25, ((27, 0, 0, []), 1))]]
set_option maxRecDepth 100000 in
theorem m_ok_287 : m_t_287.all (fun c => c.all (m_ck1 287)) = true := by decide +kernel
def m_t_290 : m_T := [[(0, ((2, 0, 2, []), 1)), (1, ((0, 0, 0, []), 1)), (2, ((16, 10, 0, []), 3)), (5, ((2, 0, 2, []), 1)), (6, ((2, 1, 0, []), 1)), (7, ((7, 1, 0, []), 1)), (8, ((24, 250, 0, [1, 3, 10]), 3)), (11, ((11, 22, 0, []), 3)), (14, ((2, 0, 2, []), 1)), (15, ((2, 2, 0, []), 1))], [(16, ((24, 278, 0, [1, 2, 10]), 3)), (19, ((11, 25, 1, []), 3)), (22, ((0, 0, (-2), []), 2)), (24, ((27, 0, 0, []), 1)), (25, ((2, 0, 2, []), 1)), (26, ((24, 253, 0, [0, 1, 10]), 3)), (29, ((2, 0, 2, []), 1)), (30, ((2, 1, 0, []), 1)), (31, ((2, 2, 0, []), 1))], [(32, ((24, 289, 0, [2, 5, 10]), 3)), (35, ((27, 0, 0, []), 1))]]
set_option maxRecDepth 100000 in
theorem m_ok_290 : m_t_290.all (fun c => c.all (m_ck1 290)) = true := by decide +kernel
def m_t_291 : m_T := [[(0, ((2, 0, 2, []), 1)), (1, ((0, 0, 0, []), 1)), (2, ((16, 10, 0, []), 3)), (5, ((2, 0, 2, []), 1)), (6, ((2, 1, 0, []), 1)), (7, ((7, 1, 0, []), 1)), (8, ((24, 250, 0, [1, 3, 10]), 3)), (11, ((11, 17, 1, []), 3)), (14, ((0, 0, (-2), []), 2))], [(16, ((27, 0, 0, []), 1)), (17, ((2, 0, 2, []), 1)), (18, ((24, 253, 0, [0, 1, 10]), 3)), (21, ((2, 0, 2, []), 1)), (22, ((2, 1, 0, []), 1)), (23, ((24, 268, 0, [1, 2, 10]), 3)), (26, ((11, 31, 1, []), 3)), (29, ((0, 0, (-1), []), 1)), (30, ((27, 0, 0, []), 1)), (31, ((2, 0, 2, []), 1))], [(32, ((15, 10, 31, []), 3)), (35, ((0, 0, 7, []), 2)), (37, ((2, 0, 2, []), 1)), (38, ((15, 10, 36, []), 3)), (41, ((2, 1, 0, []), 1)), (42, ((18, 0, 0, []), 1)), (43, ((5, 2, 0, []), 1)), (44, ((0, 0, 1, []), 1)), (45, ((5, 0, 0, []), 1)), (46, ((18, 0, 0, []), 1)), (47, ((0, 0, 1, []), 1))], [(48, ((5, 0, 0, []), 1)), (49, ((3, 2, 0, []), 1)), (50, ((2, 2, 0, []), 1)), (51, ((2, 0, 2, []), 1)), (52, ((24, 256, 0, [0, 1, 10]), 3)), (55, ((12, 75, 4, []), 3)), (58, ((2, 0, 2, []), 1)), (59, ((2, 1, 0, []), 1)), (60, ((2, 2, 0, []), 1)), (61, ((24, 289, 0, [2, 5, 10]), 3))], [(64, ((11, 69, 1, []), 3)), (67, ((2, 2, 0, []), 1)), (68, ((27, 0, 0, []), 1)), (69, ((4, 2, 1, []), 3)), (72, ((10, 50, 0, []), 3)), (75, ((0, 0, (-1), []), 1)), (76, ((27, 0, 0, []), 1))]]
set_option maxRecDepth 100000 in
theorem m_ok_291 : m_t_291.all (fun c => c.all (m_ck1 291)) = true := by decide +kernel
def m_t_292 : m_T := [[(0, ((2, 0, 2, []), 1)), (1, ((0, 0, 0, []), 1)), (2, ((16, 10, 0, []), 3)), (5, ((2, 0, 2, []), 1)), (6, ((24, 276, 0, [0, 1, 10]), 3)), (9, ((11, 15, 1, []), 3)), (12, ((0, 0, (-2), []), 2)), (14, ((27, 0, 0, []), 1)), (15, ((2, 0, 2, []), 1))], [(16, ((24, 253, 0, [0, 1, 10]), 3)), (19, ((0, 0, 0, []), 1)), (20, ((3, 1, 0, []), 1)), (21, ((0, 0, 1, []), 1)), (22, ((3, 2, 0, []), 1)), (23, ((2, 2, 0, []), 1)), (24, ((2, 0, 2, []), 1)), (25, ((24, 256, 0, [0, 1, 10]), 3)), (28, ((12, 52, 4, []), 3)), (31, ((2, 0, 2, []), 1))], [(32, ((2, 2, 0, []), 1)), (33, ((24, 288, 0, [1, 4, 10]), 3)), (36, ((2, 0, 2, []), 1)), (37, ((2, 1, 0, []), 1)), (38, ((24, 288, 0, [1, 4, 10]), 3)), (41, ((12, 46, 5, []), 3)), (44, ((2, 2, 0, []), 1)), (45, ((3, 1, 0, []), 1)), (46, ((4, 2, 1, []), 3))], [(49, ((10, 23, 0, []), 3)), (52, ((2, 1, 0, []), 1)), (53, ((27, 0, 0, []), 1))]]
set_option maxRecDepth 100000 in
theorem m_ok_292 : m_t_292.all (fun c => c.all (m_ck1 292)) = true := by decide +kernel
def m_t_293 : m_T := [[(0, ((2, 0, 2, []), 1)), (1, ((0, 0, 0, []), 1)), (2, ((16, 10, 0, []), 3)), (5, ((2, 0, 2, []), 1)), (6, ((24, 276, 0, [0, 1, 10]), 3)), (9, ((11, 15, 1, []), 3)), (12, ((0, 0, (-2), []), 2)), (14, ((27, 0, 0, []), 1)), (15, ((2, 0, 2, []), 1))], [(16, ((24, 253, 0, [0, 1, 10]), 3)), (19, ((2, 0, 2, []), 1)), (20, ((24, 294, 0, [0, 3, 10]), 3)), (23, ((27, 0, 0, []), 1))]]
set_option maxRecDepth 100000 in
theorem m_ok_293 : m_t_293.all (fun c => c.all (m_ck1 293)) = true := by decide +kernel
def m_t_296 : m_T := [[(0, ((2, 0, 2, []), 1)), (1, ((0, 0, 0, []), 1)), (2, ((16, 10, 0, []), 3)), (5, ((2, 0, 2, []), 1)), (6, ((24, 276, 0, [0, 1, 10]), 3)), (9, ((11, 15, 1, []), 3)), (12, ((0, 0, (-2), []), 2)), (14, ((27, 0, 0, []), 1)), (15, ((2, 0, 2, []), 1))], [(16, ((24, 253, 0, [0, 1, 10]), 3)), (19, ((0, 0, (-1), []), 1)), (20, ((3, 1, 0, []), 1)), (21, ((0, 0, 0, []), 1)), (22, ((3, 2, 0, []), 1)), (23, ((2, 2, 0, []), 1)), (24, ((2, 0, 2, []), 1)), (25, ((24, 251, 0, [0, 1, 10]), 3)), (28, ((12, 65, 3, []), 3)), (31, ((2, 0, 2, []), 1))], [(32, ((2, 2, 0, []), 1)), (33, ((24, 268, 0, [1, 2, 10]), 3)), (36, ((11, 59, 0, []), 3)), (39, ((2, 1, 0, []), 1)), (40, ((0, 0, (-1), []), 1)), (41, ((12, 57, 0, []), 3)), (44, ((2, 0, 2, []), 1)), (45, ((2, 2, 0, []), 1)), (46, ((24, 295, 0, [1, 2, 10]), 3))], [(49, ((2, 0, 2, []), 1)), (50, ((2, 1, 0, []), 1)), (51, ((24, 295, 0, [1, 2, 10]), 3)), (54, ((12, 59, 5, []), 3)), (57, ((2, 2, 0, []), 1)), (58, ((3, 1, 0, []), 1)), (59, ((4, 2, 1, []), 3)), (62, ((10, 23, 0, []), 3))], [(65, ((2, 1, 0, []), 1)), (66, ((27, 0, 0, []), 1))]]
set_option maxRecDepth 100000 in
theorem m_ok_296 : m_t_296.all (fun c => c.all (m_ck1 296)) = true := by decide +kernel
def m_t_297 : m_T := [[(0, ((2, 0, 2, []), 1)), (1, ((0, 0, 0, []), 1)), (2, ((16, 10, 0, []), 3)), (5, ((2, 0, 2, []), 1)), (6, ((2, 1, 0, []), 1)), (7, ((24, 278, 0, [1, 2, 10]), 3)), (10, ((11, 16, 1, []), 3)), (13, ((0, 0, (-2), []), 2)), (15, ((27, 0, 0, []), 1))], [(16, ((2, 0, 2, []), 1)), (17, ((24, 253, 0, [0, 1, 10]), 3)), (20, ((2, 0, 2, []), 1)), (21, ((2, 1, 0, []), 1)), (22, ((0, 0, 1, []), 1)), (23, ((24, 298, 0, [2, 5, 10]), 3)), (26, ((27, 0, 0, []), 1))]]
set_option maxRecDepth 100000 in
theorem m_ok_297 : m_t_297.all (fun c => c.all (m_ck1 297)) = true := by decide +kernel
def m_t_299 : m_T := [[(0, ((2, 0, 2, []), 1)), (1, ((0, 0, 0, []), 1)), (2, ((16, 10, 0, []), 3)), (5, ((2, 0, 2, []), 1)), (6, ((2, 1, 0, []), 1)), (7, ((24, 278, 0, [1, 2, 10]), 3)), (10, ((11, 16, 1, []), 3)), (13, ((0, 0, (-2), []), 2)), (15, ((27, 0, 0, []), 1))], [(16, ((2, 0, 2, []), 1)), (17, ((24, 253, 0, [0, 1, 10]), 3)), (20, ((2, 0, 2, []), 1)), (21, ((2, 1, 0, []), 1)), (22, ((0, 0, (-1), []), 1)), (23, ((24, 298, 0, [2, 5, 10]), 3)), (26, ((27, 0, 0, []), 1))]]
set_option maxRecDepth 100000 in
theorem m_ok_299 : m_t_299.all (fun c => c.all (m_ck1 299)) = true := by decide +kernel
def m_t_300 : m_T := [[(0, ((2, 0, 2, []), 1)), (1, ((0, 0, 0, []), 1)), (2, ((16, 10, 0, []), 3)), (5, ((2, 0, 2, []), 1)), (6, ((24, 276, 0, [0, 1, 10]), 3)), (9, ((11, 15, 1, []), 3)), (12, ((0, 0, (-2), []), 2)), (14, ((27, 0, 0, []), 1)), (15, ((2, 0, 2, []), 1))], [(16, ((24, 253, 0, [0, 1, 10]), 3)), (19, ((0, 0, (-1), []), 1)), (20, ((3, 1, 0, []), 1)), (21, ((0, 0, 0, []), 1)), (22, ((3, 2, 0, []), 1)), (23, ((2, 2, 0, []), 1)), (24, ((2, 0, 2, []), 1)), (25, ((24, 246, 0, [0, 1, 10]), 3)), (28, ((12, 59, 3, []), 3)), (31, ((2, 1, 0, []), 1))], [(32, ((0, 0, (-1), []), 1)), (33, ((12, 51, 0, []), 3)), (36, ((2, 0, 2, []), 1)), (37, ((15, 10, 35, []), 3)), (40, ((2, 2, 0, []), 1)), (41, ((18, 0, 0, []), 1)), (42, ((2, 0, 2, []), 1)), (43, ((15, 10, 35, []), 3)), (46, ((2, 1, 0, []), 1)), (47, ((18, 0, 0, []), 1))], [(48, ((12, 53, 5, []), 3)), (51, ((2, 2, 0, []), 1)), (52, ((3, 1, 0, []), 1)), (53, ((4, 2, 1, []), 3)), (56, ((10, 23, 0, []), 3)), (59, ((2, 1, 0, []), 1)), (60, ((27, 0, 0, []), 1))]]
set_option maxRecDepth 100000 in
theorem m_ok_300 : m_t_300.all (fun c => c.all (m_ck1 300)) = true := by decide +kernel
def m_t_301 : m_T := [[(0, ((2, 0, 2, []), 1)), (1, ((0, 0, 0, []), 1)), (2, ((16, 10, 0, []), 3)), (5, ((2, 0, 2, []), 1)), (6, ((24, 276, 0, [0, 1, 10]), 3)), (9, ((11, 15, 1, []), 3)), (12, ((0, 0, (-2), []), 2)), (14, ((27, 0, 0, []), 1)), (15, ((2, 0, 2, []), 1))], [(16, ((24, 253, 0, [0, 1, 10]), 3)), (19, ((0, 0, 0, []), 1)), (20, ((3, 1, 0, []), 1)), (21, ((0, 0, 0, []), 1)), (22, ((3, 2, 0, []), 1)), (23, ((2, 2, 0, []), 1)), (24, ((2, 0, 2, []), 1)), (25, ((24, 246, 0, [0, 1, 10]), 3)), (28, ((12, 56, 3, []), 3)), (31, ((2, 1, 0, []), 1))], [(32, ((2, 0, 2, []), 1)), (33, ((15, 10, 35, []), 3)), (36, ((2, 2, 0, []), 1)), (37, ((18, 0, 0, []), 1)), (38, ((11, 47, 1, []), 3)), (41, ((0, 0, 1, []), 1)), (42, ((2, 2, 0, []), 1)), (43, ((5, 6, 0, []), 1)), (44, ((10, 48, 0, []), 3)), (47, ((0, 0, 0, []), 1))], [(48, ((5, 4, 0, []), 1)), (49, ((3, 1, 0, []), 1)), (50, ((4, 2, 1, []), 3)), (53, ((10, 23, 0, []), 3)), (56, ((2, 1, 0, []), 1)), (57, ((27, 0, 0, []), 1))]]
set_option maxRecDepth 100000 in
theorem m_ok_301 : m_t_301.all (fun c => c.all (m_ck1 301)) = true := by decide +kernel
def m_t_302 : m_T := [[(0, ((2, 0, 2, []), 1)), (1, ((0, 0, 0, []), 1)), (2, ((16, 10, 0, []), 3)), (5, ((2, 0, 2, []), 1)), (6, ((2, 1, 0, []), 1)), (7, ((24, 303, 0, [1, 2, 10]), 3)), (10, ((11, 16, 1, []), 3)), (13, ((0, 0, (-2), []), 2)), (15, ((27, 0, 0, []), 1))], [(16, ((2, 0, 2, []), 1)), (17, ((24, 253, 0, [0, 1, 10]), 3)), (20, ((0, 0, 0, []), 1)), (21, ((3, 2, 0, []), 1)), (22, ((0, 0, 0, []), 1)), (23, ((3, 3, 0, []), 1)), (24, ((2, 3, 0, []), 1)), (25, ((2, 0, 2, []), 1)), (26, ((15, 10, 30, []), 3)), (29, ((12, 61, 3, []), 3))], [(32, ((2, 2, 0, []), 1)), (33, ((2, 0, 2, []), 1)), (34, ((15, 10, 31, []), 3)), (37, ((0, 0, 7, []), 2)), (39, ((2, 3, 0, []), 1)), (40, ((5, 2, 0, []), 1)), (41, ((0, 0, 1, []), 1)), (42, ((5, 0, 0, []), 1)), (43, ((18, 0, 0, []), 1)), (44, ((2, 1, 0, []), 1)), (45, ((12, 52, 1, []), 3))], [(48, ((0, 0, 1, []), 1)), (49, ((10, 53, 0, []), 3)), (52, ((0, 0, 0, []), 1)), (53, ((5, 0, 0, []), 1)), (54, ((3, 2, 0, []), 1)), (55, ((4, 3, 1, []), 3)), (58, ((10, 24, 0, []), 3)), (61, ((2, 2, 0, []), 1)), (62, ((27, 0, 0, []), 1))]]
set_option maxRecDepth 100000 in
theorem m_ok_302 : m_t_302.all (fun c => c.all (m_ck1 302)) = true := by decide +kernel
def m_t_303 : m_T := [[(0, ((2, 1, 0, []), 1)), (1, ((7, 1, 0, []), 1)), (2, ((1, 0, 0, []), 1)), (3, ((2, 0, 2, []), 1)), (4, ((24, 256, 0, [0, 1, 10]), 3)), (7, ((7, 1, 0, []), 1)), (8, ((1, 0, 1, []), 1)), (9, ((6, 1, 0, []), 1)), (10, ((24, 212, 2, [3, 6, 10]), 3)), (13, ((27, 3, 0, []), 1))]]
set_option maxRecDepth 100000 in
theorem m_ok_303 : m_t_303.all (fun c => c.all (m_ck1 303)) = true := by decide +kernel
def m_t_304 : m_T := [[(0, ((2, 0, 2, []), 1)), (1, ((0, 0, 0, []), 1)), (2, ((16, 10, 0, []), 3)), (5, ((2, 0, 2, []), 1)), (6, ((2, 1, 0, []), 1)), (7, ((24, 245, 0, [1, 2, 10]), 3)), (10, ((11, 17, 1, []), 3)), (13, ((0, 0, (-1000), []), 3))], [(16, ((27, 0, 0, []), 1)), (17, ((2, 0, 2, []), 1)), (18, ((24, 253, 0, [0, 1, 10]), 3)), (21, ((2, 0, 2, []), 1)), (22, ((15, 10, 34, []), 3)), (25, ((2, 1, 0, []), 1)), (26, ((18, 0, 0, []), 1)), (27, ((2, 0, 2, []), 1)), (28, ((15, 10, 26, []), 3)), (31, ((2, 1, 0, []), 1))], [(32, ((18, 0, 0, []), 1)), (33, ((5, 1, 0, []), 1)), (34, ((27, 0, 0, []), 1))]]
set_option maxRecDepth 100000 in
theorem m_ok_304 : m_t_304.all (fun c => c.all (m_ck1 304)) = true := by decide +kernel
def m_t_305 : m_T := [[(0, ((2, 0, 2, []), 1)), (1, ((0, 0, 0, []), 1)), (2, ((16, 10, 0, []), 3)), (5, ((2, 0, 2, []), 1)), (6, ((2, 1, 0, []), 1)), (7, ((24, 278, 0, [1, 2, 10]), 3)), (10, ((11, 16, 1, []), 3)), (13, ((0, 0, (-2), []), 2)), (15, ((27, 0, 0, []), 1))], [(16, ((2, 0, 2, []), 1)), (17, ((24, 253, 0, [0, 1, 10]), 3)), (20, ((0, 0, 0, []), 1)), (21, ((3, 2, 0, []), 1)), (22, ((0, 0, 0, []), 1)), (23, ((3, 3, 0, []), 1)), (24, ((2, 3, 0, []), 1)), (25, ((2, 0, 2, []), 1)), (26, ((24, 251, 0, [0, 1, 10]), 3)), (29, ((12, 57, 3, []), 3))], [(32, ((2, 2, 0, []), 1)), (33, ((2, 0, 2, []), 1)), (34, ((2, 3, 0, []), 1)), (35, ((2, 1, 0, []), 1)), (36, ((24, 289, 0, [2, 5, 10]), 3)), (39, ((11, 48, 5, []), 3)), (42, ((0, 0, 1, []), 1)), (43, ((2, 3, 0, []), 1)), (44, ((5, 6, 0, []), 1)), (45, ((10, 49, 0, []), 3))], [(48, ((0, 0, 0, []), 1)), (49, ((5, 4, 0, []), 1)), (50, ((3, 2, 0, []), 1)), (51, ((4, 3, 1, []), 3)), (54, ((10, 24, 0, []), 3)), (57, ((2, 2, 0, []), 1)), (58, ((27, 0, 0, []), 1))]]
set_option maxRecDepth 100000 in
theorem m_ok_305 : m_t_305.all (fun c => c.all (m_ck1 305)) = true := by decide +kernel
end
section
def m_t_306 : m_T := [[(0, ((2, 0, 2, []), 1)), (1, ((0, 0, 0, []), 1)), (2, ((16, 10, 0, []), 3)), (5, ((2, 0, 2, []), 1)), (6, ((2, 1, 0, []), 1)), (7, ((24, 245, 0, [1, 2, 10]), 3)), (10, ((11, 22, 0, []), 3)), (13, ((2, 0, 2, []), 1)), (14, ((2, 1, 0, []), 1)), (15, ((0, 0, 1, []), 1))], [(16, ((24, 307, 0, [2, 7, 10]), 3)), (19, ((10, 24, 0, []), 3)), (22, ((0, 0, (-2), []), 2)), (24, ((27, 0, 0, []), 1))]]
set_option maxRecDepth 100000 in
theorem m_ok_306 : m_t_306.all (fun c => c.all (m_ck1 306)) = true := by decide +kernel
def m_t_308 : m_T := [[(0, ((2, 0, 2, []), 1)), (1, ((0, 0, 0, []), 1)), (2, ((16, 10, 0, []), 3)), (5, ((2, 0, 2, []), 1)), (6, ((2, 1, 0, []), 1)), (7, ((24, 245, 0, [1, 2, 10]), 3)), (10, ((11, 22, 0, []), 3)), (13, ((2, 0, 2, []), 1)), (14, ((2, 1, 0, []), 1)), (15, ((0, 0, (-1), []), 1))], [(16, ((24, 307, 0, [2, 7, 10]), 3)), (19, ((10, 24, 0, []), 3)), (22, ((0, 0, (-2), []), 2)), (24, ((27, 0, 0, []), 1))]]
set_option maxRecDepth 100000 in
theorem m_ok_308 : m_t_308.all (fun c => c.all (m_ck1 308)) = true := by decide +kernel
def m_t_309 : m_T := [[(0, ((2, 0, 2, []), 1)), (1, ((0, 0, 0, []), 1)), (2, ((16, 10, 0, []), 3)), (5, ((2, 0, 2, []), 1)), (6, ((24, 276, 0, [0, 1, 10]), 3)), (9, ((11, 15, 1, []), 3)), (12, ((0, 0, (-2), []), 2)), (14, ((27, 0, 0, []), 1)), (15, ((2, 0, 2, []), 1))], [(16, ((24, 253, 0, [0, 1, 10]), 3)), (19, ((0, 0, (-1), []), 1)), (20, ((3, 1, 0, []), 1)), (21, ((0, 0, 0, []), 1)), (22, ((3, 2, 0, []), 1)), (23, ((2, 2, 0, []), 1)), (24, ((2, 0, 2, []), 1)), (25, ((24, 251, 0, [0, 1, 10]), 3)), (28, ((12, 65, 3, []), 3)), (31, ((2, 0, 2, []), 1))], [(32, ((2, 2, 0, []), 1)), (33, ((24, 268, 0, [1, 2, 10]), 3)), (36, ((11, 59, 0, []), 3)), (39, ((2, 1, 0, []), 1)), (40, ((0, 0, (-1), []), 1)), (41, ((12, 57, 0, []), 3)), (44, ((2, 0, 2, []), 1)), (45, ((2, 2, 0, []), 1)), (46, ((24, 274, 0, [1, 3, 10]), 3))], [(49, ((2, 0, 2, []), 1)), (50, ((2, 1, 0, []), 1)), (51, ((24, 274, 0, [1, 3, 10]), 3)), (54, ((12, 59, 5, []), 3)), (57, ((2, 2, 0, []), 1)), (58, ((3, 1, 0, []), 1)), (59, ((4, 2, 1, []), 3)), (62, ((10, 23, 0, []), 3))], [(65, ((2, 1, 0, []), 1)), (66, ((27, 0, 0, []), 1))]]
set_option maxRecDepth 100000 in
theorem m_ok_309 : m_t_309.all (fun c => c.all (m_ck1 309)) = true := by decide +kernel
def m_t_310 : m_T := [[(0, ((2, 0, 2, []), 1)), (1, ((0, 0, 0, []), 1)), (2, ((16, 10, 0, []), 3)), (5, ((2, 0, 2, []), 1)), (6, ((24, 276, 0, [0, 1, 10]), 3)), (9, ((11, 15, 1, []), 3)), (12, ((0, 0, (-2), []), 2)), (14, ((27, 0, 0, []), 1)), (15, ((2, 0, 2, []), 1))], [(16, ((24, 253, 0, [0, 1, 10]), 3)), (19, ((0, 0, 0, []), 1)), (20, ((3, 1, 0, []), 1)), (21, ((0, 0, 0, []), 1)), (22, ((3, 2, 0, []), 1)), (23, ((2, 2, 0, []), 1)), (24, ((2, 0, 2, []), 1)), (25, ((24, 251, 0, [0, 1, 10]), 3)), (28, ((12, 114, 3, []), 3)), (31, ((2, 2, 0, []), 1))], [(32, ((0, 0, 1, []), 1)), (33, ((5, 0, 0, []), 1)), (34, ((3, 3, 0, []), 1)), (35, ((2, 3, 0, []), 1)), (36, ((2, 0, 2, []), 1)), (37, ((24, 251, 0, [0, 1, 10]), 3)), (40, ((12, 108, 3, []), 3)), (43, ((2, 1, 0, []), 1)), (44, ((2, 0, 2, []), 1)), (45, ((2, 2, 0, []), 1)), (46, ((24, 268, 0, [1, 2, 10]), 3))], [(49, ((11, 99, 0, []), 3)), (52, ((2, 0, 2, []), 1)), (53, ((2, 3, 0, []), 1)), (54, ((24, 268, 0, [1, 2, 10]), 3)), (57, ((11, 99, 0, []), 3)), (60, ((2, 0, 2, []), 1)), (61, ((15, 10, 31, []), 3))], [(64, ((0, 0, 7, []), 2)), (66, ((2, 0, 2, []), 1)), (67, ((15, 10, 36, []), 3)), (70, ((2, 2, 0, []), 1)), (71, ((18, 0, 0, []), 1)), (72, ((5, 2, 0, []), 1)), (73, ((0, 0, 2, []), 1)), (74, ((5, 0, 0, []), 1)), (75, ((18, 0, 0, []), 1)), (76, ((2, 0, 2, []), 1)), (77, ((15, 10, 31, []), 3))], [(80, ((0, 0, 7, []), 2)), (82, ((2, 0, 2, []), 1)), (83, ((15, 10, 36, []), 3)), (86, ((2, 3, 0, []), 1)), (87, ((18, 0, 0, []), 1)), (88, ((5, 2, 0, []), 1)), (89, ((0, 0, 2, []), 1)), (90, ((5, 0, 0, []), 1)), (91, ((18, 0, 0, []), 1)), (92, ((12, 99, 1, []), 3)), (95, ((0, 0, 1, []), 1))], [(96, ((10, 100, 0, []), 3)), (99, ((0, 0, 0, []), 1)), (100, ((5, 0, 0, []), 1)), (101, ((3, 1, 0, []), 1)), (102, ((4, 3, 1, []), 3)), (105, ((10, 35, 0, []), 3)), (108, ((4, 2, 1, []), 3)), (111, ((10, 23, 0, []), 3))], [(114, ((2, 1, 0, []), 1)), (115, ((27, 0, 0, []), 1))]]
set_option maxRecDepth 100000 in
theorem m_ok_310 : m_t_310.all (fun c => c.all (m_ck1 310)) = true := by decide +kernel
def m_t_311 : m_T := [[(0, ((2, 0, 2, []), 1)), (1, ((0, 0, 0, []), 1)), (2, ((16, 10, 0, []), 3)), (5, ((2, 0, 2, []), 1)), (6, ((2, 1, 0, []), 1)), (7, ((24, 303, 0, [1, 2, 10]), 3)), (10, ((11, 16, 1, []), 3)), (13, ((0, 0, (-2), []), 2)), (15, ((27, 0, 0, []), 1))], [(16, ((2, 0, 2, []), 1)), (17, ((24, 253, 0, [0, 1, 10]), 3)), (20, ((0, 0, 0, []), 1)), (21, ((3, 2, 0, []), 1)), (22, ((0, 0, 0, []), 1)), (23, ((3, 3, 0, []), 1)), (24, ((2, 3, 0, []), 1)), (25, ((2, 0, 2, []), 1)), (26, ((15, 10, 30, []), 3)), (29, ((12, 72, 3, []), 3))], [(32, ((2, 2, 0, []), 1)), (33, ((2, 0, 2, []), 1)), (34, ((15, 10, 31, []), 3)), (37, ((0, 0, 7, []), 2)), (39, ((2, 3, 0, []), 1)), (40, ((5, 2, 0, []), 1)), (41, ((0, 0, 1, []), 1)), (42, ((5, 0, 0, []), 1)), (43, ((18, 0, 0, []), 1)), (44, ((2, 1, 0, []), 1)), (45, ((12, 63, 1, []), 3))], [(48, ((2, 0, 2, []), 1)), (49, ((15, 10, 31, []), 3)), (52, ((0, 0, 7, []), 2)), (54, ((2, 3, 0, []), 1)), (55, ((5, 2, 0, []), 1)), (56, ((0, 0, 6, []), 2)), (58, ((5, 0, 0, []), 1)), (59, ((18, 0, 0, []), 1)), (60, ((10, 64, 0, []), 3)), (63, ((0, 0, 0, []), 1))], [(64, ((5, 0, 0, []), 1)), (65, ((3, 2, 0, []), 1)), (66, ((4, 3, 1, []), 3)), (69, ((10, 24, 0, []), 3)), (72, ((2, 2, 0, []), 1)), (73, ((27, 0, 0, []), 1))]]
set_option maxRecDepth 100000 in
theorem m_ok_311 : m_t_311.all (fun c => c.all (m_ck1 311)) = true := by decide +kernel
def m_t_312 : m_T := [[(0, ((2, 0, 2, []), 1)), (1, ((0, 0, 0, []), 1)), (2, ((16, 10, 0, []), 3)), (5, ((2, 0, 2, []), 1)), (6, ((2, 1, 0, []), 1)), (7, ((7, 1, 0, []), 1)), (8, ((24, 250, 0, [1, 3, 10]), 3)), (11, ((11, 17, 1, []), 3)), (14, ((0, 0, (-2), []), 2))], [(16, ((27, 0, 0, []), 1)), (17, ((2, 0, 2, []), 1)), (18, ((24, 253, 0, [0, 1, 10]), 3)), (21, ((0, 0, 1, []), 1)), (22, ((2, 0, 2, []), 1)), (23, ((24, 246, 0, [0, 1, 10]), 3)), (26, ((5, 6, 0, []), 1)), (27, ((0, 0, 1, []), 1)), (28, ((5, 1, 0, []), 1)), (29, ((2, 0, 2, []), 1)), (30, ((15, 10, 37, []), 3))], [(33, ((2, 1, 0, []), 1)), (34, ((18, 0, 0, []), 1)), (35, ((0, 0, (-1), []), 1)), (36, ((5, 5, 0, []), 1)), (37, ((5, 3, 0, []), 1)), (38, ((27, 0, 0, []), 1))]]
set_option maxRecDepth 100000 in
theorem m_ok_312 : m_t_312.all (fun c => c.all (m_ck1 312)) = true := by decide +kernel
def m_t_313 : m_T := [[(0, ((2, 0, 2, []), 1)), (1, ((0, 0, 0, []), 1)), (2, ((16, 10, 0, []), 3)), (5, ((2, 0, 2, []), 1)), (6, ((24, 276, 0, [0, 1, 10]), 3)), (9, ((11, 15, 1, []), 3)), (12, ((0, 0, (-2), []), 2)), (14, ((27, 0, 0, []), 1)), (15, ((0, 0, 0, []), 1))], [(16, ((3, 1, 0, []), 1)), (17, ((0, 0, 0, []), 1)), (18, ((3, 2, 0, []), 1)), (19, ((2, 2, 0, []), 1)), (20, ((0, 0, 1, []), 1)), (21, ((2, 0, 2, []), 1)), (22, ((24, 246, 0, [0, 1, 10]), 3)), (25, ((5, 6, 0, []), 1)), (26, ((12, 51, 3, []), 3)), (29, ((2, 1, 0, []), 1)), (30, ((2, 0, 2, []), 1)), (31, ((2, 2, 0, []), 1))], [(32, ((24, 314, 0, [1, 3, 10]), 3)), (35, ((11, 42, 0, []), 3)), (38, ((0, 0, 1, []), 1)), (39, ((10, 43, 0, []), 3)), (42, ((0, 0, 0, []), 1)), (43, ((5, 0, 0, []), 1)), (44, ((3, 1, 0, []), 1)), (45, ((4, 2, 1, []), 3))], [(48, ((10, 19, 0, []), 3)), (51, ((2, 1, 0, []), 1)), (52, ((27, 0, 0, []), 1))]]
set_option maxRecDepth 100000 in
theorem m_ok_313 : m_t_313.all (fun c => c.all (m_ck1 313)) = true := by decide +kernel
def m_t_316 : m_T := [[(0, ((2, 0, 2, []), 1)), (1, ((0, 0, 0, []), 1)), (2, ((16, 10, 0, []), 3)), (5, ((2, 0, 2, []), 1)), (6, ((2, 1, 0, []), 1)), (7, ((24, 245, 0, [1, 2, 10]), 3)), (10, ((11, 31, 0, []), 3)), (13, ((2, 0, 2, []), 1)), (14, ((2, 2, 0, []), 1)), (15, ((7, 1, 0, []), 1))], [(16, ((24, 250, 0, [1, 3, 10]), 3)), (19, ((11, 31, 0, []), 3)), (22, ((2, 0, 2, []), 1)), (23, ((2, 1, 0, []), 1)), (24, ((2, 2, 0, []), 1)), (25, ((24, 317, 0, [2, 3, 10]), 3)), (28, ((10, 33, 0, []), 3)), (31, ((0, 0, (-2), []), 2))], [(33, ((27, 0, 0, []), 1))]]
set_option maxRecDepth 100000 in
theorem m_ok_316 : m_t_316.all (fun c => c.all (m_ck1 316)) = true := by decide +kernel
def m_t_318 : m_T := [[(0, ((2, 0, 2, []), 1)), (1, ((0, 0, 0, []), 1)), (2, ((16, 10, 0, []), 3)), (5, ((2, 0, 2, []), 1)), (6, ((2, 1, 0, []), 1)), (7, ((7, 1, 0, []), 1)), (8, ((24, 250, 0, [1, 3, 10]), 3)), (11, ((11, 23, 0, []), 3)), (14, ((2, 0, 2, []), 1)), (15, ((2, 1, 0, []), 1))], [(16, ((0, 0, (-1), []), 1)), (17, ((24, 319, 0, [2, 4, 10]), 3)), (20, ((10, 25, 0, []), 3)), (23, ((0, 0, (-2), []), 2)), (25, ((27, 0, 0, []), 1))]]
set_option maxRecDepth 100000 in
theorem m_ok_318 : m_t_318.all (fun c => c.all (m_ck1 318)) = true := by decide +kernel
def m_t_322 : m_T := [[(0, ((2, 0, 2, []), 1)), (1, ((0, 0, 0, []), 1)), (2, ((16, 10, 0, []), 3)), (5, ((2, 0, 2, []), 1)), (6, ((2, 1, 0, []), 1)), (7, ((7, 1, 0, []), 1)), (8, ((24, 250, 0, [1, 3, 10]), 3)), (11, ((11, 23, 0, []), 3)), (14, ((2, 0, 2, []), 1)), (15, ((2, 1, 0, []), 1))], [(16, ((0, 0, (-1), []), 1)), (17, ((24, 320, 0, [2, 5, 10]), 3)), (20, ((10, 25, 0, []), 3)), (23, ((0, 0, (-2), []), 2)), (25, ((27, 0, 0, []), 1))]]
set_option maxRecDepth 100000 in
theorem m_ok_322 : m_t_322.all (fun c => c.all (m_ck1 322)) = true := by decide +kernel
def m_t_323 : m_T := [[(0, ((2, 0, 2, []), 1)), (1, ((0, 0, 0, []), 1)), (2, ((16, 10, 0, []), 3)), (5, ((2, 0, 2, []), 1)), (6, ((2, 1, 0, []), 1)), (7, ((7, 1, 0, []), 1)), (8, ((24, 250, 0, [1, 3, 10]), 3)), (11, ((11, 23, 0, []), 3)), (14, ((2, 0, 2, []), 1)), (15, ((2, 1, 0, []), 1))], [(16, ((0, 0, 1, []), 1)), (17, ((24, 319, 0, [2, 4, 10]), 3)), (20, ((10, 25, 0, []), 3)), (23, ((0, 0, (-2), []), 2)), (25, ((27, 0, 0, []), 1))]]
set_option maxRecDepth 100000 in
theorem m_ok_323 : m_t_323.all (fun c => c.all (m_ck1 323)) = true := by decide +kernel
def m_t_324 : m_T := [[(0, ((2, 0, 2, []), 1)), (1, ((0, 0, 0, []), 1)), (2, ((16, 10, 0, []), 3)), (5, ((2, 0, 2, []), 1)), (6, ((2, 1, 0, []), 1)), (7, ((7, 1, 0, []), 1)), (8, ((24, 250, 0, [1, 3, 10]), 3)), (11, ((11, 23, 0, []), 3)), (14, ((2, 0, 2, []), 1)), (15, ((2, 1, 0, []), 1))], [(16, ((0, 0, 1, []), 1)), (17, ((24, 320, 0, [2, 5, 10]), 3)), (20, ((10, 25, 0, []), 3)), (23, ((0, 0, (-2), []), 2)), (25, ((27, 0, 0, []), 1))]]
set_option maxRecDepth 100000 in
theorem m_ok_324 : m_t_324.all (fun c => c.all (m_ck1 324)) = true := by decide +kernel
def m_t_325 : m_T := [[(0, ((2, 0, 2, []), 1)), (1, ((0, 0, 0, []), 1)), (2, ((16, 10, 0, []), 3)), (5, ((2, 0, 2, []), 1)), (6, ((2, 1, 0, []), 1)), (7, ((7, 1, 0, []), 1)), (8, ((24, 250, 0, [1, 3, 10]), 3)), (11, ((11, 17, 1, []), 3)), (14, ((0, 0, (-2), []), 2))], [(16, ((27, 0, 0, []), 1)), (17, ((0, 0, (-1), []), 1)), (18, ((3, 2, 0, []), 1)), (19, ((0, 0, 0, []), 1)), (20, ((3, 3, 0, []), 1)), (21, ((0, 0, 0, []), 1)), (22, ((3, 4, 0, []), 2)), (24, ((2, 4, 0, []), 2)), (26, ((2, 0, 2, []), 1)), (27, ((24, 246, 0, [0, 1, 10]), 3)), (30, ((12, 116, 3, []), 3))], [(33, ((0, 0, 0, []), 1)), (34, ((3, 5, 0, []), 2)), (36, ((0, 0, 0, []), 1)), (37, ((3, 6, 0, []), 2)), (39, ((2, 6, 0, []), 2)), (41, ((0, 0, 1, []), 1)), (42, ((2, 0, 2, []), 1)), (43, ((24, 246, 0, [0, 1, 10]), 3)), (46, ((5, 6, 0, []), 1)), (47, ((12, 95, 3, []), 3))], [(50, ((2, 5, 0, []), 2)), (52, ((2, 6, 0, []), 2)), (54, ((2, 4, 0, []), 2)), (56, ((24, 258, 2, [2, 2, 10]), 3)), (59, ((11, 85, 0, []), 3)), (62, ((2, 0, 2, []), 1)), (63, ((2, 6, 0, []), 2))], [(65, ((24, 314, 0, [1, 3, 10]), 3)), (68, ((11, 85, 0, []), 3)), (71, ((2, 0, 2, []), 1)), (72, ((2, 6, 0, []), 2)), (74, ((2, 1, 0, []), 1)), (75, ((24, 321, 0, [2, 5, 10]), 3)), (78, ((11, 85, 1, []), 3))], [(81, ((0, 0, 1, []), 1)), (82, ((10, 86, 0, []), 3)), (85, ((0, 0, 0, []), 1)), (86, ((5, 0, 0, []), 1)), (87, ((3, 5, 0, []), 2)), (89, ((4, 6, 1, []), 3)), (92, ((10, 39, 0, []), 3)), (95, ((2, 5, 0, []), 2))], [(97, ((2, 3, 0, []), 1)), (98, ((12, 104, 4, []), 3)), (101, ((10, 110, 0, []), 3)), (104, ((2, 4, 0, []), 2)), (106, ((3, 2, 0, []), 1)), (107, ((2, 5, 0, []), 2)), (109, ((3, 3, 0, []), 1)), (110, ((4, 4, 1, []), 3))], [(113, ((10, 24, 0, []), 3)), (116, ((2, 2, 0, []), 1)), (117, ((27, 0, 0, []), 1))]]
set_option maxRecDepth 100000 in
theorem m_ok_325 : m_t_325.all (fun c => c.all (m_ck1 325)) = true := by decide +kernel
def m_t_326 : m_T := [[(0, ((2, 0, 2, []), 1)), (1, ((0, 0, 0, []), 1)), (2, ((16, 10, 0, []), 3)), (5, ((2, 0, 2, []), 1)), (6, ((2, 1, 0, []), 1)), (7, ((7, 1, 0, []), 1)), (8, ((24, 250, 0, [1, 3, 10]), 3)), (11, ((11, 17, 1, []), 3)), (14, ((0, 0, (-2), []), 2))], [(16, ((27, 0, 0, []), 1)), (17, ((2, 0, 2, []), 1)), (18, ((2, 1, 0, []), 1)), (19, ((24, 327, 0, [1, 6, 10]), 3)), (22, ((3, 2, 0, []), 1)), (23, ((2, 2, 0, []), 1)), (24, ((0, 0, (-1), []), 1)), (25, ((12, 32, 1, []), 3)), (28, ((0, 0, (-1), []), 1)), (29, ((10, 36, 0, []), 3))], [(32, ((2, 2, 0, []), 1)), (33, ((24, 315, 2, [1, 3, 10]), 3)), (36, ((27, 0, 0, []), 1))]]
set_option maxRecDepth 100000 in
theorem m_ok_326 : m_t_326.all (fun c => c.all (m_ck1 326)) = true := by decide +kernel
def m_t_328 : m_T := [[(0, ((2, 0, 2, []), 1)), (1, ((0, 0, 0, []), 1)), (2, ((16, 10, 0, []), 3)), (5, ((2, 0, 2, []), 1)), (6, ((2, 1, 0, []), 1)), (7, ((7, 1, 0, []), 1)), (8, ((24, 250, 0, [1, 3, 10]), 3)), (11, ((11, 22, 0, []), 3)), (14, ((2, 0, 2, []), 1)), (15, ((2, 1, 0, []), 1))], [(16, ((24, 327, 0, [1, 6, 10]), 3)), (19, ((10, 24, 0, []), 3)), (22, ((0, 0, (-2), []), 2)), (24, ((27, 0, 0, []), 1))]]
set_option maxRecDepth 100000 in
theorem m_ok_328 : m_t_328.all (fun c => c.all (m_ck1 328)) = true := by decide +kernel
def m_t_329 : m_T := [[(0, ((2, 0, 2, []), 1)), (1, ((0, 0, 0, []), 1)), (2, ((16, 10, 0, []), 3)), (5, ((2, 0, 2, []), 1)), (6, ((2, 1, 0, []), 1)), (7, ((7, 1, 0, []), 1)), (8, ((24, 250, 0, [1, 3, 10]), 3)), (11, ((11, 17, 1, []), 3)), (14, ((0, 0, (-2), []), 2))], [(16, ((27, 0, 0, []), 1)), (17, ((0, 0, (-1), []), 1)), (18, ((3, 2, 0, []), 1)), (19, ((0, 0, 1000000, []), 2)), (21, ((3, 3, 0, []), 1)), (22, ((0, 0, 0, []), 1)), (23, ((3, 4, 0, []), 2)), (25, ((2, 4, 0, []), 2)), (27, ((2, 0, 2, []), 1)), (28, ((24, 256, 0, [0, 1, 10]), 3)), (31, ((12, 85, 3, []), 3))], [(34, ((2, 0, 2, []), 1)), (35, ((24, 254, 0, [0, 2, 10]), 3)), (38, ((2, 0, 2, []), 1)), (39, ((15, 10, 29, []), 3)), (42, ((2, 1, 0, []), 1)), (43, ((2, 4, 0, []), 2)), (45, ((19, 0, 0, []), 1)), (46, ((2, 0, 2, []), 1)), (47, ((24, 255, 0, [0, 5, 10]), 3))], [(50, ((2, 0, 2, []), 1)), (51, ((2, 1, 0, []), 1)), (52, ((24, 268, 0, [1, 2, 10]), 3)), (55, ((11, 79, 0, []), 3)), (58, ((2, 0, 2, []), 1)), (59, ((2, 1, 0, []), 1)), (60, ((24, 295, 0, [1, 2, 10]), 3)), (63, ((2, 3, 0, []), 1))], [(64, ((12, 70, 2, []), 3)), (67, ((10, 79, 0, []), 3)), (70, ((2, 4, 0, []), 2)), (72, ((3, 2, 0, []), 1)), (73, ((2, 0, 2, []), 1)), (74, ((2, 1, 0, []), 1)), (75, ((24, 295, 0, [1, 2, 10]), 3)), (78, ((3, 3, 0, []), 1)), (79, ((4, 4, 1, []), 3))], [(82, ((10, 25, 0, []), 3)), (85, ((2, 2, 0, []), 1)), (86, ((27, 0, 0, []), 1))]]
set_option maxRecDepth 100000 in
theorem m_ok_329 : m_t_329.all (fun c => c.all (m_ck1 329)) = true := by decide +kernel
def m_t_330 : m_T := [[(0, ((2, 0, 2, []), 1)), (1, ((0, 0, 0, []), 1)), (2, ((16, 10, 0, []), 3)), (5, ((2, 0, 2, []), 1)), (6, ((24, 276, 0, [0, 1, 10]), 3)), (9, ((11, 15, 1, []), 3)), (12, ((0, 0, (-2), []), 2)), (14, ((27, 0, 0, []), 1)), (15, ((0, 0, (-1), []), 1))], [(16, ((3, 1, 0, []), 1)), (17, ((0, 0, 1000000, []), 2)), (19, ((3, 2, 0, []), 1)), (20, ((0, 0, 0, []), 1)), (21, ((3, 3, 0, []), 1)), (22, ((2, 3, 0, []), 1)), (23, ((2, 0, 2, []), 1)), (24, ((24, 251, 0, [0, 1, 10]), 3)), (27, ((12, 98, 3, []), 3)), (30, ((2, 0, 2, []), 1)), (31, ((24, 253, 0, [0, 1, 10]), 3))], [(34, ((2, 0, 2, []), 1)), (35, ((24, 294, 0, [0, 3, 10]), 3)), (38, ((0, 0, 0, []), 1)), (39, ((2, 0, 2, []), 1)), (40, ((2, 3, 0, []), 1)), (41, ((24, 295, 0, [1, 2, 10]), 3)), (44, ((24, 262, 2, [2, 2, 10]), 3)), (47, ((5, 1, 0, []), 1))], [(48, ((3, 4, 0, []), 2)), (50, ((2, 0, 2, []), 1)), (51, ((24, 254, 0, [0, 2, 10]), 3)), (54, ((2, 0, 2, []), 1)), (55, ((0, 0, 1, []), 1)), (56, ((2, 3, 0, []), 1)), (57, ((5, 6, 0, []), 1)), (58, ((16, 10, 25, []), 3)), (61, ((2, 0, 2, []), 1)), (62, ((24, 255, 0, [0, 5, 10]), 3))], [(65, ((2, 0, 2, []), 1)), (66, ((24, 294, 0, [0, 3, 10]), 3)), (69, ((3, 5, 0, []), 2)), (71, ((2, 5, 0, []), 2)), (73, ((2, 4, 0, []), 2)), (75, ((12, 92, 3, []), 3)), (78, ((2, 5, 0, []), 2))], [(80, ((2, 2, 0, []), 1)), (81, ((12, 87, 2, []), 3)), (84, ((10, 92, 0, []), 3)), (87, ((2, 3, 0, []), 1)), (88, ((3, 1, 0, []), 1)), (89, ((2, 5, 0, []), 2)), (91, ((3, 2, 0, []), 1)), (92, ((4, 3, 1, []), 3)), (95, ((10, 22, 0, []), 3))], [(98, ((2, 1, 0, []), 1)), (99, ((27, 0, 0, []), 1))]]
set_option maxRecDepth 100000 in
theorem m_ok_330 : m_t_330.all (fun c => c.all (m_ck1 330)) = true := by decide +kernel
def m_t_331 : m_T := [[(0, ((2, 0, 2, []), 1)), (1, ((0, 0, 0, []), 1)), (2, ((16, 10, 0, []), 3)), (5, ((2, 0, 2, []), 1)), (6, ((2, 1, 0, []), 1)), (7, ((2, 0, 2, []), 1)), (8, ((2, 2, 0, []), 1)), (9, ((24, 245, 0, [1, 2, 10]), 3)), (12, ((24, 332, 0, [2, 5, 10]), 3)), (15, ((3, 3, 0, []), 1))], [(16, ((2, 3, 0, []), 1)), (17, ((11, 22, 0, []), 3)), (20, ((2, 3, 0, []), 1)), (21, ((27, 0, 0, []), 1)), (22, ((2, 0, 2, []), 1)), (23, ((2, 1, 0, []), 1)), (24, ((2, 2, 0, []), 1)), (25, ((24, 333, 0, [2, 5, 10]), 3)), (28, ((2, 0, 2, []), 1)), (29, ((24, 335, 0, [0, 3, 10]), 3))], [(32, ((27, 0, 0, []), 1))]]
set_option maxRecDepth 100000 in
theorem m_ok_331 : m_t_331.all (fun c => c.all (m_ck1 331)) = true := by decide +kernel
def m_t_332 : m_T := [[(0, ((2, 1, 0, []), 1)), (1, ((24, 211, 2, [1, 1, 10]), 3)), (4, ((11, 18, 0, []), 3)), (7, ((2, 0, 2, []), 1)), (8, ((24, 276, 0, [0, 1, 10]), 3)), (11, ((11, 18, 0, []), 3)), (14, ((2, 2, 0, []), 1)), (15, ((11, 21, 1, []), 3))], [(18, ((0, 0, (-2), []), 2)), (20, ((27, 0, 0, []), 1)), (21, ((2, 0, 2, []), 1)), (22, ((15, 10, 1, []), 3)), (25, ((2, 1, 0, []), 1)), (26, ((18, 0, 0, []), 1)), (27, ((0, 0, (-1), []), 1)), (28, ((12, 34, 1, []), 3)), (31, ((0, 0, (-6), []), 2))], [(33, ((27, 0, 0, []), 1)), (34, ((2, 0, 2, []), 1)), (35, ((15, 10, 2, []), 3)), (38, ((2, 1, 0, []), 1)), (39, ((18, 0, 0, []), 1)), (40, ((0, 0, 2, []), 1)), (41, ((5, 10, 0, []), 1)), (42, ((11, 48, 0, []), 3)), (45, ((0, 0, (-2), []), 2)), (47, ((27, 0, 0, []), 1))], [(48, ((0, 0, 0, []), 1)), (49, ((3, 3, 0, []), 1)), (50, ((2, 3, 0, []), 1)), (51, ((2, 0, 2, []), 1)), (52, ((15, 10, 2, []), 3)), (55, ((2, 1, 0, []), 1)), (56, ((18, 0, 0, []), 1)), (57, ((12, 112, 3, []), 3)), (60, ((0, 0, 60, []), 2)), (62, ((2, 1, 0, []), 1)), (63, ((5, 2, 0, []), 1))], [(64, ((2, 3, 0, []), 1)), (65, ((5, 0, 0, []), 1)), (66, ((3, 4, 0, []), 2)), (68, ((2, 0, 2, []), 1)), (69, ((2, 0, 2, []), 1)), (70, ((15, 10, 3, []), 3)), (73, ((2, 4, 0, []), 2)), (75, ((18, 2, 0, []), 1)), (76, ((24, 250, 0, [1, 3, 10]), 3)), (79, ((11, 103, 0, []), 3))], [(82, ((2, 0, 2, []), 1)), (83, ((15, 10, 3, []), 3)), (86, ((2, 4, 0, []), 2)), (88, ((0, 0, 1, []), 1)), (89, ((5, 0, 0, []), 1)), (90, ((18, 2, 0, []), 1)), (91, ((1, 0, (-1), []), 3)), (94, ((1, 0, 200, []), 3))], [(97, ((24, 212, 2, [3, 6, 10]), 3)), (100, ((11, 106, 1, []), 3)), (103, ((0, 0, (-2), []), 2)), (105, ((27, 0, 0, []), 1)), (106, ((4, 3, 2, []), 3)), (109, ((10, 50, 0, []), 3))], [(112, ((0, 0, 0, []), 1)), (113, ((27, 0, 0, []), 1))]]
set_option maxRecDepth 100000 in
theorem m_ok_332 : m_t_332.all (fun c => c.all (m_ck1 332)) = true := by decide +kernel
def m_t_338 : m_T := [[(0, ((2, 0, 2, []), 1)), (1, ((0, 0, 0, []), 1)), (2, ((16, 10, 0, []), 3)), (5, ((2, 0, 2, []), 1)), (6, ((2, 1, 0, []), 1)), (7, ((2, 0, 2, []), 1)), (8, ((2, 2, 0, []), 1)), (9, ((24, 245, 0, [1, 2, 10]), 3)), (12, ((24, 332, 0, [2, 5, 10]), 3)), (15, ((3, 3, 0, []), 1))], [(16, ((2, 3, 0, []), 1)), (17, ((11, 22, 0, []), 3)), (20, ((2, 3, 0, []), 1)), (21, ((27, 0, 0, []), 1)), (22, ((2, 0, 2, []), 1)), (23, ((2, 1, 0, []), 1)), (24, ((2, 2, 0, []), 1)), (25, ((24, 333, 0, [2, 5, 10]), 3)), (28, ((0, 0, 0, []), 1)), (29, ((3, 4, 0, []), 2)), (31, ((2, 4, 0, []), 2))], [(33, ((0, 0, 40, []), 2)), (35, ((12, 56, 4, []), 3)), (38, ((2, 0, 2, []), 1)), (39, ((2, 4, 0, []), 2)), (41, ((24, 336, 0, [1, 2, 10]), 3)), (44, ((11, 50, 0, []), 3)), (47, ((2, 4, 0, []), 2))], [(49, ((27, 0, 0, []), 1)), (50, ((4, 4, 1, []), 3)), (53, ((10, 31, 0, []), 3)), (56, ((0, 0, (-1), []), 1)), (57, ((27, 0, 0, []), 1))]]
set_option maxRecDepth 100000 in
theorem m_ok_338 : m_t_338.all (fun c => c.all (m_ck1 338)) = true := by decide +kernel
def m_t_339 : m_T := [[(0, ((2, 0, 2, []), 1)), (1, ((0, 0, 0, []), 1)), (2, ((16, 10, 0, []), 3)), (5, ((2, 0, 2, []), 1)), (6, ((2, 1, 0, []), 1)), (7, ((2, 0, 2, []), 1)), (8, ((2, 2, 0, []), 1)), (9, ((24, 245, 0, [1, 2, 10]), 3)), (12, ((24, 332, 0, [2, 5, 10]), 3)), (15, ((3, 3, 0, []), 1))], [(16, ((2, 3, 0, []), 1)), (17, ((11, 22, 0, []), 3)), (20, ((2, 3, 0, []), 1)), (21, ((27, 0, 0, []), 1)), (22, ((2, 0, 2, []), 1)), (23, ((2, 1, 0, []), 1)), (24, ((2, 2, 0, []), 1)), (25, ((24, 333, 0, [2, 5, 10]), 3)), (28, ((0, 0, 40, []), 2)), (30, ((3, 4, 0, []), 2))], [(32, ((2, 4, 0, []), 2)), (34, ((11, 55, 2, []), 3)), (37, ((2, 0, 2, []), 1)), (38, ((2, 4, 0, []), 2)), (40, ((24, 336, 0, [1, 2, 10]), 3)), (43, ((11, 49, 0, []), 3)), (46, ((2, 4, 0, []), 2))], [(48, ((27, 0, 0, []), 1)), (49, ((4, 4, (-1), []), 3)), (52, ((10, 32, 0, []), 3)), (55, ((0, 0, (-1), []), 1)), (56, ((27, 0, 0, []), 1))]]
set_option maxRecDepth 100000 in
theorem m_ok_339 : m_t_339.all (fun c => c.all (m_ck1 339)) = true := by decide +kernel
def m_t_340 : m_T := [[(0, ((2, 0, 2, []), 1)), (1, ((0, 0, 0, []), 1)), (2, ((16, 10, 0, []), 3)), (5, ((2, 0, 2, []), 1)), (6, ((2, 1, 0, []), 1)), (7, ((2, 0, 2, []), 1)), (8, ((2, 2, 0, []), 1)), (9, ((24, 245, 0, [1, 2, 10]), 3)), (12, ((24, 332, 0, [2, 5, 10]), 3)), (15, ((3, 3, 0, []), 1))], [(16, ((2, 3, 0, []), 1)), (17, ((11, 22, 0, []), 3)), (20, ((2, 3, 0, []), 1)), (21, ((27, 0, 0, []), 1)), (22, ((2, 0, 2, []), 1)), (23, ((2, 1, 0, []), 1)), (24, ((2, 2, 0, []), 1)), (25, ((24, 333, 0, [2, 5, 10]), 3)), (28, ((2, 0, 2, []), 1)), (29, ((15, 10, 39, []), 3))], [(32, ((27, 0, 0, []), 1))]]
set_option maxRecDepth 100000 in
theorem m_ok_340 : m_t_340.all (fun c => c.all (m_ck1 340)) = true := by decide +kernel
def m_t_341 : m_T := [[(0, ((2, 0, 2, []), 1)), (1, ((0, 0, 0, []), 1)), (2, ((16, 10, 0, []), 3)), (5, ((2, 0, 2, []), 1)), (6, ((2, 1, 0, []), 1)), (7, ((2, 0, 2, []), 1)), (8, ((2, 2, 0, []), 1)), (9, ((24, 245, 0, [1, 2, 10]), 3)), (12, ((24, 332, 0, [2, 5, 10]), 3)), (15, ((3, 3, 0, []), 1))], [(16, ((2, 3, 0, []), 1)), (17, ((11, 22, 0, []), 3)), (20, ((2, 3, 0, []), 1)), (21, ((27, 0, 0, []), 1)), (22, ((2, 0, 2, []), 1)), (23, ((2, 1, 0, []), 1)), (24, ((2, 2, 0, []), 1)), (25, ((24, 333, 0, [2, 5, 10]), 3)), (28, ((2, 0, 2, []), 1)), (29, ((15, 10, 40, []), 3))], [(32, ((27, 0, 0, []), 1))]]
set_option maxRecDepth 100000 in
theorem m_ok_341 : m_t_341.all (fun c => c.all (m_ck1 341)) = true := by decide +kernel
end
section
def m_t_342 : m_T := [[(0, ((2, 0, 2, []), 1)), (1, ((0, 0, 0, []), 1)), (2, ((16, 10, 0, []), 3)), (5, ((2, 0, 2, []), 1)), (6, ((2, 1, 0, []), 1)), (7, ((0, 0, 1, []), 1)), (8, ((24, 332, 0, [2, 5, 10]), 3)), (11, ((3, 2, 0, []), 1)), (12, ((2, 2, 0, []), 1)), (13, ((11, 18, 0, []), 3))], [(16, ((2, 2, 0, []), 1)), (17, ((27, 0, 0, []), 1)), (18, ((0, 0, 0, []), 1)), (19, ((3, 3, 0, []), 1)), (20, ((0, 0, 0, []), 1)), (21, ((3, 4, 0, []), 2)), (23, ((2, 4, 0, []), 2)), (25, ((0, 0, 4, []), 1)), (26, ((12, 61, 3, []), 3)), (29, ((2, 0, 2, []), 1)), (30, ((2, 4, 0, []), 2))], [(32, ((24, 343, 0, [1, 2, 10]), 3)), (35, ((9, 0, 0, []), 1)), (36, ((2, 3, 0, []), 1)), (37, ((2, 0, 2, []), 1)), (38, ((2, 1, 0, []), 1)), (39, ((24, 334, 0, [1, 3, 10]), 3)), (42, ((11, 52, 0, []), 3)), (45, ((0, 0, 1, []), 1)), (46, ((2, 4, 0, []), 2))], [(48, ((5, 6, 0, []), 1)), (49, ((10, 53, 0, []), 3)), (52, ((0, 0, 0, []), 1)), (53, ((5, 4, 0, []), 1)), (54, ((3, 3, 0, []), 1)), (55, ((4, 4, 1, []), 3)), (58, ((10, 23, 0, []), 3)), (61, ((2, 3, 0, []), 1)), (62, ((27, 0, 0, []), 1))]]
set_option maxRecDepth 100000 in
theorem m_ok_342 : m_t_342.all (fun c => c.all (m_ck1 342)) = true := by decide +kernel
def m_t_344 : m_T := [[(0, ((2, 0, 2, []), 1)), (1, ((0, 0, 0, []), 1)), (2, ((16, 10, 0, []), 3)), (5, ((2, 0, 2, []), 1)), (6, ((24, 276, 0, [0, 1, 10]), 3)), (9, ((11, 32, 0, []), 3)), (12, ((2, 1, 0, []), 1)), (13, ((7, 1, 0, []), 1)), (14, ((1, 0, 0, []), 1)), (15, ((1, 0, 3, []), 3))], [(18, ((24, 212, 2, [3, 6, 10]), 3)), (21, ((11, 32, 0, []), 3)), (24, ((2, 0, 2, []), 1)), (25, ((2, 1, 0, []), 1)), (26, ((24, 343, 0, [1, 2, 10]), 3)), (29, ((10, 34, 0, []), 3))], [(32, ((0, 0, (-2), []), 2)), (34, ((27, 0, 0, []), 1))]]
set_option maxRecDepth 100000 in
theorem m_ok_344 : m_t_344.all (fun c => c.all (m_ck1 344)) = true := by decide +kernel
def m_t_345 : m_T := [[(0, ((2, 0, 2, []), 1)), (1, ((0, 0, 0, []), 1)), (2, ((16, 10, 0, []), 3)), (5, ((2, 0, 2, []), 1)), (6, ((24, 276, 0, [0, 1, 10]), 3)), (9, ((11, 15, 1, []), 3)), (12, ((0, 0, (-2), []), 2)), (14, ((27, 0, 0, []), 1)), (15, ((0, 0, 0, []), 1))], [(16, ((3, 1, 0, []), 1)), (17, ((0, 0, 1, []), 1)), (18, ((3, 2, 0, []), 1)), (19, ((2, 2, 0, []), 1)), (20, ((0, 0, 4, []), 1)), (21, ((12, 45, 3, []), 3)), (24, ((2, 0, 2, []), 1)), (25, ((2, 2, 0, []), 1)), (26, ((24, 343, 0, [1, 2, 10]), 3)), (29, ((2, 0, 2, []), 1)), (30, ((2, 1, 0, []), 1)), (31, ((24, 343, 0, [1, 2, 10]), 3))], [(34, ((12, 39, 3, []), 3)), (37, ((2, 2, 0, []), 1)), (38, ((3, 1, 0, []), 1)), (39, ((4, 2, 1, []), 3)), (42, ((10, 19, 0, []), 3)), (45, ((2, 1, 0, []), 1)), (46, ((27, 0, 0, []), 1))]]
set_option maxRecDepth 100000 in
theorem m_ok_345 : m_t_345.all (fun c => c.all (m_ck1 345)) = true := by decide +kernel
def m_t_346 : m_T := [[(0, ((2, 0, 2, []), 1)), (1, ((0, 0, 0, []), 1)), (2, ((16, 10, 0, []), 3)), (5, ((2, 0, 2, []), 1)), (6, ((24, 276, 0, [0, 1, 10]), 3)), (9, ((11, 38, 0, []), 3)), (12, ((2, 1, 0, []), 1)), (13, ((7, 1, 0, []), 1)), (14, ((1, 0, 0, []), 1)), (15, ((0, 0, 1, []), 1))], [(16, ((2, 0, 2, []), 1)), (17, ((24, 246, 0, [0, 1, 10]), 3)), (20, ((5, 6, 0, []), 1)), (21, ((7, 1, 0, []), 1)), (22, ((1, 0, 1, []), 1)), (23, ((6, 1, 0, []), 1)), (24, ((24, 212, 2, [3, 6, 10]), 3)), (27, ((11, 38, 0, []), 3)), (30, ((2, 0, 2, []), 1)), (31, ((2, 1, 0, []), 1))], [(32, ((24, 347, 0, [1, 2, 10]), 3)), (35, ((10, 40, 0, []), 3)), (38, ((0, 0, (-2), []), 2)), (40, ((27, 0, 0, []), 1))]]
set_option maxRecDepth 100000 in
theorem m_ok_346 : m_t_346.all (fun c => c.all (m_ck1 346)) = true := by decide +kernel
def m_t_348 : m_T := [[(0, ((2, 0, 2, []), 1)), (1, ((0, 0, 0, []), 1)), (2, ((16, 10, 0, []), 3)), (5, ((2, 0, 2, []), 1)), (6, ((2, 1, 0, []), 1)), (7, ((24, 245, 0, [1, 2, 10]), 3)), (10, ((11, 20, 0, []), 3)), (13, ((2, 2, 0, []), 1)), (14, ((24, 349, 2, [1, 1, 10]), 3))], [(17, ((11, 24, 1, []), 3)), (20, ((0, 0, (-1000000), []), 3)), (23, ((27, 0, 0, []), 1)), (24, ((1, 0, 0, []), 1)), (25, ((3, 3, 1, []), 1)), (26, ((0, 0, 0, []), 1)), (27, ((3, 5, 0, []), 2)), (29, ((2, 5, 0, []), 2)), (31, ((0, 0, 1, []), 1))], [(32, ((2, 0, 2, []), 1)), (33, ((24, 246, 0, [0, 1, 10]), 3)), (36, ((5, 6, 0, []), 1)), (37, ((12, 107, 3, []), 3)), (40, ((2, 5, 0, []), 2)), (42, ((2, 1, 0, []), 1)), (43, ((24, 258, 2, [2, 2, 10]), 3)), (46, ((11, 52, 0, []), 3))], [(49, ((10, 101, 0, []), 3)), (52, ((2, 5, 0, []), 2)), (54, ((24, 315, 2, [1, 3, 10]), 3)), (57, ((3, 6, 0, []), 2)), (59, ((2, 3, 1, []), 1)), (60, ((2, 6, 0, []), 2)), (62, ((24, 350, 2, [1, 1, 10]), 3))], [(65, ((7, 1, 0, []), 1)), (66, ((2, 0, 2, []), 1)), (67, ((24, 246, 0, [0, 1, 10]), 3)), (70, ((2, 6, 0, []), 2)), (72, ((5, 1, 0, []), 1)), (73, ((0, 0, 1, []), 1)), (74, ((5, 1, 0, []), 1)), (75, ((24, 350, 2, [1, 1, 10]), 3)), (78, ((7, 1, 0, []), 1)), (79, ((6, 2, 0, []), 1))], [(80, ((2, 0, 2, []), 1)), (81, ((2, 5, 0, []), 2)), (83, ((0, 0, 1, []), 1)), (84, ((2, 1, 0, []), 1)), (85, ((5, 6, 0, []), 1)), (86, ((5, 4, 0, []), 1)), (87, ((24, 347, 0, [1, 2, 10]), 3)), (90, ((2, 0, 2, []), 1)), (91, ((2, 5, 0, []), 2)), (93, ((24, 347, 0, [1, 2, 10]), 3))], [(96, ((5, 1, 0, []), 1)), (97, ((7, 1, 0, []), 1)), (98, ((6, 2, 0, []), 1)), (99, ((6, 0, 0, []), 1)), (100, ((3, 3, 1, []), 1)), (101, ((4, 5, 1, []), 3)), (104, ((10, 29, 0, []), 3)), (107, ((2, 3, 1, []), 1)), (108, ((2, 0, 2, []), 1)), (109, ((24, 246, 0, [0, 1, 10]), 3))], [(112, ((24, 350, 2, [1, 1, 10]), 3)), (115, ((7, 1, 0, []), 1)), (116, ((2, 2, 0, []), 1)), (117, ((24, 351, 2, [3, 5, 10]), 3)), (120, ((7, 2, 0, []), 1)), (121, ((27, 0, 0, []), 1))]]
set_option maxRecDepth 100000 in
theorem m_ok_348 : m_t_348.all (fun c => c.all (m_ck1 348)) = true := by decide +kernel
def m_t_353 : m_T := [[(0, ((2, 0, 2, []), 1)), (1, ((0, 0, 0, []), 1)), (2, ((16, 10, 0, []), 3)), (5, ((2, 0, 2, []), 1)), (6, ((2, 1, 0, []), 1)), (7, ((2, 2, 0, []), 1)), (8, ((24, 354, 0, [2, 3, 10]), 3)), (11, ((11, 17, 1, []), 3)), (14, ((0, 0, (-2), []), 2))], [(16, ((27, 0, 0, []), 1)), (17, ((0, 0, 0, []), 1)), (18, ((3, 3, 0, []), 1)), (19, ((0, 0, 0, []), 1)), (20, ((3, 4, 0, []), 2)), (22, ((2, 4, 0, []), 2)), (24, ((0, 0, 4, []), 1)), (25, ((12, 123, 3, []), 3)), (28, ((2, 4, 0, []), 2)), (30, ((0, 0, 2, []), 1)), (31, ((5, 10, 0, []), 1))], [(32, ((3, 5, 0, []), 2)), (34, ((2, 4, 0, []), 2)), (36, ((0, 0, 2, []), 1)), (37, ((5, 9, 0, []), 1)), (38, ((3, 6, 0, []), 2)), (40, ((2, 0, 2, []), 1)), (41, ((2, 1, 0, []), 1)), (42, ((2, 1, 0, []), 1)), (43, ((2, 2, 0, []), 1)), (44, ((0, 0, 1, []), 1)), (45, ((2, 5, 0, []), 2)), (47, ((5, 1, 0, []), 1))], [(48, ((2, 6, 0, []), 2)), (50, ((24, 355, 0, [5, 6, 10]), 3)), (53, ((2, 0, 2, []), 1)), (54, ((2, 1, 0, []), 1)), (55, ((2, 1, 0, []), 1)), (56, ((2, 2, 0, []), 1)), (57, ((2, 5, 0, []), 2)), (59, ((2, 6, 0, []), 2)), (61, ((24, 355, 0, [5, 6, 10]), 3))], [(64, ((12, 98, 4, []), 3)), (67, ((2, 0, 2, []), 1)), (68, ((2, 2, 0, []), 1)), (69, ((2, 1, 0, []), 1)), (70, ((2, 2, 0, []), 1)), (71, ((2, 5, 0, []), 2)), (73, ((0, 0, 1, []), 1)), (74, ((2, 6, 0, []), 2)), (76, ((5, 1, 0, []), 1)), (77, ((24, 355, 0, [5, 6, 10]), 3))], [(80, ((2, 0, 2, []), 1)), (81, ((2, 2, 0, []), 1)), (82, ((2, 1, 0, []), 1)), (83, ((2, 2, 0, []), 1)), (84, ((2, 5, 0, []), 2)), (86, ((2, 6, 0, []), 2)), (88, ((24, 355, 0, [5, 6, 10]), 3)), (91, ((12, 98, 4, []), 3)), (94, ((0, 0, 1, []), 1)), (95, ((10, 99, 0, []), 3))], [(98, ((0, 0, 0, []), 1)), (99, ((3, 7, 0, []), 2)), (101, ((2, 3, 0, []), 1)), (102, ((2, 7, 0, []), 2)), (104, ((11, 114, 0, []), 3)), (107, ((0, 0, 1, []), 1)), (108, ((2, 4, 0, []), 2)), (110, ((5, 6, 0, []), 1)), (111, ((10, 115, 0, []), 3))], [(114, ((0, 0, 0, []), 1)), (115, ((5, 4, 0, []), 1)), (116, ((3, 3, 0, []), 1)), (117, ((4, 4, 1, []), 3)), (120, ((10, 22, 0, []), 3)), (123, ((2, 3, 0, []), 1)), (124, ((27, 0, 0, []), 1))]]
set_option maxRecDepth 100000 in
theorem m_ok_353 : m_t_353.all (fun c => c.all (m_ck1 353)) = true := by decide +kernel
def m_t_354 : m_T := [[(0, ((2, 0, 2, []), 1)), (1, ((2, 1, 0, []), 1)), (2, ((7, 1, 0, []), 1)), (3, ((24, 250, 0, [1, 3, 10]), 3)), (6, ((11, 27, 0, []), 3)), (9, ((2, 0, 2, []), 1)), (10, ((2, 2, 0, []), 1)), (11, ((7, 1, 0, []), 1)), (12, ((24, 250, 0, [1, 3, 10]), 3)), (15, ((11, 27, 0, []), 3))], [(18, ((2, 1, 0, []), 1)), (19, ((2, 2, 0, []), 1)), (20, ((12, 27, 0, []), 3)), (23, ((0, 0, 1, []), 1)), (24, ((10, 28, 0, []), 3)), (27, ((0, 0, 0, []), 1)), (28, ((27, 3, 0, []), 1))]]
set_option maxRecDepth 100000 in
theorem m_ok_354 : m_t_354.all (fun c => c.all (m_ck1 354)) = true := by decide +kernel
def m_t_356 : m_T := [[(0, ((2, 0, 2, []), 1)), (1, ((0, 0, 0, []), 1)), (2, ((16, 10, 0, []), 3)), (5, ((2, 0, 2, []), 1)), (6, ((2, 1, 0, []), 1)), (7, ((2, 2, 0, []), 1)), (8, ((24, 354, 0, [2, 3, 10]), 3)), (11, ((11, 42, 0, []), 3)), (14, ((2, 3, 0, []), 1)), (15, ((24, 349, 2, [1, 1, 10]), 3))], [(18, ((11, 42, 0, []), 3)), (21, ((2, 4, 0, []), 2)), (23, ((24, 349, 2, [1, 1, 10]), 3)), (26, ((11, 42, 0, []), 3)), (29, ((2, 0, 2, []), 1)), (30, ((2, 1, 0, []), 1)), (31, ((2, 1, 0, []), 1))], [(32, ((2, 2, 0, []), 1)), (33, ((2, 3, 0, []), 1)), (34, ((2, 4, 0, []), 2)), (36, ((24, 355, 0, [5, 6, 10]), 3)), (39, ((10, 45, 0, []), 3)), (42, ((0, 0, (-1000), []), 3)), (45, ((27, 0, 0, []), 1))]]
set_option maxRecDepth 100000 in
theorem m_ok_356 : m_t_356.all (fun c => c.all (m_ck1 356)) = true := by decide +kernel
def m_t_357 : m_T := [[(0, ((2, 0, 2, []), 1)), (1, ((0, 0, 0, []), 1)), (2, ((16, 10, 0, []), 3)), (5, ((2, 0, 2, []), 1)), (6, ((2, 1, 0, []), 1)), (7, ((7, 1, 0, []), 1)), (8, ((24, 250, 0, [1, 3, 10]), 3)), (11, ((11, 57, 0, []), 3)), (14, ((2, 2, 0, []), 1)), (15, ((7, 1, 0, []), 1))], [(16, ((1, 0, 0, []), 1)), (17, ((1, 0, 200, []), 3)), (20, ((24, 212, 2, [3, 6, 10]), 3)), (23, ((11, 57, 0, []), 3)), (26, ((2, 3, 0, []), 1)), (27, ((24, 349, 2, [1, 1, 10]), 3)), (30, ((11, 57, 0, []), 3))], [(33, ((2, 0, 2, []), 1)), (34, ((2, 1, 0, []), 1)), (35, ((2, 2, 0, []), 1)), (36, ((24, 358, 0, [2, 8, 10]), 3)), (39, ((1, 0, 10, []), 3)), (42, ((2, 0, 2, []), 1)), (43, ((24, 251, 0, [0, 1, 10]), 3)), (46, ((24, 359, 2, [2, 3, 10]), 3))], [(49, ((2, 3, 0, []), 1)), (50, ((24, 351, 2, [3, 5, 10]), 3)), (53, ((7, 2, 0, []), 1)), (54, ((10, 59, 0, []), 3)), (57, ((0, 0, (-2), []), 2)), (59, ((27, 0, 0, []), 1))]]
set_option maxRecDepth 100000 in
theorem m_ok_357 : m_t_357.all (fun c => c.all (m_ck1 357)) = true := by decide +kernel
def m_t_360 : m_T := [[(0, ((2, 0, 2, []), 1)), (1, ((0, 0, 0, []), 1)), (2, ((16, 10, 0, []), 3)), (5, ((2, 0, 2, []), 1)), (6, ((24, 276, 0, [0, 1, 10]), 3)), (9, ((11, 42, 0, []), 3)), (12, ((2, 1, 0, []), 1)), (13, ((24, 349, 2, [1, 1, 10]), 3))], [(16, ((11, 42, 0, []), 3)), (19, ((2, 0, 2, []), 1)), (20, ((0, 0, (-1), []), 1)), (21, ((0, 0, 0, []), 1)), (22, ((24, 358, 0, [2, 8, 10]), 3)), (25, ((1, 0, 10, []), 3)), (28, ((2, 0, 2, []), 1)), (29, ((24, 251, 0, [0, 1, 10]), 3))], [(32, ((24, 359, 2, [2, 3, 10]), 3)), (35, ((2, 1, 0, []), 1)), (36, ((24, 351, 2, [3, 5, 10]), 3)), (39, ((10, 45, 0, []), 3)), (42, ((1, 0, (-2), []), 3)), (45, ((27, 1, 0, []), 1))]]
set_option maxRecDepth 100000 in
theorem m_ok_360 : m_t_360.all (fun c => c.all (m_ck1 360)) = true := by decide +kernel
def m_t_361 : m_T := [[(0, ((2, 0, 2, []), 1)), (1, ((0, 0, 0, []), 1)), (2, ((16, 10, 0, []), 3)), (5, ((2, 0, 2, []), 1)), (6, ((24, 276, 0, [0, 1, 10]), 3)), (9, ((11, 26, 0, []), 3)), (12, ((2, 1, 0, []), 1)), (13, ((24, 362, 2, [1, 1, 10]), 3))], [(16, ((11, 26, 0, []), 3)), (19, ((2, 2, 0, []), 1)), (20, ((24, 349, 2, [1, 1, 10]), 3)), (23, ((11, 29, 1, []), 3)), (26, ((0, 0, (-2), []), 2)), (28, ((27, 0, 0, []), 1)), (29, ((2, 0, 2, []), 1)), (30, ((2, 1, 0, []), 1)), (31, ((7, 1, 0, []), 1))], [(32, ((24, 363, 0, [1, 7, 10]), 3)), (35, ((3, 3, 0, []), 1)), (36, ((2, 2, 0, []), 1)), (37, ((11, 44, 1, []), 3)), (40, ((2, 3, 0, []), 1)), (41, ((10, 48, 0, []), 3)), (44, ((2, 0, 2, []), 1)), (45, ((24, 294, 0, [0, 3, 10]), 3))], [(48, ((27, 0, 0, []), 1))]]
set_option maxRecDepth 100000 in
theorem m_ok_361 : m_t_361.all (fun c => c.all (m_ck1 361)) = true := by decide +kernel
def m_t_362 : m_T := [[(0, ((2, 0, 0, []), 1)), (1, ((7, 1, 0, []), 1)), (2, ((1, 0, 0, []), 1)), (3, ((1, 0, 2000000000, []), 3)), (6, ((24, 212, 2, [3, 6, 10]), 3)), (9, ((27, 3, 0, []), 1))]]
set_option maxRecDepth 100000 in
theorem m_ok_362 : m_t_362.all (fun c => c.all (m_ck1 362)) = true := by decide +kernel
def m_t_364 : m_T := [[(0, ((2, 0, 2, []), 1)), (1, ((0, 0, 0, []), 1)), (2, ((16, 10, 0, []), 3)), (5, ((2, 1, 0, []), 1)), (6, ((24, 362, 2, [1, 1, 10]), 3)), (9, ((11, 33, 0, []), 3)), (12, ((2, 2, 0, []), 1)), (13, ((7, 1, 0, []), 1)), (14, ((1, 0, 1, []), 1)), (15, ((1, 0, 20, []), 3))], [(18, ((24, 212, 2, [3, 6, 10]), 3)), (21, ((11, 33, 0, []), 3)), (24, ((2, 0, 2, []), 1)), (25, ((2, 3, 0, []), 1)), (26, ((7, 1, 0, []), 1)), (27, ((24, 250, 0, [1, 3, 10]), 3)), (30, ((11, 36, 1, []), 3))], [(33, ((0, 0, (-2), []), 2)), (35, ((27, 0, 0, []), 1)), (36, ((0, 0, 0, []), 1)), (37, ((3, 4, 0, []), 2)), (39, ((0, 0, 0, []), 1)), (40, ((3, 5, 0, []), 2)), (42, ((2, 5, 0, []), 2)), (44, ((2, 2, 0, []), 1)), (45, ((12, 83, 3, []), 3))], [(48, ((2, 0, 2, []), 1)), (49, ((2, 1, 0, []), 1)), (50, ((7, 1, 0, []), 1)), (51, ((2, 5, 0, []), 2)), (53, ((7, 1, 0, []), 1)), (54, ((6, 0, 0, []), 1)), (55, ((24, 363, 0, [1, 7, 10]), 3)), (58, ((9, 0, 0, []), 1)), (59, ((2, 4, 0, []), 2)), (61, ((2, 0, 2, []), 1)), (62, ((2, 3, 0, []), 1)), (63, ((24, 268, 0, [1, 2, 10]), 3))], [(66, ((11, 73, 0, []), 3)), (69, ((0, 0, 1, []), 1)), (70, ((10, 74, 0, []), 3)), (73, ((0, 0, 0, []), 1)), (74, ((5, 0, 0, []), 1)), (75, ((3, 4, 0, []), 2)), (77, ((4, 5, 1, []), 3))], [(80, ((10, 42, 0, []), 3)), (83, ((2, 4, 0, []), 2)), (85, ((27, 0, 0, []), 1))]]
set_option maxRecDepth 100000 in
theorem m_ok_364 : m_t_364.all (fun c => c.all (m_ck1 364)) = true := by decide +kernel
def m_t_365 : m_T := [[(0, ((2, 0, 2, []), 1)), (1, ((0, 0, 0, []), 1)), (2, ((16, 10, 0, []), 3)), (5, ((2, 0, 2, []), 1)), (6, ((2, 1, 0, []), 1)), (7, ((7, 1, 0, []), 1)), (8, ((24, 250, 0, [1, 3, 10]), 3)), (11, ((11, 22, 0, []), 3)), (14, ((2, 0, 2, []), 1)), (15, ((2, 2, 0, []), 1))], [(16, ((24, 303, 0, [1, 2, 10]), 3)), (19, ((11, 25, 1, []), 3)), (22, ((0, 0, (-2), []), 2)), (24, ((27, 0, 0, []), 1)), (25, ((2, 0, 2, []), 1)), (26, ((15, 10, 17, []), 3)), (29, ((0, 0, 6, []), 2)), (31, ((18, 0, 0, []), 1))], [(32, ((0, 0, 20, []), 2)), (34, ((12, 40, 1, []), 3)), (37, ((0, 0, (-5), []), 2)), (39, ((27, 0, 0, []), 1)), (40, ((2, 0, 2, []), 1)), (41, ((0, 0, 0, []), 1)), (42, ((2, 1, 0, []), 1)), (43, ((2, 2, 0, []), 1)), (44, ((24, 366, 0, [3, 5, 10]), 3)), (47, ((2, 0, 2, []), 1))], [(48, ((2, 1, 0, []), 1)), (49, ((24, 295, 0, [1, 2, 10]), 3)), (52, ((27, 0, 0, []), 1))]]
set_option maxRecDepth 100000 in
theorem m_ok_365 : m_t_365.all (fun c => c.all (m_ck1 365)) = true := by decide +kernel
def m_t_367 : m_T := [[(0, ((2, 0, 2, []), 1)), (1, ((0, 0, 0, []), 1)), (2, ((16, 10, 0, []), 3)), (5, ((2, 0, 2, []), 1)), (6, ((2, 1, 0, []), 1)), (7, ((24, 245, 0, [1, 2, 10]), 3)), (10, ((11, 21, 0, []), 3)), (13, ((2, 0, 2, []), 1)), (14, ((2, 2, 0, []), 1)), (15, ((24, 303, 0, [1, 2, 10]), 3))], [(18, ((11, 24, 1, []), 3)), (21, ((0, 0, (-2), []), 2)), (23, ((27, 0, 0, []), 1)), (24, ((2, 0, 2, []), 1)), (25, ((15, 10, 17, []), 3)), (28, ((0, 0, 6, []), 2)), (30, ((18, 0, 0, []), 1)), (31, ((0, 0, 20, []), 2))], [(33, ((12, 39, 1, []), 3)), (36, ((0, 0, (-5), []), 2)), (38, ((27, 0, 0, []), 1)), (39, ((2, 0, 2, []), 1)), (40, ((0, 0, 1, []), 1)), (41, ((2, 1, 0, []), 1)), (42, ((2, 2, 0, []), 1)), (43, ((24, 366, 0, [3, 5, 10]), 3)), (46, ((0, 0, 0, []), 1)), (47, ((3, 3, 0, []), 1))], [(48, ((0, 0, 0, []), 1)), (49, ((3, 4, 0, []), 2)), (51, ((2, 4, 0, []), 2)), (53, ((2, 0, 2, []), 1)), (54, ((24, 251, 0, [0, 1, 10]), 3)), (57, ((12, 83, 3, []), 3)), (60, ((2, 3, 0, []), 1)), (61, ((2, 0, 2, []), 1)), (62, ((2, 4, 0, []), 2))], [(64, ((24, 268, 0, [1, 2, 10]), 3)), (67, ((11, 74, 0, []), 3)), (70, ((0, 0, 1, []), 1)), (71, ((10, 75, 0, []), 3)), (74, ((0, 0, 0, []), 1)), (75, ((5, 0, 0, []), 1)), (76, ((3, 3, 0, []), 1)), (77, ((4, 4, 1, []), 3))], [(80, ((10, 51, 0, []), 3)), (83, ((2, 3, 0, []), 1)), (84, ((27, 0, 0, []), 1))]]
set_option maxRecDepth 100000 in
theorem m_ok_367 : m_t_367.all (fun c => c.all (m_ck1 367)) = true := by decide +kernel
def m_t_368 : m_T := [[(0, ((2, 0, 2, []), 1)), (1, ((0, 0, 0, []), 1)), (2, ((16, 10, 0, []), 3)), (5, ((2, 0, 2, []), 1)), (6, ((24, 276, 0, [0, 1, 10]), 3)), (9, ((11, 15, 1, []), 3)), (12, ((0, 0, (-2), []), 2)), (14, ((27, 0, 0, []), 1)), (15, ((2, 0, 2, []), 1))], [(16, ((15, 10, 17, []), 3)), (19, ((0, 0, 6, []), 2)), (21, ((18, 0, 0, []), 1)), (22, ((11, 28, 1, []), 3)), (25, ((0, 0, (-5), []), 2)), (27, ((27, 0, 0, []), 1)), (28, ((2, 0, 2, []), 1)), (29, ((15, 10, 17, []), 3))], [(32, ((0, 0, 6, []), 2)), (34, ((9, 3, 0, []), 1)), (35, ((18, 0, 0, []), 1)), (36, ((0, 0, 1, []), 1)), (37, ((5, 1, 0, []), 1)), (38, ((19, 0, 0, []), 1)), (39, ((2, 0, 2, []), 1)), (40, ((15, 10, 17, []), 3)), (43, ((0, 0, 6, []), 2)), (45, ((18, 0, 0, []), 1)), (46, ((27, 0, 0, []), 1))]]
set_option maxRecDepth 100000 in
theorem m_ok_368 : m_t_368.all (fun c => c.all (m_ck1 368)) = true := by decide +kernel
def m_t_369 : m_T := [[(0, ((2, 0, 2, []), 1)), (1, ((0, 0, 0, []), 1)), (2, ((16, 10, 0, []), 3)), (5, ((2, 0, 2, []), 1)), (6, ((24, 276, 0, [0, 1, 10]), 3)), (9, ((11, 15, 1, []), 3)), (12, ((0, 0, (-2), []), 2)), (14, ((27, 0, 0, []), 1)), (15, ((2, 0, 2, []), 1))], [(16, ((15, 10, 17, []), 3)), (19, ((0, 0, 6, []), 2)), (21, ((18, 0, 0, []), 1)), (22, ((3, 1, 0, []), 1)), (23, ((2, 0, 2, []), 1)), (24, ((15, 10, 17, []), 3)), (27, ((0, 0, 6, []), 2)), (29, ((0, 0, 0, []), 1)), (30, ((19, 0, 0, []), 1)), (31, ((2, 1, 0, []), 1))], [(32, ((27, 0, 0, []), 1))]]
set_option maxRecDepth 100000 in
theorem m_ok_369 : m_t_369.all (fun c => c.all (m_ck1 369)) = true := by decide +kernel
def m_t_370 : m_T := [[(0, ((2, 0, 2, []), 1)), (1, ((0, 0, 0, []), 1)), (2, ((16, 10, 0, []), 3)), (5, ((2, 0, 2, []), 1)), (6, ((2, 1, 0, []), 1)), (7, ((7, 1, 0, []), 1)), (8, ((24, 250, 0, [1, 3, 10]), 3)), (11, ((11, 26, 0, []), 3)), (14, ((2, 2, 0, []), 1)), (15, ((7, 1, 0, []), 1))], [(16, ((1, 0, 0, []), 1)), (17, ((1, 0, 15, []), 3)), (20, ((24, 212, 2, [3, 6, 10]), 3)), (23, ((11, 29, 1, []), 3)), (26, ((0, 0, (-2), []), 2)), (28, ((27, 0, 0, []), 1)), (29, ((2, 0, 2, []), 1)), (30, ((15, 10, 17, []), 3))], [(33, ((0, 0, 6, []), 2)), (35, ((18, 0, 0, []), 1)), (36, ((11, 42, 5, []), 3)), (39, ((0, 0, (-5), []), 2)), (41, ((27, 0, 0, []), 1)), (42, ((2, 0, 2, []), 1)), (43, ((15, 10, 20, []), 3)), (46, ((0, 0, 3, []), 1)), (47, ((2, 1, 0, []), 1))], [(48, ((5, 2, 0, []), 1)), (49, ((0, 0, 1, []), 1)), (50, ((5, 0, 0, []), 1)), (51, ((18, 0, 0, []), 1)), (52, ((3, 3, 0, []), 1)), (53, ((2, 0, 2, []), 1)), (54, ((15, 10, 20, []), 3)), (57, ((0, 0, 3, []), 1)), (58, ((2, 1, 0, []), 1)), (59, ((5, 2, 0, []), 1)), (60, ((0, 0, 1, []), 1)), (61, ((5, 0, 0, []), 1)), (62, ((2, 2, 0, []), 1)), (63, ((19, 0, 0, []), 1))], [(64, ((2, 3, 0, []), 1)), (65, ((27, 0, 0, []), 1))]]
set_option maxRecDepth 100000 in
theorem m_ok_370 : m_t_370.all (fun c => c.all (m_ck1 370)) = true := by decide +kernel
def m_t_371 : m_T := [[(0, ((2, 0, 2, []), 1)), (1, ((0, 0, 0, []), 1)), (2, ((16, 10, 0, []), 3)), (5, ((2, 1, 0, []), 1)), (6, ((7, 1, 0, []), 1)), (7, ((1, 0, 0, []), 1)), (8, ((1, 0, 6, []), 3)), (11, ((24, 212, 2, [3, 6, 10]), 3)), (14, ((11, 24, 0, []), 3))], [(17, ((2, 0, 2, []), 1)), (18, ((15, 10, 17, []), 3)), (21, ((2, 1, 0, []), 1)), (22, ((18, 0, 0, []), 1)), (23, ((27, 0, 0, []), 1)), (24, ((0, 0, 0, []), 1)), (25, ((3, 2, 0, []), 1)), (26, ((2, 1, 0, []), 1)), (27, ((13, 97, 7, [52, 59, 64]), 25))], [], [(52, ((2, 0, 2, []), 1)), (53, ((15, 10, 16, []), 3)), (56, ((0, 0, 0, []), 1)), (57, ((18, 0, 0, []), 1)), (58, ((27, 0, 0, []), 1)), (59, ((2, 0, 2, []), 1)), (60, ((15, 10, 6, []), 3)), (63, ((27, 0, 0, []), 1))], [(64, ((0, 0, 0, []), 1)), (65, ((3, 3, 0, []), 1)), (66, ((2, 3, 0, []), 1)), (67, ((0, 0, 4, []), 1)), (68, ((12, 95, 3, []), 3)), (71, ((2, 2, 0, []), 1)), (72, ((2, 0, 2, []), 1)), (73, ((15, 10, 1, []), 3)), (76, ((2, 3, 0, []), 1)), (77, ((18, 0, 0, []), 1)), (78, ((0, 0, (-1), []), 1)), (79, ((12, 86, 1, []), 3))], [(82, ((0, 0, 0, []), 1)), (83, ((10, 87, 0, []), 3)), (86, ((0, 0, 1, []), 1)), (87, ((5, 0, 0, []), 1)), (88, ((3, 2, 0, []), 1)), (89, ((4, 3, 1, []), 3)), (92, ((10, 66, 0, []), 3)), (95, ((2, 2, 0, []), 1))], [(96, ((27, 0, 0, []), 1)), (97, ((0, 0, (-1), []), 1)), (98, ((27, 0, 0, []), 1))]]
set_option maxRecDepth 100000 in
theorem m_ok_371 : m_t_371.all (fun c => c.all (m_ck1 371)) = true := by decide +kernel
def m_t_372 : m_T := [[(0, ((2, 0, 2, []), 1)), (1, ((0, 0, 0, []), 1)), (2, ((16, 10, 0, []), 3)), (5, ((2, 1, 0, []), 1)), (6, ((7, 1, 0, []), 1)), (7, ((1, 0, 0, []), 1)), (8, ((1, 0, 2, []), 3)), (11, ((24, 212, 2, [3, 6, 10]), 3)), (14, ((11, 20, 1, []), 3))], [(17, ((0, 0, (-2), []), 2)), (19, ((27, 0, 0, []), 1)), (20, ((2, 0, 2, []), 1)), (21, ((0, 0, 0, []), 1)), (22, ((0, 0, 1, []), 1)), (23, ((2, 1, 0, []), 1)), (24, ((5, 0, 0, []), 1)), (25, ((24, 242, 0, [2, 3, 10]), 3)), (28, ((2, 0, 2, []), 1)), (29, ((15, 10, 22, []), 3))], [(32, ((2, 1, 0, []), 1)), (33, ((0, 0, 1, []), 1)), (34, ((19, 1, 0, []), 1)), (35, ((0, 0, 0, []), 1)), (36, ((27, 0, 0, []), 1))]]
set_option maxRecDepth 100000 in
theorem m_ok_372 : m_t_372.all (fun c => c.all (m_ck1 372)) = true := by decide +kernel
def m_t_373 : m_T := [[(0, ((2, 0, 2, []), 1)), (1, ((0, 0, 0, []), 1)), (2, ((16, 10, 0, []), 3)), (5, ((2, 1, 0, []), 1)), (6, ((7, 1, 0, []), 1)), (7, ((1, 0, 0, []), 1)), (8, ((1, 0, 2, []), 3)), (11, ((24, 212, 2, [3, 6, 10]), 3)), (14, ((11, 20, 1, []), 3))], [(17, ((0, 0, (-2), []), 2)), (19, ((27, 0, 0, []), 1)), (20, ((2, 0, 2, []), 1)), (21, ((15, 10, 22, []), 3)), (24, ((2, 1, 0, []), 1)), (25, ((18, 1, 0, []), 1)), (26, ((11, 32, 1, []), 3)), (29, ((0, 0, (-6), []), 2)), (31, ((27, 0, 0, []), 1))], [(32, ((2, 0, 2, []), 1)), (33, ((0, 0, 1, []), 1)), (34, ((2, 1, 0, []), 1)), (35, ((5, 0, 0, []), 1)), (36, ((0, 0, 0, []), 1)), (37, ((24, 242, 0, [2, 3, 10]), 3)), (40, ((0, 0, 0, []), 1)), (41, ((27, 0, 0, []), 1))]]
set_option maxRecDepth 100000 in
theorem m_ok_373 : m_t_373.all (fun c => c.all (m_ck1 373)) = true := by decide +kernel
end
section
def m_tL_0 : List (Nat × (m_I × Nat)) := [(0, ((21, 9, 0, []), 3)), (3, ((9, 2, 0, []), 1)), (4, ((24, 0, 1, [0, 2, 9]), 3)), (7, ((3, 1, 2, []), 1)), (8, ((21, 10, 0, []), 3)), (11, ((9, 2, 0, []), 1)), (12, ((24, 209, 1, [0, 2, 10]), 3)), (15, ((3, 2, 2, []), 1))]
def m_tL_1 : List (Nat × (m_I × Nat)) := [(16, ((0, 0, 0, []), 1)), (17, ((3, 3, 0, []), 1)), (18, ((2, 3, 0, []), 1)), (19, ((2, 0, 2, []), 1)), (20, ((20, 0, 0, []), 1)), (21, ((0, 0, 6, []), 2)), (23, ((5, 1, 0, []), 1)), (24, ((12, 2458, 4, []), 3)), (27, ((2, 0, 2, []), 1)), (28, ((2, 3, 0, []), 1)), (29, ((18, 0, 0, []), 1)), (30, ((0, 0, 127, []), 2))]
def m_tL_2 : List (Nat × (m_I × Nat)) := [(32, ((5, 3, 0, []), 1)), (33, ((13, 2452, 0, [364, 427, 450, 463, 486, 519, 542, 575, 598, 621, 654, 677, 700, 723, 746, 759, 792, 825, 848, 871, 894, 917, 950, 973, 1006, 1029, 1042, 1055, 1068, 1091, 1114, 1127, 1140, 1163, 1186, 1209, 1232, 1255, 1268, 1281, 1304, 1327, 1340, 1373, 1396, 1419, 1442, 1465, 1488, 1511, 1534, 1557, 1570, 1603, 1636, 1669, 1702, 1735, 1758, 1781, 1794, 1817, 1850, 1883, 1936, 1979, 2003, 2036, 2069, 2082, 2095, 2128, 2171, 2204, 2227, 2250, 2273, 2316, 2389]), 331))]
def m_tL_3 : List (Nat × (m_I × Nat)) := []
def m_tL_4 : List (Nat × (m_I × Nat)) := []
def m_tL_5 : List (Nat × (m_I × Nat)) := []
def m_tL_6 : List (Nat × (m_I × Nat)) := []
def m_tL_7 : List (Nat × (m_I × Nat)) := []
def m_tL_8 : List (Nat × (m_I × Nat)) := []
def m_tL_9 : List (Nat × (m_I × Nat)) := []
def m_tL_10 : List (Nat × (m_I × Nat)) := []
def m_tL_11 : List (Nat × (m_I × Nat)) := []
def m_tL_12 : List (Nat × (m_I × Nat)) := []
def m_tL_13 : List (Nat × (m_I × Nat)) := []
def m_tL_14 : List (Nat × (m_I × Nat)) := []
def m_tL_15 : List (Nat × (m_I × Nat)) := []
def m_tL_16 : List (Nat × (m_I × Nat)) := []
def m_tL_17 : List (Nat × (m_I × Nat)) := []
def m_tL_18 : List (Nat × (m_I × Nat)) := []
def m_tL_19 : List (Nat × (m_I × Nat)) := []
def m_tL_20 : List (Nat × (m_I × Nat)) := []
def m_tL_21 : List (Nat × (m_I × Nat)) := []
def m_tL_22 : List (Nat × (m_I × Nat)) := [(364, ((2, 1, 2, []), 1)), (365, ((2, 0, 2, []), 1)), (366, ((2, 3, 0, []), 1)), (367, ((0, 0, 1, []), 1))]
def m_tL_23 : List (Nat × (m_I × Nat)) := [(368, ((5, 0, 0, []), 1)), (369, ((18, 0, 0, []), 1)), (370, ((2, 0, 2, []), 1)), (371, ((2, 3, 0, []), 1)), (372, ((0, 0, 2, []), 1)), (373, ((5, 0, 0, []), 1)), (374, ((18, 0, 0, []), 1)), (375, ((2, 0, 2, []), 1)), (376, ((2, 3, 0, []), 1)), (377, ((0, 0, 3, []), 1)), (378, ((5, 0, 0, []), 1)), (379, ((18, 0, 0, []), 1)), (380, ((2, 0, 2, []), 1)), (381, ((2, 3, 0, []), 1)), (382, ((0, 0, 4, []), 1)), (383, ((5, 0, 0, []), 1))]
def m_tL_24 : List (Nat × (m_I × Nat)) := [(384, ((18, 0, 0, []), 1)), (385, ((2, 0, 2, []), 1)), (386, ((2, 3, 0, []), 1)), (387, ((0, 0, 5, []), 1)), (388, ((5, 0, 0, []), 1)), (389, ((18, 0, 0, []), 1)), (390, ((24, 10, 0, [5, 6, 9]), 3)), (393, ((2, 2, 2, []), 1)), (394, ((2, 0, 2, []), 1)), (395, ((2, 3, 0, []), 1)), (396, ((0, 0, 1, []), 1)), (397, ((5, 0, 0, []), 1)), (398, ((18, 0, 0, []), 1)), (399, ((2, 0, 2, []), 1))]
def m_tL_25 : List (Nat × (m_I × Nat)) := [(400, ((2, 3, 0, []), 1)), (401, ((0, 0, 2, []), 1)), (402, ((5, 0, 0, []), 1)), (403, ((18, 0, 0, []), 1)), (404, ((2, 0, 2, []), 1)), (405, ((2, 3, 0, []), 1)), (406, ((0, 0, 3, []), 1)), (407, ((5, 0, 0, []), 1)), (408, ((18, 0, 0, []), 1)), (409, ((2, 0, 2, []), 1)), (410, ((2, 3, 0, []), 1)), (411, ((0, 0, 4, []), 1)), (412, ((5, 0, 0, []), 1)), (413, ((18, 0, 0, []), 1)), (414, ((2, 0, 2, []), 1)), (415, ((2, 3, 0, []), 1))]
def m_tL_26 : List (Nat × (m_I × Nat)) := [(416, ((0, 0, 5, []), 1)), (417, ((5, 0, 0, []), 1)), (418, ((18, 0, 0, []), 1)), (419, ((24, 216, 0, [5, 6, 10]), 3)), (422, ((12, 2452, 0, []), 3)), (425, ((0, 0, 0, []), 1)), (426, ((27, 3, 0, []), 1)), (427, ((2, 1, 2, []), 1)), (428, ((2, 0, 2, []), 1)), (429, ((2, 3, 0, []), 1)), (430, ((0, 0, 1, []), 1)), (431, ((5, 0, 0, []), 1))]
def m_tL_27 : List (Nat × (m_I × Nat)) := [(432, ((18, 0, 0, []), 1)), (433, ((24, 13, 0, [1, 2, 9]), 3)), (436, ((2, 2, 2, []), 1)), (437, ((2, 0, 2, []), 1)), (438, ((2, 3, 0, []), 1)), (439, ((0, 0, 1, []), 1)), (440, ((5, 0, 0, []), 1)), (441, ((18, 0, 0, []), 1)), (442, ((24, 218, 0, [1, 2, 10]), 3)), (445, ((12, 2452, 0, []), 3))]
def m_tL_28 : List (Nat × (m_I × Nat)) := [(448, ((0, 0, 0, []), 1)), (449, ((27, 3, 0, []), 1)), (450, ((2, 1, 2, []), 1)), (451, ((24, 14, 0, [0, 1, 9]), 3)), (454, ((2, 2, 2, []), 1)), (455, ((24, 220, 0, [0, 1, 10]), 3)), (458, ((12, 2452, 0, []), 3)), (461, ((0, 0, 0, []), 1)), (462, ((27, 3, 0, []), 1)), (463, ((2, 1, 2, []), 1))]
def m_tL_29 : List (Nat × (m_I × Nat)) := [(464, ((2, 0, 2, []), 1)), (465, ((2, 3, 0, []), 1)), (466, ((0, 0, 1, []), 1)), (467, ((5, 0, 0, []), 1)), (468, ((18, 0, 0, []), 1)), (469, ((24, 49, 0, [1, 2, 9]), 3)), (472, ((2, 2, 2, []), 1)), (473, ((2, 0, 2, []), 1)), (474, ((2, 3, 0, []), 1)), (475, ((0, 0, 1, []), 1)), (476, ((5, 0, 0, []), 1)), (477, ((18, 0, 0, []), 1)), (478, ((24, 219, 0, [1, 2, 10]), 3))]
def m_tL_30 : List (Nat × (m_I × Nat)) := [(481, ((12, 2452, 0, []), 3)), (484, ((0, 0, 0, []), 1)), (485, ((27, 3, 0, []), 1)), (486, ((2, 1, 2, []), 1)), (487, ((2, 0, 2, []), 1)), (488, ((2, 3, 0, []), 1)), (489, ((0, 0, 1, []), 1)), (490, ((5, 0, 0, []), 1)), (491, ((18, 0, 0, []), 1)), (492, ((2, 0, 2, []), 1)), (493, ((2, 3, 0, []), 1)), (494, ((0, 0, 2, []), 1)), (495, ((5, 0, 0, []), 1))]
def m_tL_31 : List (Nat × (m_I × Nat)) := [(496, ((18, 0, 0, []), 1)), (497, ((24, 50, 0, [2, 3, 9]), 3)), (500, ((2, 2, 2, []), 1)), (501, ((2, 0, 2, []), 1)), (502, ((2, 3, 0, []), 1)), (503, ((0, 0, 1, []), 1)), (504, ((5, 0, 0, []), 1)), (505, ((18, 0, 0, []), 1)), (506, ((2, 0, 2, []), 1)), (507, ((2, 3, 0, []), 1)), (508, ((0, 0, 2, []), 1)), (509, ((5, 0, 0, []), 1)), (510, ((18, 0, 0, []), 1)), (511, ((24, 244, 0, [2, 3, 10]), 3))]
def m_tL_32 : List (Nat × (m_I × Nat)) := [(514, ((12, 2452, 0, []), 3)), (517, ((0, 0, 0, []), 1)), (518, ((27, 3, 0, []), 1)), (519, ((2, 1, 2, []), 1)), (520, ((2, 0, 2, []), 1)), (521, ((2, 3, 0, []), 1)), (522, ((0, 0, 1, []), 1)), (523, ((5, 0, 0, []), 1)), (524, ((18, 0, 0, []), 1)), (525, ((24, 52, 0, [1, 2, 9]), 3))]
def m_tL_33 : List (Nat × (m_I × Nat)) := [(528, ((2, 2, 2, []), 1)), (529, ((2, 0, 2, []), 1)), (530, ((2, 3, 0, []), 1)), (531, ((0, 0, 1, []), 1)), (532, ((5, 0, 0, []), 1)), (533, ((18, 0, 0, []), 1)), (534, ((24, 247, 0, [1, 2, 10]), 3)), (537, ((12, 2452, 0, []), 3)), (540, ((0, 0, 0, []), 1)), (541, ((27, 3, 0, []), 1)), (542, ((2, 1, 2, []), 1)), (543, ((2, 0, 2, []), 1))]
def m_tL_34 : List (Nat × (m_I × Nat)) := [(544, ((2, 3, 0, []), 1)), (545, ((0, 0, 1, []), 1)), (546, ((5, 0, 0, []), 1)), (547, ((18, 0, 0, []), 1)), (548, ((2, 0, 2, []), 1)), (549, ((2, 3, 0, []), 1)), (550, ((0, 0, 2, []), 1)), (551, ((5, 0, 0, []), 1)), (552, ((18, 0, 0, []), 1)), (553, ((24, 53, 0, [2, 3, 9]), 3)), (556, ((2, 2, 2, []), 1)), (557, ((2, 0, 2, []), 1)), (558, ((2, 3, 0, []), 1)), (559, ((0, 0, 1, []), 1))]
def m_tL_35 : List (Nat × (m_I × Nat)) := [(560, ((5, 0, 0, []), 1)), (561, ((18, 0, 0, []), 1)), (562, ((2, 0, 2, []), 1)), (563, ((2, 3, 0, []), 1)), (564, ((0, 0, 2, []), 1)), (565, ((5, 0, 0, []), 1)), (566, ((18, 0, 0, []), 1)), (567, ((24, 249, 0, [2, 3, 10]), 3)), (570, ((12, 2452, 0, []), 3)), (573, ((0, 0, 0, []), 1)), (574, ((27, 3, 0, []), 1)), (575, ((2, 1, 2, []), 1))]
def m_tL_36 : List (Nat × (m_I × Nat)) := [(576, ((2, 0, 2, []), 1)), (577, ((2, 3, 0, []), 1)), (578, ((0, 0, 1, []), 1)), (579, ((5, 0, 0, []), 1)), (580, ((18, 0, 0, []), 1)), (581, ((24, 55, 0, [1, 2, 9]), 3)), (584, ((2, 2, 2, []), 1)), (585, ((2, 0, 2, []), 1)), (586, ((2, 3, 0, []), 1)), (587, ((0, 0, 1, []), 1)), (588, ((5, 0, 0, []), 1)), (589, ((18, 0, 0, []), 1)), (590, ((24, 252, 0, [1, 4, 10]), 3))]
def m_tL_37 : List (Nat × (m_I × Nat)) := [(593, ((12, 2452, 0, []), 3)), (596, ((0, 0, 0, []), 1)), (597, ((27, 3, 0, []), 1)), (598, ((2, 1, 2, []), 1)), (599, ((2, 0, 2, []), 1)), (600, ((2, 3, 0, []), 1)), (601, ((0, 0, 1, []), 1)), (602, ((5, 0, 0, []), 1)), (603, ((18, 0, 0, []), 1)), (604, ((24, 56, 0, [1, 2, 9]), 3)), (607, ((2, 2, 2, []), 1))]
def m_tL_38 : List (Nat × (m_I × Nat)) := [(608, ((2, 0, 2, []), 1)), (609, ((2, 3, 0, []), 1)), (610, ((0, 0, 1, []), 1)), (611, ((5, 0, 0, []), 1)), (612, ((18, 0, 0, []), 1)), (613, ((24, 266, 0, [1, 2, 10]), 3)), (616, ((12, 2452, 0, []), 3)), (619, ((0, 0, 0, []), 1)), (620, ((27, 3, 0, []), 1)), (621, ((2, 1, 2, []), 1)), (622, ((2, 0, 2, []), 1)), (623, ((2, 3, 0, []), 1))]
def m_tL_39 : List (Nat × (m_I × Nat)) := [(624, ((0, 0, 1, []), 1)), (625, ((5, 0, 0, []), 1)), (626, ((18, 0, 0, []), 1)), (627, ((2, 0, 2, []), 1)), (628, ((2, 3, 0, []), 1)), (629, ((0, 0, 2, []), 1)), (630, ((5, 0, 0, []), 1)), (631, ((18, 0, 0, []), 1)), (632, ((24, 58, 0, [2, 3, 9]), 3)), (635, ((2, 2, 2, []), 1)), (636, ((2, 0, 2, []), 1)), (637, ((2, 3, 0, []), 1)), (638, ((0, 0, 1, []), 1)), (639, ((5, 0, 0, []), 1))]
def m_tL_40 : List (Nat × (m_I × Nat)) := [(640, ((18, 0, 0, []), 1)), (641, ((2, 0, 2, []), 1)), (642, ((2, 3, 0, []), 1)), (643, ((0, 0, 2, []), 1)), (644, ((5, 0, 0, []), 1)), (645, ((18, 0, 0, []), 1)), (646, ((24, 269, 0, [2, 3, 10]), 3)), (649, ((12, 2452, 0, []), 3)), (652, ((0, 0, 0, []), 1)), (653, ((27, 3, 0, []), 1)), (654, ((2, 1, 2, []), 1)), (655, ((2, 0, 2, []), 1))]
def m_tL_41 : List (Nat × (m_I × Nat)) := [(656, ((2, 3, 0, []), 1)), (657, ((0, 0, 1, []), 1)), (658, ((5, 0, 0, []), 1)), (659, ((18, 0, 0, []), 1)), (660, ((24, 60, 0, [1, 2, 9]), 3)), (663, ((2, 2, 2, []), 1)), (664, ((2, 0, 2, []), 1)), (665, ((2, 3, 0, []), 1)), (666, ((0, 0, 1, []), 1)), (667, ((5, 0, 0, []), 1)), (668, ((18, 0, 0, []), 1)), (669, ((24, 270, 0, [1, 2, 10]), 3))]
def m_tL_42 : List (Nat × (m_I × Nat)) := [(672, ((12, 2452, 0, []), 3)), (675, ((0, 0, 0, []), 1)), (676, ((27, 3, 0, []), 1)), (677, ((2, 1, 2, []), 1)), (678, ((2, 0, 2, []), 1)), (679, ((2, 3, 0, []), 1)), (680, ((0, 0, 1, []), 1)), (681, ((5, 0, 0, []), 1)), (682, ((18, 0, 0, []), 1)), (683, ((24, 62, 0, [1, 2, 9]), 3)), (686, ((2, 2, 2, []), 1)), (687, ((2, 0, 2, []), 1))]
def m_tL_43 : List (Nat × (m_I × Nat)) := [(688, ((2, 3, 0, []), 1)), (689, ((0, 0, 1, []), 1)), (690, ((5, 0, 0, []), 1)), (691, ((18, 0, 0, []), 1)), (692, ((24, 271, 0, [1, 2, 10]), 3)), (695, ((12, 2452, 0, []), 3)), (698, ((0, 0, 0, []), 1)), (699, ((27, 3, 0, []), 1)), (700, ((2, 1, 2, []), 1)), (701, ((2, 0, 2, []), 1)), (702, ((2, 3, 0, []), 1)), (703, ((0, 0, 1, []), 1))]
def m_tL_44 : List (Nat × (m_I × Nat)) := [(704, ((5, 0, 0, []), 1)), (705, ((18, 0, 0, []), 1)), (706, ((24, 64, 0, [1, 2, 9]), 3)), (709, ((2, 2, 2, []), 1)), (710, ((2, 0, 2, []), 1)), (711, ((2, 3, 0, []), 1)), (712, ((0, 0, 1, []), 1)), (713, ((5, 0, 0, []), 1)), (714, ((18, 0, 0, []), 1)), (715, ((24, 272, 0, [1, 5, 10]), 3)), (718, ((12, 2452, 0, []), 3))]
def m_tL_45 : List (Nat × (m_I × Nat)) := [(721, ((0, 0, 0, []), 1)), (722, ((27, 3, 0, []), 1)), (723, ((2, 1, 2, []), 1)), (724, ((2, 0, 2, []), 1)), (725, ((2, 3, 0, []), 1)), (726, ((0, 0, 1, []), 1)), (727, ((5, 0, 0, []), 1)), (728, ((18, 0, 0, []), 1)), (729, ((24, 68, 0, [1, 2, 9]), 3)), (732, ((2, 2, 2, []), 1)), (733, ((2, 0, 2, []), 1)), (734, ((2, 3, 0, []), 1)), (735, ((0, 0, 1, []), 1))]
def m_tL_46 : List (Nat × (m_I × Nat)) := [(736, ((5, 0, 0, []), 1)), (737, ((18, 0, 0, []), 1)), (738, ((24, 273, 0, [1, 2, 10]), 3)), (741, ((12, 2452, 0, []), 3)), (744, ((0, 0, 0, []), 1)), (745, ((27, 3, 0, []), 1)), (746, ((2, 1, 2, []), 1)), (747, ((24, 70, 0, [0, 3, 9]), 3)), (750, ((2, 2, 2, []), 1)), (751, ((24, 275, 0, [0, 3, 10]), 3))]
def m_tL_47 : List (Nat × (m_I × Nat)) := [(754, ((12, 2452, 0, []), 3)), (757, ((0, 0, 0, []), 1)), (758, ((27, 3, 0, []), 1)), (759, ((2, 1, 2, []), 1)), (760, ((2, 0, 2, []), 1)), (761, ((2, 3, 0, []), 1)), (762, ((0, 0, 1, []), 1)), (763, ((5, 0, 0, []), 1)), (764, ((18, 0, 0, []), 1)), (765, ((2, 0, 2, []), 1)), (766, ((2, 3, 0, []), 1)), (767, ((0, 0, 2, []), 1))]
def m_tL_48 : List (Nat × (m_I × Nat)) := [(768, ((5, 0, 0, []), 1)), (769, ((18, 0, 0, []), 1)), (770, ((24, 72, 0, [2, 3, 9]), 3)), (773, ((2, 2, 2, []), 1)), (774, ((2, 0, 2, []), 1)), (775, ((2, 3, 0, []), 1)), (776, ((0, 0, 1, []), 1)), (777, ((5, 0, 0, []), 1)), (778, ((18, 0, 0, []), 1)), (779, ((2, 0, 2, []), 1)), (780, ((2, 3, 0, []), 1)), (781, ((0, 0, 2, []), 1)), (782, ((5, 0, 0, []), 1)), (783, ((18, 0, 0, []), 1))]
def m_tL_49 : List (Nat × (m_I × Nat)) := [(784, ((24, 277, 0, [2, 3, 10]), 3)), (787, ((12, 2452, 0, []), 3)), (790, ((0, 0, 0, []), 1)), (791, ((27, 3, 0, []), 1)), (792, ((2, 1, 2, []), 1)), (793, ((2, 0, 2, []), 1)), (794, ((2, 3, 0, []), 1)), (795, ((0, 0, 1, []), 1)), (796, ((5, 0, 0, []), 1)), (797, ((18, 0, 0, []), 1)), (798, ((2, 0, 2, []), 1)), (799, ((2, 3, 0, []), 1))]
def m_tL_50 : List (Nat × (m_I × Nat)) := [(800, ((0, 0, 2, []), 1)), (801, ((5, 0, 0, []), 1)), (802, ((18, 0, 0, []), 1)), (803, ((24, 75, 0, [2, 3, 9]), 3)), (806, ((2, 2, 2, []), 1)), (807, ((2, 0, 2, []), 1)), (808, ((2, 3, 0, []), 1)), (809, ((0, 0, 1, []), 1)), (810, ((5, 0, 0, []), 1)), (811, ((18, 0, 0, []), 1)), (812, ((2, 0, 2, []), 1)), (813, ((2, 3, 0, []), 1)), (814, ((0, 0, 2, []), 1)), (815, ((5, 0, 0, []), 1))]
def m_tL_51 : List (Nat × (m_I × Nat)) := [(816, ((18, 0, 0, []), 1)), (817, ((24, 279, 0, [2, 3, 10]), 3)), (820, ((12, 2452, 0, []), 3)), (823, ((0, 0, 0, []), 1)), (824, ((27, 3, 0, []), 1)), (825, ((2, 1, 2, []), 1)), (826, ((2, 0, 2, []), 1)), (827, ((2, 3, 0, []), 1)), (828, ((0, 0, 1, []), 1)), (829, ((5, 0, 0, []), 1)), (830, ((18, 0, 0, []), 1)), (831, ((24, 77, 0, [1, 2, 9]), 3))]
def m_tL_52 : List (Nat × (m_I × Nat)) := [(834, ((2, 2, 2, []), 1)), (835, ((2, 0, 2, []), 1)), (836, ((2, 3, 0, []), 1)), (837, ((0, 0, 1, []), 1)), (838, ((5, 0, 0, []), 1)), (839, ((18, 0, 0, []), 1)), (840, ((24, 280, 0, [1, 4, 10]), 3)), (843, ((12, 2452, 0, []), 3)), (846, ((0, 0, 0, []), 1)), (847, ((27, 3, 0, []), 1))]
def m_tL_53 : List (Nat × (m_I × Nat)) := [(848, ((2, 1, 2, []), 1)), (849, ((2, 0, 2, []), 1)), (850, ((2, 3, 0, []), 1)), (851, ((0, 0, 1, []), 1)), (852, ((5, 0, 0, []), 1)), (853, ((18, 0, 0, []), 1)), (854, ((24, 79, 0, [1, 2, 9]), 3)), (857, ((2, 2, 2, []), 1)), (858, ((2, 0, 2, []), 1)), (859, ((2, 3, 0, []), 1)), (860, ((0, 0, 1, []), 1)), (861, ((5, 0, 0, []), 1)), (862, ((18, 0, 0, []), 1)), (863, ((24, 282, 0, [1, 3, 10]), 3))]
def m_tL_54 : List (Nat × (m_I × Nat)) := [(866, ((12, 2452, 0, []), 3)), (869, ((0, 0, 0, []), 1)), (870, ((27, 3, 0, []), 1)), (871, ((2, 1, 2, []), 1)), (872, ((2, 0, 2, []), 1)), (873, ((2, 3, 0, []), 1)), (874, ((0, 0, 1, []), 1)), (875, ((5, 0, 0, []), 1)), (876, ((18, 0, 0, []), 1)), (877, ((24, 81, 0, [1, 2, 9]), 3))]
def m_tL_55 : List (Nat × (m_I × Nat)) := [(880, ((2, 2, 2, []), 1)), (881, ((2, 0, 2, []), 1)), (882, ((2, 3, 0, []), 1)), (883, ((0, 0, 1, []), 1)), (884, ((5, 0, 0, []), 1)), (885, ((18, 0, 0, []), 1)), (886, ((24, 283, 0, [1, 4, 10]), 3)), (889, ((12, 2452, 0, []), 3)), (892, ((0, 0, 0, []), 1)), (893, ((27, 3, 0, []), 1)), (894, ((2, 1, 2, []), 1)), (895, ((2, 0, 2, []), 1))]
def m_tL_56 : List (Nat × (m_I × Nat)) := [(896, ((2, 3, 0, []), 1)), (897, ((0, 0, 1, []), 1)), (898, ((5, 0, 0, []), 1)), (899, ((18, 0, 0, []), 1)), (900, ((24, 83, 0, [1, 2, 9]), 3)), (903, ((2, 2, 2, []), 1)), (904, ((2, 0, 2, []), 1)), (905, ((2, 3, 0, []), 1)), (906, ((0, 0, 1, []), 1)), (907, ((5, 0, 0, []), 1)), (908, ((18, 0, 0, []), 1)), (909, ((24, 285, 0, [1, 4, 10]), 3))]
def m_tL_57 : List (Nat × (m_I × Nat)) := [(912, ((12, 2452, 0, []), 3)), (915, ((0, 0, 0, []), 1)), (916, ((27, 3, 0, []), 1)), (917, ((2, 1, 2, []), 1)), (918, ((2, 0, 2, []), 1)), (919, ((2, 3, 0, []), 1)), (920, ((0, 0, 1, []), 1)), (921, ((5, 0, 0, []), 1)), (922, ((18, 0, 0, []), 1)), (923, ((2, 0, 2, []), 1)), (924, ((2, 3, 0, []), 1)), (925, ((0, 0, 2, []), 1)), (926, ((5, 0, 0, []), 1)), (927, ((18, 0, 0, []), 1))]
def m_tL_58 : List (Nat × (m_I × Nat)) := [(928, ((24, 85, 0, [2, 3, 9]), 3)), (931, ((2, 2, 2, []), 1)), (932, ((2, 0, 2, []), 1)), (933, ((2, 3, 0, []), 1)), (934, ((0, 0, 1, []), 1)), (935, ((5, 0, 0, []), 1)), (936, ((18, 0, 0, []), 1)), (937, ((2, 0, 2, []), 1)), (938, ((2, 3, 0, []), 1)), (939, ((0, 0, 2, []), 1)), (940, ((5, 0, 0, []), 1)), (941, ((18, 0, 0, []), 1)), (942, ((24, 286, 0, [2, 5, 10]), 3))]
def m_tL_59 : List (Nat × (m_I × Nat)) := [(945, ((12, 2452, 0, []), 3)), (948, ((0, 0, 0, []), 1)), (949, ((27, 3, 0, []), 1)), (950, ((2, 1, 2, []), 1)), (951, ((2, 0, 2, []), 1)), (952, ((2, 3, 0, []), 1)), (953, ((0, 0, 1, []), 1)), (954, ((5, 0, 0, []), 1)), (955, ((18, 0, 0, []), 1)), (956, ((24, 87, 0, [1, 2, 9]), 3)), (959, ((2, 2, 2, []), 1))]
def m_tL_60 : List (Nat × (m_I × Nat)) := [(960, ((2, 0, 2, []), 1)), (961, ((2, 3, 0, []), 1)), (962, ((0, 0, 1, []), 1)), (963, ((5, 0, 0, []), 1)), (964, ((18, 0, 0, []), 1)), (965, ((24, 287, 0, [1, 2, 10]), 3)), (968, ((12, 2452, 0, []), 3)), (971, ((0, 0, 0, []), 1)), (972, ((27, 3, 0, []), 1)), (973, ((2, 1, 2, []), 1)), (974, ((2, 0, 2, []), 1)), (975, ((2, 3, 0, []), 1))]
def m_tL_61 : List (Nat × (m_I × Nat)) := [(976, ((0, 0, 1, []), 1)), (977, ((5, 0, 0, []), 1)), (978, ((18, 0, 0, []), 1)), (979, ((2, 0, 2, []), 1)), (980, ((2, 3, 0, []), 1)), (981, ((0, 0, 2, []), 1)), (982, ((5, 0, 0, []), 1)), (983, ((18, 0, 0, []), 1)), (984, ((24, 90, 0, [2, 3, 9]), 3)), (987, ((2, 2, 2, []), 1)), (988, ((2, 0, 2, []), 1)), (989, ((2, 3, 0, []), 1)), (990, ((0, 0, 1, []), 1)), (991, ((5, 0, 0, []), 1))]
def m_tL_62 : List (Nat × (m_I × Nat)) := [(992, ((18, 0, 0, []), 1)), (993, ((2, 0, 2, []), 1)), (994, ((2, 3, 0, []), 1)), (995, ((0, 0, 2, []), 1)), (996, ((5, 0, 0, []), 1)), (997, ((18, 0, 0, []), 1)), (998, ((24, 290, 0, [2, 3, 10]), 3)), (1001, ((12, 2452, 0, []), 3)), (1004, ((0, 0, 0, []), 1)), (1005, ((27, 3, 0, []), 1)), (1006, ((2, 1, 2, []), 1)), (1007, ((2, 0, 2, []), 1))]
def m_tL_63 : List (Nat × (m_I × Nat)) := [(1008, ((2, 3, 0, []), 1)), (1009, ((0, 0, 1, []), 1)), (1010, ((5, 0, 0, []), 1)), (1011, ((18, 0, 0, []), 1)), (1012, ((24, 91, 0, [1, 3, 9]), 3)), (1015, ((2, 2, 2, []), 1)), (1016, ((2, 0, 2, []), 1)), (1017, ((2, 3, 0, []), 1)), (1018, ((0, 0, 1, []), 1)), (1019, ((5, 0, 0, []), 1)), (1020, ((18, 0, 0, []), 1)), (1021, ((24, 291, 0, [1, 3, 10]), 3))]
def m_tL_64 : List (Nat × (m_I × Nat)) := [(1024, ((12, 2452, 0, []), 3)), (1027, ((0, 0, 0, []), 1)), (1028, ((27, 3, 0, []), 1)), (1029, ((2, 1, 2, []), 1)), (1030, ((24, 92, 0, [0, 5, 9]), 3)), (1033, ((2, 2, 2, []), 1)), (1034, ((24, 292, 0, [0, 3, 10]), 3)), (1037, ((12, 2452, 0, []), 3))]
def m_tL_65 : List (Nat × (m_I × Nat)) := [(1040, ((0, 0, 0, []), 1)), (1041, ((27, 3, 0, []), 1)), (1042, ((2, 1, 2, []), 1)), (1043, ((24, 93, 0, [0, 1, 9]), 3)), (1046, ((2, 2, 2, []), 1)), (1047, ((24, 293, 0, [0, 1, 10]), 3)), (1050, ((12, 2452, 0, []), 3)), (1053, ((0, 0, 0, []), 1)), (1054, ((27, 3, 0, []), 1)), (1055, ((2, 1, 2, []), 1))]
def m_tL_66 : List (Nat × (m_I × Nat)) := [(1056, ((24, 95, 0, [0, 4, 9]), 3)), (1059, ((2, 2, 2, []), 1)), (1060, ((24, 296, 0, [0, 3, 10]), 3)), (1063, ((12, 2452, 0, []), 3)), (1066, ((0, 0, 0, []), 1)), (1067, ((27, 3, 0, []), 1)), (1068, ((2, 1, 2, []), 1)), (1069, ((2, 0, 2, []), 1)), (1070, ((2, 3, 0, []), 1)), (1071, ((0, 0, 1, []), 1))]
def m_tL_67 : List (Nat × (m_I × Nat)) := [(1072, ((5, 0, 0, []), 1)), (1073, ((18, 0, 0, []), 1)), (1074, ((24, 96, 0, [1, 4, 9]), 3)), (1077, ((2, 2, 2, []), 1)), (1078, ((2, 0, 2, []), 1)), (1079, ((2, 3, 0, []), 1)), (1080, ((0, 0, 1, []), 1)), (1081, ((5, 0, 0, []), 1)), (1082, ((18, 0, 0, []), 1)), (1083, ((24, 297, 0, [1, 2, 10]), 3)), (1086, ((12, 2452, 0, []), 3))]
def m_tL_68 : List (Nat × (m_I × Nat)) := [(1089, ((0, 0, 0, []), 1)), (1090, ((27, 3, 0, []), 1)), (1091, ((2, 1, 2, []), 1)), (1092, ((2, 0, 2, []), 1)), (1093, ((2, 3, 0, []), 1)), (1094, ((0, 0, 1, []), 1)), (1095, ((5, 0, 0, []), 1)), (1096, ((18, 0, 0, []), 1)), (1097, ((24, 97, 0, [1, 4, 9]), 3)), (1100, ((2, 2, 2, []), 1)), (1101, ((2, 0, 2, []), 1)), (1102, ((2, 3, 0, []), 1)), (1103, ((0, 0, 1, []), 1))]
def m_tL_69 : List (Nat × (m_I × Nat)) := [(1104, ((5, 0, 0, []), 1)), (1105, ((18, 0, 0, []), 1)), (1106, ((24, 299, 0, [1, 2, 10]), 3)), (1109, ((12, 2452, 0, []), 3)), (1112, ((0, 0, 0, []), 1)), (1113, ((27, 3, 0, []), 1)), (1114, ((2, 1, 2, []), 1)), (1115, ((24, 98, 0, [0, 3, 9]), 3)), (1118, ((2, 2, 2, []), 1)), (1119, ((24, 300, 0, [0, 3, 10]), 3))]
def m_tL_70 : List (Nat × (m_I × Nat)) := [(1122, ((12, 2452, 0, []), 3)), (1125, ((0, 0, 0, []), 1)), (1126, ((27, 3, 0, []), 1)), (1127, ((2, 1, 2, []), 1)), (1128, ((24, 99, 0, [0, 3, 9]), 3)), (1131, ((2, 2, 2, []), 1)), (1132, ((24, 301, 0, [0, 3, 10]), 3)), (1135, ((12, 2452, 0, []), 3))]
def m_tL_71 : List (Nat × (m_I × Nat)) := [(1138, ((0, 0, 0, []), 1)), (1139, ((27, 3, 0, []), 1)), (1140, ((2, 1, 2, []), 1)), (1141, ((2, 0, 2, []), 1)), (1142, ((2, 3, 0, []), 1)), (1143, ((0, 0, 1, []), 1)), (1144, ((5, 0, 0, []), 1)), (1145, ((18, 0, 0, []), 1)), (1146, ((24, 100, 0, [1, 2, 9]), 3)), (1149, ((2, 2, 2, []), 1)), (1150, ((2, 0, 2, []), 1)), (1151, ((2, 3, 0, []), 1))]
def m_tL_72 : List (Nat × (m_I × Nat)) := [(1152, ((0, 0, 1, []), 1)), (1153, ((5, 0, 0, []), 1)), (1154, ((18, 0, 0, []), 1)), (1155, ((24, 302, 0, [1, 4, 10]), 3)), (1158, ((12, 2452, 0, []), 3)), (1161, ((0, 0, 0, []), 1)), (1162, ((27, 3, 0, []), 1)), (1163, ((2, 1, 2, []), 1)), (1164, ((2, 0, 2, []), 1)), (1165, ((2, 3, 0, []), 1)), (1166, ((0, 0, 1, []), 1)), (1167, ((5, 0, 0, []), 1))]
def m_tL_73 : List (Nat × (m_I × Nat)) := [(1168, ((18, 0, 0, []), 1)), (1169, ((24, 103, 0, [1, 2, 9]), 3)), (1172, ((2, 2, 2, []), 1)), (1173, ((2, 0, 2, []), 1)), (1174, ((2, 3, 0, []), 1)), (1175, ((0, 0, 1, []), 1)), (1176, ((5, 0, 0, []), 1)), (1177, ((18, 0, 0, []), 1)), (1178, ((24, 304, 0, [1, 2, 10]), 3)), (1181, ((12, 2452, 0, []), 3))]
def m_tL_74 : List (Nat × (m_I × Nat)) := [(1184, ((0, 0, 0, []), 1)), (1185, ((27, 3, 0, []), 1)), (1186, ((2, 1, 2, []), 1)), (1187, ((2, 0, 2, []), 1)), (1188, ((2, 3, 0, []), 1)), (1189, ((0, 0, 1, []), 1)), (1190, ((5, 0, 0, []), 1)), (1191, ((18, 0, 0, []), 1)), (1192, ((24, 104, 0, [1, 4, 9]), 3)), (1195, ((2, 2, 2, []), 1)), (1196, ((2, 0, 2, []), 1)), (1197, ((2, 3, 0, []), 1)), (1198, ((0, 0, 1, []), 1)), (1199, ((5, 0, 0, []), 1))]
def m_tL_75 : List (Nat × (m_I × Nat)) := [(1200, ((18, 0, 0, []), 1)), (1201, ((24, 305, 0, [1, 4, 10]), 3)), (1204, ((12, 2452, 0, []), 3)), (1207, ((0, 0, 0, []), 1)), (1208, ((27, 3, 0, []), 1)), (1209, ((2, 1, 2, []), 1)), (1210, ((2, 0, 2, []), 1)), (1211, ((2, 3, 0, []), 1)), (1212, ((0, 0, 1, []), 1)), (1213, ((5, 0, 0, []), 1)), (1214, ((18, 0, 0, []), 1)), (1215, ((24, 105, 0, [1, 2, 9]), 3))]
def m_tL_76 : List (Nat × (m_I × Nat)) := [(1218, ((2, 2, 2, []), 1)), (1219, ((2, 0, 2, []), 1)), (1220, ((2, 3, 0, []), 1)), (1221, ((0, 0, 1, []), 1)), (1222, ((5, 0, 0, []), 1)), (1223, ((18, 0, 0, []), 1)), (1224, ((24, 306, 0, [1, 2, 10]), 3)), (1227, ((12, 2452, 0, []), 3)), (1230, ((0, 0, 0, []), 1)), (1231, ((27, 3, 0, []), 1))]
def m_tL_77 : List (Nat × (m_I × Nat)) := [(1232, ((2, 1, 2, []), 1)), (1233, ((2, 0, 2, []), 1)), (1234, ((2, 3, 0, []), 1)), (1235, ((0, 0, 1, []), 1)), (1236, ((5, 0, 0, []), 1)), (1237, ((18, 0, 0, []), 1)), (1238, ((24, 107, 0, [1, 2, 9]), 3)), (1241, ((2, 2, 2, []), 1)), (1242, ((2, 0, 2, []), 1)), (1243, ((2, 3, 0, []), 1)), (1244, ((0, 0, 1, []), 1)), (1245, ((5, 0, 0, []), 1)), (1246, ((18, 0, 0, []), 1)), (1247, ((24, 308, 0, [1, 2, 10]), 3))]
def m_tL_78 : List (Nat × (m_I × Nat)) := [(1250, ((12, 2452, 0, []), 3)), (1253, ((0, 0, 0, []), 1)), (1254, ((27, 3, 0, []), 1)), (1255, ((2, 1, 2, []), 1)), (1256, ((24, 108, 0, [0, 4, 9]), 3)), (1259, ((2, 2, 2, []), 1)), (1260, ((24, 309, 0, [0, 3, 10]), 3)), (1263, ((12, 2452, 0, []), 3))]
def m_tL_79 : List (Nat × (m_I × Nat)) := [(1266, ((0, 0, 0, []), 1)), (1267, ((27, 3, 0, []), 1)), (1268, ((2, 1, 2, []), 1)), (1269, ((24, 109, 0, [0, 5, 9]), 3)), (1272, ((2, 2, 2, []), 1)), (1273, ((24, 310, 0, [0, 4, 10]), 3)), (1276, ((12, 2452, 0, []), 3)), (1279, ((0, 0, 0, []), 1))]
def m_tL_80 : List (Nat × (m_I × Nat)) := [(1280, ((27, 3, 0, []), 1)), (1281, ((2, 1, 2, []), 1)), (1282, ((2, 0, 2, []), 1)), (1283, ((2, 3, 0, []), 1)), (1284, ((0, 0, 1, []), 1)), (1285, ((5, 0, 0, []), 1)), (1286, ((18, 0, 0, []), 1)), (1287, ((24, 110, 0, [1, 2, 9]), 3)), (1290, ((2, 2, 2, []), 1)), (1291, ((2, 0, 2, []), 1)), (1292, ((2, 3, 0, []), 1)), (1293, ((0, 0, 1, []), 1)), (1294, ((5, 0, 0, []), 1)), (1295, ((18, 0, 0, []), 1))]
def m_tL_81 : List (Nat × (m_I × Nat)) := [(1296, ((24, 311, 0, [1, 4, 10]), 3)), (1299, ((12, 2452, 0, []), 3)), (1302, ((0, 0, 0, []), 1)), (1303, ((27, 3, 0, []), 1)), (1304, ((2, 1, 2, []), 1)), (1305, ((2, 0, 2, []), 1)), (1306, ((2, 3, 0, []), 1)), (1307, ((0, 0, 1, []), 1)), (1308, ((5, 0, 0, []), 1)), (1309, ((18, 0, 0, []), 1)), (1310, ((24, 112, 0, [1, 2, 9]), 3))]
def m_tL_82 : List (Nat × (m_I × Nat)) := [(1313, ((2, 2, 2, []), 1)), (1314, ((2, 0, 2, []), 1)), (1315, ((2, 3, 0, []), 1)), (1316, ((0, 0, 1, []), 1)), (1317, ((5, 0, 0, []), 1)), (1318, ((18, 0, 0, []), 1)), (1319, ((24, 312, 0, [1, 2, 10]), 3)), (1322, ((12, 2452, 0, []), 3)), (1325, ((0, 0, 0, []), 1)), (1326, ((27, 3, 0, []), 1)), (1327, ((2, 1, 2, []), 1))]
def m_tL_83 : List (Nat × (m_I × Nat)) := [(1328, ((24, 113, 0, [0, 1, 9]), 3)), (1331, ((2, 2, 2, []), 1)), (1332, ((24, 313, 0, [0, 3, 10]), 3)), (1335, ((12, 2452, 0, []), 3)), (1338, ((0, 0, 0, []), 1)), (1339, ((27, 3, 0, []), 1)), (1340, ((2, 1, 2, []), 1)), (1341, ((2, 0, 2, []), 1)), (1342, ((2, 3, 0, []), 1)), (1343, ((0, 0, 1, []), 1))]
def m_tL_84 : List (Nat × (m_I × Nat)) := [(1344, ((5, 0, 0, []), 1)), (1345, ((18, 0, 0, []), 1)), (1346, ((2, 0, 2, []), 1)), (1347, ((2, 3, 0, []), 1)), (1348, ((0, 0, 2, []), 1)), (1349, ((5, 0, 0, []), 1)), (1350, ((18, 0, 0, []), 1)), (1351, ((24, 116, 0, [2, 3, 9]), 3)), (1354, ((2, 2, 2, []), 1)), (1355, ((2, 0, 2, []), 1)), (1356, ((2, 3, 0, []), 1)), (1357, ((0, 0, 1, []), 1)), (1358, ((5, 0, 0, []), 1)), (1359, ((18, 0, 0, []), 1))]
def m_tL_85 : List (Nat × (m_I × Nat)) := [(1360, ((2, 0, 2, []), 1)), (1361, ((2, 3, 0, []), 1)), (1362, ((0, 0, 2, []), 1)), (1363, ((5, 0, 0, []), 1)), (1364, ((18, 0, 0, []), 1)), (1365, ((24, 316, 0, [2, 3, 10]), 3)), (1368, ((12, 2452, 0, []), 3)), (1371, ((0, 0, 0, []), 1)), (1372, ((27, 3, 0, []), 1)), (1373, ((2, 1, 2, []), 1)), (1374, ((2, 0, 2, []), 1)), (1375, ((2, 3, 0, []), 1))]
def m_tL_86 : List (Nat × (m_I × Nat)) := [(1376, ((0, 0, 1, []), 1)), (1377, ((5, 0, 0, []), 1)), (1378, ((18, 0, 0, []), 1)), (1379, ((24, 118, 0, [1, 3, 9]), 3)), (1382, ((2, 2, 2, []), 1)), (1383, ((2, 0, 2, []), 1)), (1384, ((2, 3, 0, []), 1)), (1385, ((0, 0, 1, []), 1)), (1386, ((5, 0, 0, []), 1)), (1387, ((18, 0, 0, []), 1)), (1388, ((24, 318, 0, [1, 2, 10]), 3)), (1391, ((12, 2452, 0, []), 3))]
def m_tL_87 : List (Nat × (m_I × Nat)) := [(1394, ((0, 0, 0, []), 1)), (1395, ((27, 3, 0, []), 1)), (1396, ((2, 1, 2, []), 1)), (1397, ((2, 0, 2, []), 1)), (1398, ((2, 3, 0, []), 1)), (1399, ((0, 0, 1, []), 1)), (1400, ((5, 0, 0, []), 1)), (1401, ((18, 0, 0, []), 1)), (1402, ((24, 121, 0, [1, 2, 9]), 3)), (1405, ((2, 2, 2, []), 1)), (1406, ((2, 0, 2, []), 1)), (1407, ((2, 3, 0, []), 1))]
def m_tL_88 : List (Nat × (m_I × Nat)) := [(1408, ((0, 0, 1, []), 1)), (1409, ((5, 0, 0, []), 1)), (1410, ((18, 0, 0, []), 1)), (1411, ((24, 322, 0, [1, 2, 10]), 3)), (1414, ((12, 2452, 0, []), 3)), (1417, ((0, 0, 0, []), 1)), (1418, ((27, 3, 0, []), 1)), (1419, ((2, 1, 2, []), 1)), (1420, ((2, 0, 2, []), 1)), (1421, ((2, 3, 0, []), 1)), (1422, ((0, 0, 1, []), 1)), (1423, ((5, 0, 0, []), 1))]
def m_tL_89 : List (Nat × (m_I × Nat)) := [(1424, ((18, 0, 0, []), 1)), (1425, ((24, 122, 0, [1, 3, 9]), 3)), (1428, ((2, 2, 2, []), 1)), (1429, ((2, 0, 2, []), 1)), (1430, ((2, 3, 0, []), 1)), (1431, ((0, 0, 1, []), 1)), (1432, ((5, 0, 0, []), 1)), (1433, ((18, 0, 0, []), 1)), (1434, ((24, 323, 0, [1, 2, 10]), 3)), (1437, ((12, 2452, 0, []), 3))]
def m_tL_90 : List (Nat × (m_I × Nat)) := [(1440, ((0, 0, 0, []), 1)), (1441, ((27, 3, 0, []), 1)), (1442, ((2, 1, 2, []), 1)), (1443, ((2, 0, 2, []), 1)), (1444, ((2, 3, 0, []), 1)), (1445, ((0, 0, 1, []), 1)), (1446, ((5, 0, 0, []), 1)), (1447, ((18, 0, 0, []), 1)), (1448, ((24, 124, 0, [1, 2, 9]), 3)), (1451, ((2, 2, 2, []), 1)), (1452, ((2, 0, 2, []), 1)), (1453, ((2, 3, 0, []), 1)), (1454, ((0, 0, 1, []), 1)), (1455, ((5, 0, 0, []), 1))]
def m_tL_91 : List (Nat × (m_I × Nat)) := [(1456, ((18, 0, 0, []), 1)), (1457, ((24, 324, 0, [1, 2, 10]), 3)), (1460, ((12, 2452, 0, []), 3)), (1463, ((0, 0, 0, []), 1)), (1464, ((27, 3, 0, []), 1)), (1465, ((2, 1, 2, []), 1)), (1466, ((2, 0, 2, []), 1)), (1467, ((2, 3, 0, []), 1)), (1468, ((0, 0, 1, []), 1)), (1469, ((5, 0, 0, []), 1)), (1470, ((18, 0, 0, []), 1)), (1471, ((24, 125, 0, [1, 2, 9]), 3))]
def m_tL_92 : List (Nat × (m_I × Nat)) := [(1474, ((2, 2, 2, []), 1)), (1475, ((2, 0, 2, []), 1)), (1476, ((2, 3, 0, []), 1)), (1477, ((0, 0, 1, []), 1)), (1478, ((5, 0, 0, []), 1)), (1479, ((18, 0, 0, []), 1)), (1480, ((24, 325, 0, [1, 7, 10]), 3)), (1483, ((12, 2452, 0, []), 3)), (1486, ((0, 0, 0, []), 1)), (1487, ((27, 3, 0, []), 1))]
def m_tL_93 : List (Nat × (m_I × Nat)) := [(1488, ((2, 1, 2, []), 1)), (1489, ((2, 0, 2, []), 1)), (1490, ((2, 3, 0, []), 1)), (1491, ((0, 0, 1, []), 1)), (1492, ((5, 0, 0, []), 1)), (1493, ((18, 0, 0, []), 1)), (1494, ((24, 128, 0, [1, 3, 9]), 3)), (1497, ((2, 2, 2, []), 1)), (1498, ((2, 0, 2, []), 1)), (1499, ((2, 3, 0, []), 1)), (1500, ((0, 0, 1, []), 1)), (1501, ((5, 0, 0, []), 1)), (1502, ((18, 0, 0, []), 1)), (1503, ((24, 326, 0, [1, 3, 10]), 3))]
def m_tL_94 : List (Nat × (m_I × Nat)) := [(1506, ((12, 2452, 0, []), 3)), (1509, ((0, 0, 0, []), 1)), (1510, ((27, 3, 0, []), 1)), (1511, ((2, 1, 2, []), 1)), (1512, ((2, 0, 2, []), 1)), (1513, ((2, 3, 0, []), 1)), (1514, ((0, 0, 1, []), 1)), (1515, ((5, 0, 0, []), 1)), (1516, ((18, 0, 0, []), 1)), (1517, ((24, 131, 0, [1, 2, 9]), 3))]
def m_tL_95 : List (Nat × (m_I × Nat)) := [(1520, ((2, 2, 2, []), 1)), (1521, ((2, 0, 2, []), 1)), (1522, ((2, 3, 0, []), 1)), (1523, ((0, 0, 1, []), 1)), (1524, ((5, 0, 0, []), 1)), (1525, ((18, 0, 0, []), 1)), (1526, ((24, 328, 0, [1, 2, 10]), 3)), (1529, ((12, 2452, 0, []), 3)), (1532, ((0, 0, 0, []), 1)), (1533, ((27, 3, 0, []), 1)), (1534, ((2, 1, 2, []), 1)), (1535, ((2, 0, 2, []), 1))]
def m_tL_96 : List (Nat × (m_I × Nat)) := [(1536, ((2, 3, 0, []), 1)), (1537, ((0, 0, 1, []), 1)), (1538, ((5, 0, 0, []), 1)), (1539, ((18, 0, 0, []), 1)), (1540, ((24, 132, 0, [1, 2, 9]), 3)), (1543, ((2, 2, 2, []), 1)), (1544, ((2, 0, 2, []), 1)), (1545, ((2, 3, 0, []), 1)), (1546, ((0, 0, 1, []), 1)), (1547, ((5, 0, 0, []), 1)), (1548, ((18, 0, 0, []), 1)), (1549, ((24, 329, 0, [1, 5, 10]), 3))]
def m_tL_97 : List (Nat × (m_I × Nat)) := [(1552, ((12, 2452, 0, []), 3)), (1555, ((0, 0, 0, []), 1)), (1556, ((27, 3, 0, []), 1)), (1557, ((2, 1, 2, []), 1)), (1558, ((24, 134, 0, [0, 1, 9]), 3)), (1561, ((2, 2, 2, []), 1)), (1562, ((24, 330, 0, [0, 6, 10]), 3)), (1565, ((12, 2452, 0, []), 3))]
def m_tL_98 : List (Nat × (m_I × Nat)) := [(1568, ((0, 0, 0, []), 1)), (1569, ((27, 3, 0, []), 1)), (1570, ((2, 1, 2, []), 1)), (1571, ((2, 0, 2, []), 1)), (1572, ((2, 3, 0, []), 1)), (1573, ((0, 0, 1, []), 1)), (1574, ((5, 0, 0, []), 1)), (1575, ((18, 0, 0, []), 1)), (1576, ((2, 0, 2, []), 1)), (1577, ((2, 3, 0, []), 1)), (1578, ((0, 0, 2, []), 1)), (1579, ((5, 0, 0, []), 1)), (1580, ((18, 0, 0, []), 1)), (1581, ((24, 136, 0, [2, 4, 9]), 3))]
def m_tL_99 : List (Nat × (m_I × Nat)) := [(1584, ((2, 2, 2, []), 1)), (1585, ((2, 0, 2, []), 1)), (1586, ((2, 3, 0, []), 1)), (1587, ((0, 0, 1, []), 1)), (1588, ((5, 0, 0, []), 1)), (1589, ((18, 0, 0, []), 1)), (1590, ((2, 0, 2, []), 1)), (1591, ((2, 3, 0, []), 1)), (1592, ((0, 0, 2, []), 1)), (1593, ((5, 0, 0, []), 1)), (1594, ((18, 0, 0, []), 1)), (1595, ((24, 331, 0, [2, 4, 10]), 3)), (1598, ((12, 2452, 0, []), 3))]
def m_tL_100 : List (Nat × (m_I × Nat)) := [(1601, ((0, 0, 0, []), 1)), (1602, ((27, 3, 0, []), 1)), (1603, ((2, 1, 2, []), 1)), (1604, ((2, 0, 2, []), 1)), (1605, ((2, 3, 0, []), 1)), (1606, ((0, 0, 1, []), 1)), (1607, ((5, 0, 0, []), 1)), (1608, ((18, 0, 0, []), 1)), (1609, ((2, 0, 2, []), 1)), (1610, ((2, 3, 0, []), 1)), (1611, ((0, 0, 2, []), 1)), (1612, ((5, 0, 0, []), 1)), (1613, ((18, 0, 0, []), 1)), (1614, ((24, 146, 0, [2, 4, 9]), 3))]
def m_tL_101 : List (Nat × (m_I × Nat)) := [(1617, ((2, 2, 2, []), 1)), (1618, ((2, 0, 2, []), 1)), (1619, ((2, 3, 0, []), 1)), (1620, ((0, 0, 1, []), 1)), (1621, ((5, 0, 0, []), 1)), (1622, ((18, 0, 0, []), 1)), (1623, ((2, 0, 2, []), 1)), (1624, ((2, 3, 0, []), 1)), (1625, ((0, 0, 2, []), 1)), (1626, ((5, 0, 0, []), 1)), (1627, ((18, 0, 0, []), 1)), (1628, ((24, 338, 0, [2, 5, 10]), 3)), (1631, ((12, 2452, 0, []), 3))]
def m_tL_102 : List (Nat × (m_I × Nat)) := [(1634, ((0, 0, 0, []), 1)), (1635, ((27, 3, 0, []), 1)), (1636, ((2, 1, 2, []), 1)), (1637, ((2, 0, 2, []), 1)), (1638, ((2, 3, 0, []), 1)), (1639, ((0, 0, 1, []), 1)), (1640, ((5, 0, 0, []), 1)), (1641, ((18, 0, 0, []), 1)), (1642, ((2, 0, 2, []), 1)), (1643, ((2, 3, 0, []), 1)), (1644, ((0, 0, 2, []), 1)), (1645, ((5, 0, 0, []), 1)), (1646, ((18, 0, 0, []), 1)), (1647, ((24, 148, 0, [2, 4, 9]), 3))]
def m_tL_103 : List (Nat × (m_I × Nat)) := [(1650, ((2, 2, 2, []), 1)), (1651, ((2, 0, 2, []), 1)), (1652, ((2, 3, 0, []), 1)), (1653, ((0, 0, 1, []), 1)), (1654, ((5, 0, 0, []), 1)), (1655, ((18, 0, 0, []), 1)), (1656, ((2, 0, 2, []), 1)), (1657, ((2, 3, 0, []), 1)), (1658, ((0, 0, 2, []), 1)), (1659, ((5, 0, 0, []), 1)), (1660, ((18, 0, 0, []), 1)), (1661, ((24, 339, 0, [2, 5, 10]), 3))]
def m_tL_104 : List (Nat × (m_I × Nat)) := [(1664, ((12, 2452, 0, []), 3)), (1667, ((0, 0, 0, []), 1)), (1668, ((27, 3, 0, []), 1)), (1669, ((2, 1, 2, []), 1)), (1670, ((2, 0, 2, []), 1)), (1671, ((2, 3, 0, []), 1)), (1672, ((0, 0, 1, []), 1)), (1673, ((5, 0, 0, []), 1)), (1674, ((18, 0, 0, []), 1)), (1675, ((2, 0, 2, []), 1)), (1676, ((2, 3, 0, []), 1)), (1677, ((0, 0, 2, []), 1)), (1678, ((5, 0, 0, []), 1)), (1679, ((18, 0, 0, []), 1))]
def m_tL_105 : List (Nat × (m_I × Nat)) := [(1680, ((24, 150, 0, [2, 4, 9]), 3)), (1683, ((2, 2, 2, []), 1)), (1684, ((2, 0, 2, []), 1)), (1685, ((2, 3, 0, []), 1)), (1686, ((0, 0, 1, []), 1)), (1687, ((5, 0, 0, []), 1)), (1688, ((18, 0, 0, []), 1)), (1689, ((2, 0, 2, []), 1)), (1690, ((2, 3, 0, []), 1)), (1691, ((0, 0, 2, []), 1)), (1692, ((5, 0, 0, []), 1)), (1693, ((18, 0, 0, []), 1)), (1694, ((24, 340, 0, [2, 4, 10]), 3))]
def m_tL_106 : List (Nat × (m_I × Nat)) := [(1697, ((12, 2452, 0, []), 3)), (1700, ((0, 0, 0, []), 1)), (1701, ((27, 3, 0, []), 1)), (1702, ((2, 1, 2, []), 1)), (1703, ((2, 0, 2, []), 1)), (1704, ((2, 3, 0, []), 1)), (1705, ((0, 0, 1, []), 1)), (1706, ((5, 0, 0, []), 1)), (1707, ((18, 0, 0, []), 1)), (1708, ((2, 0, 2, []), 1)), (1709, ((2, 3, 0, []), 1)), (1710, ((0, 0, 2, []), 1)), (1711, ((5, 0, 0, []), 1))]
def m_tL_107 : List (Nat × (m_I × Nat)) := [(1712, ((18, 0, 0, []), 1)), (1713, ((24, 153, 0, [2, 5, 9]), 3)), (1716, ((2, 2, 2, []), 1)), (1717, ((2, 0, 2, []), 1)), (1718, ((2, 3, 0, []), 1)), (1719, ((0, 0, 1, []), 1)), (1720, ((5, 0, 0, []), 1)), (1721, ((18, 0, 0, []), 1)), (1722, ((2, 0, 2, []), 1)), (1723, ((2, 3, 0, []), 1)), (1724, ((0, 0, 2, []), 1)), (1725, ((5, 0, 0, []), 1)), (1726, ((18, 0, 0, []), 1)), (1727, ((24, 341, 0, [2, 4, 10]), 3))]
def m_tL_108 : List (Nat × (m_I × Nat)) := [(1730, ((12, 2452, 0, []), 3)), (1733, ((0, 0, 0, []), 1)), (1734, ((27, 3, 0, []), 1)), (1735, ((2, 1, 2, []), 1)), (1736, ((2, 0, 2, []), 1)), (1737, ((2, 3, 0, []), 1)), (1738, ((0, 0, 1, []), 1)), (1739, ((5, 0, 0, []), 1)), (1740, ((18, 0, 0, []), 1)), (1741, ((24, 154, 0, [1, 3, 9]), 3))]
def m_tL_109 : List (Nat × (m_I × Nat)) := [(1744, ((2, 2, 2, []), 1)), (1745, ((2, 0, 2, []), 1)), (1746, ((2, 3, 0, []), 1)), (1747, ((0, 0, 1, []), 1)), (1748, ((5, 0, 0, []), 1)), (1749, ((18, 0, 0, []), 1)), (1750, ((24, 342, 0, [1, 5, 10]), 3)), (1753, ((12, 2452, 0, []), 3)), (1756, ((0, 0, 0, []), 1)), (1757, ((27, 3, 0, []), 1)), (1758, ((2, 1, 2, []), 1)), (1759, ((2, 0, 2, []), 1))]
def m_tL_110 : List (Nat × (m_I × Nat)) := [(1760, ((2, 3, 0, []), 1)), (1761, ((0, 0, 1, []), 1)), (1762, ((5, 0, 0, []), 1)), (1763, ((18, 0, 0, []), 1)), (1764, ((24, 156, 0, [1, 2, 9]), 3)), (1767, ((2, 2, 2, []), 1)), (1768, ((2, 0, 2, []), 1)), (1769, ((2, 3, 0, []), 1)), (1770, ((0, 0, 1, []), 1)), (1771, ((5, 0, 0, []), 1)), (1772, ((18, 0, 0, []), 1)), (1773, ((24, 344, 0, [1, 2, 10]), 3))]
def m_tL_111 : List (Nat × (m_I × Nat)) := [(1776, ((12, 2452, 0, []), 3)), (1779, ((0, 0, 0, []), 1)), (1780, ((27, 3, 0, []), 1)), (1781, ((2, 1, 2, []), 1)), (1782, ((24, 158, 0, [0, 1, 9]), 3)), (1785, ((2, 2, 2, []), 1)), (1786, ((24, 345, 0, [0, 3, 10]), 3)), (1789, ((12, 2452, 0, []), 3))]
def m_tL_112 : List (Nat × (m_I × Nat)) := [(1792, ((0, 0, 0, []), 1)), (1793, ((27, 3, 0, []), 1)), (1794, ((2, 1, 2, []), 1)), (1795, ((2, 0, 2, []), 1)), (1796, ((2, 3, 0, []), 1)), (1797, ((0, 0, 1, []), 1)), (1798, ((5, 0, 0, []), 1)), (1799, ((18, 0, 0, []), 1)), (1800, ((24, 160, 0, [1, 2, 9]), 3)), (1803, ((2, 2, 2, []), 1)), (1804, ((2, 0, 2, []), 1)), (1805, ((2, 3, 0, []), 1)), (1806, ((0, 0, 1, []), 1)), (1807, ((5, 0, 0, []), 1))]
def m_tL_113 : List (Nat × (m_I × Nat)) := [(1808, ((18, 0, 0, []), 1)), (1809, ((24, 346, 0, [1, 2, 10]), 3)), (1812, ((12, 2452, 0, []), 3)), (1815, ((0, 0, 0, []), 1)), (1816, ((27, 3, 0, []), 1)), (1817, ((2, 1, 2, []), 1)), (1818, ((2, 0, 2, []), 1)), (1819, ((2, 3, 0, []), 1)), (1820, ((0, 0, 1, []), 1)), (1821, ((5, 0, 0, []), 1)), (1822, ((18, 0, 0, []), 1)), (1823, ((2, 0, 2, []), 1))]
def m_tL_114 : List (Nat × (m_I × Nat)) := [(1824, ((2, 3, 0, []), 1)), (1825, ((0, 0, 2, []), 1)), (1826, ((5, 0, 0, []), 1)), (1827, ((18, 0, 0, []), 1)), (1828, ((24, 162, 0, [2, 3, 9]), 3)), (1831, ((2, 2, 2, []), 1)), (1832, ((2, 0, 2, []), 1)), (1833, ((2, 3, 0, []), 1)), (1834, ((0, 0, 1, []), 1)), (1835, ((5, 0, 0, []), 1)), (1836, ((18, 0, 0, []), 1)), (1837, ((2, 0, 2, []), 1)), (1838, ((2, 3, 0, []), 1)), (1839, ((0, 0, 2, []), 1))]
def m_tL_115 : List (Nat × (m_I × Nat)) := [(1840, ((5, 0, 0, []), 1)), (1841, ((18, 0, 0, []), 1)), (1842, ((24, 348, 0, [2, 7, 10]), 3)), (1845, ((12, 2452, 0, []), 3)), (1848, ((0, 0, 0, []), 1)), (1849, ((27, 3, 0, []), 1)), (1850, ((2, 1, 2, []), 1)), (1851, ((2, 0, 2, []), 1)), (1852, ((2, 3, 0, []), 1)), (1853, ((0, 0, 1, []), 1)), (1854, ((5, 0, 0, []), 1)), (1855, ((18, 0, 0, []), 1))]
def m_tL_116 : List (Nat × (m_I × Nat)) := [(1856, ((2, 0, 2, []), 1)), (1857, ((2, 3, 0, []), 1)), (1858, ((0, 0, 2, []), 1)), (1859, ((5, 0, 0, []), 1)), (1860, ((18, 0, 0, []), 1)), (1861, ((24, 169, 0, [2, 3, 9]), 3)), (1864, ((2, 2, 2, []), 1)), (1865, ((2, 0, 2, []), 1)), (1866, ((2, 3, 0, []), 1)), (1867, ((0, 0, 1, []), 1)), (1868, ((5, 0, 0, []), 1)), (1869, ((18, 0, 0, []), 1)), (1870, ((2, 0, 2, []), 1)), (1871, ((2, 3, 0, []), 1))]
def m_tL_117 : List (Nat × (m_I × Nat)) := [(1872, ((0, 0, 2, []), 1)), (1873, ((5, 0, 0, []), 1)), (1874, ((18, 0, 0, []), 1)), (1875, ((24, 353, 0, [2, 8, 10]), 3)), (1878, ((12, 2452, 0, []), 3)), (1881, ((0, 0, 0, []), 1)), (1882, ((27, 3, 0, []), 1)), (1883, ((2, 1, 2, []), 1)), (1884, ((2, 0, 2, []), 1)), (1885, ((2, 3, 0, []), 1)), (1886, ((0, 0, 1, []), 1)), (1887, ((5, 0, 0, []), 1))]
def m_tL_118 : List (Nat × (m_I × Nat)) := [(1888, ((18, 0, 0, []), 1)), (1889, ((2, 0, 2, []), 1)), (1890, ((2, 3, 0, []), 1)), (1891, ((0, 0, 2, []), 1)), (1892, ((5, 0, 0, []), 1)), (1893, ((18, 0, 0, []), 1)), (1894, ((2, 0, 2, []), 1)), (1895, ((2, 3, 0, []), 1)), (1896, ((0, 0, 3, []), 1)), (1897, ((5, 0, 0, []), 1)), (1898, ((18, 0, 0, []), 1)), (1899, ((2, 0, 2, []), 1)), (1900, ((2, 3, 0, []), 1)), (1901, ((0, 0, 4, []), 1)), (1902, ((5, 0, 0, []), 1)), (1903, ((18, 0, 0, []), 1))]
def m_tL_119 : List (Nat × (m_I × Nat)) := [(1904, ((24, 174, 0, [4, 5, 9]), 3)), (1907, ((2, 2, 2, []), 1)), (1908, ((2, 0, 2, []), 1)), (1909, ((2, 3, 0, []), 1)), (1910, ((0, 0, 1, []), 1)), (1911, ((5, 0, 0, []), 1)), (1912, ((18, 0, 0, []), 1)), (1913, ((2, 0, 2, []), 1)), (1914, ((2, 3, 0, []), 1)), (1915, ((0, 0, 2, []), 1)), (1916, ((5, 0, 0, []), 1)), (1917, ((18, 0, 0, []), 1)), (1918, ((2, 0, 2, []), 1)), (1919, ((2, 3, 0, []), 1))]
def m_tL_120 : List (Nat × (m_I × Nat)) := [(1920, ((0, 0, 3, []), 1)), (1921, ((5, 0, 0, []), 1)), (1922, ((18, 0, 0, []), 1)), (1923, ((2, 0, 2, []), 1)), (1924, ((2, 3, 0, []), 1)), (1925, ((0, 0, 4, []), 1)), (1926, ((5, 0, 0, []), 1)), (1927, ((18, 0, 0, []), 1)), (1928, ((24, 356, 0, [4, 5, 10]), 3)), (1931, ((12, 2452, 0, []), 3)), (1934, ((0, 0, 0, []), 1)), (1935, ((27, 3, 0, []), 1))]
def m_tL_121 : List (Nat × (m_I × Nat)) := [(1936, ((2, 1, 2, []), 1)), (1937, ((2, 0, 2, []), 1)), (1938, ((2, 3, 0, []), 1)), (1939, ((0, 0, 1, []), 1)), (1940, ((5, 0, 0, []), 1)), (1941, ((18, 0, 0, []), 1)), (1942, ((2, 0, 2, []), 1)), (1943, ((2, 3, 0, []), 1)), (1944, ((0, 0, 2, []), 1)), (1945, ((5, 0, 0, []), 1)), (1946, ((18, 0, 0, []), 1)), (1947, ((2, 0, 2, []), 1)), (1948, ((2, 3, 0, []), 1)), (1949, ((0, 0, 3, []), 1)), (1950, ((5, 0, 0, []), 1)), (1951, ((18, 0, 0, []), 1))]
def m_tL_122 : List (Nat × (m_I × Nat)) := [(1952, ((24, 176, 0, [3, 4, 9]), 3)), (1955, ((2, 2, 2, []), 1)), (1956, ((2, 0, 2, []), 1)), (1957, ((2, 3, 0, []), 1)), (1958, ((0, 0, 1, []), 1)), (1959, ((5, 0, 0, []), 1)), (1960, ((18, 0, 0, []), 1)), (1961, ((2, 0, 2, []), 1)), (1962, ((2, 3, 0, []), 1)), (1963, ((0, 0, 2, []), 1)), (1964, ((5, 0, 0, []), 1)), (1965, ((18, 0, 0, []), 1)), (1966, ((2, 0, 2, []), 1)), (1967, ((2, 3, 0, []), 1))]
def m_tL_123 : List (Nat × (m_I × Nat)) := [(1968, ((0, 0, 3, []), 1)), (1969, ((5, 0, 0, []), 1)), (1970, ((18, 0, 0, []), 1)), (1971, ((24, 357, 0, [3, 4, 10]), 3)), (1974, ((12, 2452, 0, []), 3)), (1977, ((0, 0, 0, []), 1)), (1978, ((27, 3, 0, []), 1)), (1979, ((2, 1, 2, []), 1)), (1980, ((2, 0, 2, []), 1)), (1981, ((2, 3, 0, []), 1)), (1982, ((0, 0, 1, []), 1)), (1983, ((5, 0, 0, []), 1))]
def m_tL_124 : List (Nat × (m_I × Nat)) := [(1984, ((18, 0, 0, []), 1)), (1985, ((24, 180, 0, [1, 2, 9]), 3)), (1988, ((2, 2, 2, []), 1)), (1989, ((2, 0, 2, []), 1)), (1990, ((2, 3, 0, []), 1)), (1991, ((0, 0, 1, []), 1)), (1992, ((5, 0, 0, []), 1)), (1993, ((18, 0, 0, []), 1)), (1994, ((24, 360, 0, [1, 2, 10]), 3)), (1997, ((8, 0, 0, []), 1)), (1998, ((11, 2452, 0, []), 3))]
def m_tL_125 : List (Nat × (m_I × Nat)) := [(2001, ((0, 0, 0, []), 1)), (2002, ((27, 3, 0, []), 1)), (2003, ((2, 1, 2, []), 1)), (2004, ((2, 0, 2, []), 1)), (2005, ((2, 3, 0, []), 1)), (2006, ((0, 0, 1, []), 1)), (2007, ((5, 0, 0, []), 1)), (2008, ((18, 0, 0, []), 1)), (2009, ((2, 0, 2, []), 1)), (2010, ((2, 3, 0, []), 1)), (2011, ((0, 0, 2, []), 1)), (2012, ((5, 0, 0, []), 1)), (2013, ((18, 0, 0, []), 1)), (2014, ((24, 182, 0, [2, 3, 9]), 3))]
def m_tL_126 : List (Nat × (m_I × Nat)) := [(2017, ((2, 2, 2, []), 1)), (2018, ((2, 0, 2, []), 1)), (2019, ((2, 3, 0, []), 1)), (2020, ((0, 0, 1, []), 1)), (2021, ((5, 0, 0, []), 1)), (2022, ((18, 0, 0, []), 1)), (2023, ((2, 0, 2, []), 1)), (2024, ((2, 3, 0, []), 1)), (2025, ((0, 0, 2, []), 1)), (2026, ((5, 0, 0, []), 1)), (2027, ((18, 0, 0, []), 1)), (2028, ((24, 365, 0, [2, 3, 10]), 3)), (2031, ((12, 2452, 0, []), 3))]
def m_tL_127 : List (Nat × (m_I × Nat)) := [(2034, ((0, 0, 0, []), 1)), (2035, ((27, 3, 0, []), 1)), (2036, ((2, 1, 2, []), 1)), (2037, ((2, 0, 2, []), 1)), (2038, ((2, 3, 0, []), 1)), (2039, ((0, 0, 1, []), 1)), (2040, ((5, 0, 0, []), 1)), (2041, ((18, 0, 0, []), 1)), (2042, ((2, 0, 2, []), 1)), (2043, ((2, 3, 0, []), 1)), (2044, ((0, 0, 2, []), 1)), (2045, ((5, 0, 0, []), 1)), (2046, ((18, 0, 0, []), 1)), (2047, ((24, 184, 0, [2, 3, 9]), 3))]
def m_tL_128 : List (Nat × (m_I × Nat)) := [(2050, ((2, 2, 2, []), 1)), (2051, ((2, 0, 2, []), 1)), (2052, ((2, 3, 0, []), 1)), (2053, ((0, 0, 1, []), 1)), (2054, ((5, 0, 0, []), 1)), (2055, ((18, 0, 0, []), 1)), (2056, ((2, 0, 2, []), 1)), (2057, ((2, 3, 0, []), 1)), (2058, ((0, 0, 2, []), 1)), (2059, ((5, 0, 0, []), 1)), (2060, ((18, 0, 0, []), 1)), (2061, ((24, 367, 0, [2, 5, 10]), 3))]
def m_tL_129 : List (Nat × (m_I × Nat)) := [(2064, ((12, 2452, 0, []), 3)), (2067, ((0, 0, 0, []), 1)), (2068, ((27, 3, 0, []), 1)), (2069, ((2, 1, 2, []), 1)), (2070, ((24, 186, 0, [0, 1, 9]), 3)), (2073, ((2, 2, 2, []), 1)), (2074, ((24, 368, 0, [0, 1, 10]), 3)), (2077, ((12, 2452, 0, []), 3))]
def m_tL_130 : List (Nat × (m_I × Nat)) := [(2080, ((0, 0, 0, []), 1)), (2081, ((27, 3, 0, []), 1)), (2082, ((2, 1, 2, []), 1)), (2083, ((24, 187, 0, [0, 2, 9]), 3)), (2086, ((2, 2, 2, []), 1)), (2087, ((24, 369, 0, [0, 2, 10]), 3)), (2090, ((12, 2452, 0, []), 3)), (2093, ((0, 0, 0, []), 1)), (2094, ((27, 3, 0, []), 1)), (2095, ((2, 1, 2, []), 1))]
def m_tL_131 : List (Nat × (m_I × Nat)) := [(2096, ((2, 0, 2, []), 1)), (2097, ((2, 3, 0, []), 1)), (2098, ((0, 0, 1, []), 1)), (2099, ((5, 0, 0, []), 1)), (2100, ((18, 0, 0, []), 1)), (2101, ((2, 0, 2, []), 1)), (2102, ((2, 3, 0, []), 1)), (2103, ((0, 0, 2, []), 1)), (2104, ((5, 0, 0, []), 1)), (2105, ((18, 0, 0, []), 1)), (2106, ((24, 188, 0, [2, 4, 9]), 3)), (2109, ((2, 2, 2, []), 1)), (2110, ((2, 0, 2, []), 1)), (2111, ((2, 3, 0, []), 1))]
def m_tL_132 : List (Nat × (m_I × Nat)) := [(2112, ((0, 0, 1, []), 1)), (2113, ((5, 0, 0, []), 1)), (2114, ((18, 0, 0, []), 1)), (2115, ((2, 0, 2, []), 1)), (2116, ((2, 3, 0, []), 1)), (2117, ((0, 0, 2, []), 1)), (2118, ((5, 0, 0, []), 1)), (2119, ((18, 0, 0, []), 1)), (2120, ((24, 361, 0, [2, 4, 10]), 3)), (2123, ((12, 2452, 0, []), 3)), (2126, ((0, 0, 0, []), 1)), (2127, ((27, 3, 0, []), 1))]
def m_tL_133 : List (Nat × (m_I × Nat)) := [(2128, ((2, 1, 2, []), 1)), (2129, ((2, 0, 2, []), 1)), (2130, ((2, 3, 0, []), 1)), (2131, ((0, 0, 1, []), 1)), (2132, ((5, 0, 0, []), 1)), (2133, ((18, 0, 0, []), 1)), (2134, ((2, 0, 2, []), 1)), (2135, ((2, 3, 0, []), 1)), (2136, ((0, 0, 2, []), 1)), (2137, ((5, 0, 0, []), 1)), (2138, ((18, 0, 0, []), 1)), (2139, ((2, 0, 2, []), 1)), (2140, ((2, 3, 0, []), 1)), (2141, ((0, 0, 3, []), 1)), (2142, ((5, 0, 0, []), 1)), (2143, ((18, 0, 0, []), 1))]
def m_tL_134 : List (Nat × (m_I × Nat)) := [(2144, ((24, 192, 0, [3, 4, 9]), 3)), (2147, ((2, 2, 2, []), 1)), (2148, ((2, 0, 2, []), 1)), (2149, ((2, 3, 0, []), 1)), (2150, ((0, 0, 1, []), 1)), (2151, ((5, 0, 0, []), 1)), (2152, ((18, 0, 0, []), 1)), (2153, ((2, 0, 2, []), 1)), (2154, ((2, 3, 0, []), 1)), (2155, ((0, 0, 2, []), 1)), (2156, ((5, 0, 0, []), 1)), (2157, ((18, 0, 0, []), 1)), (2158, ((2, 0, 2, []), 1)), (2159, ((2, 3, 0, []), 1))]
def m_tL_135 : List (Nat × (m_I × Nat)) := [(2160, ((0, 0, 3, []), 1)), (2161, ((5, 0, 0, []), 1)), (2162, ((18, 0, 0, []), 1)), (2163, ((24, 364, 0, [3, 6, 10]), 3)), (2166, ((12, 2452, 0, []), 3)), (2169, ((0, 0, 0, []), 1)), (2170, ((27, 3, 0, []), 1)), (2171, ((2, 1, 2, []), 1)), (2172, ((2, 0, 2, []), 1)), (2173, ((2, 3, 0, []), 1)), (2174, ((0, 0, 1, []), 1)), (2175, ((5, 0, 0, []), 1))]
def m_tL_136 : List (Nat × (m_I × Nat)) := [(2176, ((18, 0, 0, []), 1)), (2177, ((2, 0, 2, []), 1)), (2178, ((2, 3, 0, []), 1)), (2179, ((0, 0, 2, []), 1)), (2180, ((5, 0, 0, []), 1)), (2181, ((18, 0, 0, []), 1)), (2182, ((24, 194, 0, [2, 4, 9]), 3)), (2185, ((2, 2, 2, []), 1)), (2186, ((2, 0, 2, []), 1)), (2187, ((2, 3, 0, []), 1)), (2188, ((0, 0, 1, []), 1)), (2189, ((5, 0, 0, []), 1)), (2190, ((18, 0, 0, []), 1)), (2191, ((2, 0, 2, []), 1))]
def m_tL_137 : List (Nat × (m_I × Nat)) := [(2192, ((2, 3, 0, []), 1)), (2193, ((0, 0, 2, []), 1)), (2194, ((5, 0, 0, []), 1)), (2195, ((18, 0, 0, []), 1)), (2196, ((24, 370, 0, [2, 4, 10]), 3)), (2199, ((12, 2452, 0, []), 3)), (2202, ((0, 0, 0, []), 1)), (2203, ((27, 3, 0, []), 1)), (2204, ((2, 1, 2, []), 1)), (2205, ((2, 0, 2, []), 1)), (2206, ((2, 3, 0, []), 1)), (2207, ((0, 0, 1, []), 1))]
def m_tL_138 : List (Nat × (m_I × Nat)) := [(2208, ((5, 0, 0, []), 1)), (2209, ((18, 0, 0, []), 1)), (2210, ((24, 195, 0, [1, 2, 9]), 3)), (2213, ((2, 2, 2, []), 1)), (2214, ((2, 0, 2, []), 1)), (2215, ((2, 3, 0, []), 1)), (2216, ((0, 0, 1, []), 1)), (2217, ((5, 0, 0, []), 1)), (2218, ((18, 0, 0, []), 1)), (2219, ((24, 371, 0, [1, 4, 10]), 3)), (2222, ((12, 2452, 0, []), 3))]
def m_tL_139 : List (Nat × (m_I × Nat)) := [(2225, ((0, 0, 0, []), 1)), (2226, ((27, 3, 0, []), 1)), (2227, ((2, 1, 2, []), 1)), (2228, ((2, 0, 2, []), 1)), (2229, ((2, 3, 0, []), 1)), (2230, ((0, 0, 1, []), 1)), (2231, ((5, 0, 0, []), 1)), (2232, ((18, 0, 0, []), 1)), (2233, ((24, 197, 0, [1, 2, 9]), 3)), (2236, ((2, 2, 2, []), 1)), (2237, ((2, 0, 2, []), 1)), (2238, ((2, 3, 0, []), 1)), (2239, ((0, 0, 1, []), 1))]
def m_tL_140 : List (Nat × (m_I × Nat)) := [(2240, ((5, 0, 0, []), 1)), (2241, ((18, 0, 0, []), 1)), (2242, ((24, 372, 0, [1, 2, 10]), 3)), (2245, ((12, 2452, 0, []), 3)), (2248, ((0, 0, 0, []), 1)), (2249, ((27, 3, 0, []), 1)), (2250, ((2, 1, 2, []), 1)), (2251, ((2, 0, 2, []), 1)), (2252, ((2, 3, 0, []), 1)), (2253, ((0, 0, 1, []), 1)), (2254, ((5, 0, 0, []), 1)), (2255, ((18, 0, 0, []), 1))]
def m_tL_141 : List (Nat × (m_I × Nat)) := [(2256, ((24, 198, 0, [1, 2, 9]), 3)), (2259, ((2, 2, 2, []), 1)), (2260, ((2, 0, 2, []), 1)), (2261, ((2, 3, 0, []), 1)), (2262, ((0, 0, 1, []), 1)), (2263, ((5, 0, 0, []), 1)), (2264, ((18, 0, 0, []), 1)), (2265, ((24, 373, 0, [1, 2, 10]), 3)), (2268, ((12, 2452, 0, []), 3)), (2271, ((0, 0, 0, []), 1))]
def m_tL_142 : List (Nat × (m_I × Nat)) := [(2272, ((27, 3, 0, []), 1)), (2273, ((2, 1, 2, []), 1)), (2274, ((2, 0, 2, []), 1)), (2275, ((2, 3, 0, []), 1)), (2276, ((0, 0, 1, []), 1)), (2277, ((5, 0, 0, []), 1)), (2278, ((18, 0, 0, []), 1)), (2279, ((2, 0, 2, []), 1)), (2280, ((2, 3, 0, []), 1)), (2281, ((0, 0, 2, []), 1)), (2282, ((5, 0, 0, []), 1)), (2283, ((18, 0, 0, []), 1)), (2284, ((2, 0, 2, []), 1)), (2285, ((2, 3, 0, []), 1)), (2286, ((0, 0, 3, []), 1)), (2287, ((5, 0, 0, []), 1))]
def m_tL_143 : List (Nat × (m_I × Nat)) := [(2288, ((18, 0, 0, []), 1)), (2289, ((24, 199, 0, [3, 4, 9]), 3)), (2292, ((2, 2, 2, []), 1)), (2293, ((2, 0, 2, []), 1)), (2294, ((2, 3, 0, []), 1)), (2295, ((0, 0, 1, []), 1)), (2296, ((5, 0, 0, []), 1)), (2297, ((18, 0, 0, []), 1)), (2298, ((2, 0, 2, []), 1)), (2299, ((2, 3, 0, []), 1)), (2300, ((0, 0, 2, []), 1)), (2301, ((5, 0, 0, []), 1)), (2302, ((18, 0, 0, []), 1)), (2303, ((2, 0, 2, []), 1))]
def m_tL_144 : List (Nat × (m_I × Nat)) := [(2304, ((2, 3, 0, []), 1)), (2305, ((0, 0, 3, []), 1)), (2306, ((5, 0, 0, []), 1)), (2307, ((18, 0, 0, []), 1)), (2308, ((24, 210, 0, [3, 5, 10]), 3)), (2311, ((12, 2452, 0, []), 3)), (2314, ((0, 0, 0, []), 1)), (2315, ((27, 3, 0, []), 1)), (2316, ((2, 1, 2, []), 1)), (2317, ((2, 0, 2, []), 1)), (2318, ((2, 3, 0, []), 1)), (2319, ((0, 0, 1, []), 1))]
def m_tL_145 : List (Nat × (m_I × Nat)) := [(2320, ((5, 0, 0, []), 1)), (2321, ((18, 0, 0, []), 1)), (2322, ((2, 0, 2, []), 1)), (2323, ((2, 3, 0, []), 1)), (2324, ((0, 0, 2, []), 1)), (2325, ((5, 0, 0, []), 1)), (2326, ((18, 0, 0, []), 1)), (2327, ((2, 0, 2, []), 1)), (2328, ((2, 3, 0, []), 1)), (2329, ((0, 0, 3, []), 1)), (2330, ((5, 0, 0, []), 1)), (2331, ((18, 0, 0, []), 1)), (2332, ((7, 1, 0, []), 1)), (2333, ((0, 0, 32, []), 2)), (2335, ((28, 0, 0, []), 1))]
def m_tL_146 : List (Nat × (m_I × Nat)) := [(2336, ((2, 0, 2, []), 1)), (2337, ((2, 3, 0, []), 1)), (2338, ((0, 0, 4, []), 1)), (2339, ((5, 0, 0, []), 1)), (2340, ((18, 0, 0, []), 1)), (2341, ((7, 1, 0, []), 1)), (2342, ((1, 0, 4294967295, []), 3)), (2345, ((6, 3, 0, []), 1)), (2346, ((6, 4, 0, []), 1)), (2347, ((24, 202, 0, [3, 5, 9]), 3)), (2350, ((2, 2, 2, []), 1)), (2351, ((2, 0, 2, []), 1))]
def m_tL_147 : List (Nat × (m_I × Nat)) := [(2352, ((2, 3, 0, []), 1)), (2353, ((0, 0, 1, []), 1)), (2354, ((5, 0, 0, []), 1)), (2355, ((18, 0, 0, []), 1)), (2356, ((2, 0, 2, []), 1)), (2357, ((2, 3, 0, []), 1)), (2358, ((0, 0, 2, []), 1)), (2359, ((5, 0, 0, []), 1)), (2360, ((18, 0, 0, []), 1)), (2361, ((2, 0, 2, []), 1)), (2362, ((2, 3, 0, []), 1)), (2363, ((0, 0, 3, []), 1)), (2364, ((5, 0, 0, []), 1)), (2365, ((18, 0, 0, []), 1)), (2366, ((7, 1, 0, []), 1)), (2367, ((0, 0, 32, []), 2))]
def m_tL_148 : List (Nat × (m_I × Nat)) := [(2369, ((28, 0, 0, []), 1)), (2370, ((2, 0, 2, []), 1)), (2371, ((2, 3, 0, []), 1)), (2372, ((0, 0, 4, []), 1)), (2373, ((5, 0, 0, []), 1)), (2374, ((18, 0, 0, []), 1)), (2375, ((7, 1, 0, []), 1)), (2376, ((1, 0, 4294967295, []), 3)), (2379, ((6, 3, 0, []), 1)), (2380, ((6, 4, 0, []), 1)), (2381, ((24, 213, 0, [3, 5, 10]), 3))]
def m_tL_149 : List (Nat × (m_I × Nat)) := [(2384, ((12, 2452, 0, []), 3)), (2387, ((0, 0, 0, []), 1)), (2388, ((27, 3, 0, []), 1)), (2389, ((2, 1, 2, []), 1)), (2390, ((2, 0, 2, []), 1)), (2391, ((2, 3, 0, []), 1)), (2392, ((0, 0, 1, []), 1)), (2393, ((5, 0, 0, []), 1)), (2394, ((18, 0, 0, []), 1)), (2395, ((2, 0, 2, []), 1)), (2396, ((2, 3, 0, []), 1)), (2397, ((0, 0, 2, []), 1)), (2398, ((5, 0, 0, []), 1)), (2399, ((18, 0, 0, []), 1))]
def m_tL_150 : List (Nat × (m_I × Nat)) := [(2400, ((2, 0, 2, []), 1)), (2401, ((2, 3, 0, []), 1)), (2402, ((0, 0, 3, []), 1)), (2403, ((5, 0, 0, []), 1)), (2404, ((18, 0, 0, []), 1)), (2405, ((2, 0, 2, []), 1)), (2406, ((2, 3, 0, []), 1)), (2407, ((0, 0, 4, []), 1)), (2408, ((5, 0, 0, []), 1)), (2409, ((18, 0, 0, []), 1)), (2410, ((2, 0, 2, []), 1)), (2411, ((2, 3, 0, []), 1)), (2412, ((0, 0, 5, []), 1)), (2413, ((5, 0, 0, []), 1)), (2414, ((18, 0, 0, []), 1)), (2415, ((24, 205, 0, [5, 6, 9]), 3))]
def m_tL_151 : List (Nat × (m_I × Nat)) := [(2418, ((2, 2, 2, []), 1)), (2419, ((2, 0, 2, []), 1)), (2420, ((2, 3, 0, []), 1)), (2421, ((0, 0, 1, []), 1)), (2422, ((5, 0, 0, []), 1)), (2423, ((18, 0, 0, []), 1)), (2424, ((2, 0, 2, []), 1)), (2425, ((2, 3, 0, []), 1)), (2426, ((0, 0, 2, []), 1)), (2427, ((5, 0, 0, []), 1)), (2428, ((18, 0, 0, []), 1)), (2429, ((2, 0, 2, []), 1)), (2430, ((2, 3, 0, []), 1)), (2431, ((0, 0, 3, []), 1))]
def m_tL_152 : List (Nat × (m_I × Nat)) := [(2432, ((5, 0, 0, []), 1)), (2433, ((18, 0, 0, []), 1)), (2434, ((2, 0, 2, []), 1)), (2435, ((2, 3, 0, []), 1)), (2436, ((0, 0, 4, []), 1)), (2437, ((5, 0, 0, []), 1)), (2438, ((18, 0, 0, []), 1)), (2439, ((2, 0, 2, []), 1)), (2440, ((2, 3, 0, []), 1)), (2441, ((0, 0, 5, []), 1)), (2442, ((5, 0, 0, []), 1)), (2443, ((18, 0, 0, []), 1)), (2444, ((24, 215, 0, [5, 7, 10]), 3)), (2447, ((12, 2452, 0, []), 3))]
def m_tL_153 : List (Nat × (m_I × Nat)) := [(2450, ((0, 0, 0, []), 1)), (2451, ((27, 3, 0, []), 1)), (2452, ((4, 3, 6, []), 3)), (2455, ((10, 18, 0, []), 3)), (2458, ((0, 0, 1, []), 1)), (2459, ((27, 3, 0, []), 1))]
def m_tL : m_T := [m_tL_0, m_tL_1, m_tL_2, m_tL_3, m_tL_4, m_tL_5, m_tL_6, m_tL_7, m_tL_8, m_tL_9, m_tL_10, m_tL_11, m_tL_12, m_tL_13, m_tL_14, m_tL_15, m_tL_16, m_tL_17, m_tL_18, m_tL_19, m_tL_20, m_tL_21, m_tL_22, m_tL_23, m_tL_24, m_tL_25, m_tL_26, m_tL_27, m_tL_28, m_tL_29, m_tL_30, m_tL_31, m_tL_32, m_tL_33, m_tL_34, m_tL_35, m_tL_36, m_tL_37, m_tL_38, m_tL_39, m_tL_40, m_tL_41, m_tL_42, m_tL_43, m_tL_44, m_tL_45, m_tL_46, m_tL_47, m_tL_48, m_tL_49, m_tL_50, m_tL_51, m_tL_52, m_tL_53, m_tL_54, m_tL_55, m_tL_56, m_tL_57, m_tL_58, m_tL_59, m_tL_60, m_tL_61, m_tL_62, m_tL_63, m_tL_64, m_tL_65, m_tL_66, m_tL_67, m_tL_68, m_tL_69, m_tL_70, m_tL_71, m_tL_72, m_tL_73, m_tL_74, m_tL_75, m_tL_76, m_tL_77, m_tL_78, m_tL_79, m_tL_80, m_tL_81, m_tL_82, m_tL_83, m_tL_84, m_tL_85, m_tL_86, m_tL_87, m_tL_88, m_tL_89, m_tL_90, m_tL_91, m_tL_92, m_tL_93, m_tL_94, m_tL_95, m_tL_96, m_tL_97, m_tL_98, m_tL_99, m_tL_100, m_tL_101, m_tL_102, m_tL_103, m_tL_104, m_tL_105, m_tL_106, m_tL_107, m_tL_108, m_tL_109, m_tL_110, m_tL_111, m_tL_112, m_tL_113, m_tL_114, m_tL_115, m_tL_116, m_tL_117, m_tL_118, m_tL_119, m_tL_120, m_tL_121, m_tL_122, m_tL_123, m_tL_124, m_tL_125, m_tL_126, m_tL_127, m_tL_128, m_tL_129, m_tL_130, m_tL_131, m_tL_132, m_tL_133, m_tL_134, m_tL_135, m_tL_136, m_tL_137, m_tL_138, m_tL_139, m_tL_140, m_tL_141, m_tL_142, m_tL_143, m_tL_144, m_tL_145, m_tL_146, m_tL_147, m_tL_148, m_tL_149, m_tL_150, m_tL_151, m_tL_152, m_tL_153]
end
section
set_option maxRecDepth 100000 in
theorem m_okL_0 : [m_tL_0, m_tL_1, m_tL_2, m_tL_3, m_tL_4, m_tL_5, m_tL_6, m_tL_7].all (fun c => c.all (m_ck1 1000)) = true := by decide +kernel
set_option maxRecDepth 100000 in
theorem m_okL_1 : [m_tL_8, m_tL_9, m_tL_10, m_tL_11, m_tL_12, m_tL_13, m_tL_14, m_tL_15].all (fun c => c.all (m_ck1 1000)) = true := by decide +kernel
set_option maxRecDepth 100000 in
theorem m_okL_2 : [m_tL_16, m_tL_17, m_tL_18, m_tL_19, m_tL_20, m_tL_21, m_tL_22, m_tL_23].all (fun c => c.all (m_ck1 1000)) = true := by decide +kernel
set_option maxRecDepth 100000 in
theorem m_okL_3 : [m_tL_24, m_tL_25, m_tL_26, m_tL_27, m_tL_28, m_tL_29, m_tL_30, m_tL_31].all (fun c => c.all (m_ck1 1000)) = true := by decide +kernel
set_option maxRecDepth 100000 in
theorem m_okL_4 : [m_tL_32, m_tL_33, m_tL_34, m_tL_35, m_tL_36, m_tL_37, m_tL_38, m_tL_39].all (fun c => c.all (m_ck1 1000)) = true := by decide +kernel
end
section
set_option maxRecDepth 100000 in
theorem m_okL_5 : [m_tL_40, m_tL_41, m_tL_42, m_tL_43, m_tL_44, m_tL_45, m_tL_46, m_tL_47].all (fun c => c.all (m_ck1 1000)) = true := by decide +kernel
set_option maxRecDepth 100000 in
theorem m_okL_6 : [m_tL_48, m_tL_49, m_tL_50, m_tL_51, m_tL_52, m_tL_53, m_tL_54, m_tL_55].all (fun c => c.all (m_ck1 1000)) = true := by decide +kernel
set_option maxRecDepth 100000 in
theorem m_okL_7 : [m_tL_56, m_tL_57, m_tL_58, m_tL_59, m_tL_60, m_tL_61, m_tL_62, m_tL_63].all (fun c => c.all (m_ck1 1000)) = true := by decide +kernel
set_option maxRecDepth 100000 in
theorem m_okL_8 : [m_tL_64, m_tL_65, m_tL_66, m_tL_67, m_tL_68, m_tL_69, m_tL_70, m_tL_71].all (fun c => c.all (m_ck1 1000)) = true := by decide +kernel
set_option maxRecDepth 100000 in
theorem m_okL_9 : [m_tL_72, m_tL_73, m_tL_74, m_tL_75, m_tL_76, m_tL_77, m_tL_78, m_tL_79].all (fun c => c.all (m_ck1 1000)) = true := by decide +kernel
end
section
set_option maxRecDepth 100000 in
theorem m_okL_10 : [m_tL_80, m_tL_81, m_tL_82, m_tL_83, m_tL_84, m_tL_85, m_tL_86, m_tL_87].all (fun c => c.all (m_ck1 1000)) = true := by decide +kernel
set_option maxRecDepth 100000 in
theorem m_okL_11 : [m_tL_88, m_tL_89, m_tL_90, m_tL_91, m_tL_92, m_tL_93, m_tL_94, m_tL_95].all (fun c => c.all (m_ck1 1000)) = true := by decide +kernel
set_option maxRecDepth 100000 in
theorem m_okL_12 : [m_tL_96, m_tL_97, m_tL_98, m_tL_99, m_tL_100, m_tL_101, m_tL_102, m_tL_103].all (fun c => c.all (m_ck1 1000)) = true := by decide +kernel
set_option maxRecDepth 100000 in
theorem m_okL_13 : [m_tL_104, m_tL_105, m_tL_106, m_tL_107, m_tL_108, m_tL_109, m_tL_110, m_tL_111].all (fun c => c.all (m_ck1 1000)) = true := by decide +kernel
set_option maxRecDepth 100000 in
theorem m_okL_14 : [m_tL_112, m_tL_113, m_tL_114, m_tL_115, m_tL_116, m_tL_117, m_tL_118, m_tL_119].all (fun c => c.all (m_ck1 1000)) = true := by decide +kernel
end
section
set_option maxRecDepth 100000 in
theorem m_okL_15 : [m_tL_120, m_tL_121, m_tL_122, m_tL_123, m_tL_124, m_tL_125, m_tL_126, m_tL_127].all (fun c => c.all (m_ck1 1000)) = true := by decide +kernel
set_option maxRecDepth 100000 in
theorem m_okL_16 : [m_tL_128, m_tL_129, m_tL_130, m_tL_131, m_tL_132, m_tL_133, m_tL_134, m_tL_135].all (fun c => c.all (m_ck1 1000)) = true := by decide +kernel
set_option maxRecDepth 100000 in
theorem m_okL_17 : [m_tL_136, m_tL_137, m_tL_138, m_tL_139, m_tL_140, m_tL_141, m_tL_142, m_tL_143].all (fun c => c.all (m_ck1 1000)) = true := by decide +kernel
set_option maxRecDepth 100000 in
theorem m_okL_18 : [m_tL_144, m_tL_145, m_tL_146, m_tL_147, m_tL_148, m_tL_149, m_tL_150, m_tL_151].all (fun c => c.all (m_ck1 1000)) = true := by decide +kernel
set_option maxRecDepth 100000 in
theorem m_okL_19 : [m_tL_152, m_tL_153].all (fun c => c.all (m_ck1 1000)) = true := by decide +kernel
end
section
def m_g_0 : List (Nat × m_T) := [(0, m_t_0), (1, m_t_1), (2, m_t_2), (3, m_t_3), (4, m_t_4), (5, m_t_5), (6, m_t_6), (7, m_t_7), (8, m_t_8), (9, m_t_9), (10, m_t_10), (11, m_t_11), (12, m_t_12), (13, m_t_13), (14, m_t_14), (15, m_t_15), (16, m_t_16), (17, m_t_17), (18, m_t_18)]
def m_g_1 : List (Nat × m_T) := [(34, m_t_34), (35, m_t_35), (36, m_t_36), (38, m_t_38), (39, m_t_39)]
def m_g_2 : List (Nat × m_T) := [(49, m_t_49), (50, m_t_50), (51, m_t_51), (52, m_t_52), (53, m_t_53), (54, m_t_54), (55, m_t_55), (56, m_t_56), (58, m_t_58)]
def m_g_3 : List (Nat × m_T) := [(60, m_t_60), (62, m_t_62), (64, m_t_64), (68, m_t_68), (70, m_t_70), (71, m_t_71), (72, m_t_72), (73, m_t_73), (75, m_t_75), (77, m_t_77), (79, m_t_79)]
def m_g_4 : List (Nat × m_T) := [(81, m_t_81), (83, m_t_83), (85, m_t_85), (87, m_t_87), (90, m_t_90), (91, m_t_91), (92, m_t_92), (93, m_t_93), (95, m_t_95), (96, m_t_96), (97, m_t_97), (98, m_t_98), (99, m_t_99)]
def m_g_5 : List (Nat × m_T) := [(100, m_t_100), (101, m_t_101), (103, m_t_103), (104, m_t_104), (105, m_t_105), (107, m_t_107), (108, m_t_108), (109, m_t_109), (110, m_t_110), (112, m_t_112), (113, m_t_113), (116, m_t_116), (118, m_t_118)]
def m_g_6 : List (Nat × m_T) := [(121, m_t_121), (122, m_t_122), (124, m_t_124), (125, m_t_125), (128, m_t_128), (131, m_t_131), (132, m_t_132), (134, m_t_134), (136, m_t_136), (137, m_t_137), (138, m_t_138)]
def m_g_7 : List (Nat × m_T) := [(140, m_t_140), (146, m_t_146), (148, m_t_148), (150, m_t_150), (153, m_t_153), (154, m_t_154), (156, m_t_156), (158, m_t_158)]
def m_g_8 : List (Nat × m_T) := [(160, m_t_160), (162, m_t_162), (169, m_t_169), (170, m_t_170), (174, m_t_174), (176, m_t_176)]
def m_g_9 : List (Nat × m_T) := [(180, m_t_180), (182, m_t_182), (184, m_t_184), (186, m_t_186), (187, m_t_187), (188, m_t_188), (192, m_t_192), (194, m_t_194), (195, m_t_195), (196, m_t_196), (197, m_t_197), (198, m_t_198), (199, m_t_199)]
def m_g_10 : List (Nat × m_T) := [(200, m_t_200), (201, m_t_201), (202, m_t_202), (205, m_t_205), (209, m_t_209), (210, m_t_210), (211, m_t_211), (212, m_t_212), (213, m_t_213), (215, m_t_215), (216, m_t_216), (217, m_t_217), (218, m_t_218), (219, m_t_219)]
def m_g_11 : List (Nat × m_T) := [(220, m_t_220), (221, m_t_221), (222, m_t_222), (223, m_t_223), (224, m_t_224), (225, m_t_225), (226, m_t_226)]
def m_g_12 : List (Nat × m_T) := [(241, m_t_241), (242, m_t_242), (243, m_t_243), (244, m_t_244), (245, m_t_245), (246, m_t_246), (247, m_t_247), (249, m_t_249), (250, m_t_250), (251, m_t_251), (252, m_t_252), (256, m_t_256)]
def m_g_13 : List (Nat × m_T) := [(266, m_t_266), (269, m_t_269), (270, m_t_270), (271, m_t_271), (272, m_t_272), (273, m_t_273), (275, m_t_275), (276, m_t_276), (277, m_t_277), (278, m_t_278), (279, m_t_279)]
def m_g_14 : List (Nat × m_T) := [(280, m_t_280), (282, m_t_282), (283, m_t_283), (285, m_t_285), (286, m_t_286), (287, m_t_287), (290, m_t_290), (291, m_t_291), (292, m_t_292), (293, m_t_293), (296, m_t_296), (297, m_t_297), (299, m_t_299)]
def m_g_15 : List (Nat × m_T) := [(300, m_t_300), (301, m_t_301), (302, m_t_302), (303, m_t_303), (304, m_t_304), (305, m_t_305), (306, m_t_306), (308, m_t_308), (309, m_t_309), (310, m_t_310), (311, m_t_311), (312, m_t_312), (313, m_t_313), (316, m_t_316), (318, m_t_318)]
def m_g_16 : List (Nat × m_T) := [(322, m_t_322), (323, m_t_323), (324, m_t_324), (325, m_t_325), (326, m_t_326), (328, m_t_328), (329, m_t_329), (330, m_t_330), (331, m_t_331), (332, m_t_332), (338, m_t_338), (339, m_t_339)]
def m_g_17 : List (Nat × m_T) := [(340, m_t_340), (341, m_t_341), (342, m_t_342), (344, m_t_344), (345, m_t_345), (346, m_t_346), (348, m_t_348), (353, m_t_353), (354, m_t_354), (356, m_t_356), (357, m_t_357)]
def m_g_18 : List (Nat × m_T) := [(360, m_t_360), (361, m_t_361), (362, m_t_362), (364, m_t_364), (365, m_t_365), (367, m_t_367), (368, m_t_368), (369, m_t_369), (370, m_t_370), (371, m_t_371), (372, m_t_372), (373, m_t_373)]
def m_tb : List (List (Nat × m_T)) := [m_g_0, m_g_1, m_g_2, m_g_3, m_g_4, m_g_5, m_g_6, m_g_7, m_g_8, m_g_9, m_g_10, m_g_11, m_g_12, m_g_13, m_g_14, m_g_15, m_g_16, m_g_17, m_g_18]
def m_fe (t : m_T) (pc : Nat) : Option (m_I × Nat) := match t[pc / 16]? with
  | some c => c.lookup pc
  | none => none
def m_F (mid pc : Nat) : Option (m_I × Nat) := if mid = 1000 then m_fe m_tL pc else match m_tb[mid / 20]? with
  | some g => match g.lookup mid with
    | some t => m_fe t pc
    | none => none
  | none => none
theorem m_gok_0 : ∀ q ∈ m_g_0, q.2.all (fun c => c.all (m_ck1 q.1)) = true := List.forall_mem_cons.mpr ⟨m_ok_0, List.forall_mem_cons.mpr ⟨m_ok_1, List.forall_mem_cons.mpr ⟨m_ok_2, List.forall_mem_cons.mpr ⟨m_ok_3, List.forall_mem_cons.mpr ⟨m_ok_4, List.forall_mem_cons.mpr ⟨m_ok_5, List.forall_mem_cons.mpr ⟨m_ok_6, List.forall_mem_cons.mpr ⟨m_ok_7, List.forall_mem_cons.mpr ⟨m_ok_8, List.forall_mem_cons.mpr ⟨m_ok_9, List.forall_mem_cons.mpr ⟨m_ok_10, List.forall_mem_cons.mpr ⟨m_ok_11, List.forall_mem_cons.mpr ⟨m_ok_12, List.forall_mem_cons.mpr ⟨m_ok_13, List.forall_mem_cons.mpr ⟨m_ok_14, List.forall_mem_cons.mpr ⟨m_ok_15, List.forall_mem_cons.mpr ⟨m_ok_16, List.forall_mem_cons.mpr ⟨m_ok_17, List.forall_mem_cons.mpr ⟨m_ok_18, fun _ h => absurd h List.not_mem_nil⟩⟩⟩⟩⟩⟩⟩⟩⟩⟩⟩⟩⟩⟩⟩⟩⟩⟩⟩
theorem m_gok_1 : ∀ q ∈ m_g_1, q.2.all (fun c => c.all (m_ck1 q.1)) = true := List.forall_mem_cons.mpr ⟨m_ok_34, List.forall_mem_cons.mpr ⟨m_ok_35, List.forall_mem_cons.mpr ⟨m_ok_36, List.forall_mem_cons.mpr ⟨m_ok_38, List.forall_mem_cons.mpr ⟨m_ok_39, fun _ h => absurd h List.not_mem_nil⟩⟩⟩⟩⟩
theorem m_gok_2 : ∀ q ∈ m_g_2, q.2.all (fun c => c.all (m_ck1 q.1)) = true := List.forall_mem_cons.mpr ⟨m_ok_49, List.forall_mem_cons.mpr ⟨m_ok_50, List.forall_mem_cons.mpr ⟨m_ok_51, List.forall_mem_cons.mpr ⟨m_ok_52, List.forall_mem_cons.mpr ⟨m_ok_53, List.forall_mem_cons.mpr ⟨m_ok_54, List.forall_mem_cons.mpr ⟨m_ok_55, List.forall_mem_cons.mpr ⟨m_ok_56, List.forall_mem_cons.mpr ⟨m_ok_58, fun _ h => absurd h List.not_mem_nil⟩⟩⟩⟩⟩⟩⟩⟩⟩
theorem m_gok_3 : ∀ q ∈ m_g_3, q.2.all (fun c => c.all (m_ck1 q.1)) = true := List.forall_mem_cons.mpr ⟨m_ok_60, List.forall_mem_cons.mpr ⟨m_ok_62, List.forall_mem_cons.mpr ⟨m_ok_64, List.forall_mem_cons.mpr ⟨m_ok_68, List.forall_mem_cons.mpr ⟨m_ok_70, List.forall_mem_cons.mpr ⟨m_ok_71, List.forall_mem_cons.mpr ⟨m_ok_72, List.forall_mem_cons.mpr ⟨m_ok_73, List.forall_mem_cons.mpr ⟨m_ok_75, List.forall_mem_cons.mpr ⟨m_ok_77, List.forall_mem_cons.mpr ⟨m_ok_79, fun _ h => absurd h List.not_mem_nil⟩⟩⟩⟩⟩⟩⟩⟩⟩⟩⟩
theorem m_gok_4 : ∀ q ∈ m_g_4, q.2.all (fun c => c.all (m_ck1 q.1)) = true := List.forall_mem_cons.mpr ⟨m_ok_81, List.forall_mem_cons.mpr ⟨m_ok_83, List.forall_mem_cons.mpr ⟨m_ok_85, List.forall_mem_cons.mpr ⟨m_ok_87, List.forall_mem_cons.mpr ⟨m_ok_90, List.forall_mem_cons.mpr ⟨m_ok_91, List.forall_mem_cons.mpr ⟨m_ok_92, List.forall_mem_cons.mpr ⟨m_ok_93, List.forall_mem_cons.mpr ⟨m_ok_95, List.forall_mem_cons.mpr ⟨m_ok_96, List.forall_mem_cons.mpr ⟨m_ok_97, List.forall_mem_cons.mpr ⟨m_ok_98, List.forall_mem_cons.mpr ⟨m_ok_99, fun _ h => absurd h List.not_mem_nil⟩⟩⟩⟩⟩⟩⟩⟩⟩⟩⟩⟩⟩
theorem m_gok_5 : ∀ q ∈ m_g_5, q.2.all (fun c => c.all (m_ck1 q.1)) = true := List.forall_mem_cons.mpr ⟨m_ok_100, List.forall_mem_cons.mpr ⟨m_ok_101, List.forall_mem_cons.mpr ⟨m_ok_103, List.forall_mem_cons.mpr ⟨m_ok_104, List.forall_mem_cons.mpr ⟨m_ok_105, List.forall_mem_cons.mpr ⟨m_ok_107, List.forall_mem_cons.mpr ⟨m_ok_108, List.forall_mem_cons.mpr ⟨m_ok_109, List.forall_mem_cons.mpr ⟨m_ok_110, List.forall_mem_cons.mpr ⟨m_ok_112, List.forall_mem_cons.mpr ⟨m_ok_113, List.forall_mem_cons.mpr ⟨m_ok_116, List.forall_mem_cons.mpr ⟨m_ok_118, fun _ h => absurd h List.not_mem_nil⟩⟩⟩⟩⟩⟩⟩⟩⟩⟩⟩⟩⟩
theorem m_gok_6 : ∀ q ∈ m_g_6, q.2.all (fun c => c.all (m_ck1 q.1)) = true := List.forall_mem_cons.mpr ⟨m_ok_121, List.forall_mem_cons.mpr ⟨m_ok_122, List.forall_mem_cons.mpr ⟨m_ok_124, List.forall_mem_cons.mpr ⟨m_ok_125, List.forall_mem_cons.mpr ⟨m_ok_128, List.forall_mem_cons.mpr ⟨m_ok_131, List.forall_mem_cons.mpr ⟨m_ok_132, List.forall_mem_cons.mpr ⟨m_ok_134, List.forall_mem_cons.mpr ⟨m_ok_136, List.forall_mem_cons.mpr ⟨m_ok_137, List.forall_mem_cons.mpr ⟨m_ok_138, fun _ h => absurd h List.not_mem_nil⟩⟩⟩⟩⟩⟩⟩⟩⟩⟩⟩
theorem m_gok_7 : ∀ q ∈ m_g_7, q.2.all (fun c => c.all (m_ck1 q.1)) = true := List.forall_mem_cons.mpr ⟨m_ok_140, List.forall_mem_cons.mpr ⟨m_ok_146, List.forall_mem_cons.mpr ⟨m_ok_148, List.forall_mem_cons.mpr ⟨m_ok_150, List.forall_mem_cons.mpr ⟨m_ok_153, List.forall_mem_cons.mpr ⟨m_ok_154, List.forall_mem_cons.mpr ⟨m_ok_156, List.forall_mem_cons.mpr ⟨m_ok_158, fun _ h => absurd h List.not_mem_nil⟩⟩⟩⟩⟩⟩⟩⟩
theorem m_gok_8 : ∀ q ∈ m_g_8, q.2.all (fun c => c.all (m_ck1 q.1)) = true := List.forall_mem_cons.mpr ⟨m_ok_160, List.forall_mem_cons.mpr ⟨m_ok_162, List.forall_mem_cons.mpr ⟨m_ok_169, List.forall_mem_cons.mpr ⟨m_ok_170, List.forall_mem_cons.mpr ⟨m_ok_174, List.forall_mem_cons.mpr ⟨m_ok_176, fun _ h => absurd h List.not_mem_nil⟩⟩⟩⟩⟩⟩
theorem m_gok_9 : ∀ q ∈ m_g_9, q.2.all (fun c => c.all (m_ck1 q.1)) = true := List.forall_mem_cons.mpr ⟨m_ok_180, List.forall_mem_cons.mpr ⟨m_ok_182, List.forall_mem_cons.mpr ⟨m_ok_184, List.forall_mem_cons.mpr ⟨m_ok_186, List.forall_mem_cons.mpr ⟨m_ok_187, List.forall_mem_cons.mpr ⟨m_ok_188, List.forall_mem_cons.mpr ⟨m_ok_192, List.forall_mem_cons.mpr ⟨m_ok_194, List.forall_mem_cons.mpr ⟨m_ok_195, List.forall_mem_cons.mpr ⟨m_ok_196, List.forall_mem_cons.mpr ⟨m_ok_197, List.forall_mem_cons.mpr ⟨m_ok_198, List.forall_mem_cons.mpr ⟨m_ok_199, fun _ h => absurd h List.not_mem_nil⟩⟩⟩⟩⟩⟩⟩⟩⟩⟩⟩⟩⟩
theorem m_gok_10 : ∀ q ∈ m_g_10, q.2.all (fun c => c.all (m_ck1 q.1)) = true := List.forall_mem_cons.mpr ⟨m_ok_200, List.forall_mem_cons.mpr ⟨m_ok_201, List.forall_mem_cons.mpr ⟨m_ok_202, List.forall_mem_cons.mpr ⟨m_ok_205, List.forall_mem_cons.mpr ⟨m_ok_209, List.forall_mem_cons.mpr ⟨m_ok_210, List.forall_mem_cons.mpr ⟨m_ok_211, List.forall_mem_cons.mpr ⟨m_ok_212, List.forall_mem_cons.mpr ⟨m_ok_213, List.forall_mem_cons.mpr ⟨m_ok_215, List.forall_mem_cons.mpr ⟨m_ok_216, List.forall_mem_cons.mpr ⟨m_ok_217, List.forall_mem_cons.mpr ⟨m_ok_218, List.forall_mem_cons.mpr ⟨m_ok_219, fun _ h => absurd h List.not_mem_nil⟩⟩⟩⟩⟩⟩⟩⟩⟩⟩⟩⟩⟩⟩
theorem m_gok_11 : ∀ q ∈ m_g_11, q.2.all (fun c => c.all (m_ck1 q.1)) = true := List.forall_mem_cons.mpr ⟨m_ok_220, List.forall_mem_cons.mpr ⟨m_ok_221, List.forall_mem_cons.mpr ⟨m_ok_222, List.forall_mem_cons.mpr ⟨m_ok_223, List.forall_mem_cons.mpr ⟨m_ok_224, List.forall_mem_cons.mpr ⟨m_ok_225, List.forall_mem_cons.mpr ⟨m_ok_226, fun _ h => absurd h List.not_mem_nil⟩⟩⟩⟩⟩⟩⟩
theorem m_gok_12 : ∀ q ∈ m_g_12, q.2.all (fun c => c.all (m_ck1 q.1)) = true := List.forall_mem_cons.mpr ⟨m_ok_241, List.forall_mem_cons.mpr ⟨m_ok_242, List.forall_mem_cons.mpr ⟨m_ok_243, List.forall_mem_cons.mpr ⟨m_ok_244, List.forall_mem_cons.mpr ⟨m_ok_245, List.forall_mem_cons.mpr ⟨m_ok_246, List.forall_mem_cons.mpr ⟨m_ok_247, List.forall_mem_cons.mpr ⟨m_ok_249, List.forall_mem_cons.mpr ⟨m_ok_250, List.forall_mem_cons.mpr ⟨m_ok_251, List.forall_mem_cons.mpr ⟨m_ok_252, List.forall_mem_cons.mpr ⟨m_ok_256, fun _ h => absurd h List.not_mem_nil⟩⟩⟩⟩⟩⟩⟩⟩⟩⟩⟩⟩
theorem m_gok_13 : ∀ q ∈ m_g_13, q.2.all (fun c => c.all (m_ck1 q.1)) = true := List.forall_mem_cons.mpr ⟨m_ok_266, List.forall_mem_cons.mpr ⟨m_ok_269, List.forall_mem_cons.mpr ⟨m_ok_270, List.forall_mem_cons.mpr ⟨m_ok_271, List.forall_mem_cons.mpr ⟨m_ok_272, List.forall_mem_cons.mpr ⟨m_ok_273, List.forall_mem_cons.mpr ⟨m_ok_275, List.forall_mem_cons.mpr ⟨m_ok_276, List.forall_mem_cons.mpr ⟨m_ok_277, List.forall_mem_cons.mpr ⟨m_ok_278, List.forall_mem_cons.mpr ⟨m_ok_279, fun _ h => absurd h List.not_mem_nil⟩⟩⟩⟩⟩⟩⟩⟩⟩⟩⟩
theorem m_gok_14 : ∀ q ∈ m_g_14, q.2.all (fun c => c.all (m_ck1 q.1)) = true := List.forall_mem_cons.mpr ⟨m_ok_280, List.forall_mem_cons.mpr ⟨m_ok_282, List.forall_mem_cons.mpr ⟨m_ok_283, List.forall_mem_cons.mpr ⟨m_ok_285, List.forall_mem_cons.mpr ⟨m_ok_286, List.forall_mem_cons.mpr ⟨m_ok_287, List.forall_mem_cons.mpr ⟨m_ok_290, List.forall_mem_cons.mpr ⟨m_ok_291, List.forall_mem_cons.mpr ⟨m_ok_292, List.forall_mem_cons.mpr ⟨m_ok_293, List.forall_mem_cons.mpr ⟨m_ok_296, List.forall_mem_cons.mpr ⟨m_ok_297, List.forall_mem_cons.mpr ⟨m_ok_299, fun _ h => absurd h List.not_mem_nil⟩⟩⟩⟩⟩⟩⟩⟩⟩⟩⟩⟩⟩
theorem m_gok_15 : ∀ q ∈ m_g_15, q.2.all (fun c => c.all (m_ck1 q.1)) = true := List.forall_mem_cons.mpr ⟨m_ok_300, List.forall_mem_cons.mpr ⟨m_ok_301, List.forall_mem_cons.mpr ⟨m_ok_302, List.forall_mem_cons.mpr ⟨m_ok_303, List.forall_mem_cons.mpr ⟨m_ok_304, List.forall_mem_cons.mpr ⟨m_ok_305, List.forall_mem_cons.mpr ⟨m_ok_306, List.forall_mem_cons.mpr ⟨m_ok_308, List.forall_mem_cons.mpr ⟨m_ok_309, List.forall_mem_cons.mpr ⟨m_ok_310, List.forall_mem_cons.mpr ⟨m_ok_311, List.forall_mem_cons.mpr ⟨m_ok_312, List.forall_mem_cons.mpr ⟨m_ok_313, List.forall_mem_cons.mpr ⟨m_ok_316, List.forall_mem_cons.mpr ⟨m_ok_318, fun _ h => absurd h List.not_mem_nil⟩⟩⟩⟩⟩⟩⟩⟩⟩⟩⟩⟩⟩⟩⟩
theorem m_gok_16 : ∀ q ∈ m_g_16, q.2.all (fun c => c.all (m_ck1 q.1)) = true := List.forall_mem_cons.mpr ⟨m_ok_322, List.forall_mem_cons.mpr ⟨m_ok_323, List.forall_mem_cons.mpr ⟨m_ok_324, List.forall_mem_cons.mpr ⟨m_ok_325, List.forall_mem_cons.mpr ⟨m_ok_326, List.forall_mem_cons.mpr ⟨m_ok_328, List.forall_mem_cons.mpr ⟨m_ok_329, List.forall_mem_cons.mpr ⟨m_ok_330, List.forall_mem_cons.mpr ⟨m_ok_331, List.forall_mem_cons.mpr ⟨m_ok_332, List.forall_mem_cons.mpr ⟨m_ok_338, List.forall_mem_cons.mpr ⟨m_ok_339, fun _ h => absurd h List.not_mem_nil⟩⟩⟩⟩⟩⟩⟩⟩⟩⟩⟩⟩
theorem m_gok_17 : ∀ q ∈ m_g_17, q.2.all (fun c => c.all (m_ck1 q.1)) = true := List.forall_mem_cons.mpr ⟨m_ok_340, List.forall_mem_cons.mpr ⟨m_ok_341, List.forall_mem_cons.mpr ⟨m_ok_342, List.forall_mem_cons.mpr ⟨m_ok_344, List.forall_mem_cons.mpr ⟨m_ok_345, List.forall_mem_cons.mpr ⟨m_ok_346, List.forall_mem_cons.mpr ⟨m_ok_348, List.forall_mem_cons.mpr ⟨m_ok_353, List.forall_mem_cons.mpr ⟨m_ok_354, List.forall_mem_cons.mpr ⟨m_ok_356, List.forall_mem_cons.mpr ⟨m_ok_357, fun _ h => absurd h List.not_mem_nil⟩⟩⟩⟩⟩⟩⟩⟩⟩⟩⟩
theorem m_gok_18 : ∀ q ∈ m_g_18, q.2.all (fun c => c.all (m_ck1 q.1)) = true := List.forall_mem_cons.mpr ⟨m_ok_360, List.forall_mem_cons.mpr ⟨m_ok_361, List.forall_mem_cons.mpr ⟨m_ok_362, List.forall_mem_cons.mpr ⟨m_ok_364, List.forall_mem_cons.mpr ⟨m_ok_365, List.forall_mem_cons.mpr ⟨m_ok_367, List.forall_mem_cons.mpr ⟨m_ok_368, List.forall_mem_cons.mpr ⟨m_ok_369, List.forall_mem_cons.mpr ⟨m_ok_370, List.forall_mem_cons.mpr ⟨m_ok_371, List.forall_mem_cons.mpr ⟨m_ok_372, List.forall_mem_cons.mpr ⟨m_ok_373, fun _ h => absurd h List.not_mem_nil⟩⟩⟩⟩⟩⟩⟩⟩⟩⟩⟩⟩
theorem m_tbok : ∀ g ∈ m_tb, ∀ q ∈ g, q.2.all (fun c => c.all (m_ck1 q.1)) = true := List.forall_mem_cons.mpr ⟨m_gok_0, List.forall_mem_cons.mpr ⟨m_gok_1, List.forall_mem_cons.mpr ⟨m_gok_2, List.forall_mem_cons.mpr ⟨m_gok_3, List.forall_mem_cons.mpr ⟨m_gok_4, List.forall_mem_cons.mpr ⟨m_gok_5, List.forall_mem_cons.mpr ⟨m_gok_6, List.forall_mem_cons.mpr ⟨m_gok_7, List.forall_mem_cons.mpr ⟨m_gok_8, List.forall_mem_cons.mpr ⟨m_gok_9, List.forall_mem_cons.mpr ⟨m_gok_10, List.forall_mem_cons.mpr ⟨m_gok_11, List.forall_mem_cons.mpr ⟨m_gok_12, List.forall_mem_cons.mpr ⟨m_gok_13, List.forall_mem_cons.mpr ⟨m_gok_14, List.forall_mem_cons.mpr ⟨m_gok_15, List.forall_mem_cons.mpr ⟨m_gok_16, List.forall_mem_cons.mpr ⟨m_gok_17, List.forall_mem_cons.mpr ⟨m_gok_18, fun _ h => absurd h List.not_mem_nil⟩⟩⟩⟩⟩⟩⟩⟩⟩⟩⟩⟩⟩⟩⟩⟩⟩⟩⟩
theorem m_lkp {α : Type} : ∀ {l : List (Nat × α)} {k : Nat} {a : α}, l.lookup k = some a → (k, a) ∈ l
  | (k', a') :: l, k, a, h => by
    rw [List.lookup_cons] at h
    by_cases hk : (k == k') = true
    · rw [hk] at h
      cases h
      rw [beq_iff_eq.mp hk]
      exact List.mem_cons_self
    · simp only [Bool.not_eq_true] at hk
      rw [hk] at h
      exact List.mem_cons_of_mem _ (m_lkp h)
theorem m_fe_in {t : m_T} {pc : Nat} {q : m_I × Nat} (h : m_fe t pc = some q) : ∃ c ∈ t, (pc, q) ∈ c := by
  unfold m_fe at h
  split at h
  · rename_i c hc
    exact ⟨c, List.mem_of_getElem? hc, m_lkp h⟩
  · cases h
theorem m_ck_in {t : m_T} {k pc : Nat} {q : m_I × Nat} (ht : t.all (fun c => c.all (m_ck1 k)) = true) (h : m_fe t pc = some q) : m_ck1 k (pc, q) = true := by
  obtain ⟨c, h1, h2⟩ := m_fe_in h
  exact List.all_eq_true.mp (List.all_eq_true.mp ht c h1) _ h2
theorem m_okL : m_tL.all (fun c => c.all (m_ck1 1000)) = true := by
  have h : ∀ c ∈ m_tL, c.all (m_ck1 1000) = true := by
    intro c hc
    have e : m_tL = [m_tL_0, m_tL_1, m_tL_2, m_tL_3, m_tL_4, m_tL_5, m_tL_6, m_tL_7] ++ ([m_tL_8, m_tL_9, m_tL_10, m_tL_11, m_tL_12, m_tL_13, m_tL_14, m_tL_15] ++ ([m_tL_16, m_tL_17, m_tL_18, m_tL_19, m_tL_20, m_tL_21, m_tL_22, m_tL_23] ++ ([m_tL_24, m_tL_25, m_tL_26, m_tL_27, m_tL_28, m_tL_29, m_tL_30, m_tL_31] ++ ([m_tL_32, m_tL_33, m_tL_34, m_tL_35, m_tL_36, m_tL_37, m_tL_38, m_tL_39] ++ ([m_tL_40, m_tL_41, m_tL_42, m_tL_43, m_tL_44, m_tL_45, m_tL_46, m_tL_47] ++ ([m_tL_48, m_tL_49, m_tL_50, m_tL_51, m_tL_52, m_tL_53, m_tL_54, m_tL_55] ++ ([m_tL_56, m_tL_57, m_tL_58, m_tL_59, m_tL_60, m_tL_61, m_tL_62, m_tL_63] ++ ([m_tL_64, m_tL_65, m_tL_66, m_tL_67, m_tL_68, m_tL_69, m_tL_70, m_tL_71] ++ ([m_tL_72, m_tL_73, m_tL_74, m_tL_75, m_tL_76, m_tL_77, m_tL_78, m_tL_79] ++ ([m_tL_80, m_tL_81, m_tL_82, m_tL_83, m_tL_84, m_tL_85, m_tL_86, m_tL_87] ++ ([m_tL_88, m_tL_89, m_tL_90, m_tL_91, m_tL_92, m_tL_93, m_tL_94, m_tL_95] ++ ([m_tL_96, m_tL_97, m_tL_98, m_tL_99, m_tL_100, m_tL_101, m_tL_102, m_tL_103] ++ ([m_tL_104, m_tL_105, m_tL_106, m_tL_107, m_tL_108, m_tL_109, m_tL_110, m_tL_111] ++ ([m_tL_112, m_tL_113, m_tL_114, m_tL_115, m_tL_116, m_tL_117, m_tL_118, m_tL_119] ++ ([m_tL_120, m_tL_121, m_tL_122, m_tL_123, m_tL_124, m_tL_125, m_tL_126, m_tL_127] ++ ([m_tL_128, m_tL_129, m_tL_130, m_tL_131, m_tL_132, m_tL_133, m_tL_134, m_tL_135] ++ ([m_tL_136, m_tL_137, m_tL_138, m_tL_139, m_tL_140, m_tL_141, m_tL_142, m_tL_143] ++ ([m_tL_144, m_tL_145, m_tL_146, m_tL_147, m_tL_148, m_tL_149, m_tL_150, m_tL_151] ++ ([m_tL_152, m_tL_153]))))))))))))))))))) := rfl
    rw [e] at hc
    rcases List.mem_append.mp hc with hc | hc
    · exact List.all_eq_true.mp m_okL_0 c hc
    rcases List.mem_append.mp hc with hc | hc
    · exact List.all_eq_true.mp m_okL_1 c hc
    rcases List.mem_append.mp hc with hc | hc
    · exact List.all_eq_true.mp m_okL_2 c hc
    rcases List.mem_append.mp hc with hc | hc
    · exact List.all_eq_true.mp m_okL_3 c hc
    rcases List.mem_append.mp hc with hc | hc
    · exact List.all_eq_true.mp m_okL_4 c hc
    rcases List.mem_append.mp hc with hc | hc
    · exact List.all_eq_true.mp m_okL_5 c hc
    rcases List.mem_append.mp hc with hc | hc
    · exact List.all_eq_true.mp m_okL_6 c hc
    rcases List.mem_append.mp hc with hc | hc
    · exact List.all_eq_true.mp m_okL_7 c hc
    rcases List.mem_append.mp hc with hc | hc
    · exact List.all_eq_true.mp m_okL_8 c hc
    rcases List.mem_append.mp hc with hc | hc
    · exact List.all_eq_true.mp m_okL_9 c hc
    rcases List.mem_append.mp hc with hc | hc
    · exact List.all_eq_true.mp m_okL_10 c hc
    rcases List.mem_append.mp hc with hc | hc
    · exact List.all_eq_true.mp m_okL_11 c hc
    rcases List.mem_append.mp hc with hc | hc
    · exact List.all_eq_true.mp m_okL_12 c hc
    rcases List.mem_append.mp hc with hc | hc
    · exact List.all_eq_true.mp m_okL_13 c hc
    rcases List.mem_append.mp hc with hc | hc
    · exact List.all_eq_true.mp m_okL_14 c hc
    rcases List.mem_append.mp hc with hc | hc
    · exact List.all_eq_true.mp m_okL_15 c hc
    rcases List.mem_append.mp hc with hc | hc
    · exact List.all_eq_true.mp m_okL_16 c hc
    rcases List.mem_append.mp hc with hc | hc
    · exact List.all_eq_true.mp m_okL_17 c hc
    rcases List.mem_append.mp hc with hc | hc
    · exact List.all_eq_true.mp m_okL_18 c hc
    exact List.all_eq_true.mp m_okL_19 c hc
  exact List.all_eq_true.mpr h
theorem m_F_ok : m_FOk m_F := by
  have key : ∀ (k pc : Nat) (I : m_I) (len : Nat), m_ck1 k (pc, (I, len)) = true → ∃ (y : MethodName) (b : ByteArray) (n : Nat) (r : Option FieldType) (ins : Instr), m_me k = some (y, b, n, r) ∧ decode b pc = .ok (ins, len) ∧ m_tri y n r pc ins len = some I := by
    intro k pc I len h
    unfold m_ck1 at h
    split at h
    · rename_i y b n r hme
      split at h
      · rename_i ins len' hd
        simp only [Bool.and_eq_true, decide_eq_true_eq] at h
        obtain ⟨rfl, h2⟩ := h
        exact ⟨y, b, n, r, ins, hme, hd, h2⟩
      · cases h
    · cases h
  intro mid pc I len h
  unfold m_F at h
  split at h
  · rename_i hm
    subst hm
    exact key _ _ _ _ (m_ck_in m_okL h)
  · split at h
    · rename_i g hg
      split at h
      · rename_i t ht
        exact key _ _ _ _ (m_ck_in (m_tbok g (List.mem_of_getElem? hg) (mid, t) (m_lkp ht)) h)
      · cases h
    · cases h
end
section
def a_eqE (x y : a_E) : Bool := match x, y with
  | .inl (t, n, .inl u), .inl (t', n', .inl u') => decide (t = t') && decide (n = n') && decide (u = u')
  | .inl (t, n, .inr vs), .inl (t', n', .inr vs') => decide (t = t') && decide (n = n') && decide (vs = vs')
  | .inr (k, fs), .inr (k', fs') => decide (k = k') && decide (fs = fs')
  | _, _ => false
theorem a_eqE_ok {x y : a_E} (h : a_eqE x y = true) : x = y := by
  unfold a_eqE at h
  split at h
  · simp only [Bool.and_eq_true, decide_eq_true_eq] at h
    rw [h.1.1, h.1.2, h.2]
  · simp only [Bool.and_eq_true, decide_eq_true_eq] at h
    rw [h.1.1, h.1.2, h.2]
  · simp only [Bool.and_eq_true, decide_eq_true_eq] at h
    rw [h.1, h.2]
  · cases h
def t_W : List a_E := [.inr (9, [(2, 1, 0), (2, 13, 0), (2, 23, 0), (2, 40, 0), (2, 42, 0), (2, 77, 0), (2, 80, 0), (2, 73, 0), (2, 82, 0), (0, 0, 0)]), .inr (5, [(2, 2, 0), (0, 0, 0), (0, 0, 0), (0, (-1), (-1)), (2, 3, 0), (0, 0, 0), (0, 0, 0), (0, 0, 0), (0, 0, 0)]), .inl (1, 700, .inl (0, 0, 0)), .inr (1, [(0, 0, 0), (0, 0, 0), (0, 0, 0), (0, 0, 0), (0, 0, 0), (0, 0, 0), (0, 0, 0), (0, 0, 0), (2, 4, 0), (2, 5, 0), (2, 6, 0), (2, 7, 0), (2, 8, 0), (2, 9, 0), (2, 10, 0), (2, 11, 0), (2, 12, 0)]), .inl (0, 7, .inl (0, 0, 0)), .inl (0, 28, .inl (0, 0, 0)), .inl (0, 7, .inl (0, 0, 0)), .inl (0, 8, .inl (0, 0, 0)), .inl (0, 8, .inl (0, 0, 0)), .inl (0, 8, .inl (0, 0, 0)), .inl (0, 20, .inl (0, 0, 0)), .inl (0, 20, .inl (0, 0, 0)), .inl (0, 20, .inl (0, 0, 0)), .inr (1, [(0, 0, 0), (0, 0, 0), (0, 0, 0), (0, 0, 0), (0, 0, 0), (0, 0, 0), (0, 0, 0), (0, 0, 0), (2, 14, 0), (2, 15, 0), (2, 16, 0), (2, 17, 0), (2, 18, 0), (2, 19, 0), (2, 20, 0), (2, 21, 0), (2, 22, 0)]), .inl (0, 7, .inl (0, 0, 0)), .inl (0, 28, .inl (0, 0, 0)), .inl (0, 7, .inl (0, 0, 0)), .inl (0, 8, .inl (0, 0, 0)), .inl (0, 8, .inl (0, 0, 0)), .inl (0, 8, .inl (0, 0, 0)), .inl (0, 20, .inl (0, 0, 0)), .inl (0, 20, .inl (0, 0, 0)), .inl (0, 20, .inl (0, 0, 0)), .inr (2, [(2, 13, 0), (0, 0, 0), (2, 24, 0), (2, 25, 0), (2, 26, 0), (2, 27, 0), (0, 0, 0), (2, 28, 0), (2, 29, 0), (2, 30, 0), (2, 31, 0), (2, 32, 0), (2, 33, 0), (2, 34, 0), (2, 35, 0), (2, 36, 0), (2, 37, 0), (2, 38, 0), (2, 39, 0)]), .inl (0, 28, .inl (0, 0, 0)), .inl (0, 28, .inl (0, 0, 0)), .inl (0, 28, .inl (0, 0, 0)), .inl (0, 14, .inl (0, 0, 0)), .inl (0, 28, .inl (0, 0, 0)), .inl (0, 28, .inl (0, 0, 0)), .inl (0, 28, .inl (0, 0, 0)), .inl (0, 28, .inl (0, 0, 0)), .inl (0, 84, .inl (0, 0, 0)), .inl (0, 8, .inl (0, 0, 0)), .inl (0, 8, .inl (0, 0, 0)), .inl (0, 8, .inl (0, 0, 0)), .inl (0, 7, .inl (0, 0, 0)), .inl (0, 7, .inl (0, 0, 0)), .inl (0, 105, .inl (0, 0, 0)), .inl (0, 105, .inl (0, 0, 0)), .inr (4, [(2, 13, 0), (2, 41, 0)]), .inl (0, 3, .inl (0, 0, 0)), .inr (8, [(2, 13, 0), (2, 43, 0), (2, 53, 0), (2, 70, 0), (2, 71, 0), (2, 72, 0)]), .inr (1, [(0, 0, 0), (0, 0, 0), (0, 0, 0), (0, 0, 0), (0, 0, 0), (0, 0, 0), (0, 0, 0), (0, 0, 0), (2, 44, 0), (2, 45, 0), (2, 46, 0), (2, 47, 0), (2, 48, 0), (2, 49, 0), (2, 50, 0), (2, 51, 0), (2, 52, 0)]), .inl (0, 7, .inl (0, 0, 0)), .inl (0, 28, .inl (0, 0, 0)), .inl (0, 7, .inl (0, 0, 0)), .inl (0, 8, .inl (0, 0, 0)), .inl (0, 8, .inl (0, 0, 0)), .inl (0, 8, .inl (0, 0, 0)), .inl (0, 20, .inl (0, 0, 0)), .inl (0, 20, .inl (0, 0, 0)), .inl (0, 20, .inl (0, 0, 0)), .inr (2, [(2, 43, 0), (0, 0, 0), (2, 54, 0), (2, 55, 0), (2, 56, 0), (2, 57, 0), (0, 0, 0), (2, 58, 0), (2, 59, 0), (2, 60, 0), (2, 61, 0), (2, 62, 0), (2, 63, 0), (2, 64, 0), (2, 65, 0), (2, 66, 0), (2, 67, 0), (2, 68, 0), (2, 69, 0)]), .inl (0, 28, .inl (0, 0, 0)), .inl (0, 28, .inl (0, 0, 0)), .inl (0, 28, .inl (0, 0, 0)), .inl (0, 14, .inl (0, 0, 0)), .inl (0, 28, .inl (0, 0, 0)), .inl (0, 28, .inl (0, 0, 0)), .inl (0, 28, .inl (0, 0, 0)), .inl (0, 28, .inl (0, 0, 0)), .inl (0, 84, .inl (0, 0, 0)), .inl (0, 8, .inl (0, 0, 0)), .inl (0, 8, .inl (0, 0, 0)), .inl (0, 8, .inl (0, 0, 0)), .inl (0, 7, .inl (0, 0, 0)), .inl (0, 7, .inl (0, 0, 0)), .inl (0, 105, .inl (0, 0, 0)), .inl (0, 105, .inl (0, 0, 0)), .inr (3, [(1, 0, 0), (1, 1, 1)]), .inl (0, 4, .inl (0, 0, 0)), .inl (0, 4, .inl (0, 0, 0)), .inr (6, [(2, 74, 0), (2, 75, 0), (2, 76, 0)]), .inl (3, 240, .inl (1, 0, 0)), .inl (0, 4, .inl (0, 0, 0)), .inl (0, 4, .inr [(0, (-1), (-1)), (0, (-1), (-1)), (0, (-1), (-1)), (0, (-1), (-1))]), .inr (7, [(2, 42, 0), (2, 73, 0), (0, 0, 0), (2, 78, 0), (2, 79, 0)]), .inl (0, 41, .inl (0, 0, 0)), .inl (0, 328, .inl (0, 0, 0)), .inr (0, [(2, 42, 0), (2, 81, 0)]), .inr (3, [(1, 0, 0), (1, 1, 1)]), .inl (4, 3, .inr [(2, 83, 0), (2, 93, 0), (2, 103, 0)]), .inr (1, [(0, 0, 0), (0, 0, 0), (0, 0, 0), (0, 0, 0), (0, 0, 0), (0, 0, 0), (0, 0, 0), (0, 0, 0), (2, 84, 0), (2, 85, 0), (2, 86, 0), (2, 87, 0), (2, 88, 0), (2, 89, 0), (2, 90, 0), (2, 91, 0), (2, 92, 0)]), .inl (0, 7, .inl (0, 0, 0)), .inl (0, 28, .inl (0, 0, 0)), .inl (0, 7, .inl (0, 0, 0)), .inl (0, 8, .inl (0, 0, 0)), .inl (0, 8, .inl (0, 0, 0)), .inl (0, 8, .inl (0, 0, 0)), .inl (0, 20, .inl (0, 0, 0)), .inl (0, 20, .inl (0, 0, 0)), .inl (0, 20, .inl (0, 0, 0)), .inr (1, [(0, 0, 0), (0, 0, 0), (0, 0, 0), (0, 0, 0), (0, 0, 0), (0, 0, 0), (0, 0, 0), (0, 0, 0), (2, 94, 0), (2, 95, 0), (2, 96, 0), (2, 97, 0), (2, 98, 0), (2, 99, 0), (2, 100, 0), (2, 101, 0), (2, 102, 0)]), .inl (0, 7, .inl (0, 0, 0)), .inl (0, 28, .inl (0, 0, 0)), .inl (0, 7, .inl (0, 0, 0)), .inl (0, 8, .inl (0, 0, 0)), .inl (0, 8, .inl (0, 0, 0)), .inl (0, 8, .inl (0, 0, 0)), .inl (0, 20, .inl (0, 0, 0)), .inl (0, 20, .inl (0, 0, 0)), .inl (0, 20, .inl (0, 0, 0)), .inr (1, [(0, 0, 0), (0, 0, 0), (0, 0, 0), (0, 0, 0), (0, 0, 0), (0, 0, 0), (0, 0, 0), (0, 0, 0), (2, 104, 0), (2, 105, 0), (2, 106, 0), (2, 107, 0), (2, 108, 0), (2, 109, 0), (2, 110, 0), (2, 111, 0), (2, 112, 0)]), .inl (0, 7, .inl (0, 0, 0)), .inl (0, 28, .inl (0, 0, 0)), .inl (0, 7, .inl (0, 0, 0)), .inl (0, 8, .inl (0, 0, 0)), .inl (0, 8, .inl (0, 0, 0)), .inl (0, 8, .inl (0, 0, 0)), .inl (0, 20, .inl (0, 0, 0)), .inl (0, 20, .inl (0, 0, 0)), .inl (0, 20, .inl (0, 0, 0)), .inr (10, [(0, 0, 0), (2, 114, 0), (2, 115, 0), (2, 116, 0), (2, 117, 0), (2, 118, 0), (0, 0, 0), (0, 0, 0), (0, 0, 0), (0, 0, 0), (0, 0, 0), (1, 0, 0), (0, 0, 0), (0, 0, 0), (0, 0, 0), (0, (-1), (-1)), (2, 119, 0), (2, 120, 0), (2, 121, 0), (2, 122, 0), (2, 123, 0), (2, 124, 0), (2, 125, 0), (0, 0, 0), (0, 0, 0), (0, 0, 0), (2, 126, 0), (2, 127, 0), (2, 128, 0), (2, 129, 0), (0, 0, 0), (2, 130, 0), (2, 131, 0), (2, 132, 0), (2, 133, 0), (2, 134, 0), (2, 135, 0), (2, 136, 0), (2, 137, 0), (0, 0, 0), (0, 0, 0), (1, 0, 0), (2, 138, 0)]), .inl (0, 4, .inr [(0, (-1), (-1)), (0, (-1), (-1)), (0, (-1), (-1)), (0, (-1), (-1))]), .inl (0, 4, .inl (0, 0, 0)), .inl (3, 240, .inl (1, 0, 0)), .inl (3, 60, .inl (1, 0, 0)), .inl (1, 700, .inl (0, 0, 0)), .inl (0, 5, .inl (0, 0, 0)), .inl (0, 35, .inl (0, 0, 0)), .inl (0, 175, .inl (0, 0, 0)), .inl (0, 80, .inl (0, 0, 0)), .inl (0, 120, .inl (0, 0, 0)), .inl (0, 300, .inl (0, 0, 0)), .inl (2, 3, .inl (0, 0, 0)), .inl (0, 7, .inl (0, 0, 0)), .inl (0, 8, .inl (0, 0, 0)), .inl (0, 8, .inl (0, 0, 0)), .inl (0, 8, .inl (0, 0, 0)), .inl (0, 196, .inl (0, 0, 0)), .inl (0, 105, .inl (0, 0, 0)), .inl (0, 105, .inl (0, 0, 0)), .inl (0, 7, .inl (0, 0, 0)), .inl (0, 7, .inl (0, 0, 0)), .inl (0, 8, .inl (0, 0, 0)), .inl (0, 8, .inl (0, 0, 0)), .inl (0, 3, .inl (0, 0, 0)), .inl (0, 328, .inl (0, 0, 0))]
def t_Z : a_Z := [(6, 6, [(0, -2147483648, 2147483647), (4, 0, 0), (4, 1, 0), (4, 2, 0), (4, 3, 0), (4, 4, 0)])]
def t_N : a_N := [(-2147483648, 2147483647), (-2147483648, 2147483647), (-2147483648, 2147483647), (-2147483648, 2147483647), (-2147483648, 2147483647)]
def t_lv : a_L := [(3, (0, 0, 0)), (2, (2, 113, 0)), (1, (2, 0, 0)), (0, (2, 1000000, 0))]
def t_at (pc : Nat) : a_Q := (t_N, [(1000, pc, t_lv, [])], (139, []))
def t_r (lo hi : Int) (pc : Nat) : a_Q := ([(-2147483648, 2147483647), (-2147483648, 2147483647), (lo, hi), (-2147483648, 2147483647), (-2147483648, 2147483647)], [(1000, pc, t_lv, [])], (139, []))
def t_S : a_Q := (t_N, [(1000, 0, [(0, (2, 1000000, 0))], [])], (0, []))
def t_tg : List Nat := [364, 427, 450, 463, 486, 519, 542, 575, 598, 621, 654, 677, 700, 723, 746, 759, 792, 825, 848, 871, 894, 917, 950, 973, 1006, 1029, 1042, 1055, 1068, 1091, 1114, 1127, 1140, 1163, 1186, 1209, 1232, 1255, 1268, 1281, 1304, 1327, 1340, 1373, 1396, 1419, 1442, 1465, 1488, 1511, 1534, 1557, 1570, 1603, 1636, 1669, 1702, 1735, 1758, 1781, 1794, 1817, 1850, 1883, 1936, 1979, 2003, 2036, 2069, 2082, 2095, 2128, 2171, 2204, 2227, 2250, 2273, 2316, 2389]
def t_G (Q : a_Q) : Bool := match Q.2.1 with
  | [(m, pc, lv, [])] => Nat.beq m 1000 && t_tg.contains pc && decide (lv = t_lv) && decide (Q.1 = t_N) && Nat.beq Q.2.2.1 139 && (List.range 139).all (fun k => match a_at [] Q.2.2 k, t_W[k]? with
    | some x, some y => a_eqE x y
    | _, _ => false)
  | _ => false
end
section
set_option maxRecDepth 1000000 in
theorem t_o1 : a_ok m_F t_Z t_W a_noG a_one 40000 (t_at 427) = true := by decide +kernel
set_option maxRecDepth 1000000 in
theorem t_o3 : a_ok m_F t_Z t_W a_noG a_one 40000 (t_at 463) = true := by decide +kernel
set_option maxRecDepth 1000000 in
theorem t_o4 : a_ok m_F t_Z t_W a_noG a_one 40000 (t_at 486) = true := by decide +kernel
set_option maxRecDepth 1000000 in
theorem t_o5 : a_ok m_F t_Z t_W a_noG a_one 40000 (t_at 519) = true := by decide +kernel
set_option maxRecDepth 1000000 in
theorem t_o6 : a_ok m_F t_Z t_W a_noG a_one 40000 (t_at 542) = true := by decide +kernel
set_option maxRecDepth 1000000 in
theorem t_o7 : a_ok m_F t_Z t_W a_noG a_one 40000 (t_at 575) = true := by decide +kernel
set_option maxRecDepth 1000000 in
theorem t_o8 : a_ok m_F t_Z t_W a_noG a_one 40000 (t_at 598) = true := by decide +kernel
set_option maxRecDepth 1000000 in
theorem t_o9 : a_ok m_F t_Z t_W a_noG a_one 40000 (t_at 621) = true := by decide +kernel
set_option maxRecDepth 1000000 in
theorem t_o10 : a_ok m_F t_Z t_W a_noG a_one 40000 (t_at 654) = true := by decide +kernel
set_option maxRecDepth 1000000 in
theorem t_o11 : a_ok m_F t_Z t_W a_noG a_one 40000 (t_at 677) = true := by decide +kernel
set_option maxRecDepth 1000000 in
theorem t_o12 : a_ok m_F t_Z t_W a_noG a_one 40000 (t_at 700) = true := by decide +kernel
set_option maxRecDepth 1000000 in
theorem t_o13 : a_ok m_F t_Z t_W a_noG a_one 40000 (t_at 723) = true := by decide +kernel
set_option maxRecDepth 1000000 in
theorem t_o14 : a_ok m_F t_Z t_W a_noG a_one 40000 (t_at 746) = true := by decide +kernel
set_option maxRecDepth 1000000 in
theorem t_o15 : a_ok m_F t_Z t_W a_noG a_one 40000 (t_at 759) = true := by decide +kernel
set_option maxRecDepth 1000000 in
theorem t_o16 : a_ok m_F t_Z t_W a_noG a_one 40000 (t_at 792) = true := by decide +kernel
set_option maxRecDepth 1000000 in
theorem t_o17 : a_ok m_F t_Z t_W a_noG a_one 40000 (t_at 825) = true := by decide +kernel
set_option maxRecDepth 1000000 in
theorem t_o18 : a_ok m_F t_Z t_W a_noG a_one 40000 (t_at 848) = true := by decide +kernel
set_option maxRecDepth 1000000 in
theorem t_o19 : a_ok m_F t_Z t_W a_noG a_one 40000 (t_at 871) = true := by decide +kernel
set_option maxRecDepth 1000000 in
theorem t_o20 : a_ok m_F t_Z t_W a_noG a_one 40000 (t_at 894) = true := by decide +kernel
set_option maxRecDepth 1000000 in
theorem t_o21 : a_ok m_F t_Z t_W a_noG a_one 40000 (t_at 917) = true := by decide +kernel
set_option maxRecDepth 1000000 in
theorem t_o22 : a_ok m_F t_Z t_W a_noG a_one 40000 (t_at 950) = true := by decide +kernel
set_option maxRecDepth 1000000 in
theorem t_o23 : a_ok m_F t_Z t_W a_noG a_one 40000 (t_at 973) = true := by decide +kernel
set_option maxRecDepth 1000000 in
theorem t_o24 : a_ok m_F t_Z t_W a_noG a_one 40000 (t_at 1006) = true := by decide +kernel
set_option maxRecDepth 1000000 in
theorem t_o25 : a_ok m_F t_Z t_W a_noG a_one 40000 (t_at 1029) = true := by decide +kernel
set_option maxRecDepth 1000000 in
theorem t_o26 : a_ok m_F t_Z t_W a_noG a_one 40000 (t_at 1042) = true := by decide +kernel
set_option maxRecDepth 1000000 in
theorem t_o27 : a_ok m_F t_Z t_W a_noG a_one 40000 (t_at 1055) = true := by decide +kernel
set_option maxRecDepth 1000000 in
theorem t_o28 : a_ok m_F t_Z t_W a_noG a_one 40000 (t_at 1068) = true := by decide +kernel
set_option maxRecDepth 1000000 in
theorem t_o29 : a_ok m_F t_Z t_W a_noG a_one 40000 (t_at 1091) = true := by decide +kernel
set_option maxRecDepth 1000000 in
theorem t_o30 : a_ok m_F t_Z t_W a_noG a_one 40000 (t_at 1114) = true := by decide +kernel
set_option maxRecDepth 1000000 in
theorem t_o31 : a_ok m_F t_Z t_W a_noG a_one 40000 (t_at 1127) = true := by decide +kernel
set_option maxRecDepth 1000000 in
theorem t_o32 : a_ok m_F t_Z t_W a_noG a_one 40000 (t_at 1140) = true := by decide +kernel
set_option maxRecDepth 1000000 in
theorem t_o33 : a_ok m_F t_Z t_W a_noG a_one 40000 (t_at 1163) = true := by decide +kernel
set_option maxRecDepth 1000000 in
theorem t_o34 : a_ok m_F t_Z t_W a_noG a_one 40000 (t_at 1186) = true := by decide +kernel
set_option maxRecDepth 1000000 in
theorem t_o35 : a_ok m_F t_Z t_W a_noG a_one 40000 (t_at 1209) = true := by decide +kernel
set_option maxRecDepth 1000000 in
theorem t_o36 : a_ok m_F t_Z t_W a_noG a_one 40000 (t_at 1232) = true := by decide +kernel
set_option maxRecDepth 1000000 in
theorem t_o37 : a_ok m_F t_Z t_W a_noG a_one 40000 (t_at 1255) = true := by decide +kernel
set_option maxRecDepth 1000000 in
theorem t_o38 : a_ok m_F t_Z t_W a_noG a_one 40000 (t_at 1268) = true := by decide +kernel
set_option maxRecDepth 1000000 in
theorem t_o39 : a_ok m_F t_Z t_W a_noG a_one 40000 (t_at 1281) = true := by decide +kernel
set_option maxRecDepth 1000000 in
theorem t_o40 : a_ok m_F t_Z t_W a_noG a_one 40000 (t_at 1304) = true := by decide +kernel
set_option maxRecDepth 1000000 in
theorem t_o41 : a_ok m_F t_Z t_W a_noG a_one 40000 (t_at 1327) = true := by decide +kernel
end
section
set_option maxRecDepth 1000000 in
theorem t_o42 : a_ok m_F t_Z t_W a_noG a_one 40000 (t_at 1340) = true := by decide +kernel
set_option maxRecDepth 1000000 in
theorem t_o43 : a_ok m_F t_Z t_W a_noG a_one 40000 (t_at 1373) = true := by decide +kernel
set_option maxRecDepth 1000000 in
theorem t_o44 : a_ok m_F t_Z t_W a_noG a_one 40000 (t_at 1396) = true := by decide +kernel
set_option maxRecDepth 1000000 in
theorem t_o45 : a_ok m_F t_Z t_W a_noG a_one 40000 (t_at 1419) = true := by decide +kernel
set_option maxRecDepth 1000000 in
theorem t_o46 : a_ok m_F t_Z t_W a_noG a_one 40000 (t_at 1442) = true := by decide +kernel
set_option maxRecDepth 1000000 in
theorem t_o47 : a_ok m_F t_Z t_W a_noG a_one 40000 (t_at 1465) = true := by decide +kernel
set_option maxRecDepth 1000000 in
theorem t_o48 : a_ok m_F t_Z t_W a_noG a_one 40000 (t_at 1488) = true := by decide +kernel
set_option maxRecDepth 1000000 in
theorem t_o49 : a_ok m_F t_Z t_W a_noG a_one 40000 (t_at 1511) = true := by decide +kernel
set_option maxRecDepth 1000000 in
theorem t_o50 : a_ok m_F t_Z t_W a_noG a_one 40000 (t_at 1534) = true := by decide +kernel
set_option maxRecDepth 1000000 in
theorem t_o51 : a_ok m_F t_Z t_W a_noG a_one 40000 (t_at 1557) = true := by decide +kernel
set_option maxRecDepth 1000000 in
theorem t_o52 : a_ok m_F t_Z t_W a_noG a_one 40000 (t_at 1570) = true := by decide +kernel
set_option maxRecDepth 1000000 in
theorem t_o53 : a_ok m_F t_Z t_W a_noG a_one 40000 (t_at 1603) = true := by decide +kernel
set_option maxRecDepth 1000000 in
theorem t_o54 : a_ok m_F t_Z t_W a_noG a_one 40000 (t_at 1636) = true := by decide +kernel
set_option maxRecDepth 1000000 in
theorem t_o55 : a_ok m_F t_Z t_W a_noG a_one 40000 (t_at 1669) = true := by decide +kernel
set_option maxRecDepth 1000000 in
theorem t_o56 : a_ok m_F t_Z t_W a_noG a_one 40000 (t_at 1702) = true := by decide +kernel
set_option maxRecDepth 1000000 in
theorem t_o57 : a_ok m_F t_Z t_W a_noG a_one 40000 (t_at 1735) = true := by decide +kernel
set_option maxRecDepth 1000000 in
theorem t_o58 : a_ok m_F t_Z t_W a_noG a_one 40000 (t_at 1758) = true := by decide +kernel
set_option maxRecDepth 1000000 in
theorem t_o59 : a_ok m_F t_Z t_W a_noG a_one 40000 (t_at 1781) = true := by decide +kernel
set_option maxRecDepth 1000000 in
theorem t_o60 : a_ok m_F t_Z t_W a_noG a_one 40000 (t_at 1794) = true := by decide +kernel
set_option maxRecDepth 1000000 in
theorem t_o61 : a_ok m_F t_Z t_W a_noG a_one 40000 (t_at 1817) = true := by decide +kernel
set_option maxRecDepth 1000000 in
theorem t_o62 : a_ok m_F t_Z t_W a_noG a_one 40000 (t_at 1850) = true := by decide +kernel
set_option maxRecDepth 1000000 in
theorem t_o63 : a_ok m_F t_Z t_W a_noG a_one 40000 (t_at 1883) = true := by decide +kernel
set_option maxRecDepth 1000000 in
theorem t_o64 : a_ok m_F t_Z t_W a_noG a_one 40000 (t_at 1936) = true := by decide +kernel
set_option maxRecDepth 1000000 in
theorem t_o65 : a_ok m_F t_Z t_W a_noG a_one 40000 (t_at 1979) = true := by decide +kernel
set_option maxRecDepth 1000000 in
theorem t_o66 : a_ok m_F t_Z t_W a_noG a_one 40000 (t_at 2003) = true := by decide +kernel
set_option maxRecDepth 1000000 in
theorem t_o67 : a_ok m_F t_Z t_W a_noG a_one 40000 (t_at 2036) = true := by decide +kernel
set_option maxRecDepth 1000000 in
theorem t_o68 : a_ok m_F t_Z t_W a_noG a_one 40000 (t_at 2069) = true := by decide +kernel
set_option maxRecDepth 1000000 in
theorem t_o69 : a_ok m_F t_Z t_W a_noG a_one 40000 (t_at 2082) = true := by decide +kernel
set_option maxRecDepth 1000000 in
theorem t_o70 : a_ok m_F t_Z t_W a_noG a_one 40000 (t_at 2095) = true := by decide +kernel
set_option maxRecDepth 1000000 in
theorem t_o71 : a_ok m_F t_Z t_W a_noG a_one 40000 (t_at 2128) = true := by decide +kernel
set_option maxRecDepth 1000000 in
theorem t_o72 : a_ok m_F t_Z t_W a_noG a_one 40000 (t_at 2171) = true := by decide +kernel
set_option maxRecDepth 1000000 in
theorem t_o73 : a_ok m_F t_Z t_W a_noG a_one 40000 (t_at 2204) = true := by decide +kernel
set_option maxRecDepth 1000000 in
theorem t_o77 : a_ok m_F t_Z t_W a_noG a_one 40000 (t_at 2316) = true := by decide +kernel
set_option maxRecDepth 1000000 in
theorem t_o78 : a_ok m_F t_Z t_W a_noG a_one 40000 (t_at 2389) = true := by decide +kernel
end
section
set_option maxRecDepth 1000000 in
theorem t_o0 : a_ok m_F t_Z t_W a_noG a_one 40000 (t_at 364) = true := by decide +kernel
set_option maxRecDepth 1000000 in
theorem t_o2 : a_ok m_F t_Z t_W a_noG a_one 40000 (t_at 450) = true := by decide +kernel
set_option maxRecDepth 1000000 in
theorem t_o74 : a_ok m_F t_Z t_W a_noG a_one 40000 (t_at 2227) = true := by decide +kernel
set_option maxRecDepth 1000000 in
theorem t_o75 : a_ok m_F t_Z t_W a_noG a_one 40000 (t_at 2250) = true := by decide +kernel
end
section
set_option maxRecDepth 1000000 in
theorem t_r0 : a_ok m_F t_Z t_W a_noG a_one 40000 (t_r (-2147483648) (-1) 2273) = true := by decide +kernel
set_option maxRecDepth 1000000 in
theorem t_r1 : a_ok m_F t_Z t_W a_noG a_one 40000 (t_r 61 2147483647 2273) = true := by decide +kernel
set_option maxRecDepth 1000000 in
theorem t_r2 : a_ok m_F t_Z t_W a_noG a_one 40000 (t_r 0 4 2273) = true := by decide +kernel
set_option maxRecDepth 1000000 in
theorem t_r3 : a_ok m_F t_Z t_W a_noG a_one 40000 (t_r 5 9 2273) = true := by decide +kernel
set_option maxRecDepth 1000000 in
theorem t_r4 : a_ok m_F t_Z t_W a_noG a_one 40000 (t_r 10 14 2273) = true := by decide +kernel
end
section
set_option maxRecDepth 1000000 in
theorem t_r5 : a_ok m_F t_Z t_W a_noG a_one 40000 (t_r 15 19 2273) = true := by decide +kernel
set_option maxRecDepth 1000000 in
theorem t_r6 : a_ok m_F t_Z t_W a_noG a_one 40000 (t_r 20 24 2273) = true := by decide +kernel
set_option maxRecDepth 1000000 in
theorem t_r7 : a_ok m_F t_Z t_W a_noG a_one 40000 (t_r 25 29 2273) = true := by decide +kernel
set_option maxRecDepth 1000000 in
theorem t_r8 : a_ok m_F t_Z t_W a_noG a_one 40000 (t_r 30 34 2273) = true := by decide +kernel
set_option maxRecDepth 1000000 in
theorem t_r9 : a_ok m_F t_Z t_W a_noG a_one 40000 (t_r 35 39 2273) = true := by decide +kernel
end
section
set_option maxRecDepth 1000000 in
theorem t_r10 : a_ok m_F t_Z t_W a_noG a_one 40000 (t_r 40 44 2273) = true := by decide +kernel
set_option maxRecDepth 1000000 in
theorem t_r11 : a_ok m_F t_Z t_W a_noG a_one 40000 (t_r 45 49 2273) = true := by decide +kernel
set_option maxRecDepth 1000000 in
theorem t_r12 : a_ok m_F t_Z t_W a_noG a_one 40000 (t_r 50 54 2273) = true := by decide +kernel
set_option maxRecDepth 1000000 in
theorem t_r13 : a_ok m_F t_Z t_W a_noG a_one 40000 (t_r 55 59 2273) = true := by decide +kernel
set_option maxRecDepth 1000000 in
theorem t_r14 : a_ok m_F t_Z t_W a_noG a_one 40000 (t_r 60 60 2273) = true := by decide +kernel
end
section
set_option maxRecDepth 1000000 in
theorem t_e5 : a_ok m_F [(0, 5, [])] [] a_noG a_one 2000 (t_S) = true := by decide +kernel
set_option maxRecDepth 1000000 in
theorem t_e6 : a_ok m_F t_Z [] t_G a_one 3000 (t_S) = true := by decide +kernel
end
section
section A70
theorem t_row : a_Good m_F t_Z t_W a_P1ok (t_at 2273) := by
  intro ρ fz fs σ hz hQ
  have h2 := hQ.1 2 (-2147483648, 2147483647) rfl
  dsimp only at h2
  have key : ∀ lo hi : Int, lo ≤ ρ 2 → ρ 2 ≤ hi → a_Good m_F t_Z t_W a_P1ok (t_r lo hi 2273) → ∃ n o, m_go m_F fz n fs σ = some o ∧ a_P1ok o.1 o.2 := by
    intro lo hi h3 h4 hg
    refine hg ρ fz fs σ hz ⟨fun i q hq => ?_, hQ.2.1, hQ.2.2⟩
    have h5 := hQ.1
    match i, hq with
    | 0, hq => exact h5 0 q hq
    | 1, hq => exact h5 1 q hq
    | 2, hq => cases hq; exact ⟨h3, h4⟩
    | 3, hq => exact h5 3 q hq
    | 4, hq => exact h5 4 q hq
    | _ + 5, hq => cases hq
  by_cases c0 : ρ 2 ≤ (-1)
  · exact key (-2147483648) (-1) (by omega) (by omega) (a_ok_good (fun _ h => by cases h) a_one_ok _ _ t_r0)
  by_cases c1 : 61 ≤ ρ 2
  · exact key 61 2147483647 (by omega) (by omega) (a_ok_good (fun _ h => by cases h) a_one_ok _ _ t_r1)
  by_cases c2 : ρ 2 ≤ 4
  · exact key 0 4 (by omega) (by omega) (a_ok_good (fun _ h => by cases h) a_one_ok _ _ t_r2)
  by_cases c3 : ρ 2 ≤ 9
  · exact key 5 9 (by omega) (by omega) (a_ok_good (fun _ h => by cases h) a_one_ok _ _ t_r3)
  by_cases c4 : ρ 2 ≤ 14
  · exact key 10 14 (by omega) (by omega) (a_ok_good (fun _ h => by cases h) a_one_ok _ _ t_r4)
  by_cases c5 : ρ 2 ≤ 19
  · exact key 15 19 (by omega) (by omega) (a_ok_good (fun _ h => by cases h) a_one_ok _ _ t_r5)
  by_cases c6 : ρ 2 ≤ 24
  · exact key 20 24 (by omega) (by omega) (a_ok_good (fun _ h => by cases h) a_one_ok _ _ t_r6)
  by_cases c7 : ρ 2 ≤ 29
  · exact key 25 29 (by omega) (by omega) (a_ok_good (fun _ h => by cases h) a_one_ok _ _ t_r7)
  by_cases c8 : ρ 2 ≤ 34
  · exact key 30 34 (by omega) (by omega) (a_ok_good (fun _ h => by cases h) a_one_ok _ _ t_r8)
  by_cases c9 : ρ 2 ≤ 39
  · exact key 35 39 (by omega) (by omega) (a_ok_good (fun _ h => by cases h) a_one_ok _ _ t_r9)
  by_cases c10 : ρ 2 ≤ 44
  · exact key 40 44 (by omega) (by omega) (a_ok_good (fun _ h => by cases h) a_one_ok _ _ t_r10)
  by_cases c11 : ρ 2 ≤ 49
  · exact key 45 49 (by omega) (by omega) (a_ok_good (fun _ h => by cases h) a_one_ok _ _ t_r11)
  by_cases c12 : ρ 2 ≤ 54
  · exact key 50 54 (by omega) (by omega) (a_ok_good (fun _ h => by cases h) a_one_ok _ _ t_r12)
  by_cases c13 : ρ 2 ≤ 59
  · exact key 55 59 (by omega) (by omega) (a_ok_good (fun _ h => by cases h) a_one_ok _ _ t_r13)
  exact key 60 60 (by omega) (by omega) (a_ok_good (fun _ h => by cases h) a_one_ok _ _ t_r14)
set_option maxRecDepth 100000 in
theorem t_all : ∀ pc ∈ t_tg, a_Good m_F t_Z t_W a_P1ok (t_at pc) := List.forall_mem_cons.mpr ⟨a_ok_good (fun _ h => by cases h) a_one_ok _ _ t_o0, List.forall_mem_cons.mpr ⟨a_ok_good (fun _ h => by cases h) a_one_ok _ _ t_o1, List.forall_mem_cons.mpr ⟨a_ok_good (fun _ h => by cases h) a_one_ok _ _ t_o2, List.forall_mem_cons.mpr ⟨a_ok_good (fun _ h => by cases h) a_one_ok _ _ t_o3, List.forall_mem_cons.mpr ⟨a_ok_good (fun _ h => by cases h) a_one_ok _ _ t_o4, List.forall_mem_cons.mpr ⟨a_ok_good (fun _ h => by cases h) a_one_ok _ _ t_o5, List.forall_mem_cons.mpr ⟨a_ok_good (fun _ h => by cases h) a_one_ok _ _ t_o6, List.forall_mem_cons.mpr ⟨a_ok_good (fun _ h => by cases h) a_one_ok _ _ t_o7, List.forall_mem_cons.mpr ⟨a_ok_good (fun _ h => by cases h) a_one_ok _ _ t_o8, List.forall_mem_cons.mpr ⟨a_ok_good (fun _ h => by cases h) a_one_ok _ _ t_o9, List.forall_mem_cons.mpr ⟨a_ok_good (fun _ h => by cases h) a_one_ok _ _ t_o10, List.forall_mem_cons.mpr ⟨a_ok_good (fun _ h => by cases h) a_one_ok _ _ t_o11, List.forall_mem_cons.mpr ⟨a_ok_good (fun _ h => by cases h) a_one_ok _ _ t_o12, List.forall_mem_cons.mpr ⟨a_ok_good (fun _ h => by cases h) a_one_ok _ _ t_o13, List.forall_mem_cons.mpr ⟨a_ok_good (fun _ h => by cases h) a_one_ok _ _ t_o14, List.forall_mem_cons.mpr ⟨a_ok_good (fun _ h => by cases h) a_one_ok _ _ t_o15, List.forall_mem_cons.mpr ⟨a_ok_good (fun _ h => by cases h) a_one_ok _ _ t_o16, List.forall_mem_cons.mpr ⟨a_ok_good (fun _ h => by cases h) a_one_ok _ _ t_o17, List.forall_mem_cons.mpr ⟨a_ok_good (fun _ h => by cases h) a_one_ok _ _ t_o18, List.forall_mem_cons.mpr ⟨a_ok_good (fun _ h => by cases h) a_one_ok _ _ t_o19, List.forall_mem_cons.mpr ⟨a_ok_good (fun _ h => by cases h) a_one_ok _ _ t_o20, List.forall_mem_cons.mpr ⟨a_ok_good (fun _ h => by cases h) a_one_ok _ _ t_o21, List.forall_mem_cons.mpr ⟨a_ok_good (fun _ h => by cases h) a_one_ok _ _ t_o22, List.forall_mem_cons.mpr ⟨a_ok_good (fun _ h => by cases h) a_one_ok _ _ t_o23, List.forall_mem_cons.mpr ⟨a_ok_good (fun _ h => by cases h) a_one_ok _ _ t_o24, List.forall_mem_cons.mpr ⟨a_ok_good (fun _ h => by cases h) a_one_ok _ _ t_o25, List.forall_mem_cons.mpr ⟨a_ok_good (fun _ h => by cases h) a_one_ok _ _ t_o26, List.forall_mem_cons.mpr ⟨a_ok_good (fun _ h => by cases h) a_one_ok _ _ t_o27, List.forall_mem_cons.mpr ⟨a_ok_good (fun _ h => by cases h) a_one_ok _ _ t_o28, List.forall_mem_cons.mpr ⟨a_ok_good (fun _ h => by cases h) a_one_ok _ _ t_o29, List.forall_mem_cons.mpr ⟨a_ok_good (fun _ h => by cases h) a_one_ok _ _ t_o30, List.forall_mem_cons.mpr ⟨a_ok_good (fun _ h => by cases h) a_one_ok _ _ t_o31, List.forall_mem_cons.mpr ⟨a_ok_good (fun _ h => by cases h) a_one_ok _ _ t_o32, List.forall_mem_cons.mpr ⟨a_ok_good (fun _ h => by cases h) a_one_ok _ _ t_o33, List.forall_mem_cons.mpr ⟨a_ok_good (fun _ h => by cases h) a_one_ok _ _ t_o34, List.forall_mem_cons.mpr ⟨a_ok_good (fun _ h => by cases h) a_one_ok _ _ t_o35, List.forall_mem_cons.mpr ⟨a_ok_good (fun _ h => by cases h) a_one_ok _ _ t_o36, List.forall_mem_cons.mpr ⟨a_ok_good (fun _ h => by cases h) a_one_ok _ _ t_o37, List.forall_mem_cons.mpr ⟨a_ok_good (fun _ h => by cases h) a_one_ok _ _ t_o38, List.forall_mem_cons.mpr ⟨a_ok_good (fun _ h => by cases h) a_one_ok _ _ t_o39, List.forall_mem_cons.mpr ⟨a_ok_good (fun _ h => by cases h) a_one_ok _ _ t_o40, List.forall_mem_cons.mpr ⟨a_ok_good (fun _ h => by cases h) a_one_ok _ _ t_o41, List.forall_mem_cons.mpr ⟨a_ok_good (fun _ h => by cases h) a_one_ok _ _ t_o42, List.forall_mem_cons.mpr ⟨a_ok_good (fun _ h => by cases h) a_one_ok _ _ t_o43, List.forall_mem_cons.mpr ⟨a_ok_good (fun _ h => by cases h) a_one_ok _ _ t_o44, List.forall_mem_cons.mpr ⟨a_ok_good (fun _ h => by cases h) a_one_ok _ _ t_o45, List.forall_mem_cons.mpr ⟨a_ok_good (fun _ h => by cases h) a_one_ok _ _ t_o46, List.forall_mem_cons.mpr ⟨a_ok_good (fun _ h => by cases h) a_one_ok _ _ t_o47, List.forall_mem_cons.mpr ⟨a_ok_good (fun _ h => by cases h) a_one_ok _ _ t_o48, List.forall_mem_cons.mpr ⟨a_ok_good (fun _ h => by cases h) a_one_ok _ _ t_o49, List.forall_mem_cons.mpr ⟨a_ok_good (fun _ h => by cases h) a_one_ok _ _ t_o50, List.forall_mem_cons.mpr ⟨a_ok_good (fun _ h => by cases h) a_one_ok _ _ t_o51, List.forall_mem_cons.mpr ⟨a_ok_good (fun _ h => by cases h) a_one_ok _ _ t_o52, List.forall_mem_cons.mpr ⟨a_ok_good (fun _ h => by cases h) a_one_ok _ _ t_o53, List.forall_mem_cons.mpr ⟨a_ok_good (fun _ h => by cases h) a_one_ok _ _ t_o54, List.forall_mem_cons.mpr ⟨a_ok_good (fun _ h => by cases h) a_one_ok _ _ t_o55, List.forall_mem_cons.mpr ⟨a_ok_good (fun _ h => by cases h) a_one_ok _ _ t_o56, List.forall_mem_cons.mpr ⟨a_ok_good (fun _ h => by cases h) a_one_ok _ _ t_o57, List.forall_mem_cons.mpr ⟨a_ok_good (fun _ h => by cases h) a_one_ok _ _ t_o58, List.forall_mem_cons.mpr ⟨a_ok_good (fun _ h => by cases h) a_one_ok _ _ t_o59, List.forall_mem_cons.mpr ⟨a_ok_good (fun _ h => by cases h) a_one_ok _ _ t_o60, List.forall_mem_cons.mpr ⟨a_ok_good (fun _ h => by cases h) a_one_ok _ _ t_o61, List.forall_mem_cons.mpr ⟨a_ok_good (fun _ h => by cases h) a_one_ok _ _ t_o62, List.forall_mem_cons.mpr ⟨a_ok_good (fun _ h => by cases h) a_one_ok _ _ t_o63, List.forall_mem_cons.mpr ⟨a_ok_good (fun _ h => by cases h) a_one_ok _ _ t_o64, List.forall_mem_cons.mpr ⟨a_ok_good (fun _ h => by cases h) a_one_ok _ _ t_o65, List.forall_mem_cons.mpr ⟨a_ok_good (fun _ h => by cases h) a_one_ok _ _ t_o66, List.forall_mem_cons.mpr ⟨a_ok_good (fun _ h => by cases h) a_one_ok _ _ t_o67, List.forall_mem_cons.mpr ⟨a_ok_good (fun _ h => by cases h) a_one_ok _ _ t_o68, List.forall_mem_cons.mpr ⟨a_ok_good (fun _ h => by cases h) a_one_ok _ _ t_o69, List.forall_mem_cons.mpr ⟨a_ok_good (fun _ h => by cases h) a_one_ok _ _ t_o70, List.forall_mem_cons.mpr ⟨a_ok_good (fun _ h => by cases h) a_one_ok _ _ t_o71, List.forall_mem_cons.mpr ⟨a_ok_good (fun _ h => by cases h) a_one_ok _ _ t_o72, List.forall_mem_cons.mpr ⟨a_ok_good (fun _ h => by cases h) a_one_ok _ _ t_o73, List.forall_mem_cons.mpr ⟨a_ok_good (fun _ h => by cases h) a_one_ok _ _ t_o74, List.forall_mem_cons.mpr ⟨a_ok_good (fun _ h => by cases h) a_one_ok _ _ t_o75, List.forall_mem_cons.mpr ⟨t_row, List.forall_mem_cons.mpr ⟨a_ok_good (fun _ h => by cases h) a_one_ok _ _ t_o77, List.forall_mem_cons.mpr ⟨a_ok_good (fun _ h => by cases h) a_one_ok _ _ t_o78, fun _ h => absurd h List.not_mem_nil⟩⟩⟩⟩⟩⟩⟩⟩⟩⟩⟩⟩⟩⟩⟩⟩⟩⟩⟩⟩⟩⟩⟩⟩⟩⟩⟩⟩⟩⟩⟩⟩⟩⟩⟩⟩⟩⟩⟩⟩⟩⟩⟩⟩⟩⟩⟩⟩⟩⟩⟩⟩⟩⟩⟩⟩⟩⟩⟩⟩⟩⟩⟩⟩⟩⟩⟩⟩⟩⟩⟩⟩⟩⟩⟩⟩⟩⟩⟩
theorem t_G_ok (Q : a_Q) (h : t_G Q = true) : a_Good m_F t_Z [] a_P1ok Q := by
  obtain ⟨N, fs, S⟩ := Q
  unfold t_G at h
  dsimp only at h
  split at h
  · rename_i m pc lv
    simp only [Bool.and_eq_true, decide_eq_true_eq] at h
    obtain ⟨⟨⟨⟨⟨h1, h2⟩, h3⟩, h4⟩, h5⟩, h6⟩ := h
    have e1 := Nat.eq_of_beq_eq_true h1
    have e5 := Nat.eq_of_beq_eq_true h5
    subst e1
    subst h3
    subst h4
    have hm : pc ∈ t_tg := List.contains_iff_mem.mp h2
    refine a_rebase (t_all pc hm) e5.symm (fun k x hk => ?_)
    have hk2 : t_W[k]? = some x := hk
    have hlt : k < 139 := by
      have h9 := (List.getElem?_eq_some_iff.mp hk2).1
      have h8 : t_W.length = 139 := by decide +kernel
      omega
    have h7 := List.all_eq_true.mp h6 k (List.mem_range.mpr hlt)
    rw [hk2] at h7
    split at h7
    · rename_i x' y' e1 e2
      cases e2
      rw [e1, a_eqE_ok h7]
    · cases h7
  · cases h
theorem t_six : a_Good m_F t_Z [] a_P1ok t_S := a_ok_good t_G_ok a_one_ok _ _ t_e6
theorem t_five : a_Good m_F [(0, 5, [])] [] a_P1ok t_S := a_ok_good (fun _ h => by cases h) a_one_ok _ _ t_e5
theorem t_run (xs : List Int32) (h : xs.length ≤ 6) : ∃ k σ', m_exec m_F [xs] k 60 1000 0 [(0, .ref m_fzb)] [] [] = some (some (.int 1), σ') ∧ σ'.length ≤ 3000 := by
  have fin : (∃ n o, m_go m_F [xs] n [(1000, 0, [(0, .ref m_fzb)], [])] [] = some o ∧ a_P1ok o.1 o.2) → ∃ k σ', m_exec m_F [xs] k 60 1000 0 [(0, .ref m_fzb)] [] [] = some (some (.int 1), σ') ∧ σ'.length ≤ 3000 := by
    rintro ⟨n, o, h1, h2, h3⟩
    obtain ⟨k, r, σ1, h4, h5⟩ := m_go_exec n n (Nat.le_refl _) 1000 0 [(0, .ref m_fzb)] [] [] [] o h1 (by decide)
    dsimp only at h5
    subst h5
    dsimp only at h2 h3
    subst h2
    exact ⟨k, σ1, h4, h3⟩
  have hfr : ∀ ρ : Nat → Int, a_all2 (a_gf ρ) [(1000, 0, [(0, (2, 1000000, 0))], [])] [(1000, 0, [(0, .ref m_fzb)], [])] := fun ρ => ⟨⟨rfl, rfl, ⟨⟨rfl, rfl⟩, trivial⟩, trivial⟩, trivial⟩
  have hst : ∀ ρ : Nat → Int, a_gS ρ [] (0, []) [] := fun ρ => ⟨rfl, fun k x hk => by cases hk⟩
  have hgn : ∀ ρ : Nat → Int, (∀ i, -2147483648 ≤ ρ i ∧ ρ i ≤ 2147483647) → a_gN t_N ρ := fun ρ hρ i q hq => by
    have h9 := List.mem_of_getElem? hq
    simp only [t_N, List.mem_cons, List.not_mem_nil, or_false, or_self] at h9
    rw [h9]
    exact hρ i
  by_cases h6 : xs.length = 6
  · refine fin (t_six (fun i => (xs.getD (i + 1) 0).toInt) [xs] _ [] ⟨⟨by dsimp only; omega, by dsimp only; omega, fun i v hi hv => ?_⟩, trivial⟩ ⟨hgn _ (fun i => a_i32 _), hfr _, hst _⟩)
    have hl : i < xs.length := by dsimp only at hi; omega
    refine ⟨xs.getD i 0, a_getD hl, ?_⟩
    match i, hi, hv with
    | 0, _, hv => cases hv; exact a_i32 _
    | 1, _, hv => cases hv; rfl
    | 2, _, hv => cases hv; rfl
    | 3, _, hv => cases hv; rfl
    | 4, _, hv => cases hv; rfl
    | 5, _, hv => cases hv; rfl
    | k + 6, hi, _ => dsimp only at hi; omega
  · exact fin (t_five (fun _ => 0) [xs] _ [] ⟨⟨Nat.zero_le _, by dsimp only; omega, fun i v hi _ => by dsimp only at hi; omega⟩, trivial⟩ ⟨hgn _ (fun i => by decide), hfr _, hst _⟩)
end A70
end
section
/-! THE CLAIM OUT OF ONE WALK OF THE LAW'S BODY. Your part is whole_start (and what it stands on); all else here is the same for every law, but numbers. -/
def R_law : String := "MotherBenchLaw"
def lw_P (b : Addr) (xs : List Int32) (args : Array Value) (s : State) : Prop := args = #[.ref b] ∧ s.IntsAt b xs ∧ xs.length ≤ 6 ∧ (Jvm.Cond.and given_1 narrow_1).before args s = true
def lw_Q (_ : Array Value) (s : State) (o : Outcome) (t : State) : Prop := o = .returned (some (.int 1)) ∧ Framed s o t [] 600000 7302250
def lw_Z (below : List Frame) (a : Array Value) (s : State) : State → Prop := fun t => ∃ o, t.status = .running ∧ Ended t below o ∧ lw_Q a s o t
/-- the law's own end, with 1 on the stack, nothing written that was there before, its room as the claim has it -/
theorem lw_ret {p : Program} {l : Launch} {e : Env} {s : State} {m : MethodId} {below : List Frame} {meth : Method} {c : Code} {b : Nat} (hx : p.tables.exec = Jvm.exec) (hb : c.code = code) (hr : meth.sig.returnType = ret) (hlocks : meth.locks = false) {pc : Nat} {H : Heap} {ls : Array Slot} (hdg : decode code pc = .ok (.ireturn, 1)) : W p l e room_1 s m #[Value.ref b] below meth c H [] 600000 7302250 (lw_Z below #[Value.ref b] s) (F0 m pc ls [.int 1]) := by
  intro T hT X
  obtain ⟨fs, hret, hrun, hended, hW, hframe⟩ := X.leave (v := some (.int 1)) (hlocks := hlocks) (fun h => by rw [hr] at h; cases h)
  have hmeth' : T.vm.method? m = some meth := X.method'
  refine ⟨T.setFrames fs, ?_, .returned (some (.int 1)), hrun, hended, rfl, ⟨_, rfl⟩, hW, hframe⟩
  jvm_step X.here [X.here.top, hx, hb, hdg, hmeth', hr, ret, narrow_b1]
  (try refine ⟨rfl, ?_⟩); (try refine ⟨rfl, ?_⟩)
  first | (intro acts; rw [hret _ acts rfl rfl rfl]) | rw [hret _ _ rfl rfl rfl]
  exact Steps.refl _
/-- what holds at the law's entry: the machine, the code, the tables' words (any of lw_tbl by 'hts w (by decide +kernel)'), the script of L ints xs at the cell b, what the Statement gives of the start (any of its parts by flat_of_before) -/
def lw_At (p : Program) (s : State) (m : MethodId) (meth : Method) (c : Code) (b L : Nat) (xs : Nat → Int32) : Prop :=
  p.tables.exec = Jvm.exec ∧ c.code = code ∧ meth.sig.returnType = ret ∧ c.maxLocals = 4 ∧ s.vm.findClass R_law = some m.cls ∧ (∀ w ∈ lw_tbl, w.before #[Value.ref b] s = true) ∧ va_X b L xs s s.heap ∧ b < s.heap.size ∧ meth.locks = false ∧ (Jvm.Cond.and given_1 narrow_1).before #[Value.ref b] s = true
theorem m_step_big {fz : List (List Int32)} {I : m_I} {nx pc' : Nat} {lv lv' : m_V} {st st' : List Value} {σ σ' : m_S} (hb : ∀ z ∈ σ, m_es z ≤ 2000) (hs : m_step fz I nx lv st σ = some (.inl (pc', lv', st', σ'))) : ∀ z ∈ σ', m_es z ≤ 2000 := by
  have set1 : ∀ {b : Nat} {x x0 : m_E}, σ[b]? = some x0 → m_es x = m_es x0 → ∀ z ∈ σ.set b x, m_es z ≤ 2000 := by
    intro b x x0 h1 h2 z hz
    rcases List.mem_or_eq_of_mem_set hz with h | h
    · exact hb z h
    · rw [h, h2]
      exact hb _ (List.mem_of_getElem? h1)
  have app1 : ∀ {x : m_E}, m_es x ≤ 2000 → ∀ z ∈ σ ++ [x], m_es z ≤ 2000 := by
    intro x h1 z hz
    rcases List.mem_append.mp hz with h | h
    · exact hb z h
    · rw [List.mem_singleton.mp h]
      exact h1
  obtain ⟨op, a, v, q⟩ := I
  match op, hs with
  | 0, hs => cases hs; exact hb
  | 1, hs => cases hs; exact hb
  | 2, hs => obtain ⟨_, _, _, h⟩ := m_d2 hs; cases h; exact hb
  | 3, hs => obtain ⟨_, _, _, _, h⟩ := m_d3 hs; cases h; exact hb
  | 4, hs => obtain ⟨_, _, h⟩ := m_d4 hs; cases h; exact hb
  | 5, hs => obtain ⟨_, _, _, _, _, _, h⟩ := m_d5 hs; cases h; exact hb
  | 6, hs => obtain ⟨_, _, _, _, _, _, h⟩ := m_d6 hs; cases h; exact hb
  | 7, hs => obtain ⟨_, _, _, _, _, h⟩ := m_d7 hs; cases h; exact hb
  | 8, hs => obtain ⟨_, _, _, _, h⟩ := m_d8 hs; cases h; exact hb
  | 9, hs => obtain ⟨_, _, h⟩ := m_d9 hs; cases h; exact hb
  | 10, hs => cases hs; exact hb
  | 11, hs => obtain ⟨_, _, _, h⟩ := m_d11 hs; cases h; exact hb
  | 12, hs => obtain ⟨_, _, _, _, h⟩ := m_d12 hs; cases h; exact hb
  | 13, hs => obtain ⟨_, _, _, h⟩ := m_d13 hs; cases h; exact hb
  | 14, hs => obtain ⟨_, _, _, h⟩ := m_d14 hs; cases h; exact hb
  | 15, hs => obtain ⟨_, _, _, _, _, _, _, h⟩ := m_d15 hs; cases h; exact hb
  | 16, hs => obtain ⟨_, _, _, _, _, h1, _, _, h⟩ := m_d16 hs; cases h; exact set1 h1 (by simp [m_es])
  | 17, hs => cases hs
  | 18, hs => obtain ⟨_, _, _, _, _, _, h⟩ := m_d18 hs; cases h; exact hb
  | 19, hs =>
    obtain ⟨_, _, _, _, _, _, h1, h⟩ := m_d19 hs
    cases h
    unfold m_ast at h1
    repeat' split at h1
    all_goals first | (cases h1; done) | (cases h1; exact set1 (by assumption) (by simp [m_es]))
  | 20, hs => obtain ⟨_, _, _, _, _, h⟩ := m_d20 hs; cases h; exact hb
  | 21, hs =>
    obtain ⟨_, h⟩ := m_d21 hs
    cases h
    refine app1 ?_
    have e : m_nf a ≤ 2000 := by
      unfold m_nf
      split <;> decide
    simpa [m_es, m_def] using e
  | 22, hs =>
    obtain ⟨x, _, z, _, _, h0, h1, h2, h⟩ := m_d22 hs
    cases h
    refine app1 ?_
    have hx := m_toNC h0 h1
    unfold m_new at h2
    split at h2
    all_goals first | (cases h2; done) | (cases h2; simpa [m_es] using hx)
  | 23, hs => cases hs
  | 24, hs =>
    simp only [m_step] at hs
    repeat' split at hs
    all_goals first | (cases hs; done) | (simp at hs; done)
  | 25, hs => obtain ⟨_, _, _, _, h⟩ := m_d25 hs; cases h; exact hb
  | 26, hs =>
    obtain ⟨_, _, _, _, _, _, _, _, _, _, _, _, h1, h⟩ := m_d26 hs
    cases h
    unfold m_acp at h1
    repeat' split at h1
    all_goals first | (cases h1; done) | (cases h1; exact set1 (by assumption) (by simp [m_es, m_cpy_len]))
  | 27, hs =>
    simp only [m_step] at hs
    repeat' split at hs
    all_goals first | (cases hs; done) | (simp at hs; done)
  | 28, hs => obtain ⟨_, _, _, _, _, _, h⟩ := m_d28 hs; cases h; exact hb
  | _ + 29, hs => cases hs
theorem m_exec_big {F : Nat → Nat → Option (m_I × Nat)} {fz : List (List Int32)} : ∀ (n d mid pc : Nat) (lv : m_V) (st : List Value) (σ : m_S) (r : Option Value) (σ' : m_S), (∀ z ∈ σ, m_es z ≤ 2000) → m_exec F fz n d mid pc lv st σ = some (r, σ') → ∀ z ∈ σ', m_es z ≤ 2000 := by
  intro n
  induction n with
  | zero => intro d mid pc lv st σ r σ' hb h; cases h
  | succ n ih =>
    intro d mid pc lv st σ r σ' hb h
    simp only [m_exec] at h
    split at h
    · cases h
    · rename_i I len hF
      split at h
      · cases h
      · rename_i pc1 lv1 st1 σ1 hs
        exact ih _ _ _ _ _ _ _ _ (m_step_big hb hs) h
      · cases h; exact hb
      · rename_i mid1 as rest hs
        split at h
        · cases h
        · rename_i d1
          split at h
          · split at h
            · cases h
            · rename_i r1 σ1 h1
              exact ih _ _ _ _ _ _ _ _ (ih _ _ _ _ _ _ _ _ hb h1) h
          · cases h
theorem m_sz_le {σ : m_S} (hb : ∀ z ∈ σ, m_es z ≤ 2000) : m_sz σ ≤ 2000 * σ.length := by
  induction σ with
  | nil => exact Nat.le_refl _
  | cons x r ih =>
    have h1 := ih (fun z hz => hb z (List.mem_cons_of_mem _ hz))
    have h2 := hb x List.mem_cons_self
    have e : m_sz (x :: r) = m_es x + m_sz r := by simp [m_sz]
    rw [e, List.length_cons]
    omega
set_option maxHeartbeats 4000000 in
theorem whole_start {p : Program} {e : Env} {s : State} {m : MethodId} {below : List Frame} {meth : Method} {c : Code} (l : Launch) {b L : Nat} {xs : Nat → Int32} (hL : L ≤ 6) (C0 : lw_At p s m meth c b L xs) : W p l e room_1 s m #[Value.ref b] below meth c s.heap [] 0 0 (lw_Z below #[Value.ref b] s) (entryFrame m ([Value.ref b] : List Value).toArray 4) := by
  obtain ⟨hx, hb, hr, hml, hown, hts, hX, hbl, hlocks, hgv⟩ := C0
  have htG : ∀ w ∈ m_G, w.before #[Value.ref b] s = true := fun w hw => hts w (List.mem_filter.mp hw).1
  obtain ⟨c0, iS0, hKn0⟩ := u_known (C := RX0) (T := TX0) (N := 2) (n := 2) htG m_uw_0 (htG _ m_ui_0.1)
  obtain ⟨c1, iS1, hKn1⟩ := u_known (C := RX1) (T := TX1) (N := 17) (n := 17) htG m_uw_1 (htG _ m_ui_1.1)
  obtain ⟨c2, iS2, hKn2⟩ := u_known (C := RX2) (T := TX2) (N := 19) (n := 19) htG m_uw_2 (htG _ m_ui_2.1)
  obtain ⟨c3, iS3, hKn3⟩ := u_known (C := RX3) (T := TX3) (N := 2) (n := 2) htG m_uw_3 (htG _ m_ui_3.1)
  obtain ⟨c4, iS4, hKn4⟩ := u_known (C := RX4) (T := TX4) (N := 2) (n := 2) htG m_uw_4 (htG _ m_ui_4.1)
  obtain ⟨c5, iS5, hKn5⟩ := u_known (C := RX5) (T := TX5) (N := 9) (n := 9) htG m_uw_5 (htG _ m_ui_5.1)
  obtain ⟨c6, iS6, hKn6⟩ := u_known (C := RX6) (T := TX6) (N := 3) (n := 3) htG m_uw_6 (htG _ m_ui_6.1)
  obtain ⟨c7, iS7, hKn7⟩ := u_known (C := RX7) (T := TX7) (N := 5) (n := 5) htG m_uw_7 (htG _ m_ui_7.1)
  obtain ⟨c8, iS8, hKn8⟩ := u_known (C := RX8) (T := TX8) (N := 6) (n := 6) htG m_uw_8 (htG _ m_ui_8.1)
  obtain ⟨c9, iS9, hKn9⟩ := u_known (C := RX9) (T := TX9) (N := 10) (n := 10) htG m_uw_9 (htG _ m_ui_9.1)
  obtain ⟨c10, iS10, hKn10⟩ := u_known (C := RX10) (T := TX10) (N := 43) (n := 43) htG m_uw_10 (htG _ m_ui_10.1)
  obtain ⟨dC, dI, hKc⟩ : ∃ (dC : Nat → ClassId) (dI : Nat → Nat → Nat), ∀ (k : Nat) (q : vw_C), vwCl[k]? = some q → u_Kn s q.1 q.2.1 q.2.2 (dC k) (dI k) := by
    refine ⟨fun k => if k = 0 then c0 else if k = 1 then c1 else if k = 2 then c2 else if k = 3 then c3 else if k = 4 then c4 else if k = 5 then c5 else if k = 6 then c6 else if k = 7 then c7 else if k = 8 then c8 else if k = 9 then c9 else c10, fun k => if k = 0 then iS0 else if k = 1 then iS1 else if k = 2 then iS2 else if k = 3 then iS3 else if k = 4 then iS4 else if k = 5 then iS5 else if k = 6 then iS6 else if k = 7 then iS7 else if k = 8 then iS8 else if k = 9 then iS9 else iS10, ?_⟩
    intro k q hq
    match k, hq with
    | 0, hq => cases hq; exact hKn0
    | 1, hq => cases hq; exact hKn1
    | 2, hq => cases hq; exact hKn2
    | 3, hq => cases hq; exact hKn3
    | 4, hq => cases hq; exact hKn4
    | 5, hq => cases hq; exact hKn5
    | 6, hq => cases hq; exact hKn6
    | 7, hq => cases hq; exact hKn7
    | 8, hq => cases hq; exact hKn8
    | 9, hq => cases hq; exact hKn9
    | 10, hq => cases hq; exact hKn10
    | k + 11, hq => simp [vwCl] at hq
  have harr : ∀ t, ∃ cA : ClassId, t < 5 → ArrOfT s cA (m_ty t) ∧ va_RA s cA (m_ty t) := by
    intro t
    by_cases h4 : t < 4
    · have h1 := htG _ (m_glob_ok.1 t h4)
      obtain ⟨cA, kA, comp, g1, g2, g3⟩ := Cond.arrayClass_spec h1
      refine ⟨cA, fun _ => ⟨fun n z => ⟨fun k h => (by cases h), kA, g2, comp, g3⟩, ?_⟩⟩
      match t, h4, g1 with
      | 0, _, g1 => exact g1
      | 1, _, g1 => exact g1
      | 2, _, g1 => exact g1
      | 3, _, g1 => exact g1
      | _ + 4, h, _ => omega
    · have h1 := hts _ m_ao
      obtain ⟨comp, cA, kA, g1, g2, g3, g4, g5⟩ := Cond.arrayOver_spec h1
      refine ⟨cA, fun h5 => ?_⟩
      have e : t = 4 := by omega
      subst e
      exact ⟨fun n z => ⟨fun k h => (by cases h), kA, g3, comp, g4⟩, kA, comp, g3, g4, g1, g5⟩
  have harr2 := Classical.skolem.mp harr
  obtain ⟨cA, hcA⟩ := harr2
  have hK : va_K (dC, dI) vwCl (m_tys cA) s := by
    refine ⟨hKc, fun k q hq => ?_⟩
    have hk : k < 5 := by
      have h9 := (List.getElem?_eq_some_iff.mp hq).1
      simpa [m_tys] using h9
    rw [m_tys_at cA hk] at hq
    cases hq
    exact hcA k hk
  obtain ⟨ys, hys⟩ : ∃ ys : List Int32, ys = (List.range L).map xs := ⟨_, rfl⟩
  have hyl : ys.length = L := by rw [hys]; simp
  have hyv : ∀ j, j < L → ys.getD j 0 = xs j := fun j hj => by
    rw [hys]
    simp [List.getD, List.getElem?_range hj]
  obtain ⟨k, σ', hex, hlen⟩ := t_run ys (by omega)
  have hbig := m_sz_le (m_exec_big _ _ _ _ _ _ _ _ _ (fun z hz => by cases hz) hex)
  have hFz : m_Fz [ys] (fun _ => b) (fun q : Nat => s.heap.size ≤ q) s := by
    intro j zs hj
    match j, hj with
    | 0, hj =>
      cases hj
      refine ⟨?_, hbl, Nat.not_le.mpr hbl⟩
      obtain ⟨scr, g1, g2, g3, g4, g5⟩ := hX
      exact ⟨scr, g1, g2, g3, by rw [hyl]; exact g4, fun j hj => by
        rw [g5 j (by omega)]
        show some (Value.int (xs j)) = some (Value.int (ys.getD j 0))
        rw [hyv j (by omega)]⟩
    | _ + 1, hj => cases hj
  have hN : m_Nst s := ⟨fun w hw => by
    obtain ⟨a, i, x, q, rfl⟩ := m_nw_form hw
    exact va_Nw.of rfl (hts _ (List.mem_append_right _ (List.mem_filter.mp hw).1)), va_AO.of (hts _ m_ao)⟩
  have K : m_Cx p s m #[Value.ref b] meth c (dC, dI) cA (fun q : Nat => s.heap.size ≤ q) (fun _ => b) 4 code x ret [ys] := ⟨hx, hb, hml, hown, htG, hr, hlocks, fun h9 => absurd h9 (by decide), hK, fun _ h => h, hFz, hN⟩
  have hW := m_sim m_F_ok m_lk_all m_cls_ok m_glob_ok m_1000 k 60 1000 0 [(0, .ref m_fzb)] [] [] (some (.int 1)) σ' hex p l e room_1 s m #[Value.ref b] below meth c (lw_Z below #[Value.ref b] s) (dC, dI) cA (fun q : Nat => s.heap.size ≤ q) (fun _ => b) 0 0 4 code x ret rfl K (Nat.zero_le _) (Nat.zero_le _) (by simp only [room_1]; omega) (by simp only [room_1]; omega) (by decide) (by decide) ?_
  · have hl := lv_entry ([.ref b]) (n := 4) (Nat.le_of_ble_eq_true rfl)
    rw [lg_entry_eq]
    have hP0 : va_P (dC, dI) vwCl (m_w cA (fun _ => b) []) s.heap := fun k q h => by simp [m_w] at h
    have hD0 : va_D (fun q : Nat => s.heap.size ≤ q) (m_w cA (fun _ => b) []) := ⟨fun i j p q h => by simp [m_w] at h, fun k q h => by simp [m_w] at h⟩
    exact hW (fun _ => b) s.heap [] _ m_ext.rf hP0 hD0 va_S.rf hl
  · intro ad H locs ls pc he hP hD hS hrt
    have hdec : decode code pc = .ok (.ireturn, 1) := by
      rcases hrt with ⟨x, -, -, h⟩ | ⟨x, -, -, -, h⟩ | ⟨x, h, -⟩ | ⟨h, -⟩
      · exact h
      · exact h
      · cases h
      · cases h
    refine va_forget (fun q hq => hS.2.2 q hq) ?_
    refine W.widen (k := 600000) (n := 7302250) (by omega) (by omega) ?_
    exact lw_ret hx hb hr hlocks hdec
end
section
set_option maxHeartbeats 4000000 in
theorem lw_walk (l : Launch) (b : Addr) (xs : List Int32) : MetFree l x (headSpec (Jvm.Cond.code x code maxLocals ret :: tables_1) room_1) (lw_P b xs) (fun _ _ _ _ _ => True) lw_Q := by
  refine MetFree.of_bodyS (code := code) (maxLocals := maxLocals) (ret := ret) (by decide) ?_ ?_
  · intro args s m h hn
    obtain ⟨meth, c, h1, h2, h3, h4, h5, h6, -, -⟩ := Cond.code_spec hn (atoms_spec (ws := Jvm.Cond.code x code maxLocals ret :: tables_1) h _ List.mem_cons_self)
    exact ⟨meth, c, h1, h2, h3, h4, h5, h6⟩
  · intro p e s m args below meth c s₁ B hml0 hP _
    obtain ⟨rfl, hx, hbd, hgv⟩ := hP
    obtain ⟨scr, harrAt, hlist, hof, hsmall⟩ := hx
    obtain ⟨hcb, hkn, -, -⟩ := State.arrayAt?_spec harrAt
    have hown : s.vm.findClass R_law = some m.cls := findClass_of_methodNamed B.named
    have hts0 : ∀ c ∈ (Jvm.Cond.code x code maxLocals ret :: tables_1), c.before #[Value.ref b] s = true := atoms_spec (ws := Jvm.Cond.code x code maxLocals ret :: tables_1) B.pre
    have hts : ∀ w ∈ lw_tbl, w.before #[Value.ref b] s = true := k2_hts_sels lw_privs (fun w hw => hts0 w (List.mem_cons_of_mem _ hw)) lw_privs_ok
    have hml : c.maxLocals = 4 := B.maxLocals_eq (hts0 _ List.mem_cons_self)
    have X₀ : Stand p l e room_1 s m #[Value.ref b] below meth c s₁ [] 0 0 := Stand.of_body B
    have hh0 : s₁.heap = s.heap := by rw [B.state]; rfl
    have hsz : scr.slots.size = xs.length := by rw [← Array.length_toList, hlist, List.length_map]
    have hval : ∀ j : Nat, j < xs.length → scr.slots[j]? = some (.int (xs.getD j 0)) := fun j hj => by
      rw [← Array.getElem?_toList, hlist]
      simp [hj]
    have hbl : b < s.heap.size := (Array.getElem?_eq_some_iff.mp hcb).1
    have hX : va_X b xs.length (fun j => xs.getD j 0) s s.heap := ⟨scr, hcb, hof, hkn, hsz, hval⟩
    have K : W p l e room_1 s m #[Value.ref b] below meth c s₁.heap [] 0 0 (lw_Z below #[Value.ref b] s) (entryFrame m ([Value.ref b] : List Value).toArray 4) := by
      rw [hh0]
      exact whole_start l hbd ⟨B.exec, B.bytes, B.returns, hml, hown, hts, hX, hbl, B.notSynchronized, hgv⟩
    obtain ⟨t, a1, o, b1, b2, b3⟩ := K s₁ rfl X₀
    exact ⟨t, o, a1, b1, b2, b3⟩
theorem lw_pre_spec {args : Array Value} {s : State} (h : (Jvm.Cond.and given_1 narrow_1).before args s = true) (hr : rest_1_c.before args s = true) : ∃ (b : Addr) (xs : List Int32), lw_P b xs args s := by
  have hs := flat_of_before _ h
  have hq := flat_of_before _ hr
  have hc : (Cond.count 1).before args s = true := hs _ (by decide +kernel)
  have harr : (Cond.arrayOf (.arg 0) .int).before args s = true := hs _ (by decide +kernel)
  have hle : (Cond.le (.length (.arg 0)) (.int 6)).before args s = true := hs _ (by decide +kernel)
  have hlen : (Cond.isInt (.length (.arg 0))).before args s = true := hq _ (by decide +kernel)
  have hall : (Cond.all (.arg 0) (.isInt (.elem (.arg 0) (.index 0)))).before args s = true := hq _ (by decide +kernel)
  obtain ⟨b, xs, hb, hx⟩ := State.ints_of_pre rfl harr hlen hall
  have hsm : xs.length < 2 ^ 31 := hx.choose_spec.2.2.2
  have hev : (Term.length (.arg 0)).eval args s none [] s = some (.int xs.length.toInt32) := hx.length_eval hb
  have hv := Cond.le_ints hev (show (Term.int 6).eval args s none [] s = some (.int 6) from rfl)
  have hd : xs.length.toInt32 ≤ 6 := by
    simpa [Cond.before, Cond.holds, hv] using hle
  have hN : xs.length ≤ 6 := (Int32.ofNat_le_ofNat hsm (by decide)).mp (show Int32.ofNat xs.length ≤ Int32.ofNat 6 from hd)
  exact ⟨b, xs, Cond.one_arg hc (show args[0]? = some (.ref b) from hb), hx, hN, h⟩
theorem lw_comes (l : Launch) : Comes l x (Jvm.Cond.code x code maxLocals ret :: tables_1) room_1 (fun tb e args s => Calls_1 tb e args s ∧ rest_1 tb e args s ∧ Pre_1 tb e args s)
    (fun _ _ args s o t => lw_Q args s o t) := by
  intro p e ha hc hk s m args below hf hfit hheap happ hpre
  obtain ⟨b, xs, hP⟩ := lw_pre_spec hpre.2.2 hpre.2.1
  obtain ⟨k, o, h1, h2, h3, hQ⟩ := lw_walk l b xs p e ha hc hk s m args below hf ((Spec.applies_iff_loose hf).mp happ).1 hP trivial
  exact ⟨k, o, h1, h2, h3, hQ⟩
theorem lw_frame {s t : State} {o : Outcome} {args : Array Value} (h : Framed s o t [] 600000 7302250) :
    Framed s o t (fieldLocs frame_1_writes args s ++ arrayLocs frame_1_arrays args s ++ staticLocs frame_1_statics s) 600000 7302250 := h
theorem lw_limb (L : Cond) (hL : ∀ (args : Array Value) (s t : State), L.after args s (.returned (some (.int 1))) t = true) :
    ArmFor flags0 classFile x code maxLocals ret World_1 tables_1 room_1 Calls_1 rest_1 Pre_1
      (fun tb e a s o t => postC L tb e a s o t ∧ Framed s o t (fieldLocs frame_1_writes a s ++ arrayLocs frame_1_arrays a s ++ staticLocs frame_1_statics s) 600000 7302250) := by
  intro l _ _ _ p e ha hc hk s m args below hf hfit hheap happ hpre
  obtain ⟨k, o, h1, h2, h3, rfl, hF⟩ := lw_comes l p e ha hc hk s m args below hf hfit hheap happ hpre
  exact ⟨k, _, h1, h2, h3, hL args s _, lw_frame hF⟩
theorem i_vc : Claimed_1_1 ∧ Claimed_1_2 := ⟨lw_limb limb_1_1 (fun args s t => by simp [limb_1_1, Cond.after, Cond.holds, Cond.value]), lw_limb limb_1_2 (fun args s t => Cond.after_iff.mpr (by
  first | (rw [show limb_1_2 = Cond.eq .result (.int 1) from rfl, Cond.eq_ints (x := 1) (y := 1) rfl rfl]; simp; done) | (simp [limb_1_2, Cond.value, Term.eval]; done)))⟩
end

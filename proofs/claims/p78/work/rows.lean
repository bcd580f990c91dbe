section
-- ===== PART A: goes FIRST, ahead of the names: the tables' words, and 'selects' of the private methods out of them =====
/-- a private method of a class that the tables say can be made, by its rows of tables_1 -/
def lw_okq (q : MethodName × Nat) : Prop := (q.1.cls ≠ "java/lang/invoke/MethodHandle" ∧ q.1.cls ≠ "java/lang/invoke/VarHandle") ∧ Cond.instantiable q.1.cls q.2 ∈ tables_1 ∧ Cond.privateMethod q.1 ∈ tables_1 ∧ Cond.instanceMethod q.1 ∈ tables_1
theorem lw_p0 : lw_okq (⟨"MotherBench$Reader", "step", "()V"⟩, 9) := ⟨⟨by decide +kernel, by decide +kernel⟩, List.mem_of_getElem? (i := 29) (by decide +kernel), List.mem_of_getElem? (i := 429) (by decide +kernel), List.mem_of_getElem? (i := 430) (by decide +kernel)⟩
theorem lw_p1 : lw_okq (⟨"MotherBench$Reader", "isBlank", "(B)Z"⟩, 9) := ⟨⟨by decide +kernel, by decide +kernel⟩, List.mem_of_getElem? (i := 29) (by decide +kernel), List.mem_of_getElem? (i := 433) (by decide +kernel), List.mem_of_getElem? (i := 434) (by decide +kernel)⟩
theorem lw_p2 : lw_okq (⟨"MotherBench$Reader", "isLetter", "(B)Z"⟩, 9) := ⟨⟨by decide +kernel, by decide +kernel⟩, List.mem_of_getElem? (i := 29) (by decide +kernel), List.mem_of_getElem? (i := 437) (by decide +kernel), List.mem_of_getElem? (i := 438) (by decide +kernel)⟩
theorem lw_p3 : lw_okq (⟨"MotherBench$Reader", "stepWord", "()V"⟩, 9) := ⟨⟨by decide +kernel, by decide +kernel⟩, List.mem_of_getElem? (i := 29) (by decide +kernel), List.mem_of_getElem? (i := 441) (by decide +kernel), List.mem_of_getElem? (i := 442) (by decide +kernel)⟩
theorem lw_p4 : lw_okq (⟨"MotherBench$Reader", "isDigit", "(B)Z"⟩, 9) := ⟨⟨by decide +kernel, by decide +kernel⟩, List.mem_of_getElem? (i := 29) (by decide +kernel), List.mem_of_getElem? (i := 445) (by decide +kernel), List.mem_of_getElem? (i := 446) (by decide +kernel)⟩
theorem lw_p5 : lw_okq (⟨"MotherBench$Reader", "stepNumber", "()V"⟩, 9) := ⟨⟨by decide +kernel, by decide +kernel⟩, List.mem_of_getElem? (i := 29) (by decide +kernel), List.mem_of_getElem? (i := 449) (by decide +kernel), List.mem_of_getElem? (i := 450) (by decide +kernel)⟩
theorem lw_p6 : lw_okq (⟨"MotherBench$Reader", "readLine", "()V"⟩, 9) := ⟨⟨by decide +kernel, by decide +kernel⟩, List.mem_of_getElem? (i := 29) (by decide +kernel), List.mem_of_getElem? (i := 456) (by decide +kernel), List.mem_of_getElem? (i := 457) (by decide +kernel)⟩
theorem lw_p7 : lw_okq (⟨"MotherBench$Reader", "readCircuit", "()V"⟩, 9) := ⟨⟨by decide +kernel, by decide +kernel⟩, List.mem_of_getElem? (i := 29) (by decide +kernel), List.mem_of_getElem? (i := 460) (by decide +kernel), List.mem_of_getElem? (i := 461) (by decide +kernel)⟩
theorem lw_p8 : lw_okq (⟨"MotherBench$Reader", "takeWord", "(Ljava/lang/String;)V"⟩, 9) := ⟨⟨by decide +kernel, by decide +kernel⟩, List.mem_of_getElem? (i := 29) (by decide +kernel), List.mem_of_getElem? (i := 465) (by decide +kernel), List.mem_of_getElem? (i := 466) (by decide +kernel)⟩
theorem lw_p9 : lw_okq (⟨"MotherBench$Reader", "isWord", "(Ljava/lang/String;)Z"⟩, 9) := ⟨⟨by decide +kernel, by decide +kernel⟩, List.mem_of_getElem? (i := 29) (by decide +kernel), List.mem_of_getElem? (i := 469) (by decide +kernel), List.mem_of_getElem? (i := 470) (by decide +kernel)⟩
theorem lw_p10 : lw_okq (⟨"MotherBench$Reader", "accuse", "(II)V"⟩, 9) := ⟨⟨by decide +kernel, by decide +kernel⟩, List.mem_of_getElem? (i := 29) (by decide +kernel), List.mem_of_getElem? (i := 521) (by decide +kernel), List.mem_of_getElem? (i := 522) (by decide +kernel)⟩
theorem lw_p11 : lw_okq (⟨"MotherBench$Reader", "takeNumber", "(II)I"⟩, 9) := ⟨⟨by decide +kernel, by decide +kernel⟩, List.mem_of_getElem? (i := 29) (by decide +kernel), List.mem_of_getElem? (i := 526) (by decide +kernel), List.mem_of_getElem? (i := 527) (by decide +kernel)⟩
theorem lw_p12 : lw_okq (⟨"MotherBench$Reader", "readMother", "()V"⟩, 9) := ⟨⟨by decide +kernel, by decide +kernel⟩, List.mem_of_getElem? (i := 29) (by decide +kernel), List.mem_of_getElem? (i := 533) (by decide +kernel), List.mem_of_getElem? (i := 534) (by decide +kernel)⟩
theorem lw_p13 : lw_okq (⟨"MotherBench$Reader", "readKin", "()V"⟩, 9) := ⟨⟨by decide +kernel, by decide +kernel⟩, List.mem_of_getElem? (i := 29) (by decide +kernel), List.mem_of_getElem? (i := 540) (by decide +kernel), List.mem_of_getElem? (i := 541) (by decide +kernel)⟩
theorem lw_p14 : lw_okq (⟨"MotherBench$Reader", "readCause", "()V"⟩, 9) := ⟨⟨by decide +kernel, by decide +kernel⟩, List.mem_of_getElem? (i := 29) (by decide +kernel), List.mem_of_getElem? (i := 545) (by decide +kernel), List.mem_of_getElem? (i := 546) (by decide +kernel)⟩
theorem lw_p15 : lw_okq (⟨"MotherBench", "refresh", "()V"⟩, 10) := ⟨⟨by decide +kernel, by decide +kernel⟩, List.mem_of_getElem? (i := 21) (by decide +kernel), List.mem_of_getElem? (i := 559) (by decide +kernel), List.mem_of_getElem? (i := 560) (by decide +kernel)⟩
def lw_privs_1 : List (MethodName × Nat) := [(⟨"MotherBench$Reader", "step", "()V"⟩, 9), (⟨"MotherBench$Reader", "isBlank", "(B)Z"⟩, 9), (⟨"MotherBench$Reader", "isLetter", "(B)Z"⟩, 9), (⟨"MotherBench$Reader", "stepWord", "()V"⟩, 9), (⟨"MotherBench$Reader", "isDigit", "(B)Z"⟩, 9), (⟨"MotherBench$Reader", "stepNumber", "()V"⟩, 9), (⟨"MotherBench$Reader", "readLine", "()V"⟩, 9), (⟨"MotherBench$Reader", "readCircuit", "()V"⟩, 9), (⟨"MotherBench$Reader", "takeWord", "(Ljava/lang/String;)V"⟩, 9), (⟨"MotherBench$Reader", "isWord", "(Ljava/lang/String;)Z"⟩, 9), (⟨"MotherBench$Reader", "accuse", "(II)V"⟩, 9), (⟨"MotherBench$Reader", "takeNumber", "(II)I"⟩, 9), (⟨"MotherBench$Reader", "readMother", "()V"⟩, 9), (⟨"MotherBench$Reader", "readKin", "()V"⟩, 9), (⟨"MotherBench$Reader", "readCause", "()V"⟩, 9), (⟨"MotherBench", "refresh", "()V"⟩, 10)]
theorem lw_r1 : ∀ q ∈ lw_privs_1, lw_okq q := List.forall_mem_cons.mpr ⟨lw_p0, List.forall_mem_cons.mpr ⟨lw_p1, List.forall_mem_cons.mpr ⟨lw_p2, List.forall_mem_cons.mpr ⟨lw_p3, List.forall_mem_cons.mpr ⟨lw_p4, List.forall_mem_cons.mpr ⟨lw_p5, List.forall_mem_cons.mpr ⟨lw_p6, List.forall_mem_cons.mpr ⟨lw_p7, List.forall_mem_cons.mpr ⟨lw_p8, List.forall_mem_cons.mpr ⟨lw_p9, List.forall_mem_cons.mpr ⟨lw_p10, List.forall_mem_cons.mpr ⟨lw_p11, List.forall_mem_cons.mpr ⟨lw_p12, List.forall_mem_cons.mpr ⟨lw_p13, List.forall_mem_cons.mpr ⟨lw_p14, List.forall_mem_cons.mpr ⟨lw_p15, fun _ h => absurd h List.not_mem_nil⟩⟩⟩⟩⟩⟩⟩⟩⟩⟩⟩⟩⟩⟩⟩⟩
theorem lw_p16 : lw_okq (⟨"MotherBench$Court", "addEvent", "(III)V"⟩, 19) := ⟨⟨by decide +kernel, by decide +kernel⟩, List.mem_of_getElem? (i := 183) (by decide +kernel), List.mem_of_getElem? (i := 567) (by decide +kernel), List.mem_of_getElem? (i := 568) (by decide +kernel)⟩
theorem lw_p17 : lw_okq (⟨"MotherBench$Court", "choose", "(I)I"⟩, 19) := ⟨⟨by decide +kernel, by decide +kernel⟩, List.mem_of_getElem? (i := 183) (by decide +kernel), List.mem_of_getElem? (i := 585) (by decide +kernel), List.mem_of_getElem? (i := 586) (by decide +kernel)⟩
theorem lw_p18 : lw_okq (⟨"MotherBench$Court", "leastBusy", "(I)I"⟩, 19) := ⟨⟨by decide +kernel, by decide +kernel⟩, List.mem_of_getElem? (i := 183) (by decide +kernel), List.mem_of_getElem? (i := 589) (by decide +kernel), List.mem_of_getElem? (i := 590) (by decide +kernel)⟩
theorem lw_p19 : lw_okq (⟨"MotherBench$Court", "hear", "(III)V"⟩, 19) := ⟨⟨by decide +kernel, by decide +kernel⟩, List.mem_of_getElem? (i := 183) (by decide +kernel), List.mem_of_getElem? (i := 593) (by decide +kernel), List.mem_of_getElem? (i := 594) (by decide +kernel)⟩
theorem lw_p20 : lw_okq (⟨"MotherBench$Court", "changeByLaw", "(III)I"⟩, 19) := ⟨⟨by decide +kernel, by decide +kernel⟩, List.mem_of_getElem? (i := 183) (by decide +kernel), List.mem_of_getElem? (i := 609) (by decide +kernel), List.mem_of_getElem? (i := 610) (by decide +kernel)⟩
theorem lw_p21 : lw_okq (⟨"MotherBench", "isMother", "(I)Z"⟩, 10) := ⟨⟨by decide +kernel, by decide +kernel⟩, List.mem_of_getElem? (i := 21) (by decide +kernel), List.mem_of_getElem? (i := 626) (by decide +kernel), List.mem_of_getElem? (i := 627) (by decide +kernel)⟩
theorem lw_p22 : lw_okq (⟨"MotherBench", "isCause", "(I)Z"⟩, 10) := ⟨⟨by decide +kernel, by decide +kernel⟩, List.mem_of_getElem? (i := 21) (by decide +kernel), List.mem_of_getElem? (i := 638) (by decide +kernel), List.mem_of_getElem? (i := 639) (by decide +kernel)⟩
theorem lw_p23 : lw_okq (⟨"MotherBench$Court", "findingOf", "(II)I"⟩, 19) := ⟨⟨by decide +kernel, by decide +kernel⟩, List.mem_of_getElem? (i := 183) (by decide +kernel), List.mem_of_getElem? (i := 686) (by decide +kernel), List.mem_of_getElem? (i := 687) (by decide +kernel)⟩
theorem lw_p24 : lw_okq (⟨"MotherBench", "isDay", "(I)Z"⟩, 10) := ⟨⟨by decide +kernel, by decide +kernel⟩, List.mem_of_getElem? (i := 21) (by decide +kernel), List.mem_of_getElem? (i := 718) (by decide +kernel), List.mem_of_getElem? (i := 719) (by decide +kernel)⟩
theorem lw_p25 : lw_okq (⟨"MotherBench", "isHearingDay", "(I)Z"⟩, 10) := ⟨⟨by decide +kernel, by decide +kernel⟩, List.mem_of_getElem? (i := 21) (by decide +kernel), List.mem_of_getElem? (i := 832) (by decide +kernel), List.mem_of_getElem? (i := 833) (by decide +kernel)⟩
theorem lw_p26 : lw_okq (⟨"MotherBench$Panels", "isPanel", "(I)Z"⟩, 2) := ⟨⟨by decide +kernel, by decide +kernel⟩, List.mem_of_getElem? (i := 249) (by decide +kernel), List.mem_of_getElem? (i := 890) (by decide +kernel), List.mem_of_getElem? (i := 891) (by decide +kernel)⟩
theorem lw_p27 : lw_okq (⟨"MotherBench$Panels", "letOff", "(II)I"⟩, 2) := ⟨⟨by decide +kernel, by decide +kernel⟩, List.mem_of_getElem? (i := 249) (by decide +kernel), List.mem_of_getElem? (i := 943) (by decide +kernel), List.mem_of_getElem? (i := 944) (by decide +kernel)⟩
theorem lw_p28 : lw_okq (⟨"MotherBench", "gatherSeen", "(II)I"⟩, 10) := ⟨⟨by decide +kernel, by decide +kernel⟩, List.mem_of_getElem? (i := 21) (by decide +kernel), List.mem_of_getElem? (i := 991) (by decide +kernel), List.mem_of_getElem? (i := 992) (by decide +kernel)⟩
theorem lw_p29 : lw_okq (⟨"MotherBench", "rowTrouble", "(I)I"⟩, 10) := ⟨⟨by decide +kernel, by decide +kernel⟩, List.mem_of_getElem? (i := 21) (by decide +kernel), List.mem_of_getElem? (i := 999) (by decide +kernel), List.mem_of_getElem? (i := 1000) (by decide +kernel)⟩
theorem lw_p30 : lw_okq (⟨"MotherBench$Seen", "isAsSeen", "(I)Z"⟩, 5) := ⟨⟨by decide +kernel, by decide +kernel⟩, List.mem_of_getElem? (i := 327) (by decide +kernel), List.mem_of_getElem? (i := 1028) (by decide +kernel), List.mem_of_getElem? (i := 1029) (by decide +kernel)⟩
theorem lw_p31 : lw_okq (⟨"MotherBench$Fraction", "greatestDivisor", "(JJ)J"⟩, 2) := ⟨⟨by decide +kernel, by decide +kernel⟩, List.mem_of_getElem? (i := 272) (by decide +kernel), List.mem_of_getElem? (i := 1121) (by decide +kernel), List.mem_of_getElem? (i := 1122) (by decide +kernel)⟩
def lw_privs_2 : List (MethodName × Nat) := [(⟨"MotherBench$Court", "addEvent", "(III)V"⟩, 19), (⟨"MotherBench$Court", "choose", "(I)I"⟩, 19), (⟨"MotherBench$Court", "leastBusy", "(I)I"⟩, 19), (⟨"MotherBench$Court", "hear", "(III)V"⟩, 19), (⟨"MotherBench$Court", "changeByLaw", "(III)I"⟩, 19), (⟨"MotherBench", "isMother", "(I)Z"⟩, 10), (⟨"MotherBench", "isCause", "(I)Z"⟩, 10), (⟨"MotherBench$Court", "findingOf", "(II)I"⟩, 19), (⟨"MotherBench", "isDay", "(I)Z"⟩, 10), (⟨"MotherBench", "isHearingDay", "(I)Z"⟩, 10), (⟨"MotherBench$Panels", "isPanel", "(I)Z"⟩, 2), (⟨"MotherBench$Panels", "letOff", "(II)I"⟩, 2), (⟨"MotherBench", "gatherSeen", "(II)I"⟩, 10), (⟨"MotherBench", "rowTrouble", "(I)I"⟩, 10), (⟨"MotherBench$Seen", "isAsSeen", "(I)Z"⟩, 5), (⟨"MotherBench$Fraction", "greatestDivisor", "(JJ)J"⟩, 2)]
theorem lw_r2 : ∀ q ∈ lw_privs_2, lw_okq q := List.forall_mem_cons.mpr ⟨lw_p16, List.forall_mem_cons.mpr ⟨lw_p17, List.forall_mem_cons.mpr ⟨lw_p18, List.forall_mem_cons.mpr ⟨lw_p19, List.forall_mem_cons.mpr ⟨lw_p20, List.forall_mem_cons.mpr ⟨lw_p21, List.forall_mem_cons.mpr ⟨lw_p22, List.forall_mem_cons.mpr ⟨lw_p23, List.forall_mem_cons.mpr ⟨lw_p24, List.forall_mem_cons.mpr ⟨lw_p25, List.forall_mem_cons.mpr ⟨lw_p26, List.forall_mem_cons.mpr ⟨lw_p27, List.forall_mem_cons.mpr ⟨lw_p28, List.forall_mem_cons.mpr ⟨lw_p29, List.forall_mem_cons.mpr ⟨lw_p30, List.forall_mem_cons.mpr ⟨lw_p31, fun _ h => absurd h List.not_mem_nil⟩⟩⟩⟩⟩⟩⟩⟩⟩⟩⟩⟩⟩⟩⟩⟩
theorem lw_p32 : lw_okq (⟨"MotherBench", "areTwoCauses", "(II)Z"⟩, 10) := ⟨⟨by decide +kernel, by decide +kernel⟩, List.mem_of_getElem? (i := 21) (by decide +kernel), List.mem_of_getElem? (i := 1136) (by decide +kernel), List.mem_of_getElem? (i := 1137) (by decide +kernel)⟩
theorem lw_p33 : lw_okq (⟨"MotherBench", "isChoice", "(I)Z"⟩, 10) := ⟨⟨by decide +kernel, by decide +kernel⟩, List.mem_of_getElem? (i := 21) (by decide +kernel), List.mem_of_getElem? (i := 1156) (by decide +kernel), List.mem_of_getElem? (i := 1157) (by decide +kernel)⟩
theorem lw_p34 : lw_okq (⟨"MotherBench$Chances", "weightOf", "(I)J"⟩, 2) := ⟨⟨by decide +kernel, by decide +kernel⟩, List.mem_of_getElem? (i := 350) (by decide +kernel), List.mem_of_getElem? (i := 1171) (by decide +kernel), List.mem_of_getElem? (i := 1172) (by decide +kernel)⟩
theorem lw_p35 : lw_okq (⟨"MotherBench$Chances", "weightOfAll", "()J"⟩, 2) := ⟨⟨by decide +kernel, by decide +kernel⟩, List.mem_of_getElem? (i := 350) (by decide +kernel), List.mem_of_getElem? (i := 1177) (by decide +kernel), List.mem_of_getElem? (i := 1178) (by decide +kernel)⟩
theorem lw_p36 : lw_okq (⟨"MotherBench$Rows", "cut", "(JI)J"⟩, 3) := ⟨⟨by decide +kernel, by decide +kernel⟩, List.mem_of_getElem? (i := 310) (by decide +kernel), List.mem_of_getElem? (i := 1289) (by decide +kernel), List.mem_of_getElem? (i := 1290) (by decide +kernel)⟩
theorem lw_p37 : lw_okq (⟨"MotherBench$Rows", "holds", "(III)Z"⟩, 3) := ⟨⟨by decide +kernel, by decide +kernel⟩, List.mem_of_getElem? (i := 310) (by decide +kernel), List.mem_of_getElem? (i := 1305) (by decide +kernel), List.mem_of_getElem? (i := 1306) (by decide +kernel)⟩
theorem lw_p38 : lw_okq (⟨"MotherBenchModel", "four", "(I)V"⟩, 43) := ⟨⟨by decide +kernel, by decide +kernel⟩, List.mem_of_getElem? (i := 1310) (by decide +kernel), List.mem_of_getElem? (i := 1473) (by decide +kernel), List.mem_of_getElem? (i := 1474) (by decide +kernel)⟩
theorem lw_p39 : lw_okq (⟨"MotherBenchModel", "clears", "()V"⟩, 43) := ⟨⟨by decide +kernel, by decide +kernel⟩, List.mem_of_getElem? (i := 1310) (by decide +kernel), List.mem_of_getElem? (i := 1489) (by decide +kernel), List.mem_of_getElem? (i := 1490) (by decide +kernel)⟩
theorem lw_p40 : lw_okq (⟨"MotherBenchModel", "tells", "(II)V"⟩, 43) := ⟨⟨by decide +kernel, by decide +kernel⟩, List.mem_of_getElem? (i := 1310) (by decide +kernel), List.mem_of_getElem? (i := 1493) (by decide +kernel), List.mem_of_getElem? (i := 1494) (by decide +kernel)⟩
theorem lw_p41 : lw_okq (⟨"MotherBenchModel", "begins", "()V"⟩, 43) := ⟨⟨by decide +kernel, by decide +kernel⟩, List.mem_of_getElem? (i := 1310) (by decide +kernel), List.mem_of_getElem? (i := 1497) (by decide +kernel), List.mem_of_getElem? (i := 1498) (by decide +kernel)⟩
theorem lw_p42 : lw_okq (⟨"MotherBenchModel", "next", "()V"⟩, 43) := ⟨⟨by decide +kernel, by decide +kernel⟩, List.mem_of_getElem? (i := 1310) (by decide +kernel), List.mem_of_getElem? (i := 1501) (by decide +kernel), List.mem_of_getElem? (i := 1502) (by decide +kernel)⟩
theorem lw_p43 : lw_okq (⟨"MotherBenchModel", "isByte", "(III)Z"⟩, 43) := ⟨⟨by decide +kernel, by decide +kernel⟩, List.mem_of_getElem? (i := 1310) (by decide +kernel), List.mem_of_getElem? (i := 1505) (by decide +kernel), List.mem_of_getElem? (i := 1506) (by decide +kernel)⟩
theorem lw_p44 : lw_okq (⟨"MotherBenchModel", "isGood", "()Z"⟩, 43) := ⟨⟨by decide +kernel, by decide +kernel⟩, List.mem_of_getElem? (i := 1310) (by decide +kernel), List.mem_of_getElem? (i := 1514) (by decide +kernel), List.mem_of_getElem? (i := 1515) (by decide +kernel)⟩
theorem lw_p45 : lw_okq (⟨"MotherBenchModel", "asks", "(J)V"⟩, 43) := ⟨⟨by decide +kernel, by decide +kernel⟩, List.mem_of_getElem? (i := 1310) (by decide +kernel), List.mem_of_getElem? (i := 1519) (by decide +kernel), List.mem_of_getElem? (i := 1520) (by decide +kernel)⟩
theorem lw_p46 : lw_okq (⟨"MotherBenchModel", "takesWord", "(J)Z"⟩, 43) := ⟨⟨by decide +kernel, by decide +kernel⟩, List.mem_of_getElem? (i := 1310) (by decide +kernel), List.mem_of_getElem? (i := 1523) (by decide +kernel), List.mem_of_getElem? (i := 1524) (by decide +kernel)⟩
theorem lw_p47 : lw_okq (⟨"MotherBenchModel", "is", "(J)Z"⟩, 43) := ⟨⟨by decide +kernel, by decide +kernel⟩, List.mem_of_getElem? (i := 1310) (by decide +kernel), List.mem_of_getElem? (i := 1527) (by decide +kernel), List.mem_of_getElem? (i := 1528) (by decide +kernel)⟩
def lw_privs_3 : List (MethodName × Nat) := [(⟨"MotherBench", "areTwoCauses", "(II)Z"⟩, 10), (⟨"MotherBench", "isChoice", "(I)Z"⟩, 10), (⟨"MotherBench$Chances", "weightOf", "(I)J"⟩, 2), (⟨"MotherBench$Chances", "weightOfAll", "()J"⟩, 2), (⟨"MotherBench$Rows", "cut", "(JI)J"⟩, 3), (⟨"MotherBench$Rows", "holds", "(III)Z"⟩, 3), (⟨"MotherBenchModel", "four", "(I)V"⟩, 43), (⟨"MotherBenchModel", "clears", "()V"⟩, 43), (⟨"MotherBenchModel", "tells", "(II)V"⟩, 43), (⟨"MotherBenchModel", "begins", "()V"⟩, 43), (⟨"MotherBenchModel", "next", "()V"⟩, 43), (⟨"MotherBenchModel", "isByte", "(III)Z"⟩, 43), (⟨"MotherBenchModel", "isGood", "()Z"⟩, 43), (⟨"MotherBenchModel", "asks", "(J)V"⟩, 43), (⟨"MotherBenchModel", "takesWord", "(J)Z"⟩, 43), (⟨"MotherBenchModel", "is", "(J)Z"⟩, 43)]
theorem lw_r3 : ∀ q ∈ lw_privs_3, lw_okq q := List.forall_mem_cons.mpr ⟨lw_p32, List.forall_mem_cons.mpr ⟨lw_p33, List.forall_mem_cons.mpr ⟨lw_p34, List.forall_mem_cons.mpr ⟨lw_p35, List.forall_mem_cons.mpr ⟨lw_p36, List.forall_mem_cons.mpr ⟨lw_p37, List.forall_mem_cons.mpr ⟨lw_p38, List.forall_mem_cons.mpr ⟨lw_p39, List.forall_mem_cons.mpr ⟨lw_p40, List.forall_mem_cons.mpr ⟨lw_p41, List.forall_mem_cons.mpr ⟨lw_p42, List.forall_mem_cons.mpr ⟨lw_p43, List.forall_mem_cons.mpr ⟨lw_p44, List.forall_mem_cons.mpr ⟨lw_p45, List.forall_mem_cons.mpr ⟨lw_p46, List.forall_mem_cons.mpr ⟨lw_p47, fun _ h => absurd h List.not_mem_nil⟩⟩⟩⟩⟩⟩⟩⟩⟩⟩⟩⟩⟩⟩⟩⟩
theorem lw_p48 : lw_okq (⟨"MotherBenchModel", "fails", "(I)V"⟩, 43) := ⟨⟨by decide +kernel, by decide +kernel⟩, List.mem_of_getElem? (i := 1310) (by decide +kernel), List.mem_of_getElem? (i := 1531) (by decide +kernel), List.mem_of_getElem? (i := 1532) (by decide +kernel)⟩
theorem lw_p49 : lw_okq (⟨"MotherBenchModel", "number", "(JII)I"⟩, 43) := ⟨⟨by decide +kernel, by decide +kernel⟩, List.mem_of_getElem? (i := 1310) (by decide +kernel), List.mem_of_getElem? (i := 1536) (by decide +kernel), List.mem_of_getElem? (i := 1537) (by decide +kernel)⟩
theorem lw_p50 : lw_okq (⟨"MotherBenchModel", "number", "(II)I"⟩, 43) := ⟨⟨by decide +kernel, by decide +kernel⟩, List.mem_of_getElem? (i := 1310) (by decide +kernel), List.mem_of_getElem? (i := 1540) (by decide +kernel), List.mem_of_getElem? (i := 1541) (by decide +kernel)⟩
theorem lw_p51 : lw_okq (⟨"MotherBenchModel", "lineHere", "()V"⟩, 43) := ⟨⟨by decide +kernel, by decide +kernel⟩, List.mem_of_getElem? (i := 1310) (by decide +kernel), List.mem_of_getElem? (i := 1546) (by decide +kernel), List.mem_of_getElem? (i := 1547) (by decide +kernel)⟩
theorem lw_p52 : lw_okq (⟨"MotherBenchModel", "isRoom", "(ZII)Z"⟩, 43) := ⟨⟨by decide +kernel, by decide +kernel⟩, List.mem_of_getElem? (i := 1310) (by decide +kernel), List.mem_of_getElem? (i := 1551) (by decide +kernel), List.mem_of_getElem? (i := 1552) (by decide +kernel)⟩
theorem lw_p53 : lw_okq (⟨"MotherBenchModel", "hasRead", "(I)I"⟩, 43) := ⟨⟨by decide +kernel, by decide +kernel⟩, List.mem_of_getElem? (i := 1310) (by decide +kernel), List.mem_of_getElem? (i := 1555) (by decide +kernel), List.mem_of_getElem? (i := 1556) (by decide +kernel)⟩
theorem lw_p54 : lw_okq (⟨"MotherBenchModel", "motherLine", "()V"⟩, 43) := ⟨⟨by decide +kernel, by decide +kernel⟩, List.mem_of_getElem? (i := 1310) (by decide +kernel), List.mem_of_getElem? (i := 1559) (by decide +kernel), List.mem_of_getElem? (i := 1560) (by decide +kernel)⟩
theorem lw_p55 : lw_okq (⟨"MotherBenchModel", "kinLine", "()V"⟩, 43) := ⟨⟨by decide +kernel, by decide +kernel⟩, List.mem_of_getElem? (i := 1310) (by decide +kernel), List.mem_of_getElem? (i := 1566) (by decide +kernel), List.mem_of_getElem? (i := 1567) (by decide +kernel)⟩
theorem lw_p56 : lw_okq (⟨"MotherBenchModel", "areKin", "(II)Z"⟩, 43) := ⟨⟨by decide +kernel, by decide +kernel⟩, List.mem_of_getElem? (i := 1310) (by decide +kernel), List.mem_of_getElem? (i := 1570) (by decide +kernel), List.mem_of_getElem? (i := 1571) (by decide +kernel)⟩
theorem lw_p57 : lw_okq (⟨"MotherBenchModel", "causeLine", "()V"⟩, 43) := ⟨⟨by decide +kernel, by decide +kernel⟩, List.mem_of_getElem? (i := 1310) (by decide +kernel), List.mem_of_getElem? (i := 1575) (by decide +kernel), List.mem_of_getElem? (i := 1576) (by decide +kernel)⟩
theorem lw_p58 : lw_okq (⟨"MotherBenchModel", "ends", "()V"⟩, 43) := ⟨⟨by decide +kernel, by decide +kernel⟩, List.mem_of_getElem? (i := 1310) (by decide +kernel), List.mem_of_getElem? (i := 1582) (by decide +kernel), List.mem_of_getElem? (i := 1583) (by decide +kernel)⟩
theorem lw_p59 : lw_okq (⟨"MotherBenchModel", "isOver", "()V"⟩, 43) := ⟨⟨by decide +kernel, by decide +kernel⟩, List.mem_of_getElem? (i := 1310) (by decide +kernel), List.mem_of_getElem? (i := 1586) (by decide +kernel), List.mem_of_getElem? (i := 1587) (by decide +kernel)⟩
theorem lw_p60 : lw_okq (⟨"MotherBenchModel", "copyCircuit", "(II)V"⟩, 43) := ⟨⟨by decide +kernel, by decide +kernel⟩, List.mem_of_getElem? (i := 1310) (by decide +kernel), List.mem_of_getElem? (i := 1590) (by decide +kernel), List.mem_of_getElem? (i := 1591) (by decide +kernel)⟩
theorem lw_p61 : lw_okq (⟨"MotherBenchModel", "isMother", "(I)Z"⟩, 43) := ⟨⟨by decide +kernel, by decide +kernel⟩, List.mem_of_getElem? (i := 1310) (by decide +kernel), List.mem_of_getElem? (i := 1601) (by decide +kernel), List.mem_of_getElem? (i := 1602) (by decide +kernel)⟩
theorem lw_p62 : lw_okq (⟨"MotherBenchModel", "mothers", "()I"⟩, 43) := ⟨⟨by decide +kernel, by decide +kernel⟩, List.mem_of_getElem? (i := 1310) (by decide +kernel), List.mem_of_getElem? (i := 1605) (by decide +kernel), List.mem_of_getElem? (i := 1606) (by decide +kernel)⟩
theorem lw_p63 : lw_okq (⟨"MotherBenchModel", "kinBits", "(I)I"⟩, 43) := ⟨⟨by decide +kernel, by decide +kernel⟩, List.mem_of_getElem? (i := 1310) (by decide +kernel), List.mem_of_getElem? (i := 1614) (by decide +kernel), List.mem_of_getElem? (i := 1615) (by decide +kernel)⟩
def lw_privs_4 : List (MethodName × Nat) := [(⟨"MotherBenchModel", "fails", "(I)V"⟩, 43), (⟨"MotherBenchModel", "number", "(JII)I"⟩, 43), (⟨"MotherBenchModel", "number", "(II)I"⟩, 43), (⟨"MotherBenchModel", "lineHere", "()V"⟩, 43), (⟨"MotherBenchModel", "isRoom", "(ZII)Z"⟩, 43), (⟨"MotherBenchModel", "hasRead", "(I)I"⟩, 43), (⟨"MotherBenchModel", "motherLine", "()V"⟩, 43), (⟨"MotherBenchModel", "kinLine", "()V"⟩, 43), (⟨"MotherBenchModel", "areKin", "(II)Z"⟩, 43), (⟨"MotherBenchModel", "causeLine", "()V"⟩, 43), (⟨"MotherBenchModel", "ends", "()V"⟩, 43), (⟨"MotherBenchModel", "isOver", "()V"⟩, 43), (⟨"MotherBenchModel", "copyCircuit", "(II)V"⟩, 43), (⟨"MotherBenchModel", "isMother", "(I)Z"⟩, 43), (⟨"MotherBenchModel", "mothers", "()I"⟩, 43), (⟨"MotherBenchModel", "kinBits", "(I)I"⟩, 43)]
theorem lw_r4 : ∀ q ∈ lw_privs_4, lw_okq q := List.forall_mem_cons.mpr ⟨lw_p48, List.forall_mem_cons.mpr ⟨lw_p49, List.forall_mem_cons.mpr ⟨lw_p50, List.forall_mem_cons.mpr ⟨lw_p51, List.forall_mem_cons.mpr ⟨lw_p52, List.forall_mem_cons.mpr ⟨lw_p53, List.forall_mem_cons.mpr ⟨lw_p54, List.forall_mem_cons.mpr ⟨lw_p55, List.forall_mem_cons.mpr ⟨lw_p56, List.forall_mem_cons.mpr ⟨lw_p57, List.forall_mem_cons.mpr ⟨lw_p58, List.forall_mem_cons.mpr ⟨lw_p59, List.forall_mem_cons.mpr ⟨lw_p60, List.forall_mem_cons.mpr ⟨lw_p61, List.forall_mem_cons.mpr ⟨lw_p62, List.forall_mem_cons.mpr ⟨lw_p63, fun _ h => absurd h List.not_mem_nil⟩⟩⟩⟩⟩⟩⟩⟩⟩⟩⟩⟩⟩⟩⟩⟩
theorem lw_p64 : lw_okq (⟨"MotherBenchModel", "isCause", "(J)Z"⟩, 43) := ⟨⟨by decide +kernel, by decide +kernel⟩, List.mem_of_getElem? (i := 1310) (by decide +kernel), List.mem_of_getElem? (i := 1622) (by decide +kernel), List.mem_of_getElem? (i := 1623) (by decide +kernel)⟩
theorem lw_p65 : lw_okq (⟨"MotherBenchModel", "causes", "()I"⟩, 43) := ⟨⟨by decide +kernel, by decide +kernel⟩, List.mem_of_getElem? (i := 1310) (by decide +kernel), List.mem_of_getElem? (i := 1626) (by decide +kernel), List.mem_of_getElem? (i := 1627) (by decide +kernel)⟩
theorem lw_p66 : lw_okq (⟨"MotherBenchModel", "laysNow", "()V"⟩, 43) := ⟨⟨by decide +kernel, by decide +kernel⟩, List.mem_of_getElem? (i := 1310) (by decide +kernel), List.mem_of_getElem? (i := 1635) (by decide +kernel), List.mem_of_getElem? (i := 1636) (by decide +kernel)⟩
theorem lw_p67 : lw_okq (⟨"MotherBenchModel", "lays", "()V"⟩, 43) := ⟨⟨by decide +kernel, by decide +kernel⟩, List.mem_of_getElem? (i := 1310) (by decide +kernel), List.mem_of_getElem? (i := 1639) (by decide +kernel), List.mem_of_getElem? (i := 1640) (by decide +kernel)⟩
theorem lw_p68 : lw_okq (⟨"MotherBenchModel", "runs", "()V"⟩, 43) := ⟨⟨by decide +kernel, by decide +kernel⟩, List.mem_of_getElem? (i := 1310) (by decide +kernel), List.mem_of_getElem? (i := 1643) (by decide +kernel), List.mem_of_getElem? (i := 1644) (by decide +kernel)⟩
theorem lw_p69 : lw_okq (⟨"MotherBenchModel", "days", "()I"⟩, 43) := ⟨⟨by decide +kernel, by decide +kernel⟩, List.mem_of_getElem? (i := 1310) (by decide +kernel), List.mem_of_getElem? (i := 1647) (by decide +kernel), List.mem_of_getElem? (i := 1648) (by decide +kernel)⟩
theorem lw_p70 : lw_okq (⟨"MotherBenchModel", "awayOn", "(I)I"⟩, 43) := ⟨⟨by decide +kernel, by decide +kernel⟩, List.mem_of_getElem? (i := 1310) (by decide +kernel), List.mem_of_getElem? (i := 1651) (by decide +kernel), List.mem_of_getElem? (i := 1652) (by decide +kernel)⟩
theorem lw_p71 : lw_okq (⟨"MotherBenchModel", "hears0", "(III)V"⟩, 43) := ⟨⟨by decide +kernel, by decide +kernel⟩, List.mem_of_getElem? (i := 1310) (by decide +kernel), List.mem_of_getElem? (i := 1658) (by decide +kernel), List.mem_of_getElem? (i := 1659) (by decide +kernel)⟩
theorem lw_p72 : lw_okq (⟨"MotherBenchModel", "benchOf", "(I)I"⟩, 43) := ⟨⟨by decide +kernel, by decide +kernel⟩, List.mem_of_getElem? (i := 1310) (by decide +kernel), List.mem_of_getElem? (i := 1662) (by decide +kernel), List.mem_of_getElem? (i := 1663) (by decide +kernel)⟩
theorem lw_p73 : lw_okq (⟨"MotherBenchModel", "findsOf", "(IIII)I"⟩, 43) := ⟨⟨by decide +kernel, by decide +kernel⟩, List.mem_of_getElem? (i := 1310) (by decide +kernel), List.mem_of_getElem? (i := 1666) (by decide +kernel), List.mem_of_getElem? (i := 1667) (by decide +kernel)⟩
theorem lw_p74 : lw_okq (⟨"MotherBenchModel", "stricter", "(II)V"⟩, 43) := ⟨⟨by decide +kernel, by decide +kernel⟩, List.mem_of_getElem? (i := 1310) (by decide +kernel), List.mem_of_getElem? (i := 1679) (by decide +kernel), List.mem_of_getElem? (i := 1680) (by decide +kernel)⟩
theorem lw_p75 : lw_okq (⟨"MotherBenchModel", "markOf", "(III)I"⟩, 43) := ⟨⟨by decide +kernel, by decide +kernel⟩, List.mem_of_getElem? (i := 1310) (by decide +kernel), List.mem_of_getElem? (i := 1687) (by decide +kernel), List.mem_of_getElem? (i := 1688) (by decide +kernel)⟩
theorem lw_p76 : lw_okq (⟨"MotherBenchModel", "isHeard", "(I)Z"⟩, 43) := ⟨⟨by decide +kernel, by decide +kernel⟩, List.mem_of_getElem? (i := 1310) (by decide +kernel), List.mem_of_getElem? (i := 1691) (by decide +kernel), List.mem_of_getElem? (i := 1692) (by decide +kernel)⟩
theorem lw_p77 : lw_okq (⟨"MotherBenchModel", "apartOf", "(I)I"⟩, 43) := ⟨⟨by decide +kernel, by decide +kernel⟩, List.mem_of_getElem? (i := 1310) (by decide +kernel), List.mem_of_getElem? (i := 1715) (by decide +kernel), List.mem_of_getElem? (i := 1716) (by decide +kernel)⟩
theorem lw_p78 : lw_okq (⟨"MotherBenchModel", "isCircuit", "()Z"⟩, 43) := ⟨⟨by decide +kernel, by decide +kernel⟩, List.mem_of_getElem? (i := 1310) (by decide +kernel), List.mem_of_getElem? (i := 1723) (by decide +kernel), List.mem_of_getElem? (i := 1724) (by decide +kernel)⟩
theorem lw_p79 : lw_okq (⟨"MotherBenchModel", "isDay", "(I)Z"⟩, 43) := ⟨⟨by decide +kernel, by decide +kernel⟩, List.mem_of_getElem? (i := 1310) (by decide +kernel), List.mem_of_getElem? (i := 1731) (by decide +kernel), List.mem_of_getElem? (i := 1732) (by decide +kernel)⟩
def lw_privs_5 : List (MethodName × Nat) := [(⟨"MotherBenchModel", "isCause", "(J)Z"⟩, 43), (⟨"MotherBenchModel", "causes", "()I"⟩, 43), (⟨"MotherBenchModel", "laysNow", "()V"⟩, 43), (⟨"MotherBenchModel", "lays", "()V"⟩, 43), (⟨"MotherBenchModel", "runs", "()V"⟩, 43), (⟨"MotherBenchModel", "days", "()I"⟩, 43), (⟨"MotherBenchModel", "awayOn", "(I)I"⟩, 43), (⟨"MotherBenchModel", "hears0", "(III)V"⟩, 43), (⟨"MotherBenchModel", "benchOf", "(I)I"⟩, 43), (⟨"MotherBenchModel", "findsOf", "(IIII)I"⟩, 43), (⟨"MotherBenchModel", "stricter", "(II)V"⟩, 43), (⟨"MotherBenchModel", "markOf", "(III)I"⟩, 43), (⟨"MotherBenchModel", "isHeard", "(I)Z"⟩, 43), (⟨"MotherBenchModel", "apartOf", "(I)I"⟩, 43), (⟨"MotherBenchModel", "isCircuit", "()Z"⟩, 43), (⟨"MotherBenchModel", "isDay", "(I)Z"⟩, 43)]
theorem lw_r5 : ∀ q ∈ lw_privs_5, lw_okq q := List.forall_mem_cons.mpr ⟨lw_p64, List.forall_mem_cons.mpr ⟨lw_p65, List.forall_mem_cons.mpr ⟨lw_p66, List.forall_mem_cons.mpr ⟨lw_p67, List.forall_mem_cons.mpr ⟨lw_p68, List.forall_mem_cons.mpr ⟨lw_p69, List.forall_mem_cons.mpr ⟨lw_p70, List.forall_mem_cons.mpr ⟨lw_p71, List.forall_mem_cons.mpr ⟨lw_p72, List.forall_mem_cons.mpr ⟨lw_p73, List.forall_mem_cons.mpr ⟨lw_p74, List.forall_mem_cons.mpr ⟨lw_p75, List.forall_mem_cons.mpr ⟨lw_p76, List.forall_mem_cons.mpr ⟨lw_p77, List.forall_mem_cons.mpr ⟨lw_p78, List.forall_mem_cons.mpr ⟨lw_p79, fun _ h => absurd h List.not_mem_nil⟩⟩⟩⟩⟩⟩⟩⟩⟩⟩⟩⟩⟩⟩⟩⟩
theorem lw_p80 : lw_okq (⟨"MotherBenchModel", "hasSat", "(II)Z"⟩, 43) := ⟨⟨by decide +kernel, by decide +kernel⟩, List.mem_of_getElem? (i := 1310) (by decide +kernel), List.mem_of_getElem? (i := 1743) (by decide +kernel), List.mem_of_getElem? (i := 1744) (by decide +kernel)⟩
theorem lw_p81 : lw_okq (⟨"MotherBenchModel", "foundBy", "(II)I"⟩, 43) := ⟨⟨by decide +kernel, by decide +kernel⟩, List.mem_of_getElem? (i := 1310) (by decide +kernel), List.mem_of_getElem? (i := 1755) (by decide +kernel), List.mem_of_getElem? (i := 1756) (by decide +kernel)⟩
theorem lw_p82 : lw_okq (⟨"MotherBenchModel", "dueOn", "(I)I"⟩, 43) := ⟨⟨by decide +kernel, by decide +kernel⟩, List.mem_of_getElem? (i := 1310) (by decide +kernel), List.mem_of_getElem? (i := 1771) (by decide +kernel), List.mem_of_getElem? (i := 1772) (by decide +kernel)⟩
theorem lw_p83 : lw_okq (⟨"MotherBenchModel", "owesOf", "(II)I"⟩, 43) := ⟨⟨by decide +kernel, by decide +kernel⟩, List.mem_of_getElem? (i := 1310) (by decide +kernel), List.mem_of_getElem? (i := 1775) (by decide +kernel), List.mem_of_getElem? (i := 1776) (by decide +kernel)⟩
theorem lw_p84 : lw_okq (⟨"MotherBenchModel", "allNow", "()I"⟩, 43) := ⟨⟨by decide +kernel, by decide +kernel⟩, List.mem_of_getElem? (i := 1310) (by decide +kernel), List.mem_of_getElem? (i := 1795) (by decide +kernel), List.mem_of_getElem? (i := 1796) (by decide +kernel)⟩
theorem lw_p85 : lw_okq (⟨"MotherBenchModel", "sentenceOf", "(I)I"⟩, 43) := ⟨⟨by decide +kernel, by decide +kernel⟩, List.mem_of_getElem? (i := 1310) (by decide +kernel), List.mem_of_getElem? (i := 1799) (by decide +kernel), List.mem_of_getElem? (i := 1800) (by decide +kernel)⟩
theorem lw_p86 : lw_okq (⟨"MotherBenchModel", "oneBy", "(II)I"⟩, 43) := ⟨⟨by decide +kernel, by decide +kernel⟩, List.mem_of_getElem? (i := 1310) (by decide +kernel), List.mem_of_getElem? (i := 1811) (by decide +kernel), List.mem_of_getElem? (i := 1812) (by decide +kernel)⟩
theorem lw_p87 : lw_okq (⟨"MotherBenchModel", "isAhead", "(I)Z"⟩, 43) := ⟨⟨by decide +kernel, by decide +kernel⟩, List.mem_of_getElem? (i := 1310) (by decide +kernel), List.mem_of_getElem? (i := 1831) (by decide +kernel), List.mem_of_getElem? (i := 1832) (by decide +kernel)⟩
theorem lw_p88 : lw_okq (⟨"MotherBenchModel", "beyond", "(II)I"⟩, 43) := ⟨⟨by decide +kernel, by decide +kernel⟩, List.mem_of_getElem? (i := 1310) (by decide +kernel), List.mem_of_getElem? (i := 1847) (by decide +kernel), List.mem_of_getElem? (i := 1848) (by decide +kernel)⟩
theorem lw_p89 : lw_okq (⟨"MotherBenchModel", "isThree", "(I)Z"⟩, 43) := ⟨⟨by decide +kernel, by decide +kernel⟩, List.mem_of_getElem? (i := 1310) (by decide +kernel), List.mem_of_getElem? (i := 1875) (by decide +kernel), List.mem_of_getElem? (i := 1876) (by decide +kernel)⟩
theorem lw_p90 : lw_okq (⟨"MotherBenchModel", "toldFinds", "(II)I"⟩, 43) := ⟨⟨by decide +kernel, by decide +kernel⟩, List.mem_of_getElem? (i := 1310) (by decide +kernel), List.mem_of_getElem? (i := 1886) (by decide +kernel), List.mem_of_getElem? (i := 1887) (by decide +kernel)⟩
theorem lw_p91 : lw_okq (⟨"MotherBenchModel", "markBy", "(II)I"⟩, 43) := ⟨⟨by decide +kernel, by decide +kernel⟩, List.mem_of_getElem? (i := 1310) (by decide +kernel), List.mem_of_getElem? (i := 1894) (by decide +kernel), List.mem_of_getElem? (i := 1895) (by decide +kernel)⟩
theorem lw_p92 : lw_okq (⟨"MotherBenchModel", "setBy", "(II)I"⟩, 43) := ⟨⟨by decide +kernel, by decide +kernel⟩, List.mem_of_getElem? (i := 1310) (by decide +kernel), List.mem_of_getElem? (i := 1898) (by decide +kernel), List.mem_of_getElem? (i := 1899) (by decide +kernel)⟩
theorem lw_p93 : lw_okq (⟨"MotherBenchModel", "middleBy", "(II)I"⟩, 43) := ⟨⟨by decide +kernel, by decide +kernel⟩, List.mem_of_getElem? (i := 1310) (by decide +kernel), List.mem_of_getElem? (i := 1902) (by decide +kernel), List.mem_of_getElem? (i := 1903) (by decide +kernel)⟩
theorem lw_p94 : lw_okq (⟨"MotherBenchModel", "pleaOf", "(I)I"⟩, 43) := ⟨⟨by decide +kernel, by decide +kernel⟩, List.mem_of_getElem? (i := 1310) (by decide +kernel), List.mem_of_getElem? (i := 1926) (by decide +kernel), List.mem_of_getElem? (i := 1927) (by decide +kernel)⟩
theorem lw_p95 : lw_okq (⟨"MotherBenchModel", "whyNot", "(IZ)I"⟩, 43) := ⟨⟨by decide +kernel, by decide +kernel⟩, List.mem_of_getElem? (i := 1310) (by decide +kernel), List.mem_of_getElem? (i := 1946) (by decide +kernel), List.mem_of_getElem? (i := 1947) (by decide +kernel)⟩
def lw_privs_6 : List (MethodName × Nat) := [(⟨"MotherBenchModel", "hasSat", "(II)Z"⟩, 43), (⟨"MotherBenchModel", "foundBy", "(II)I"⟩, 43), (⟨"MotherBenchModel", "dueOn", "(I)I"⟩, 43), (⟨"MotherBenchModel", "owesOf", "(II)I"⟩, 43), (⟨"MotherBenchModel", "allNow", "()I"⟩, 43), (⟨"MotherBenchModel", "sentenceOf", "(I)I"⟩, 43), (⟨"MotherBenchModel", "oneBy", "(II)I"⟩, 43), (⟨"MotherBenchModel", "isAhead", "(I)Z"⟩, 43), (⟨"MotherBenchModel", "beyond", "(II)I"⟩, 43), (⟨"MotherBenchModel", "isThree", "(I)Z"⟩, 43), (⟨"MotherBenchModel", "toldFinds", "(II)I"⟩, 43), (⟨"MotherBenchModel", "markBy", "(II)I"⟩, 43), (⟨"MotherBenchModel", "setBy", "(II)I"⟩, 43), (⟨"MotherBenchModel", "middleBy", "(II)I"⟩, 43), (⟨"MotherBenchModel", "pleaOf", "(I)I"⟩, 43), (⟨"MotherBenchModel", "whyNot", "(IZ)I"⟩, 43)]
theorem lw_r6 : ∀ q ∈ lw_privs_6, lw_okq q := List.forall_mem_cons.mpr ⟨lw_p80, List.forall_mem_cons.mpr ⟨lw_p81, List.forall_mem_cons.mpr ⟨lw_p82, List.forall_mem_cons.mpr ⟨lw_p83, List.forall_mem_cons.mpr ⟨lw_p84, List.forall_mem_cons.mpr ⟨lw_p85, List.forall_mem_cons.mpr ⟨lw_p86, List.forall_mem_cons.mpr ⟨lw_p87, List.forall_mem_cons.mpr ⟨lw_p88, List.forall_mem_cons.mpr ⟨lw_p89, List.forall_mem_cons.mpr ⟨lw_p90, List.forall_mem_cons.mpr ⟨lw_p91, List.forall_mem_cons.mpr ⟨lw_p92, List.forall_mem_cons.mpr ⟨lw_p93, List.forall_mem_cons.mpr ⟨lw_p94, List.forall_mem_cons.mpr ⟨lw_p95, fun _ h => absurd h List.not_mem_nil⟩⟩⟩⟩⟩⟩⟩⟩⟩⟩⟩⟩⟩⟩⟩⟩
theorem lw_p96 : lw_okq (⟨"MotherBenchModel", "laysSeen", "(II)V"⟩, 43) := ⟨⟨by decide +kernel, by decide +kernel⟩, List.mem_of_getElem? (i := 1310) (by decide +kernel), List.mem_of_getElem? (i := 1951) (by decide +kernel), List.mem_of_getElem? (i := 1952) (by decide +kernel)⟩
theorem lw_p97 : lw_okq (⟨"MotherBenchModel", "isSo", "(I)Z"⟩, 43) := ⟨⟨by decide +kernel, by decide +kernel⟩, List.mem_of_getElem? (i := 1310) (by decide +kernel), List.mem_of_getElem? (i := 1955) (by decide +kernel), List.mem_of_getElem? (i := 1956) (by decide +kernel)⟩
theorem lw_p98 : lw_okq (⟨"MotherBenchModel", "seenMany", "()I"⟩, 43) := ⟨⟨by decide +kernel, by decide +kernel⟩, List.mem_of_getElem? (i := 1310) (by decide +kernel), List.mem_of_getElem? (i := 1959) (by decide +kernel), List.mem_of_getElem? (i := 1960) (by decide +kernel)⟩
theorem lw_p99 : lw_okq (⟨"MotherBenchModel", "isSeen", "(I)Z"⟩, 43) := ⟨⟨by decide +kernel, by decide +kernel⟩, List.mem_of_getElem? (i := 1310) (by decide +kernel), List.mem_of_getElem? (i := 1963) (by decide +kernel), List.mem_of_getElem? (i := 1964) (by decide +kernel)⟩
theorem lw_p100 : lw_okq (⟨"MotherBenchModel", "worstBy", "(I)I"⟩, 43) := ⟨⟨by decide +kernel, by decide +kernel⟩, List.mem_of_getElem? (i := 1310) (by decide +kernel), List.mem_of_getElem? (i := 1967) (by decide +kernel), List.mem_of_getElem? (i := 1968) (by decide +kernel)⟩
theorem lw_p101 : lw_okq (⟨"MotherBenchModel", "allBy", "(I)I"⟩, 43) := ⟨⟨by decide +kernel, by decide +kernel⟩, List.mem_of_getElem? (i := 1310) (by decide +kernel), List.mem_of_getElem? (i := 1991) (by decide +kernel), List.mem_of_getElem? (i := 1992) (by decide +kernel)⟩
theorem lw_p102 : lw_okq (⟨"MotherBenchModel", "worthOf", "(I)I"⟩, 43) := ⟨⟨by decide +kernel, by decide +kernel⟩, List.mem_of_getElem? (i := 1310) (by decide +kernel), List.mem_of_getElem? (i := 2007) (by decide +kernel), List.mem_of_getElem? (i := 2008) (by decide +kernel)⟩
theorem lw_p103 : lw_okq (⟨"MotherBenchModel", "areTwo", "(II)Z"⟩, 43) := ⟨⟨by decide +kernel, by decide +kernel⟩, List.mem_of_getElem? (i := 1310) (by decide +kernel), List.mem_of_getElem? (i := 2032) (by decide +kernel), List.mem_of_getElem? (i := 2033) (by decide +kernel)⟩
theorem lw_p104 : lw_okq (⟨"MotherBenchModel", "getsBy", "(IIIII)I"⟩, 43) := ⟨⟨by decide +kernel, by decide +kernel⟩, List.mem_of_getElem? (i := 1310) (by decide +kernel), List.mem_of_getElem? (i := 2036) (by decide +kernel), List.mem_of_getElem? (i := 2037) (by decide +kernel)⟩
theorem lw_p105 : lw_okq (⟨"MotherBenchModel", "weightOf", "(II)J"⟩, 43) := ⟨⟨by decide +kernel, by decide +kernel⟩, List.mem_of_getElem? (i := 1310) (by decide +kernel), List.mem_of_getElem? (i := 2048) (by decide +kernel), List.mem_of_getElem? (i := 2049) (by decide +kernel)⟩
theorem lw_p106 : lw_okq (⟨"MotherBenchModel", "draws", "(J)I"⟩, 43) := ⟨⟨by decide +kernel, by decide +kernel⟩, List.mem_of_getElem? (i := 1310) (by decide +kernel), List.mem_of_getElem? (i := 2069) (by decide +kernel), List.mem_of_getElem? (i := 2070) (by decide +kernel)⟩
theorem lw_p107 : lw_okq (⟨"MotherBenchModel", "does", "(III)V"⟩, 43) := ⟨⟨by decide +kernel, by decide +kernel⟩, List.mem_of_getElem? (i := 1310) (by decide +kernel), List.mem_of_getElem? (i := 2086) (by decide +kernel), List.mem_of_getElem? (i := 2087) (by decide +kernel)⟩
def lw_privs_7 : List (MethodName × Nat) := [(⟨"MotherBenchModel", "laysSeen", "(II)V"⟩, 43), (⟨"MotherBenchModel", "isSo", "(I)Z"⟩, 43), (⟨"MotherBenchModel", "seenMany", "()I"⟩, 43), (⟨"MotherBenchModel", "isSeen", "(I)Z"⟩, 43), (⟨"MotherBenchModel", "worstBy", "(I)I"⟩, 43), (⟨"MotherBenchModel", "allBy", "(I)I"⟩, 43), (⟨"MotherBenchModel", "worthOf", "(I)I"⟩, 43), (⟨"MotherBenchModel", "areTwo", "(II)Z"⟩, 43), (⟨"MotherBenchModel", "getsBy", "(IIIII)I"⟩, 43), (⟨"MotherBenchModel", "weightOf", "(II)J"⟩, 43), (⟨"MotherBenchModel", "draws", "(J)I"⟩, 43), (⟨"MotherBenchModel", "does", "(III)V"⟩, 43)]
theorem lw_r7 : ∀ q ∈ lw_privs_7, lw_okq q := List.forall_mem_cons.mpr ⟨lw_p96, List.forall_mem_cons.mpr ⟨lw_p97, List.forall_mem_cons.mpr ⟨lw_p98, List.forall_mem_cons.mpr ⟨lw_p99, List.forall_mem_cons.mpr ⟨lw_p100, List.forall_mem_cons.mpr ⟨lw_p101, List.forall_mem_cons.mpr ⟨lw_p102, List.forall_mem_cons.mpr ⟨lw_p103, List.forall_mem_cons.mpr ⟨lw_p104, List.forall_mem_cons.mpr ⟨lw_p105, List.forall_mem_cons.mpr ⟨lw_p106, List.forall_mem_cons.mpr ⟨lw_p107, fun _ h => absurd h List.not_mem_nil⟩⟩⟩⟩⟩⟩⟩⟩⟩⟩⟩⟩
def lw_privs : List (MethodName × Nat) := lw_privs_1 ++ (lw_privs_2 ++ (lw_privs_3 ++ (lw_privs_4 ++ (lw_privs_5 ++ (lw_privs_6 ++ (lw_privs_7))))))
def lw_tbl : List Cond := k2_sels lw_privs ++ tables_1
theorem lw_privs_ok : ∀ q ∈ lw_privs, lw_okq q := by
  show ∀ q ∈ lw_privs_1 ++ (lw_privs_2 ++ (lw_privs_3 ++ (lw_privs_4 ++ (lw_privs_5 ++ (lw_privs_6 ++ (lw_privs_7)))))), lw_okq q
  exact List.forall_mem_append.mpr ⟨lw_r1, List.forall_mem_append.mpr ⟨lw_r2, List.forall_mem_append.mpr ⟨lw_r3, List.forall_mem_append.mpr ⟨lw_r4, List.forall_mem_append.mpr ⟨lw_r5, List.forall_mem_append.mpr ⟨lw_r6, lw_r7⟩⟩⟩⟩⟩⟩
def RX0 : String := "MotherBench$Chances"
def TX0 : u_T := fun k => match k with
  | 0 => ("MotherBench$Chances", "trial", "LMotherBench$Trial;", true)
  | _ => ("MotherBench$Chances", "fraction", "LMotherBench$Fraction;", true)
def tyX0 : Nat → FieldType := fun k => match k with
  | 0 => .object "MotherBench$Trial"
  | _ => .object "MotherBench$Fraction"
theorem nmX0 : ∀ a, a < 2 → ∀ b, b < 2 → a ≠ b → (TX0 a).2.1 ≠ (TX0 b).2.1 := by decide +kernel
theorem tyX0_ok : ∀ k, k < 2 → parseFieldDescriptor (TX0 k).2.2.1 = some (tyX0 k) := by decide +kernel
def RX1 : String := "MotherBench$Circuit"
def TX1 : u_T := fun k => match k with
  | 0 => ("MotherBench$Circuit", "lines", "I", false)
  | 1 => ("MotherBench$Circuit", "days", "I", false)
  | 2 => ("MotherBench$Circuit", "law", "I", false)
  | 3 => ("MotherBench$Circuit", "odds", "I", false)
  | 4 => ("MotherBench$Circuit", "mothers", "I", false)
  | 5 => ("MotherBench$Circuit", "kinTold", "I", false)
  | 6 => ("MotherBench$Circuit", "causes", "I", false)
  | 7 => ("MotherBench$Circuit", "acts", "I", false)
  | 8 => ("MotherBench$Circuit", "strict", "[I", true)
  | 9 => ("MotherBench$Circuit", "ways", "[I", true)
  | 10 => ("MotherBench$Circuit", "kin", "[I", true)
  | 11 => ("MotherBench$Circuit", "weighs", "[I", true)
  | 12 => ("MotherBench$Circuit", "signs", "[I", true)
  | 13 => ("MotherBench$Circuit", "at", "[I", true)
  | 14 => ("MotherBench$Circuit", "actAppeals", "[I", true)
  | 15 => ("MotherBench$Circuit", "actWho", "[I", true)
  | _ => ("MotherBench$Circuit", "actDay", "[I", true)
def tyX1 : Nat → FieldType := fun k => match k with
  | 0 => .int
  | 1 => .int
  | 2 => .int
  | 3 => .int
  | 4 => .int
  | 5 => .int
  | 6 => .int
  | 7 => .int
  | 8 => .array .int
  | 9 => .array .int
  | 10 => .array .int
  | 11 => .array .int
  | 12 => .array .int
  | 13 => .array .int
  | 14 => .array .int
  | 15 => .array .int
  | _ => .array .int
theorem nmX1 : ∀ a, a < 17 → ∀ b, b < 17 → a ≠ b → (TX1 a).2.1 ≠ (TX1 b).2.1 := by decide +kernel
theorem tyX1_ok : ∀ k, k < 17 → parseFieldDescriptor (TX1 k).2.2.1 = some (tyX1 k) := by decide +kernel
def RX2 : String := "MotherBench$Court"
def TX2 : u_T := fun k => match k with
  | 0 => ("MotherBench$Court", "told", "LMotherBench$Circuit;", true)
  | 1 => ("MotherBench$Court", "events", "I", false)
  | 2 => ("MotherBench$Court", "eventCause", "[I", true)
  | 3 => ("MotherBench$Court", "eventDay", "[I", true)
  | 4 => ("MotherBench$Court", "eventAppeals", "[I", true)
  | 5 => ("MotherBench$Court", "away", "[I", true)
  | 6 => ("MotherBench$Court", "hearings", "I", false)
  | 7 => ("MotherBench$Court", "hearingCause", "[I", true)
  | 8 => ("MotherBench$Court", "hearingDay", "[I", true)
  | 9 => ("MotherBench$Court", "hearingBench", "[I", true)
  | 10 => ("MotherBench$Court", "hearingSentence", "[I", true)
  | 11 => ("MotherBench$Court", "findings", "[I", true)
  | 12 => ("MotherBench$Court", "latest", "[I", true)
  | 13 => ("MotherBench$Court", "often", "[I", true)
  | 14 => ("MotherBench$Court", "satOf", "[I", true)
  | 15 => ("MotherBench$Court", "strictNow", "[I", true)
  | 16 => ("MotherBench$Court", "satNow", "[I", true)
  | 17 => ("MotherBench$Court", "strictByDay", "[I", true)
  | _ => ("MotherBench$Court", "satByDay", "[I", true)
def tyX2 : Nat → FieldType := fun k => match k with
  | 0 => .object "MotherBench$Circuit"
  | 1 => .int
  | 2 => .array .int
  | 3 => .array .int
  | 4 => .array .int
  | 5 => .array .int
  | 6 => .int
  | 7 => .array .int
  | 8 => .array .int
  | 9 => .array .int
  | 10 => .array .int
  | 11 => .array .int
  | 12 => .array .int
  | 13 => .array .int
  | 14 => .array .int
  | 15 => .array .int
  | 16 => .array .int
  | 17 => .array .int
  | _ => .array .int
theorem nmX2 : ∀ a, a < 19 → ∀ b, b < 19 → a ≠ b → (TX2 a).2.1 ≠ (TX2 b).2.1 := by decide +kernel
theorem tyX2_ok : ∀ k, k < 19 → parseFieldDescriptor (TX2 k).2.2.1 = some (tyX2 k) := by decide +kernel
def RX3 : String := "MotherBench$Fraction"
def TX3 : u_T := fun k => match k with
  | 0 => ("MotherBench$Fraction", "above", "J", false)
  | _ => ("MotherBench$Fraction", "below", "J", false)
def tyX3 : Nat → FieldType := fun k => match k with
  | 0 => .long
  | _ => .long
theorem nmX3 : ∀ a, a < 2 → ∀ b, b < 2 → a ≠ b → (TX3 a).2.1 ≠ (TX3 b).2.1 := by decide +kernel
theorem tyX3_ok : ∀ k, k < 2 → parseFieldDescriptor (TX3 k).2.2.1 = some (tyX3 k) := by decide +kernel
def RX4 : String := "MotherBench$Panels"
def TX4 : u_T := fun k => match k with
  | 0 => ("MotherBench$Panels", "told", "LMotherBench$Circuit;", true)
  | _ => ("MotherBench$Panels", "findings", "[I", true)
def tyX4 : Nat → FieldType := fun k => match k with
  | 0 => .object "MotherBench$Circuit"
  | _ => .array .int
theorem nmX4 : ∀ a, a < 2 → ∀ b, b < 2 → a ≠ b → (TX4 a).2.1 ≠ (TX4 b).2.1 := by decide +kernel
theorem tyX4_ok : ∀ k, k < 2 → parseFieldDescriptor (TX4 k).2.2.1 = some (tyX4 k) := by decide +kernel
def RX5 : String := "MotherBench$Reader"
def TX5 : u_T := fun k => match k with
  | 0 => ("MotherBench$Reader", "tape", "[B", true)
  | 1 => ("MotherBench$Reader", "size", "I", false)
  | 2 => ("MotherBench$Reader", "fault", "I", false)
  | 3 => ("MotherBench$Reader", "faultPlace", "I", false)
  | 4 => ("MotherBench$Reader", "draft", "LMotherBench$Circuit;", true)
  | 5 => ("MotherBench$Reader", "token", "I", false)
  | 6 => ("MotherBench$Reader", "place", "I", false)
  | 7 => ("MotherBench$Reader", "next", "I", false)
  | _ => ("MotherBench$Reader", "value", "I", false)
def tyX5 : Nat → FieldType := fun k => match k with
  | 0 => .array .byte
  | 1 => .int
  | 2 => .int
  | 3 => .int
  | 4 => .object "MotherBench$Circuit"
  | 5 => .int
  | 6 => .int
  | 7 => .int
  | _ => .int
theorem nmX5 : ∀ a, a < 9 → ∀ b, b < 9 → a ≠ b → (TX5 a).2.1 ≠ (TX5 b).2.1 := by decide +kernel
theorem tyX5_ok : ∀ k, k < 9 → parseFieldDescriptor (TX5 k).2.2.1 = some (tyX5 k) := by decide +kernel
def RX6 : String := "MotherBench$Rows"
def TX6 : u_T := fun k => match k with
  | 0 => ("MotherBench$Rows", "values", "[J", true)
  | 1 => ("MotherBench$Rows", "widths", "[I", true)
  | _ => ("MotherBench$Rows", "lengths", "[I", true)
def tyX6 : Nat → FieldType := fun k => match k with
  | 0 => .array .long
  | 1 => .array .int
  | _ => .array .int
theorem nmX6 : ∀ a, a < 3 → ∀ b, b < 3 → a ≠ b → (TX6 a).2.1 ≠ (TX6 b).2.1 := by decide +kernel
theorem tyX6_ok : ∀ k, k < 3 → parseFieldDescriptor (TX6 k).2.2.1 = some (tyX6 k) := by decide +kernel
def RX7 : String := "MotherBench$Seen"
def TX7 : u_T := fun k => match k with
  | 0 => ("MotherBench$Seen", "trial", "LMotherBench$Trial;", true)
  | 1 => ("MotherBench$Seen", "rows", "LMotherBench$Rows;", true)
  | 2 => ("MotherBench$Seen", "fitting", "I", false)
  | 3 => ("MotherBench$Seen", "stricts", "[I", true)
  | _ => ("MotherBench$Seen", "sentences", "[I", true)
def tyX7 : Nat → FieldType := fun k => match k with
  | 0 => .object "MotherBench$Trial"
  | 1 => .object "MotherBench$Rows"
  | 2 => .int
  | 3 => .array .int
  | _ => .array .int
theorem nmX7 : ∀ a, a < 5 → ∀ b, b < 5 → a ≠ b → (TX7 a).2.1 ≠ (TX7 b).2.1 := by decide +kernel
theorem tyX7_ok : ∀ k, k < 5 → parseFieldDescriptor (TX7 k).2.2.1 = some (tyX7 k) := by decide +kernel
def RX8 : String := "MotherBench$Trial"
def TX8 : u_T := fun k => match k with
  | 0 => ("MotherBench$Trial", "told", "LMotherBench$Circuit;", true)
  | 1 => ("MotherBench$Trial", "supposed", "LMotherBench$Circuit;", true)
  | 2 => ("MotherBench$Trial", "court", "LMotherBench$Court;", true)
  | 3 => ("MotherBench$Trial", "fraction", "LMotherBench$Fraction;", true)
  | 4 => ("MotherBench$Trial", "gains", "[I", true)
  | _ => ("MotherBench$Trial", "otherGains", "[I", true)
def tyX8 : Nat → FieldType := fun k => match k with
  | 0 => .object "MotherBench$Circuit"
  | 1 => .object "MotherBench$Circuit"
  | 2 => .object "MotherBench$Court"
  | 3 => .object "MotherBench$Fraction"
  | 4 => .array .int
  | _ => .array .int
theorem nmX8 : ∀ a, a < 6 → ∀ b, b < 6 → a ≠ b → (TX8 a).2.1 ≠ (TX8 b).2.1 := by decide +kernel
theorem tyX8_ok : ∀ k, k < 6 → parseFieldDescriptor (TX8 k).2.2.1 = some (tyX8 k) := by decide +kernel
def RX9 : String := "MotherBench"
def TX9 : u_T := fun k => match k with
  | 0 => ("MotherBench", "reader", "LMotherBench$Reader;", true)
  | 1 => ("MotherBench", "told", "LMotherBench$Circuit;", true)
  | 2 => ("MotherBench", "now", "LMotherBench$Court;", true)
  | 3 => ("MotherBench", "panels", "LMotherBench$Panels;", true)
  | 4 => ("MotherBench", "trial", "LMotherBench$Trial;", true)
  | 5 => ("MotherBench", "seen", "LMotherBench$Seen;", true)
  | 6 => ("MotherBench", "chances", "LMotherBench$Chances;", true)
  | 7 => ("MotherBench", "rows", "LMotherBench$Rows;", true)
  | 8 => ("MotherBench", "images", "[LMotherBench$Circuit;", true)
  | _ => ("MotherBench", "imaged", "I", false)
def tyX9 : Nat → FieldType := fun k => match k with
  | 0 => .object "MotherBench$Reader"
  | 1 => .object "MotherBench$Circuit"
  | 2 => .object "MotherBench$Court"
  | 3 => .object "MotherBench$Panels"
  | 4 => .object "MotherBench$Trial"
  | 5 => .object "MotherBench$Seen"
  | 6 => .object "MotherBench$Chances"
  | 7 => .object "MotherBench$Rows"
  | 8 => .array (.object "MotherBench$Circuit")
  | _ => .int
theorem nmX9 : ∀ a, a < 10 → ∀ b, b < 10 → a ≠ b → (TX9 a).2.1 ≠ (TX9 b).2.1 := by decide +kernel
theorem tyX9_ok : ∀ k, k < 10 → parseFieldDescriptor (TX9 k).2.2.1 = some (tyX9 k) := by decide +kernel
def RX10 : String := "MotherBenchModel"
def TX10 : u_T := fun k => match k with
  | 0 => ("MotherBenchModel", "thrown", "I", false)
  | 1 => ("MotherBenchModel", "width", "[I", true)
  | 2 => ("MotherBenchModel", "many", "[I", true)
  | 3 => ("MotherBenchModel", "cells", "[J", true)
  | 4 => ("MotherBenchModel", "moved", "[J", true)
  | 5 => ("MotherBenchModel", "tape", "[B", true)
  | 6 => ("MotherBenchModel", "taped", "I", false)
  | 7 => ("MotherBenchModel", "spot", "I", false)
  | 8 => ("MotherBenchModel", "token", "I", false)
  | 9 => ("MotherBenchModel", "place", "I", false)
  | 10 => ("MotherBenchModel", "value", "I", false)
  | 11 => ("MotherBenchModel", "word", "J", false)
  | 12 => ("MotherBenchModel", "bad", "I", false)
  | 13 => ("MotherBenchModel", "badPlace", "I", false)
  | 14 => ("MotherBenchModel", "fault", "I", false)
  | 15 => ("MotherBenchModel", "faultPlace", "I", false)
  | 16 => ("MotherBenchModel", "lines", "[I", true)
  | 17 => ("MotherBenchModel", "has", "[I", true)
  | 18 => ("MotherBenchModel", "toldMother", "[I", true)
  | 19 => ("MotherBenchModel", "kinOf", "[I", true)
  | 20 => ("MotherBenchModel", "toldCause", "[I", true)
  | 21 => ("MotherBenchModel", "act", "[I", true)
  | 22 => ("MotherBenchModel", "isKept", "[Z", true)
  | 23 => ("MotherBenchModel", "law", "I", false)
  | 24 => ("MotherBenchModel", "awayAll", "I", false)
  | 25 => ("MotherBenchModel", "unbrought", "I", false)
  | 26 => ("MotherBenchModel", "strictTold", "[I", true)
  | 27 => ("MotherBenchModel", "weighs", "[I", true)
  | 28 => ("MotherBenchModel", "signs", "[I", true)
  | 29 => ("MotherBenchModel", "dayTold", "[I", true)
  | 30 => ("MotherBenchModel", "hearings", "I", false)
  | 31 => ("MotherBenchModel", "heard", "[I", true)
  | 32 => ("MotherBenchModel", "strictAt", "[I", true)
  | 33 => ("MotherBenchModel", "satAt", "[I", true)
  | 34 => ("MotherBenchModel", "strictNow", "[I", true)
  | 35 => ("MotherBenchModel", "satNow", "[I", true)
  | 36 => ("MotherBenchModel", "latest", "[I", true)
  | 37 => ("MotherBenchModel", "everSat", "[I", true)
  | 38 => ("MotherBenchModel", "three", "[I", true)
  | 39 => ("MotherBenchModel", "askBest", "I", false)
  | 40 => ("MotherBenchModel", "askLeaves", "I", false)
  | 41 => ("MotherBenchModel", "seenBits", "J", false)
  | _ => ("MotherBenchModel", "byStrict", "[I", true)
def tyX10 : Nat → FieldType := fun k => match k with
  | 0 => .int
  | 1 => .array .int
  | 2 => .array .int
  | 3 => .array .long
  | 4 => .array .long
  | 5 => .array .byte
  | 6 => .int
  | 7 => .int
  | 8 => .int
  | 9 => .int
  | 10 => .int
  | 11 => .long
  | 12 => .int
  | 13 => .int
  | 14 => .int
  | 15 => .int
  | 16 => .array .int
  | 17 => .array .int
  | 18 => .array .int
  | 19 => .array .int
  | 20 => .array .int
  | 21 => .array .int
  | 22 => .array .boolean
  | 23 => .int
  | 24 => .int
  | 25 => .int
  | 26 => .array .int
  | 27 => .array .int
  | 28 => .array .int
  | 29 => .array .int
  | 30 => .int
  | 31 => .array .int
  | 32 => .array .int
  | 33 => .array .int
  | 34 => .array .int
  | 35 => .array .int
  | 36 => .array .int
  | 37 => .array .int
  | 38 => .array .int
  | 39 => .int
  | 40 => .int
  | 41 => .long
  | _ => .array .int
theorem nmX10 : ∀ a, a < 43 → ∀ b, b < 43 → a ≠ b → (TX10 a).2.1 ≠ (TX10 b).2.1 := by decide +kernel
theorem tyX10_ok : ∀ k, k < 43 → parseFieldDescriptor (TX10 k).2.2.1 = some (tyX10 k) := by decide +kernel
abbrev vwCl : List vw_C := [(RX0, TX0, 2), (RX1, TX1, 17), (RX2, TX2, 19), (RX3, TX3, 2), (RX4, TX4, 2), (RX5, TX5, 9), (RX6, TX6, 3), (RX7, TX7, 5), (RX8, TX8, 6), (RX9, TX9, 10), (RX10, TX10, 43)]
def m_nf (c : Nat) : Nat := match c with
  | 0 => 2
  | 1 => 17
  | 2 => 19
  | 3 => 2
  | 4 => 2
  | 5 => 9
  | 6 => 3
  | 7 => 5
  | 8 => 6
  | 9 => 10
  | 10 => 43
  | _ => 0
def m_tyf (c : Nat) (k : Nat) : FieldType := match c with
  | 0 => tyX0 k
  | 1 => tyX1 k
  | 2 => tyX2 k
  | 3 => tyX3 k
  | 4 => tyX4 k
  | 5 => tyX5 k
  | 6 => tyX6 k
  | 7 => tyX7 k
  | 8 => tyX8 k
  | 9 => tyX9 k
  | 10 => tyX10 k
  | _ => .int
def m_G : List Cond := lw_tbl.filter goodWord
def m_tk (k : Nat) : List Cond := match k with
  | 0 => k2_sels lw_privs
  | 1 => tables_1_1
  | 2 => tables_1_2
  | 3 => tables_1_3
  | 4 => tables_1_4
  | 5 => tables_1_5
  | 6 => tables_1_6
  | 7 => tables_1_7
  | 8 => tables_1_8
  | 9 => tables_1_9
  | _ => []
def m_wd (q : Nat) : Option Cond := (m_tk (q / 1000))[q % 1000]?
theorem m_wd_in {q : Nat} {w : Cond} (h : m_wd q = some w) : w ∈ lw_tbl := by
  have h1 : ∀ k, ∀ z ∈ m_tk k, z ∈ lw_tbl := by
    intro k z hz
    unfold m_tk at hz
    split at hz
    · exact List.mem_append_left _ hz
    · exact List.mem_append_right _ (List.mem_append_left _ hz)
    · exact List.mem_append_right _ (List.mem_append_right _ (List.mem_append_left _ hz))
    · exact List.mem_append_right _ (List.mem_append_right _ (List.mem_append_right _ (List.mem_append_left _ hz)))
    · exact List.mem_append_right _ (List.mem_append_right _ (List.mem_append_right _ (List.mem_append_right _ (List.mem_append_left _ hz))))
    · exact List.mem_append_right _ (List.mem_append_right _ (List.mem_append_right _ (List.mem_append_right _ (List.mem_append_right _ (List.mem_append_left _ hz)))))
    · exact List.mem_append_right _ (List.mem_append_right _ (List.mem_append_right _ (List.mem_append_right _ (List.mem_append_right _ (List.mem_append_right _ (List.mem_append_left _ hz))))))
    · exact List.mem_append_right _ (List.mem_append_right _ (List.mem_append_right _ (List.mem_append_right _ (List.mem_append_right _ (List.mem_append_right _ (List.mem_append_right _ (List.mem_append_left _ hz)))))))
    · exact List.mem_append_right _ (List.mem_append_right _ (List.mem_append_right _ (List.mem_append_right _ (List.mem_append_right _ (List.mem_append_right _ (List.mem_append_right _ (List.mem_append_right _ (List.mem_append_left _ hz))))))))
    · exact List.mem_append_right _ (List.mem_append_right _ (List.mem_append_right _ (List.mem_append_right _ (List.mem_append_right _ (List.mem_append_right _ (List.mem_append_right _ (List.mem_append_right _ (List.mem_append_right _ (hz)))))))))
    · cases hz
  exact h1 _ w (List.mem_of_getElem? h)
def m_pos : List Nat := [1024, 1032, 1038, 1186, 2012, 2025, 2035, 2073, 2090, 2113, 2160, 2164, 2168, 2172, 2176, 2180, 2184, 2187, 2191, 2195, 2199, 2203, 2207, 2211, 2214, 2218, 2222, 2227, 2231, 3043, 3048, 3055, 3062, 3067, 3074, 3081, 3085, 3089, 3093, 3099, 3103, 3107, 3111, 3115, 3119, 3122, 3125, 3131, 3134, 3140, 3144, 3148, 3152, 3156, 3160, 3164, 3168, 3172, 3176, 3180, 3184, 3188, 3192, 3196, 3200, 3204, 3208, 3211, 3218, 3222, 3227, 3231, 3236, 4000, 4004, 4008, 4012, 4016, 4020, 4024, 4028, 4032, 4036, 4040, 4044, 4048, 4052, 4056, 4060, 4064, 4068, 4073, 4077, 4081, 4085, 4090, 4094, 4098, 4102, 4106, 4110, 4114, 4118, 4122, 4126, 4130, 4134, 4138, 4142, 4146, 4150, 4154, 4158, 4163, 4167, 4172, 4177, 4181, 4186, 4190, 4194, 4201, 4205, 4209, 4213, 4217, 4221, 4225, 4229, 4233, 4237, 5007, 5011, 5015, 5019, 5023, 5029, 5033, 5037, 5041, 5045, 5049, 5053, 5058, 5064, 5070, 5075, 5079, 5083, 5087, 5091, 5095, 5099, 5104, 5109, 5113, 5117, 5121, 5125, 5129, 5134, 5139, 5143, 5148, 5156, 5159, 5163, 5166, 5170, 5174, 5178, 5182, 5186, 5190, 5194, 5198, 5204, 5208, 5213, 5219, 5225, 5230, 5235, 5239, 6003, 6007, 6011, 6015, 6019, 6023, 6028, 6036, 6040, 6044, 6050, 6054, 6058, 6063, 6067, 6071, 6075, 6079, 6083, 6087, 6091, 6095, 6099, 6103, 6107, 6113, 7009, 7012, 7016, 7020, 7023, 7027, 7031, 7035, 7039, 7043, 7047, 7051, 7055, 7059, 7063, 7067, 7076, 7081, 7085, 7089, 7093, 7098, 7102, 7108, 7113, 7117, 7121, 7128, 7132, 7137, 7144, 7148, 7152, 7155, 7159, 7163, 7167, 7172, 7176, 7180, 7184, 7188, 7193, 7197, 7201, 7205, 7209, 7213, 7216, 7220, 7224, 7228, 7231, 7234, 7237, 8001, 8005, 8009, 8013, 8017, 8021, 8025, 8029, 8033, 8037, 8041, 8045, 8049, 8053, 8057, 8061, 8065, 8069, 8073, 8077, 8081, 8085, 8089, 8093, 8097, 8101, 8105, 8109, 8113, 8117, 8121, 8125, 8129, 8133, 8137, 8141, 8145, 8149, 8153, 8157, 8161, 8165, 8169, 8173, 8177, 8181, 8185, 8189, 8193, 8197, 8200, 8204, 8208, 8212, 8216, 8220, 8224, 8228, 8232, 8236, 9000, 9004, 9008, 9012, 9016, 9020, 9024, 9028, 9033, 9037, 9041, 9045, 9049, 9053, 9057, 9061, 9065, 9069, 9073, 9077, 9081, 9085, 9089, 9093, 9096, 9100, 9103, 9106, 9110, 9114, 9118, 9122, 9126, 9130, 9134, 9138, 9143, 9146, 9151, 9159, 9164, 9168, 9172, 9176, 9180, 9184, 9189, 9194, 9198]
def m_cw (k : Nat) : Option (MethodName × ByteArray × Nat × Option FieldType) := match m_pos[k]? with
  | some i => match m_wd i with
    | some (.code y b n r) => some (y, b, n, r)
    | _ => none
  | none => none
def m_lk_0 : List (Nat × (Nat × Nat × Int × List Nat)) := [(7, (21, 9, 0, [])), (9, (24, 0, 1, [0, 2, 9])), (13, (24, 10, 0, [5, 6, 9])), (18, (24, 13, 0, [1, 2, 9])), (23, (24, 14, 0, [0, 1, 9])), (28, (24, 49, 0, [1, 2, 9])), (32, (24, 50, 0, [2, 3, 9])), (37, (24, 52, 0, [1, 2, 9])), (41, (24, 53, 0, [2, 3, 9])), (45, (24, 55, 0, [1, 2, 9])), (49, (24, 56, 0, [1, 2, 9])), (53, (24, 58, 0, [2, 3, 9])), (57, (24, 60, 0, [1, 2, 9])), (61, (24, 62, 0, [1, 2, 9])), (65, (24, 64, 0, [1, 2, 9])), (69, (24, 68, 0, [1, 2, 9])), (73, (24, 70, 0, [0, 3, 9])), (77, (24, 72, 0, [2, 3, 9])), (81, (24, 75, 0, [2, 3, 9])), (85, (24, 77, 0, [1, 2, 9])), (89, (24, 79, 0, [1, 2, 9])), (93, (24, 81, 0, [1, 2, 9])), (97, (24, 83, 0, [1, 2, 9])), (101, (24, 85, 0, [2, 3, 9])), (105, (24, 87, 0, [1, 2, 9])), (109, (24, 90, 0, [2, 3, 9])), (113, (24, 91, 0, [1, 3, 9])), (117, (24, 92, 0, [0, 5, 9])), (121, (24, 93, 0, [0, 1, 9])), (125, (24, 95, 0, [0, 4, 9])), (129, (24, 96, 0, [1, 4, 9])), (133, (24, 97, 0, [1, 4, 9])), (137, (24, 98, 0, [0, 3, 9])), (141, (24, 99, 0, [0, 3, 9])), (145, (24, 100, 0, [1, 2, 9])), (149, (24, 103, 0, [1, 2, 9])), (153, (24, 104, 0, [1, 4, 9])), (157, (24, 105, 0, [1, 2, 9])), (161, (24, 107, 0, [1, 2, 9])), (165, (24, 108, 0, [0, 4, 9])), (169, (24, 109, 0, [0, 5, 9])), (173, (24, 110, 0, [1, 2, 9])), (177, (24, 112, 0, [1, 2, 9])), (181, (24, 113, 0, [0, 1, 9])), (185, (24, 116, 0, [2, 3, 9])), (189, (24, 118, 0, [1, 3, 9])), (193, (24, 121, 0, [1, 2, 9])), (197, (24, 122, 0, [1, 3, 9])), (201, (24, 124, 0, [1, 2, 9])), (205, (24, 125, 0, [1, 2, 9])), (209, (24, 128, 0, [1, 3, 9])), (213, (24, 131, 0, [1, 2, 9])), (217, (24, 132, 0, [1, 2, 9])), (221, (24, 134, 0, [0, 1, 9])), (225, (24, 136, 0, [2, 4, 9])), (229, (24, 146, 0, [2, 4, 9])), (233, (24, 148, 0, [2, 4, 9])), (237, (24, 150, 0, [2, 4, 9])), (241, (24, 153, 0, [2, 5, 9])), (245, (24, 154, 0, [1, 3, 9])), (249, (24, 156, 0, [1, 2, 9])), (253, (24, 158, 0, [0, 1, 9])), (257, (24, 160, 0, [1, 2, 9])), (261, (24, 162, 0, [2, 3, 9])), (265, (24, 169, 0, [2, 3, 9])), (269, (24, 174, 0, [4, 5, 9])), (274, (24, 176, 0, [3, 4, 9])), (279, (24, 180, 0, [1, 2, 9])), (284, (24, 182, 0, [2, 3, 9])), (288, (24, 184, 0, [2, 3, 9])), (292, (24, 186, 0, [0, 1, 9])), (296, (24, 187, 0, [0, 2, 9])), (300, (24, 188, 0, [2, 4, 9])), (304, (24, 192, 0, [3, 4, 9])), (308, (24, 194, 0, [2, 4, 9])), (312, (24, 195, 0, [1, 2, 9])), (316, (24, 197, 0, [1, 2, 9])), (320, (24, 198, 0, [1, 2, 9])), (324, (24, 199, 0, [3, 4, 9])), (330, (24, 202, 0, [3, 5, 9])), (335, (24, 205, 0, [5, 6, 9])), (10, (21, 10, 0, [])), (12, (24, 209, 1, [0, 2, 10])), (327, (24, 210, 0, [3, 5, 10])), (334, (24, 213, 0, [3, 5, 10])), (338, (24, 215, 0, [5, 7, 10])), (17, (24, 216, 0, [5, 6, 10])), (22, (24, 218, 0, [1, 2, 10])), (31, (24, 219, 0, [1, 2, 10])), (27, (24, 220, 0, [0, 1, 10])), (36, (24, 244, 0, [2, 3, 10])), (40, (24, 247, 0, [1, 2, 10])), (44, (24, 249, 0, [2, 3, 10])), (48, (24, 252, 0, [1, 4, 10])), (52, (24, 266, 0, [1, 2, 10])), (56, (24, 269, 0, [2, 3, 10])), (60, (24, 270, 0, [1, 2, 10])), (64, (24, 271, 0, [1, 2, 10])), (68, (24, 272, 0, [1, 5, 10])), (72, (24, 273, 0, [1, 2, 10])), (76, (24, 275, 0, [0, 3, 10])), (80, (24, 277, 0, [2, 3, 10])), (84, (24, 279, 0, [2, 3, 10])), (88, (24, 280, 0, [1, 4, 10])), (92, (24, 282, 0, [1, 3, 10])), (96, (24, 283, 0, [1, 4, 10])), (100, (24, 285, 0, [1, 4, 10])), (104, (24, 286, 0, [2, 5, 10])), (108, (24, 287, 0, [1, 2, 10])), (112, (24, 290, 0, [2, 3, 10])), (116, (24, 291, 0, [1, 3, 10])), (120, (24, 292, 0, [0, 3, 10])), (124, (24, 293, 0, [0, 1, 10])), (128, (24, 296, 0, [0, 3, 10])), (132, (24, 297, 0, [1, 2, 10])), (136, (24, 299, 0, [1, 2, 10])), (140, (24, 300, 0, [0, 3, 10])), (144, (24, 301, 0, [0, 3, 10])), (148, (24, 302, 0, [1, 4, 10])), (152, (24, 304, 0, [1, 2, 10])), (156, (24, 305, 0, [1, 4, 10])), (160, (24, 306, 0, [1, 2, 10])), (164, (24, 308, 0, [1, 2, 10])), (168, (24, 309, 0, [0, 3, 10])), (172, (24, 310, 0, [0, 4, 10])), (176, (24, 311, 0, [1, 4, 10])), (180, (24, 312, 0, [1, 2, 10])), (184, (24, 313, 0, [0, 3, 10])), (188, (24, 316, 0, [2, 3, 10])), (192, (24, 318, 0, [1, 2, 10])), (196, (24, 322, 0, [1, 2, 10])), (200, (24, 323, 0, [1, 2, 10])), (204, (24, 324, 0, [1, 2, 10])), (208, (24, 325, 0, [1, 7, 10])), (212, (24, 326, 0, [1, 3, 10])), (216, (24, 328, 0, [1, 2, 10])), (220, (24, 329, 0, [1, 5, 10])), (224, (24, 330, 0, [0, 6, 10])), (228, (24, 331, 0, [2, 4, 10])), (232, (24, 338, 0, [2, 5, 10])), (236, (24, 339, 0, [2, 5, 10])), (240, (24, 340, 0, [2, 4, 10])), (244, (24, 341, 0, [2, 4, 10])), (248, (24, 342, 0, [1, 5, 10])), (252, (24, 344, 0, [1, 2, 10])), (256, (24, 345, 0, [0, 3, 10])), (260, (24, 346, 0, [1, 2, 10])), (264, (24, 348, 0, [2, 7, 10])), (268, (24, 353, 0, [2, 8, 10])), (273, (24, 356, 0, [4, 5, 10])), (278, (24, 357, 0, [3, 4, 10])), (283, (24, 360, 0, [1, 2, 10])), (303, (24, 361, 0, [2, 4, 10])), (307, (24, 364, 0, [3, 6, 10])), (287, (24, 365, 0, [2, 3, 10])), (291, (24, 367, 0, [2, 5, 10])), (295, (24, 368, 0, [0, 1, 10])), (299, (24, 369, 0, [0, 2, 10])), (311, (24, 370, 0, [2, 4, 10])), (315, (24, 371, 0, [1, 4, 10])), (319, (24, 372, 0, [1, 2, 10])), (323, (24, 373, 0, [1, 2, 10])), (328, (1, 0, 4294967295, []))]
def m_lk_1 : List (Nat × (Nat × Nat × Int × List Nat)) := [(3, (25, 0, 0, [])), (9, (21, 5, 0, [])), (11, (24, 1, 4, [0, 1, 5])), (99, (15, 1, 0, [])), (196, (15, 1, 1, [])), (360, (15, 1, 2, [])), (363, (15, 1, 3, [])), (203, (15, 1, 4, [])), (366, (15, 1, 5, [])), (160, (15, 1, 6, [])), (344, (15, 1, 7, [])), (112, (15, 1, 8, [])), (116, (15, 1, 9, [])), (119, (15, 1, 10, [])), (125, (15, 1, 11, [])), (128, (15, 1, 12, [])), (131, (15, 1, 13, [])), (83, (15, 5, 1, [])), (102, (15, 5, 2, [])), (105, (15, 5, 3, [])), (90, (15, 5, 4, [])), (16, (21, 1, 0, [])), (18, (24, 2, 4, [0, 1, 1])), (23, (21, 2, 0, [])), (25, (24, 3, 1, [1, 2, 2])), (134, (15, 2, 13, [])), (221, (15, 2, 14, [])), (32, (21, 4, 0, [])), (34, (24, 4, 1, [1, 2, 4])), (39, (21, 8, 0, [])), (41, (24, 5, 1, [1, 2, 8])), (300, (15, 8, 3, [])), (46, (21, 6, 0, [])), (48, (24, 7, 4, [0, 1, 6])), (53, (21, 7, 0, [])), (55, (24, 8, 1, [2, 3, 7])), (260, (15, 7, 2, [])), (62, (21, 0, 0, [])), (64, (24, 9, 1, [1, 2, 0])), (331, (15, 0, 1, [])), (12, (15, 9, 0, [])), (19, (15, 9, 1, [])), (28, (15, 9, 2, [])), (35, (15, 9, 3, [])), (42, (15, 9, 4, [])), (58, (15, 9, 5, [])), (67, (15, 9, 6, [])), (49, (15, 9, 7, [])), (71, (15, 9, 8, [])), (370, (15, 9, 9, [])), (75, (24, 11, 0, [0, 1, 5])), (79, (24, 12, 0, [1, 3, 5])), (87, (24, 15, 0, [0, 2, 5])), (93, (24, 34, 0, [1, 2, 1])), (96, (24, 35, 0, [0, 1, 9])), (394, (24, 36, 0, [0, 3, 2])), (397, (24, 38, 0, [2, 9, 2])), (108, (24, 51, 0, [1, 2, 9])), (122, (24, 54, 0, [1, 2, 9])), (137, (24, 57, 0, [1, 2, 2])), (141, (24, 59, 0, [2, 3, 2])), (145, (24, 61, 0, [1, 2, 2])), (148, (24, 63, 0, [1, 2, 2])), (151, (24, 65, 0, [1, 4, 2])), (154, (24, 69, 0, [1, 5, 2])), (157, (24, 71, 0, [0, 1, 1])), (163, (24, 40, 0, [1, 2, 2])), (166, (24, 73, 0, [1, 2, 9])), (169, (24, 74, 0, [2, 3, 2])), (172, (24, 76, 0, [2, 3, 2])), (175, (24, 78, 0, [1, 4, 2])), (178, (24, 80, 0, [1, 3, 2])), (181, (24, 82, 0, [1, 4, 2])), (184, (24, 84, 0, [1, 4, 2])), (187, (24, 86, 0, [1, 4, 2])), (190, (24, 88, 0, [1, 4, 2])), (193, (24, 89, 0, [2, 5, 2])), (199, (24, 94, 0, [0, 3, 2])), (206, (24, 101, 0, [1, 2, 9])), (209, (24, 102, 0, [1, 4, 2])), (212, (24, 106, 0, [2, 8, 2])), (215, (24, 111, 0, [1, 4, 2])), (218, (24, 39, 0, [0, 1, 1])), (224, (24, 114, 0, [0, 3, 4])), (227, (24, 117, 0, [2, 3, 4])), (230, (24, 119, 0, [1, 6, 4])), (233, (24, 120, 0, [2, 5, 4])), (236, (24, 123, 0, [1, 6, 4])), (239, (24, 126, 0, [1, 6, 4])), (242, (24, 129, 0, [1, 6, 8])), (245, (24, 67, 2, [1, 1, 99])), (250, (24, 133, 0, [1, 6, 8])), (253, (24, 135, 0, [1, 7, 8])), (257, (24, 137, 0, [2, 4, 9])), (275, (24, 138, 0, [1, 2, 6])), (278, (24, 139, 0, [1, 2, 9])), (380, (24, 140, 0, [1, 2, 6])), (403, (24, 141, 0, [1, 8, 7])), (400, (24, 144, 0, [2, 5, 7])), (263, (24, 147, 0, [0, 1, 7])), (266, (24, 149, 0, [0, 1, 7])), (269, (24, 151, 0, [0, 5, 7])), (272, (24, 152, 0, [1, 6, 7])), (281, (24, 155, 0, [1, 4, 7])), (284, (24, 157, 0, [1, 2, 8])), (287, (24, 159, 0, [0, 5, 8])), (290, (24, 130, 0, [0, 1, 8])), (293, (24, 161, 0, [1, 2, 8])), (296, (0, 0, (-1000000), [])), (297, (24, 163, 0, [1, 9, 8])), (304, (24, 168, 0, [1, 2, 3])), (310, (24, 170, 0, [2, 3, 9])), (314, (24, 171, 0, [2, 6, 8])), (317, (24, 175, 0, [1, 2, 9])), (320, (24, 172, 0, [4, 5, 8])), (324, (24, 173, 0, [2, 3, 8])), (327, (24, 177, 0, [2, 8, 0])), (332, (1, 0, (-2), [])), (334, (24, 181, 0, [0, 6, 0])), (337, (24, 183, 0, [3, 4, 1])), (341, (24, 185, 0, [0, 3, 2])), (347, (24, 189, 0, [1, 2, 0])), (350, (24, 190, 0, [1, 6, 0])), (353, (24, 191, 0, [1, 2, 0])), (356, (24, 193, 0, [3, 6, 0])), (369, (24, 196, 0, [0, 3, 6])), (373, (24, 200, 0, [1, 2, 6])), (376, (24, 201, 0, [3, 5, 6])), (383, (24, 203, 0, [3, 5, 6])), (387, (24, 206, 0, [2, 3, 6])), (390, (24, 207, 0, [5, 6, 6]))]
def m_lk_2 : List (Nat × (Nat × Nat × Int × List Nat)) := [(3, (25, 0, 0, [])), (19, (21, 1, 0, [])), (21, (24, 2, 4, [0, 1, 1])), (47, (15, 1, 0, [])), (91, (15, 1, 1, [])), (95, (15, 1, 2, [])), (99, (15, 1, 3, [])), (101, (15, 1, 4, [])), (113, (15, 1, 5, [])), (118, (15, 1, 6, [])), (106, (15, 1, 8, [])), (111, (15, 1, 9, [])), (116, (15, 1, 10, [])), (123, (15, 1, 11, [])), (127, (15, 1, 12, [])), (131, (15, 1, 13, [])), (11, (15, 5, 0, [])), (26, (15, 5, 1, [])), (32, (15, 5, 2, [])), (15, (15, 5, 3, [])), (22, (15, 5, 4, [])), (41, (15, 5, 5, [])), (72, (15, 5, 6, [])), (35, (15, 5, 7, [])), (133, (15, 5, 8, [])), (29, (24, 16, 0, [0, 1, 1])), (38, (24, 18, 0, [0, 1, 5])), (146, (24, 19, 0, [1, 2, 5])), (150, (24, 20, 0, [1, 2, 5])), (153, (24, 21, 0, [0, 1, 5])), (156, (24, 22, 0, [1, 2, 5])), (159, (24, 23, 0, [0, 1, 5])), (44, (24, 25, 0, [0, 1, 5])), (50, (24, 26, 0, [0, 1, 5])), (81, (24, 27, 0, [1, 2, 5])), (55, (24, 28, 0, [1, 3, 5])), (75, (24, 29, 0, [2, 3, 5])), (87, (24, 30, 0, [2, 4, 5])), (59, (24, 31, 0, [0, 3, 5])), (64, (24, 32, 0, [0, 4, 5])), (69, (24, 33, 0, [0, 2, 5]))]
def m_lk_3 : List (Nat × (Nat × Nat × Int × List Nat)) := [(3, (25, 0, 0, [])), (39, (15, 1, 0, [])), (43, (15, 1, 1, [])), (46, (15, 1, 2, [])), (49, (15, 1, 3, [])), (52, (15, 1, 4, [])), (55, (15, 1, 5, [])), (58, (15, 1, 6, [])), (61, (15, 1, 7, [])), (9, (15, 1, 8, [])), (15, (15, 1, 9, [])), (18, (15, 1, 10, [])), (21, (15, 1, 11, [])), (24, (15, 1, 12, [])), (27, (15, 1, 13, [])), (30, (15, 1, 14, [])), (33, (15, 1, 15, [])), (36, (15, 1, 16, [])), (64, (24, 17, 2, [2, 4, 99])), (70, (26, 0, 0, []))]
def m_lk_4 : List (Nat × (Nat × Nat × Int × List Nat)) := [(68, (15, 1, 1, [])), (156, (15, 1, 2, [])), (134, (15, 1, 4, [])), (73, (15, 1, 6, [])), (83, (15, 1, 7, [])), (104, (15, 1, 8, [])), (131, (15, 1, 10, [])), (164, (15, 1, 12, [])), (76, (15, 1, 13, [])), (89, (15, 1, 14, [])), (92, (15, 1, 15, [])), (86, (15, 1, 16, [])), (3, (25, 0, 0, [])), (60, (15, 2, 0, [])), (64, (15, 2, 1, [])), (9, (15, 2, 2, [])), (15, (15, 2, 3, [])), (18, (15, 2, 4, [])), (21, (15, 2, 5, [])), (95, (15, 2, 6, [])), (24, (15, 2, 7, [])), (27, (15, 2, 8, [])), (30, (15, 2, 9, [])), (33, (15, 2, 10, [])), (36, (15, 2, 11, [])), (39, (15, 2, 12, [])), (42, (15, 2, 13, [])), (45, (15, 2, 14, [])), (48, (15, 2, 15, [])), (51, (15, 2, 16, [])), (54, (15, 2, 17, [])), (57, (15, 2, 18, [])), (79, (24, 37, 0, [3, 4, 2])), (98, (24, 17, 2, [2, 4, 99])), (107, (26, 0, 0, [])), (113, (24, 39, 0, [0, 1, 1])), (117, (24, 40, 0, [1, 2, 2])), (121, (24, 41, 0, [1, 6, 2])), (128, (24, 42, 0, [1, 4, 2])), (125, (24, 43, 0, [3, 9, 2])), (137, (24, 44, 0, [3, 6, 1])), (141, (24, 46, 5, [3, 3, 9])), (144, (24, 47, 0, [3, 4, 2])), (159, (24, 48, 2, [2, 2, 99])), (167, (24, 66, 0, [2, 5, 2])), (176, (24, 67, 2, [1, 1, 99])), (170, (24, 59, 0, [2, 3, 2])), (179, (24, 89, 0, [2, 5, 2])), (173, (24, 61, 0, [1, 2, 2]))]
def m_lk_5 : List (Nat × (Nat × Nat × Int × List Nat)) := [(69, (15, 1, 1, [])), (89, (15, 1, 2, [])), (95, (15, 1, 4, [])), (76, (15, 1, 6, [])), (111, (15, 1, 11, [])), (53, (15, 1, 12, [])), (73, (15, 1, 13, [])), (3, (25, 0, 0, [])), (15, (21, 1, 0, [])), (17, (24, 2, 4, [0, 1, 1])), (21, (21, 2, 0, [])), (23, (24, 3, 1, [1, 2, 2])), (30, (21, 3, 0, [])), (32, (24, 6, 4, [0, 1, 3])), (9, (15, 8, 0, [])), (18, (15, 8, 1, [])), (26, (15, 8, 2, [])), (33, (15, 8, 3, [])), (37, (15, 8, 4, [])), (41, (15, 8, 5, [])), (50, (24, 130, 0, [0, 1, 8])), (44, (24, 34, 0, [1, 2, 1])), (47, (24, 36, 0, [0, 3, 2])), (56, (24, 38, 0, [2, 9, 2])), (60, (24, 61, 0, [1, 2, 2])), (64, (24, 67, 2, [1, 1, 99])), (79, (24, 94, 0, [0, 3, 2])), (92, (24, 157, 0, [1, 2, 8])), (98, (24, 39, 0, [0, 1, 1])), (104, (24, 161, 0, [1, 2, 8])), (107, (24, 164, 0, [2, 7, 3])), (114, (24, 172, 0, [4, 5, 8])), (118, (24, 173, 0, [2, 3, 8]))]
def m_lk_6 : List (Nat × (Nat × Nat × Int × List Nat)) := [(90, (15, 1, 2, [])), (42, (15, 1, 6, [])), (61, (15, 1, 8, [])), (36, (15, 8, 0, [])), (58, (15, 8, 1, [])), (64, (15, 8, 2, [])), (3, (25, 0, 0, [])), (18, (15, 7, 0, [])), (22, (15, 7, 1, [])), (55, (15, 7, 2, [])), (9, (15, 7, 3, [])), (15, (15, 7, 4, [])), (26, (24, 142, 0, [1, 2, 6])), (32, (24, 143, 0, [2, 3, 6])), (48, (1, 0, (-1), [])), (50, (1, 0, 200, [])), (52, (24, 130, 0, [0, 1, 8])), (68, (24, 38, 0, [2, 9, 2])), (74, (24, 145, 0, [1, 4, 7])), (78, (24, 61, 0, [1, 2, 2])), (81, (24, 152, 0, [1, 6, 7]))]
def m_lk_7 : List (Nat × (Nat × Nat × Int × List Nat)) := [(67, (15, 1, 3, [])), (31, (15, 1, 6, [])), (27, (15, 8, 0, [])), (41, (15, 8, 2, [])), (3, (25, 0, 0, [])), (15, (21, 3, 0, [])), (17, (24, 6, 4, [0, 1, 3])), (9, (15, 0, 0, [])), (18, (15, 0, 1, [])), (22, (24, 130, 0, [0, 1, 8])), (37, (24, 178, 0, [1, 5, 0])), (45, (24, 38, 0, [2, 9, 2])), (51, (24, 61, 0, [1, 2, 2])), (55, (24, 179, 0, [0, 4, 0])), (70, (1, 0, 10, [])), (59, (24, 164, 0, [2, 7, 3])), (63, (24, 94, 0, [0, 3, 2])), (72, (0, 0, 2000000000, [])), (73, (1, 0, 1103515245, [])), (75, (1, 0, 12345, [])), (77, (1, 0, 2147483648, [])), (79, (1, 0, 65536, [])), (81, (24, 190, 0, [1, 6, 0])), (84, (24, 40, 0, [1, 2, 2]))]
def m_lk_8 : List (Nat × (Nat × Nat × Int × List Nat)) := [(40, (15, 1, 4, [])), (29, (15, 1, 8, [])), (53, (15, 1, 10, [])), (3, (25, 0, 0, [])), (15, (15, 4, 0, [])), (9, (15, 4, 1, [])), (19, (24, 39, 0, [0, 1, 1])), (25, (24, 115, 0, [1, 3, 4])), (47, (24, 67, 2, [1, 1, 99])), (32, (24, 44, 0, [3, 6, 1])), (36, (24, 120, 0, [2, 5, 4])), (56, (24, 117, 0, [2, 3, 4])), (59, (24, 46, 5, [3, 3, 9])), (44, (24, 127, 0, [2, 6, 4]))]
def m_lk_9 : List (Nat × (Nat × Nat × Int × List Nat)) := [(1, (25, 0, 0, [])), (26, (15, 3, 0, [])), (7, (15, 3, 1, [])), (19, (24, 166, 0, [2, 12, 3]))]
def m_lk_10 : List (Nat × (Nat × Nat × Int × List Nat)) := [(3, (25, 0, 0, [])), (11, (15, 6, 0, [])), (15, (15, 6, 1, [])), (19, (15, 6, 2, [])), (22, (24, 140, 0, [1, 2, 6])), (32, (24, 204, 0, [2, 4, 6])), (36, (24, 208, 0, [3, 4, 6])), (40, (26, 0, 0, []))]
def m_lk_11 : List (Nat × (Nat × Nat × Int × List Nat)) := [(265, (0, 0, 1431655765, [])), (266, (0, 0, 858993459, [])), (267, (0, 0, 252645135, []))]
def m_lk_12 : List (Nat × (Nat × Nat × Int × List Nat)) := [(1, (25, 0, 0, [])), (92, (15, 10, 0, [])), (7, (15, 10, 1, [])), (13, (15, 10, 2, [])), (16, (15, 10, 3, [])), (20, (15, 10, 4, [])), (23, (15, 10, 5, [])), (109, (15, 10, 6, [])), (116, (15, 10, 7, [])), (133, (15, 10, 8, [])), (123, (15, 10, 9, [])), (126, (15, 10, 10, [])), (129, (15, 10, 11, [])), (144, (15, 10, 12, [])), (147, (15, 10, 13, [])), (171, (15, 10, 14, [])), (27, (15, 10, 15, [])), (31, (15, 10, 16, [])), (34, (15, 10, 17, [])), (37, (15, 10, 18, [])), (40, (15, 10, 19, [])), (43, (15, 10, 20, [])), (46, (15, 10, 21, [])), (49, (15, 10, 22, [])), (268, (15, 10, 23, [])), (271, (15, 10, 24, [])), (274, (15, 10, 25, [])), (53, (15, 10, 26, [])), (56, (15, 10, 27, [])), (59, (15, 10, 28, [])), (62, (15, 10, 29, [])), (292, (15, 10, 30, [])), (65, (15, 10, 31, [])), (68, (15, 10, 32, [])), (71, (15, 10, 33, [])), (74, (15, 10, 34, [])), (77, (15, 10, 35, [])), (80, (15, 10, 36, [])), (83, (15, 10, 37, [])), (86, (15, 10, 38, [])), (397, (15, 10, 39, [])), (403, (15, 10, 40, [])), (391, (15, 10, 41, [])), (89, (15, 10, 42, [])), (101, (24, 211, 2, [1, 1, 10])), (95, (1, 0, 3, [])), (97, (24, 212, 2, [3, 6, 10])), (105, (24, 214, 2, [2, 3, 10])), (112, (24, 217, 0, [1, 3, 10])), (218, (24, 221, 0, [0, 2, 10])), (185, (24, 222, 0, [2, 3, 10])), (221, (24, 223, 0, [0, 1, 10])), (154, (24, 224, 0, [0, 2, 10])), (119, (24, 225, 0, [3, 4, 10])), (136, (1, 0, (-1), [])), (138, (1, 0, 27, [])), (140, (1, 0, 96, [])), (142, (0, 0, 100000, [])), (143, (0, 0, 1000000, [])), (224, (24, 226, 0, [0, 1, 10])), (228, (1, 0, 1301042189, [])), (163, (24, 227, 0, [1, 3, 10])), (157, (24, 228, 0, [1, 3, 10])), (150, (24, 229, 0, [1, 3, 10])), (160, (24, 230, 0, [1, 2, 10])), (230, (1, 0, 80155, [])), (180, (24, 231, 0, [3, 5, 10])), (167, (24, 232, 0, [2, 4, 10])), (232, (1, 0, 8798, [])), (234, (1, 0, 298288, [])), (236, (24, 233, 0, [0, 1, 10])), (199, (1, 0, 194907051, [])), (201, (24, 234, 0, [3, 4, 10])), (174, (24, 235, 0, [1, 2, 10])), (205, (24, 236, 0, [0, 3, 10])), (178, (1, 0, 283619009, [])), (183, (1, 0, 454132, [])), (208, (1, 0, 8276, [])), (210, (24, 237, 0, [0, 2, 10])), (189, (24, 238, 0, [2, 6, 10])), (213, (1, 0, 1629833, [])), (215, (24, 239, 0, [0, 2, 10])), (193, (1, 0, 332864551, [])), (195, (1, 0, 10280026, [])), (197, (1, 0, 47, [])), (239, (24, 240, 0, [0, 1, 10])), (242, (24, 241, 0, [0, 1, 10])), (245, (24, 242, 0, [2, 3, 10])), (248, (24, 243, 2, [4, 5, 10])), (325, (24, 245, 0, [1, 2, 10])), (252, (24, 246, 0, [0, 1, 10])), (328, (1, 0, 4, [])), (280, (24, 248, 0, [1, 4, 10])), (265, (24, 250, 0, [1, 3, 10])), (256, (24, 251, 0, [0, 1, 10])), (330, (1, 0, 2, [])), (332, (24, 253, 0, [0, 1, 10])), (313, (24, 254, 0, [0, 2, 10])), (316, (24, 255, 0, [0, 5, 10])), (262, (24, 256, 0, [0, 1, 10])), (306, (24, 257, 0, [1, 4, 10])), (277, (24, 258, 2, [2, 2, 10])), (309, (24, 259, 0, [3, 8, 10])), (289, (24, 260, 0, [1, 7, 10])), (295, (24, 261, 0, [4, 7, 10])), (283, (24, 262, 2, [2, 2, 10])), (299, (24, 263, 2, [3, 3, 10])), (286, (24, 264, 2, [2, 2, 10])), (303, (24, 265, 0, [2, 7, 10])), (335, (24, 267, 0, [3, 4, 10])), (319, (24, 268, 0, [1, 2, 10])), (338, (24, 274, 0, [1, 3, 10])), (259, (24, 276, 0, [0, 1, 10])), (341, (24, 278, 0, [1, 2, 10])), (344, (24, 281, 0, [2, 3, 10])), (347, (24, 284, 0, [2, 5, 10])), (353, (24, 288, 0, [1, 4, 10])), (350, (24, 289, 0, [2, 5, 10])), (356, (24, 294, 0, [0, 3, 10])), (322, (24, 295, 0, [1, 2, 10])), (359, (24, 298, 0, [2, 5, 10])), (362, (24, 303, 0, [1, 2, 10])), (365, (24, 307, 0, [2, 7, 10])), (371, (24, 314, 0, [1, 3, 10])), (368, (24, 315, 2, [1, 3, 10])), (374, (24, 317, 0, [2, 3, 10])), (383, (24, 319, 0, [2, 4, 10])), (380, (24, 320, 0, [2, 5, 10])), (377, (24, 321, 0, [2, 5, 10])), (386, (24, 327, 0, [1, 6, 10])), (412, (24, 332, 0, [2, 5, 10])), (389, (1, 0, 200, [])), (416, (24, 333, 0, [2, 5, 10])), (394, (24, 334, 0, [1, 3, 10])), (400, (24, 335, 0, [0, 3, 10])), (409, (24, 336, 0, [1, 2, 10])), (406, (24, 337, 0, [1, 6, 10])), (419, (24, 343, 0, [1, 2, 10])), (422, (24, 347, 0, [1, 2, 10])), (432, (24, 349, 2, [1, 1, 10])), (435, (0, 0, (-1000000), [])), (425, (24, 350, 2, [1, 1, 10])), (436, (24, 351, 2, [3, 5, 10])), (428, (24, 352, 2, [2, 4, 10])), (440, (24, 354, 0, [2, 3, 10])), (443, (24, 355, 0, [5, 6, 10])), (452, (24, 358, 0, [2, 8, 10])), (450, (1, 0, 10, [])), (447, (24, 359, 2, [2, 3, 10])), (456, (1, 0, (-2), [])), (468, (24, 362, 2, [1, 1, 10])), (466, (1, 0, 2000000000, [])), (471, (24, 363, 0, [1, 7, 10])), (458, (1, 0, 1103515245, [])), (460, (1, 0, 12345, [])), (462, (1, 0, 2147483648, [])), (464, (1, 0, 65536, [])), (475, (1, 0, 20, [])), (477, (24, 366, 0, [3, 5, 10])), (480, (1, 0, 15, [])), (482, (1, 0, 6, []))]
def m_lko : List (String × List (Nat × (Nat × Nat × Int × List Nat))) := [("MotherBenchLaw", m_lk_0), ("MotherBench", m_lk_1), ("MotherBench$Reader", m_lk_2), ("MotherBench$Circuit", m_lk_3), ("MotherBench$Court", m_lk_4), ("MotherBench$Trial", m_lk_5), ("MotherBench$Seen", m_lk_6), ("MotherBench$Chances", m_lk_7), ("MotherBench$Panels", m_lk_8), ("MotherBench$Fraction", m_lk_9), ("MotherBench$Rows", m_lk_10), ("java/lang/Integer", m_lk_11), ("MotherBenchModel", m_lk_12)]
def m_lk (o : String) (i : Nat) : Option (Nat × Nat × Int × List Nat) := match m_lko.lookup o with
  | some t => t.lookup i
  | none => none
end
section
/-! THE SMALL MACHINE: cells by their places, instructions as numbers; what the kit's rows say of the real one, said once for all programs -/
abbrev m_E : Type := (Nat × (List Int32 ⊕ (List Int64 ⊕ List (Option Nat)))) ⊕ (Nat × List Value)
abbrev m_S : Type := List m_E
abbrev m_V : Type := List (Nat × Value)
abbrev m_I : Type := Nat × Nat × Int × List Nat
abbrev m_O : Type := (Nat × m_V × List Value × m_S) ⊕ (Option Value ⊕ (Nat × List Value × List Value))
abbrev m_fzb : Nat := 1000000
def m_k (v : Value) : Int := match v with
  | .int _ => 0
  | .long _ => 1
  | .ref _ => 2
  | _ => 3
def m_ld (lv : m_V) (i : Nat) : Option Value := (lv.find? (fun q => q.1 == i)).map (fun q => q.2)
def m_st1 (lv : m_V) (i : Nat) (v : Value) : m_V := (i, v) :: lv.filter (fun q => !(q.1 == i) && !(q.1 + 1 == i && q.2.category == 2))
def m_st2 (lv : m_V) (i : Nat) (v : Value) : m_V := (i, v) :: lv.filter (fun q => !(q.1 == i) && (!(q.1 == i + 1) && !(q.1 + 1 == i && q.2.category == 2)))
def m_ib (k : Nat) (x y : Int32) : Option Int32 := match k with
  | 0 => some (x + y)
  | 1 => some (x - y)
  | 2 => some (x * y)
  | 3 => some (x &&& y)
  | 4 => some (x ||| y)
  | 5 => some (x ^^^ y)
  | 6 => some (x <<< (y &&& 31))
  | 7 => some (x >>> (y &&& 31))
  | 8 => some ((x.toUInt32 >>> (y.toUInt32 &&& Int32.toUInt32 31)).toInt32)
  | 9 => if y = 0 then none else some (x / y)
  | 10 => if y = 0 then none else some (x - x / y * y)
  | _ => none
def m_lb (k : Nat) (x y : Int64) : Option Int64 := match k with
  | 0 => some (x + y)
  | 1 => some (x - y)
  | 2 => some (x * y)
  | 3 => some (x &&& y)
  | 4 => some (x ||| y)
  | 5 => if y = 0 then none else some (x / y)
  | 6 => if y = 0 then none else some (x - x / y * y)
  | _ => none
def m_lsh (k : Nat) (x : Int64) (y : Int32) : Option Int64 := match k with
  | 0 => some (x <<< (y.toInt64 &&& 63))
  | 1 => some (x >>> (y.toInt64 &&& 63))
  | _ => none
def m_un (k : Nat) (v : Value) : Option Value := match k, v with
  | 0, .int x => some (.int (-x))
  | 1, .int x => some (.long x.toInt64)
  | 2, .long x => some (.int x.toInt32)
  | 3, .int x => some (.int x.toInt8.toInt32)
  | 4, .int x => some (.int x.toInt16.toInt32)
  | 5, .long x => some (.long (-x))
  | _, _ => none
def m_stk (k : Nat) (st : List Value) : Option (List Value) := match k, st with
  | 0, a :: r => if a.category = 1 then some r else none
  | 1, a :: r => if a.category = 2 then some r else none
  | 2, a :: r => if a.category = 1 then some (a :: a :: r) else none
  | 3, a :: b :: r => if a.category = 1 ∧ b.category = 1 then some (a :: b :: a :: b :: r) else none
  | _, _ => none
def m_cd (k : Int) (x y : Int32) : Bool := match k with
  | 0 => decide (x = y)
  | 1 => decide (¬ x = y)
  | 2 => decide (x < y)
  | 3 => decide (y ≤ x)
  | 4 => decide (y < x)
  | _ => decide (x ≤ y)
def m_tsw (d : Nat) (lo : Int) (l : List Nat) (x : Int) : Nat := if x < lo then d else (l[(x - lo).toNat]?).getD d
def m_lsw (d : Nat) (l : List Nat) (x : Int) : Nat := match l with
  | k :: t :: r => if (k : Int) = x then t else m_lsw d r x
  | _ => d
def m_in (i : Int32) (n : Nat) : Bool := decide (0 ≤ i.toInt ∧ i.toInt < n)
def m_fit (ty : FieldType) (v : Value) : Bool := match ty, v with
  | .int, .int _ => true
  | .long, .long _ => true
  | .object _, .ref _ => true
  | .array _, .ref _ => true
  | _, _ => false
def m_ald (fz : List (List Int32)) (a : Nat) (i : Int32) (b : Nat) (σ : m_S) : Option Value :=
  if m_fzb ≤ b then match fz[b - m_fzb]? with
    | some xs => if a = 0 ∧ m_in i xs.length = true then some (.int (xs.getD i.toNatClampNeg 0)) else none
    | none => none
  else match σ[b]? with
    | some (.inl (t, .inl xs)) => if (a = 0 ∧ t = 0 ∨ a = 1 ∧ (t = 1 ∨ t = 2)) ∧ m_in i xs.length = true then some (.int (xs.getD i.toNatClampNeg 0)) else none
    | some (.inl (t, .inr (.inl xs))) => if a = 2 ∧ t = 3 ∧ m_in i xs.length = true then some (.long (xs.getD i.toNatClampNeg 0)) else none
    | some (.inl (t, .inr (.inr xs))) => if a = 3 ∧ t = 4 ∧ m_in i xs.length = true then some (va_rf (xs.getD i.toNatClampNeg none)) else none
    | _ => none
def m_ast (a : Nat) (w : Value) (i : Int32) (b : Nat) (σ : m_S) : Option m_S :=
  match σ[b]?, w with
    | some (.inl (t, .inl xs)), .int x => if m_in i xs.length = true then (if a = 0 ∧ t = 0 then some (σ.set b (.inl (t, .inl (xs.set i.toNatClampNeg x)))) else if a = 1 ∧ t = 1 then some (σ.set b (.inl (t, .inl (xs.set i.toNatClampNeg (vp_nar .byte x))))) else if a = 1 ∧ t = 2 then some (σ.set b (.inl (t, .inl (xs.set i.toNatClampNeg (vp_nar .boolean x))))) else none) else none
    | some (.inl (t, .inr (.inl xs))), .long x => if a = 2 ∧ t = 3 ∧ m_in i xs.length = true then some (σ.set b (.inl (t, .inr (.inl (xs.set i.toNatClampNeg x))))) else none
    | some (.inl (t, .inr (.inr xs))), .ref r => match σ[r]? with
      | some (.inr (ci, _)) => if ci = 1 ∧ a = 3 ∧ t = 4 ∧ m_in i xs.length = true then some (σ.set b (.inl (t, .inr (.inr (xs.set i.toNatClampNeg (some r)))))) else none
      | _ => none
    | _, _ => none
def m_len (fz : List (List Int32)) (b : Nat) (σ : m_S) : Option Nat :=
  if m_fzb ≤ b then (fz[b - m_fzb]?).map List.length
  else match σ[b]? with
    | some (.inl (t, .inl xs)) => if t < 3 then some xs.length else none
    | some (.inl (t, .inr (.inl xs))) => if t = 3 then some xs.length else none
    | some (.inl (t, .inr (.inr xs))) => if t = 4 then some xs.length else none
    | _ => none
def m_okv (n : Nat) (v : Value) : Bool := match v with
  | .ref k => decide (k < n) || decide (m_fzb ≤ k)
  | _ => true
def m_oke (n : Nat) (e : m_E) : Bool := match e with
  | .inl (_, .inr (.inr xs)) => xs.all (fun r => match r with
    | some k => decide (k < n) || decide (m_fzb ≤ k)
    | none => true)
  | .inl _ => true
  | .inr (_, fs) => fs.all (m_okv n)
def m_okl (n : Nat) (lv : m_V) : Bool := lv.all (fun q => m_okv n q.2)
def m_wf (lv : m_V) (st : List Value) (σ : m_S) : Bool := decide (σ.length < m_fzb) && m_okl σ.length lv && st.all (m_okv σ.length) && σ.all (m_oke σ.length)
def m_cpy {α : Type} (d : α) (xs ys : List α) (sp dp n : Nat) : List α := (List.range ys.length).map (fun k => va_cpy (fun j => xs.getD j d) (fun j => ys.getD j d) sp dp n k)
def m_acp (n dp b1 sp b0 : Nat) (σ : m_S) : Option m_S := match σ[b0]?, σ[b1]? with
  | some (.inl (t, .inl xs)), some (.inl (t', .inl ys)) => if t = 0 ∧ t' = 0 ∧ sp + n ≤ xs.length ∧ dp + n ≤ ys.length then some (σ.set b1 (.inl (t', .inl (m_cpy 0 xs ys sp dp n)))) else none
  | some (.inl (t, .inr (.inl xs))), some (.inl (t', .inr (.inl ys))) => if t = 3 ∧ t' = 3 ∧ sp + n ≤ xs.length ∧ dp + n ≤ ys.length then some (σ.set b1 (.inl (t', .inr (.inl (m_cpy 0 xs ys sp dp n))))) else none
  | _, _ => none
def m_new (t n : Nat) : Option m_E := match t with
  | 0 => some (.inl (0, .inl (List.replicate n 0)))
  | 1 => some (.inl (1, .inl (List.replicate n 0)))
  | 2 => some (.inl (2, .inl (List.replicate n 0)))
  | 3 => some (.inl (3, .inr (.inl (List.replicate n 0))))
  | 4 => some (.inl (4, .inr (.inr (List.replicate n none))))
  | _ => none
def m_def (a : Nat) : List Value := (List.range (m_nf a)).map (fun k => defaultValue (m_tyf a k))
def m_step (fz : List (List Int32)) (I : m_I) (nx : Nat) (lv : m_V) (st : List Value) (σ : m_S) : Option m_O :=
  match I.1 with
  | 0 => some (.inl (nx, lv, .int (Int32.ofInt I.2.2.1) :: st, σ))
  | 1 => some (.inl (nx, lv, .long (Int64.ofInt I.2.2.1) :: st, σ))
  | 2 => match m_ld lv I.2.1 with
    | some w => if m_k w = I.2.2.1 then some (.inl (nx, lv, w :: st, σ)) else none
    | none => none
  | 3 => match st with
    | w :: r => if m_k w = I.2.2.1 then some (.inl (nx, (if I.2.2.1 = 1 then m_st2 lv I.2.1 w else m_st1 lv I.2.1 w), r, σ)) else none
    | [] => none
  | 4 => match m_ld lv I.2.1 with
    | some (.int x) => some (.inl (nx, m_st1 lv I.2.1 (.int (x + Int32.ofInt I.2.2.1)), st, σ))
    | _ => none
  | 5 => match st with
    | .int y :: .int x :: r => (m_ib I.2.1 x y).map fun z => .inl (nx, lv, .int z :: r, σ)
    | _ => none
  | 6 => match st with
    | .long y :: .long x :: r => (m_lb I.2.1 x y).map fun z => .inl (nx, lv, .long z :: r, σ)
    | _ => none
  | 7 => match st with
    | w :: r => (m_un I.2.1 w).map fun z => .inl (nx, lv, z :: r, σ)
    | [] => none
  | 8 => match st with
    | .long y :: .long x :: r => some (.inl (nx, lv, .int (lg_cmp x y) :: r, σ))
    | _ => none
  | 9 => (m_stk I.2.1 st).map fun r => .inl (nx, lv, r, σ)
  | 10 => some (.inl (I.2.1, lv, st, σ))
  | 11 => match st with
    | .int x :: r => some (.inl (if m_cd I.2.2.1 x 0 = true then I.2.1 else nx, lv, r, σ))
    | _ => none
  | 12 => match st with
    | .int y :: .int x :: r => some (.inl (if m_cd I.2.2.1 x y = true then I.2.1 else nx, lv, r, σ))
    | _ => none
  | 13 => match st with
    | .int x :: r => some (.inl (m_tsw I.2.1 I.2.2.1 I.2.2.2 x.toInt, lv, r, σ))
    | _ => none
  | 14 => match st with
    | .int x :: r => some (.inl (m_lsw I.2.1 I.2.2.2 x.toInt, lv, r, σ))
    | _ => none
  | 15 => match st with
    | .ref b :: r => match σ[b]? with
      | some (.inr (ci, fs)) => match fs[I.2.2.1.toNat]? with
        | some w => if ci = I.2.1 then some (.inl (nx, lv, w :: r, σ)) else none
        | none => none
      | _ => none
    | _ => none
  | 16 => match st with
    | w :: .ref b :: r => match σ[b]? with
      | some (.inr (ci, fs)) => if ci = I.2.1 ∧ I.2.2.1.toNat < fs.length ∧ m_fit (m_tyf ci I.2.2.1.toNat) w = true then some (.inl (nx, lv, r, σ.set b (.inr (ci, fs.set I.2.2.1.toNat w)))) else none
      | _ => none
    | _ => none
  | 18 => match st with
    | .int i :: .ref b :: r => (m_ald fz I.2.1 i b σ).map fun w => .inl (nx, lv, w :: r, σ)
    | _ => none
  | 19 => match st with
    | w :: .int i :: .ref b :: r => (m_ast I.2.1 w i b σ).map fun τ => .inl (nx, lv, r, τ)
    | _ => none
  | 20 => match st with
    | .ref b :: r => (m_len fz b σ).map fun k => .inl (nx, lv, .int (Int32.ofNat k) :: r, σ)
    | _ => none
  | 21 => if m_wf lv st σ = true then some (.inl (nx, lv, .ref σ.length :: st, σ ++ [.inr (I.2.1, m_def I.2.1)])) else none
  | 22 => match st with
    | .int x :: r => if m_wf lv r σ = true ∧ 0 ≤ x.toInt ∧ x.toInt ≤ 2000 then (m_new I.2.1 x.toNatClampNeg).map fun e => .inl (nx, lv, .ref σ.length :: r, σ ++ [e]) else none
    | _ => none
  | 24 => if I.2.2.1 = 2 ∨ I.2.2.1 = 5 then (if I.2.2.2.getD 0 0 ≤ st.length then some (.inr (.inr (I.2.1, (st.take (I.2.2.2.getD 0 0)).reverse, st.drop (I.2.2.2.getD 0 0)))) else none)
    else match st.drop (I.2.2.2.getD 0 0) with
      | .ref b :: r => match σ[b]? with
        | some (.inr (ci, _)) => if ci = I.2.2.2.getD 2 0 then some (.inr (.inr (I.2.1, .ref b :: (st.take (I.2.2.2.getD 0 0)).reverse, r))) else none
        | _ => none
      | _ => none
  | 25 => match st with
    | .ref _ :: r => if (r.map fun v => v.category).sum ≤ 8 then some (.inl (nx, lv, r, σ)) else none
    | _ => none
  | 26 => match st with
    | .int n :: .int dp :: .ref b1 :: .int sp :: .ref b0 :: r => if 0 ≤ n.toInt ∧ 0 ≤ dp.toInt ∧ 0 ≤ sp.toInt ∧ (r.map fun v => v.category).sum ≤ 8 then (m_acp n.toNatClampNeg dp.toNatClampNeg b1 sp.toNatClampNeg b0 σ).map fun τ => .inl (nx, lv, r, τ) else none
    | _ => none
  | 27 => match I.2.1, st with
    | 0, [.int x] => some (.inr (.inl (some (.int x))))
    | 1, [.long x] => some (.inr (.inl (some (.long x))))
    | 2, [] => some (.inr (.inl none))
    | 3, [.int x] => if x = 0 ∨ x = 1 then some (.inr (.inl (some (.int x)))) else none
    | _, _ => none
  | 28 => match st with
    | .int y :: .long x :: r => (m_lsh I.2.1 x y).map fun z => .inl (nx, lv, .long z :: r, σ)
    | _ => none
  | 40 => match st with
    | .int y :: .int x :: r => if I.2.1 = 0 then some (.inl (nx, lv, .int (if x < y then y else x) :: r, σ)) else if I.2.1 = 1 then some (.inl (nx, lv, .int (if y < x then y else x) :: r, σ)) else none
    | .long y :: r => if I.2.1 = 6 then some (.inl (nx, lv, .long (if 0 < y then y else -y) :: r, σ)) else match r with
      | .long x :: q => if I.2.1 = 4 then some (.inl (nx, lv, .long (if y < x then x else y) :: q, σ)) else none
      | _ => none
    | _ => none
  | 41 => some (.inl (nx, lv, .ref (m_fzb + I.2.1) :: st, σ))
  | 43 => match st with
    | .int i :: .ref b :: r => if m_fzb ≤ b then (match fz[b - m_fzb]? with
      | some xs => if m_in i xs.length = true then some (.inl (nx, lv, .int (xs.getD i.toNatClampNeg 0) :: r, σ)) else none
      | none => none) else none
    | _ => none
  | _ => none
def m_callOk (I : m_I) (lv : m_V) (as rest : List Value) (σ : m_S) : Bool := decide (σ.length < m_fzb) && m_okl σ.length lv && rest.all (m_okv σ.length) && decide ((rest.map fun v => v.category).sum ≤ 8) && decide ((as.map fun v => v.category).sum ≤ I.2.2.2.getD 1 0)
def m_exec (F : Nat → Nat → Option (m_I × Nat)) (fz : List (List Int32)) : Nat → Nat → Nat → Nat → m_V → List Value → m_S → Option (Option Value × m_S)
  | 0, _, _, _, _, _, _ => none
  | n + 1, d, mid, pc, lv, st, σ => match F mid pc with
    | none => none
    | some (I, len) => match m_step fz I (pc + len) lv st σ with
      | none => none
      | some (.inl (pc', lv', st', σ')) => m_exec F fz n d mid pc' lv' st' σ'
      | some (.inr (.inl r)) => some (r, σ)
      | some (.inr (.inr (mid', as, rest))) => match d with
        | 0 => none
        | d' + 1 => if m_callOk I lv as rest σ = true then match m_exec F fz n d' mid' 0 (lv_args 0 as) [] σ with
            | none => none
            | some (r, σ') => m_exec F fz n (d' + 1) mid (pc + len) lv (r.toList ++ rest) σ'
          else none
end
section
/-! THE SMALL MACHINE with its frames in a row -/
abbrev m_Fr : Type := Nat × Nat × m_V × List Value
def m_next (F : Nat → Nat → Option (m_I × Nat)) (fz : List (List Int32)) (fs : List m_Fr) (σ : m_S) : Option ((List m_Fr × m_S) ⊕ (Option Value × m_S)) := match fs with
  | [] => none
  | (mid, pc, lv, st) :: gs => match F mid pc with
    | none => none
    | some (I, len) => match m_step fz I (pc + len) lv st σ with
      | none => none
      | some (.inl (pc', lv', st', σ')) => some (.inl ((mid, pc', lv', st') :: gs, σ'))
      | some (.inr (.inl r)) => match gs with
        | [] => some (.inr (r, σ))
        | (m2, p2, l2, s2) :: hs => some (.inl ((m2, p2, l2, r.toList ++ s2) :: hs, σ))
      | some (.inr (.inr (mid', as, rest))) => if m_callOk I lv as rest σ = true ∧ gs.length < 60 then some (.inl ((mid', 0, lv_args 0 as, []) :: (mid, pc + len, lv, rest) :: gs, σ)) else none
def m_go (F : Nat → Nat → Option (m_I × Nat)) (fz : List (List Int32)) : Nat → List m_Fr → m_S → Option (Option Value × m_S)
  | 0, _, _ => none
  | n + 1, fs, σ => match m_next F fz fs σ with
    | none => none
    | some (.inl (gs, τ)) => m_go F fz n gs τ
    | some (.inr o) => some o
theorem m_exec_mono {F : Nat → Nat → Option (m_I × Nat)} {fz : List (List Int32)} : ∀ (n d mid pc : Nat) (lv : m_V) (st : List Value) (σ : m_S) (o : Option Value × m_S), m_exec F fz n d mid pc lv st σ = some o → ∀ k, n ≤ k → m_exec F fz k d mid pc lv st σ = some o := by
  intro n
  induction n with
  | zero => intro d mid pc lv st σ o h; cases h
  | succ n ih =>
    intro d mid pc lv st σ o h k hk
    obtain ⟨k, rfl⟩ : ∃ j, k = j + 1 := ⟨k - 1, by omega⟩
    have hk : n ≤ k := by omega
    simp only [m_exec] at h ⊢
    split at h
    · cases h
    · rename_i I len hF
      split at h
      · cases h
      · exact ih _ _ _ _ _ _ _ h k hk
      · exact h
      · rename_i mid1 as rest hs
        split at h
        · cases h
        · rename_i d1
          split at h
          · rename_i hc
            rw [if_pos hc]
            split at h
            · cases h
            · rename_i r1 σ1 h1
              rw [ih _ _ _ _ _ _ _ h1 k hk]
              exact ih _ _ _ _ _ _ _ h k hk
          · cases h
theorem m_go_exec {F : Nat → Nat → Option (m_I × Nat)} {fz : List (List Int32)} : ∀ (N n : Nat), n ≤ N → ∀ (mid pc : Nat) (lv : m_V) (st : List Value) (gs : List m_Fr) (σ : m_S) (o : Option Value × m_S), m_go F fz n ((mid, pc, lv, st) :: gs) σ = some o → gs.length ≤ 60 →
    ∃ k r σ1, m_exec F fz k (60 - gs.length) mid pc lv st σ = some (r, σ1) ∧ (match gs with
      | [] => o = (r, σ1)
      | (m2, p2, l2, s2) :: hs => ∃ n', n' < n ∧ m_go F fz n' ((m2, p2, l2, r.toList ++ s2) :: hs) σ1 = some o) := by
  intro N
  induction N with
  | zero =>
    intro n hn mid pc lv st gs σ o h
    obtain rfl : n = 0 := by omega
    cases h
  | succ N ih =>
    intro n hn mid pc lv st gs σ o h hgs
    obtain _ | n := n
    · cases h
    simp only [m_go, m_next] at h
    cases hF : F mid pc with
    | none => rw [hF] at h; cases h
    | some q =>
      obtain ⟨I, len⟩ := q
      rw [hF] at h
      dsimp only at h
      cases hs : m_step fz I (pc + len) lv st σ with
      | none => rw [hs] at h; cases h
      | some q =>
        rw [hs] at h
        rcases q with ⟨pc1, lv1, st1, σ1⟩ | r | ⟨mid1, as, rest⟩
        · dsimp only at h
          obtain ⟨k, r, σ2, h1, h2⟩ := ih n (by omega) mid pc1 lv1 st1 gs σ1 o h hgs
          refine ⟨k + 1, r, σ2, ?_, ?_⟩
          · simp only [m_exec, hF, hs]
            exact h1
          · cases gs with
            | nil => exact h2
            | cons g hs2 =>
              obtain ⟨m2, p2, l2, s2⟩ := g
              obtain ⟨n', h3, h4⟩ := h2
              exact ⟨n', by omega, h4⟩
        · refine ⟨1, r, σ, ?_, ?_⟩
          · simp only [m_exec, hF, hs]
          · cases gs with
            | nil => exact (Option.some.inj h).symm
            | cons g hs2 =>
              obtain ⟨m2, p2, l2, s2⟩ := g
              exact ⟨n, by omega, h⟩
        · dsimp only at h
          split at h
          · cases h
          · rename_i gs1 τ heq
            split at heq
            · rename_i hc
              cases heq
              obtain ⟨k1, r1, σ1, h1, n', h2, h3⟩ := ih n (by omega) mid1 0 (lv_args 0 as) [] ((mid, pc + len, lv, rest) :: gs) σ o h (by simp; omega)
              obtain ⟨k2, r2, σ2, h4, h5⟩ := ih n' (by omega) mid (pc + len) lv (r1.toList ++ rest) gs σ1 o h3 hgs
              refine ⟨max k1 k2 + 1, r2, σ2, ?_, ?_⟩
              · have e1 : 60 - gs.length = (60 - ((mid, pc + len, lv, rest) :: gs).length) + 1 := by simp only [List.length_cons]; omega
                rw [e1]
                simp only [m_exec, hF, hs]
                rw [if_pos hc.1, m_exec_mono _ _ _ _ _ _ _ _ h1 _ (Nat.le_max_left k1 k2)]
                dsimp only
                rw [← e1]
                exact m_exec_mono _ _ _ _ _ _ _ _ h4 _ (Nat.le_max_right k1 k2)
              · cases gs with
                | nil => exact h5
                | cons g hs2 =>
                  obtain ⟨m2, p2, l2, s2⟩ := g
                  obtain ⟨n2, h6, h7⟩ := h5
                  exact ⟨n2, by omega, h7⟩
            · cases heq
          · rename_i o1 heq
            split at heq
            · cases heq
            · cases heq
end
section
/-! VALUES BY THEIR BOUNDS: a walk of the small machine over all its runs at once -/
abbrev a_V : Type := Nat × Int × Int
abbrev a_N : Type := List (Int × Int)
abbrev a_E : Type := (Nat × Nat × (a_V ⊕ List a_V)) ⊕ (Nat × List a_V)
abbrev a_S : Type := Nat × List (Nat × a_E)
abbrev a_L : Type := List (Nat × a_V)
abbrev a_F : Type := Nat × Nat × a_L × List a_V
abbrev a_Q : Type := a_N × List a_F × a_S
abbrev a_Z : Type := List (Nat × Nat × List a_V)
def a_cat (v : a_V) : Nat := if v.1 = 1 ∨ v.1 = 5 then 2 else 1
def a_knd (v : a_V) : Int := match v.1 with
  | 0 => 0
  | 1 => 1
  | 2 => 2
  | 4 => 0
  | 5 => 1
  | 6 => 0
  | _ => 3
def a_sg (a c : Int) : Int := if c < a then 1 else if a = c then 0 else -1
def a_iv (N : a_N) (v : a_V) : Option (Int × Int) := match v.1 with
  | 0 => some (v.2.1, v.2.2)
  | 4 => N[v.2.1.toNat]?
  | 6 => match N[v.2.1.toNat]? with
    | some q => some (if v.2.2 < q.1 then (1, 1) else if q.2 < v.2.2 then (-1, -1) else if q.1 = v.2.2 ∧ q.2 = v.2.2 then (0, 0) else (-1, 1))
    | none => none
  | _ => none
def a_ll (N : a_N) (v : a_V) : Option (Int × Int) := match v.1 with
  | 1 => some (v.2.1, v.2.2)
  | 5 => N[v.2.1.toNat]?
  | _ => none
def a_ib0 (k : Nat) (x y : Int × Int) : Option (Int × Int) :=
  if x.1 = x.2 ∧ y.1 = y.2 then (m_ib k (Int32.ofInt x.1) (Int32.ofInt y.1)).map (fun z => (z.toInt, z.toInt))
  else match k with
    | 0 => some (if (-2147483648) ≤ x.1 + y.1 ∧ x.2 + y.2 ≤ 2147483647 then (x.1 + y.1, x.2 + y.2) else ((-2147483648), 2147483647))
    | 1 => some (if (-2147483648) ≤ x.1 - y.2 ∧ x.2 - y.1 ≤ 2147483647 then (x.1 - y.2, x.2 - y.1) else ((-2147483648), 2147483647))
    | 2 => some (if y.1 = y.2 ∧ 0 ≤ y.1 ∧ (-2147483648) ≤ x.1 * y.1 ∧ x.2 * y.1 ≤ 2147483647 then (x.1 * y.1, x.2 * y.1) else if x.1 = x.2 ∧ 0 ≤ x.1 ∧ (-2147483648) ≤ y.1 * x.1 ∧ y.2 * x.1 ≤ 2147483647 then (y.1 * x.1, y.2 * x.1) else ((-2147483648), 2147483647))
    | 3 => some (if 0 ≤ y.1 then (0, y.2) else if 0 ≤ x.1 then (0, x.2) else ((-2147483648), 2147483647))
    | 7 => some (if 0 ≤ x.1 then (0, x.2) else (-2147483648, 2147483647))
    | 9 => none
    | 10 => none
    | _ => if k ≤ 8 then some ((-2147483648), 2147483647) else none
def a_ib (k : Nat) (x y : Int × Int) : Option (Int × Int) := bif Nat.beq k 0 && decide (-2147483648 ≤ x.1 + y.1) && decide (x.2 + y.2 ≤ 2147483647) then some (x.1 + y.1, x.2 + y.2) else a_ib0 k x y
def a_lb (k : Nat) (x y : Int × Int) : Option (Int × Int) :=
  if x.1 = x.2 ∧ y.1 = y.2 then (m_lb k (Int64.ofInt x.1) (Int64.ofInt y.1)).map (fun z => (z.toInt, z.toInt))
  else if k ≤ 4 then some ((-9223372036854775808), 9223372036854775807) else none
def a_lsh (k : Nat) (x y : Int × Int) : Option (Int × Int) :=
  if x.1 = x.2 ∧ y.1 = y.2 then (m_lsh k (Int64.ofInt x.1) (Int32.ofInt y.1)).map (fun z => (z.toInt, z.toInt))
  else if k ≤ 1 then some ((-9223372036854775808), 9223372036854775807) else none
def a_un (N : a_N) (k : Nat) (v : a_V) : Option a_V := match k with
  | 0 => (a_iv N v).map fun q => if q.1 = q.2 then (0, (-(Int32.ofInt q.1)).toInt, (-(Int32.ofInt q.1)).toInt) else (0, (-2147483648), 2147483647)
  | 1 => if v.1 = 4 then some (5, v.2) else (a_iv N v).map fun q => (1, q.1, q.2)
  | 2 => (a_ll N v).map fun q => if (-2147483648) ≤ q.1 ∧ q.2 ≤ 2147483647 then (if v.1 = 5 then (4, v.2) else (0, q.1, q.2)) else (0, (-2147483648), 2147483647)
  | 3 => (a_iv N v).map fun q => if -128 ≤ q.1 ∧ q.2 ≤ 127 then v else (0, -128, 127)
  | 4 => (a_iv N v).map fun q => if -32768 ≤ q.1 ∧ q.2 ≤ 32767 then v else (0, -32768, 32767)
  | 5 => (a_ll N v).map fun q => if q.1 = q.2 then (1, (-(Int64.ofInt q.1)).toInt, (-(Int64.ofInt q.1)).toInt) else (1, (-9223372036854775808), 9223372036854775807)
  | _ => none
def a_lcm (N : a_N) (x y : a_V) : Option a_V := match a_ll N x, a_ll N y with
  | some p, some q => if x.1 = 5 ∧ q.1 = q.2 then some (6, x.2.1, q.1) else if q.2 < p.1 then some (0, 1, 1) else if p.2 < q.1 then some (0, -1, -1) else if p.1 = p.2 ∧ q.1 = q.2 ∧ p.1 = q.1 then some (0, 0, 0) else some (0, -1, 1)
  | _, _ => none
def a_stk (k : Nat) (st : List a_V) : Option (List a_V) := match k, st with
  | 0, a :: r => if a_cat a = 1 then some r else none
  | 1, a :: r => if a_cat a = 2 then some r else none
  | 2, a :: r => if a_cat a = 1 then some (a :: a :: r) else none
  | 3, a :: b :: r => if a_cat a = 1 ∧ a_cat b = 1 then some (a :: b :: a :: b :: r) else none
  | _, _ => none
def a_rf (k : Int) (c : Int) (q : Int × Int) : List (Int × Int) := match k with
  | 0 => if q.1 ≤ c ∧ c ≤ q.2 then [(c, c)] else []
  | 1 => if q.1 < c ∧ c < q.2 then [(q.1, c - 1), (c + 1, q.2)] else if q.1 = c ∧ q.2 = c then [] else if q.1 = c then [(q.1 + 1, q.2)] else if q.2 = c then [(q.1, q.2 - 1)] else [q]
  | 2 => if q.1 < c then [(q.1, if q.2 < c then q.2 else c - 1)] else []
  | 3 => if c ≤ q.2 then [(if q.1 < c then c else q.1, q.2)] else []
  | 4 => if c < q.2 then [(if q.1 ≤ c then c + 1 else q.1, q.2)] else []
  | _ => if q.1 ≤ c then [(q.1, if q.2 ≤ c then q.2 else c)] else []
def a_ng (k : Int) : Int := match k with
  | 0 => 1
  | 1 => 0
  | 2 => 3
  | 3 => 2
  | 4 => 5
  | _ => 4
def a_fl (k : Int) : Int := match k with
  | 0 => 0
  | 1 => 1
  | 2 => 4
  | 3 => 5
  | 4 => 2
  | _ => 3
def a_rel (k : Int) (x y : Int) : Prop := match k with
  | 0 => x = y
  | 1 => ¬ x = y
  | 2 => x < y
  | 3 => y ≤ x
  | 4 => y < x
  | _ => x ≤ y
/-- a value held against a number: what is known where it is so -/
def a_br1 (N : a_N) (k : Int) (v : a_V) (c : Int) : Option (List a_N) :=
  if v.1 = 4 then match N[v.2.1.toNat]? with
    | some q => some ((a_rf k c q).map fun q' => N.set v.2.1.toNat q')
    | none => none
  else if v.1 = 6 ∧ c = 0 then match N[v.2.1.toNat]? with
    | some q => some ((a_rf k v.2.2 q).map fun q' => N.set v.2.1.toNat q')
    | none => none
  else match a_iv N v with
    | some q => some (if (a_rf k c q).isEmpty = true then [] else [N])
    | none => none
def a_cmp (N : a_N) (k : Int) (x y : a_V) : Option (List a_N) := match a_iv N x, a_iv N y with
  | some p, some q => if q.1 = q.2 then a_br1 N k x q.1 else if p.1 = p.2 then a_br1 N (a_fl k) y p.1 else some [N]
  | _, _ => none
def a_two {α : Type} (a b : Option (List a_N)) (f g : a_N → α) : Option (List α) := match a, b with
  | some u, some w => some (u.map f ++ w.map g)
  | _, _ => none
def a_gv (ρ : Nat → Int) (v : a_V) (w : Value) : Prop := match v.1, w with
  | 0, .int x => v.2.1 ≤ x.toInt ∧ x.toInt ≤ v.2.2
  | 1, .long x => v.2.1 ≤ x.toInt ∧ x.toInt ≤ v.2.2
  | 2, .ref k => v.2.1 = (k : Int)
  | 3, .null => True
  | 4, .int x => x.toInt = ρ v.2.1.toNat
  | 5, .long x => x.toInt = ρ v.2.1.toNat
  | 6, .int x => x.toInt = a_sg (ρ v.2.1.toNat) v.2.2
  | _, _ => False
def a_gN (N : a_N) (ρ : Nat → Int) : Prop := ∀ (i : Nat) (q : Int × Int), N[i]? = some q → q.1 ≤ ρ i ∧ ρ i ≤ q.2
def a_all2 {α β : Type} (R : α → β → Prop) : List α → List β → Prop
  | [], [] => True
  | a :: as, b :: bs => R a b ∧ a_all2 R as bs
  | _, _ => False
def a_ge (ρ : Nat → Int) (x : a_E) (z : m_E) : Prop := match x, z with
  | .inl (t, n, .inl u), .inl (t', .inl xs) => t = t' ∧ t' < 3 ∧ xs.length = n ∧ ∀ a ∈ xs, a_gv ρ u (.int a)
  | .inl (t, n, .inl u), .inl (t', .inr (.inl xs)) => t = t' ∧ t' = 3 ∧ xs.length = n ∧ ∀ a ∈ xs, a_gv ρ u (.long a)
  | .inl (t, n, .inr vs), .inl (t', .inl xs) => t = t' ∧ t' < 3 ∧ xs.length = n ∧ a_all2 (a_gv ρ) vs (xs.map Value.int)
  | .inl (t, n, .inr vs), .inl (t', .inr (.inl xs)) => t = t' ∧ t' = 3 ∧ xs.length = n ∧ a_all2 (a_gv ρ) vs (xs.map Value.long)
  | .inl (t, n, .inr vs), .inl (t', .inr (.inr xs)) => t = t' ∧ t' = 4 ∧ xs.length = n ∧ a_all2 (a_gv ρ) vs (xs.map va_rf)
  | .inr (ci, fs), .inr (ci', gs) => ci = ci' ∧ a_all2 (a_gv ρ) fs gs
  | _, _ => False
def a_lku : List (Nat × a_E) → Nat → Option a_E
  | [], _ => none
  | q :: r, k => bif Nat.beq q.1 k then some q.2 else a_lku r k
/-- the cell at a place: as it was put last, or as the base has it -/
def a_at (B : List a_E) (S : a_S) (k : Nat) : Option a_E := match a_lku S.2 k with
  | some x => some x
  | none => B[k]?
def a_set (S : a_S) (k : Nat) (x : a_E) : a_S := (S.1, (k, x) :: S.2.filter (fun q => !(Nat.beq q.1 k)))
def a_push (S : a_S) (x : a_E) : a_S := (S.1 + 1, (S.1, x) :: S.2)
def a_gS (ρ : Nat → Int) (B : List a_E) (S : a_S) (σ : m_S) : Prop := σ.length = S.1 ∧ ∀ (k : Nat) (x : a_E), a_at B S k = some x → ∃ z, σ[k]? = some z ∧ a_ge ρ x z
def a_gl (ρ : Nat → Int) (x : Nat × a_V) (z : Nat × Value) : Prop := x.1 = z.1 ∧ a_gv ρ x.2 z.2
def a_gf (ρ : Nat → Int) (x : a_F) (z : m_Fr) : Prop := x.1 = z.1 ∧ x.2.1 = z.2.1 ∧ a_all2 (a_gl ρ) x.2.2.1 z.2.2.1 ∧ a_all2 (a_gv ρ) x.2.2.2 z.2.2.2
def a_gz (ρ : Nat → Int) (x : Nat × Nat × List a_V) (z : List Int32) : Prop := x.1 ≤ z.length ∧ z.length ≤ x.2.1 ∧ ∀ (i : Nat) (v : a_V), i < x.1 → x.2.2[i]? = some v → ∃ a, z[i]? = some a ∧ a_gv ρ v (.int a)
section A15
variable {α β : Type} {R : α → β → Prop} {as : List α} {bs : List β} {ρ : Nat → Int} {N : a_N} {v : a_V} {w : Value}
theorem a_all2.len : ∀ {as : List α} {bs : List β}, a_all2 R as bs → as.length = bs.length
  | [], [], _ => rfl
  | _ :: _, _ :: _, h => by simp [a_all2.len h.2]
theorem a_all2.get : ∀ {as : List α} {bs : List β} {i : Nat} {a : α}, a_all2 R as bs → as[i]? = some a → ∃ b, bs[i]? = some b ∧ R a b
  | a :: as, b :: bs, 0, _, h, e => by cases e; exact ⟨b, rfl, h.1⟩
  | a :: as, b :: bs, i + 1, x, h, e => a_all2.get (as := as) (bs := bs) (i := i) h.2 e
theorem a_all2.set : ∀ {as : List α} {bs : List β} {i : Nat} {a : α} {b : β}, a_all2 R as bs → R a b → a_all2 R (as.set i a) (bs.set i b)
  | [], [], _, _, _, _, _ => trivial
  | _ :: _, _ :: _, 0, _, _, h, e => ⟨e, h.2⟩
  | _ :: as, _ :: bs, i + 1, _, _, h, e => ⟨h.1, a_all2.set (as := as) (bs := bs) (i := i) h.2 e⟩
theorem a_all2.app : ∀ {as : List α} {bs : List β} {cs : List α} {ds : List β}, a_all2 R as bs → a_all2 R cs ds → a_all2 R (as ++ cs) (bs ++ ds)
  | [], [], _, _, _, h => h
  | _ :: as, _ :: bs, _, _, h, e => ⟨h.1, a_all2.app (as := as) (bs := bs) h.2 e⟩
theorem a_all2.rev : ∀ {as : List α} {bs : List β}, a_all2 R as bs → a_all2 R as.reverse bs.reverse
  | [], [], _ => trivial
  | _ :: as, _ :: bs, h => by
    rw [List.reverse_cons, List.reverse_cons]
    exact (a_all2.rev (as := as) (bs := bs) h.2).app ⟨h.1, trivial⟩
theorem a_all2.take : ∀ {as : List α} {bs : List β} (n : Nat), a_all2 R as bs → a_all2 R (as.take n) (bs.take n)
  | _, _, 0, _ => by simp [a_all2]
  | [], [], _ + 1, _ => trivial
  | _ :: as, _ :: bs, n + 1, h => ⟨h.1, a_all2.take (as := as) (bs := bs) n h.2⟩
theorem a_all2.drop : ∀ {as : List α} {bs : List β} (n : Nat), a_all2 R as bs → a_all2 R (as.drop n) (bs.drop n)
  | _, _, 0, h => h
  | [], [], _ + 1, _ => trivial
  | _ :: as, _ :: bs, n + 1, h => a_all2.drop (as := as) (bs := bs) n h.2
theorem a_all2.filter {f : α → Bool} {g : β → Bool} (hfg : ∀ a b, R a b → f a = g b) : ∀ {as : List α} {bs : List β}, a_all2 R as bs → a_all2 R (as.filter f) (bs.filter g)
  | [], [], _ => trivial
  | a :: as, b :: bs, h => by
    rw [List.filter_cons, List.filter_cons, hfg a b h.1]
    by_cases hb : g b = true
    · rw [if_pos hb, if_pos hb]; exact ⟨h.1, a_all2.filter hfg (as := as) (bs := bs) h.2⟩
    · rw [if_neg hb, if_neg hb]; exact a_all2.filter hfg (as := as) (bs := bs) h.2
theorem a_all2.find {f : α → Bool} {g : β → Bool} (hfg : ∀ a b, R a b → f a = g b) : ∀ {as : List α} {bs : List β} {a : α}, a_all2 R as bs → as.find? f = some a → ∃ b, bs.find? g = some b ∧ R a b
  | a :: as, b :: bs, x, h, e => by
    rw [List.find?_cons] at e
    rw [List.find?_cons, ← hfg a b h.1]
    by_cases hb : f a = true
    · rw [hb] at e ⊢; cases e; exact ⟨b, rfl, h.1⟩
    · simp only [Bool.not_eq_true] at hb
      rw [hb] at e ⊢
      exact a_all2.find hfg (as := as) (bs := bs) h.2 e
theorem a_all2.all {f : α → Bool} {g : β → Bool} (hfg : ∀ a b, R a b → f a = true → g b = true) : ∀ {as : List α} {bs : List β}, a_all2 R as bs → as.all f = true → bs.all g = true
  | [], [], _, _ => rfl
  | a :: as, b :: bs, h, e => by
    rw [List.all_cons, Bool.and_eq_true] at e ⊢
    exact ⟨hfg a b h.1 e.1, a_all2.all hfg (as := as) (bs := bs) h.2 e.2⟩
theorem a_all2.rep {a : α} : ∀ {bs : List β}, (∀ b ∈ bs, R a b) → a_all2 R (List.replicate bs.length a) bs
  | [], _ => trivial
  | b :: bs, h => ⟨h b List.mem_cons_self, a_all2.rep (bs := bs) (fun b' hb => h b' (List.mem_cons_of_mem _ hb))⟩
theorem a_all2.mem {b : β} : ∀ {as : List α} {bs : List β}, a_all2 R as bs → b ∈ bs → ∃ a ∈ as, R a b
  | [], [], _, hb => by cases hb
  | a :: as, b' :: bs, h, hb => by
    rcases List.mem_cons.mp hb with rfl | hb
    · exact ⟨a, List.mem_cons_self, h.1⟩
    · obtain ⟨x, h1, h2⟩ := a_all2.mem (as := as) (bs := bs) h.2 hb
      exact ⟨x, List.mem_cons_of_mem _ h1, h2⟩
theorem a_all2.imp {S : α → β → Prop} (hi : ∀ a b, R a b → S a b) : ∀ {as : List α} {bs : List β}, a_all2 R as bs → a_all2 S as bs
  | [], [], _ => trivial
  | _ :: as, _ :: bs, h => ⟨hi _ _ h.1, a_all2.imp hi (as := as) (bs := bs) h.2⟩
theorem a_all2.mapl {γ : Type} {S : γ → β → Prop} {f : α → γ} (hi : ∀ a b, R a b → S (f a) b) : ∀ {as : List α} {bs : List β}, a_all2 R as bs → a_all2 S (as.map f) bs
  | [], [], _ => trivial
  | _ :: as, _ :: bs, h => ⟨hi _ _ h.1, a_all2.mapl hi (as := as) (bs := bs) h.2⟩
theorem a_gv_cat (h : a_gv ρ v w) : a_cat v = w.category := by
  obtain ⟨t, a, b⟩ := v
  unfold a_gv at h
  split at h <;> first | exact h.elim | (rename_i e; dsimp only at e; subst e; rfl)
theorem a_gv_knd (h : a_gv ρ v w) : a_knd v = m_k w := by
  obtain ⟨t, a, b⟩ := v
  unfold a_gv at h
  split at h <;> first | exact h.elim | (rename_i e; dsimp only at e; subst e; rfl)
theorem a_iv_ok {q : Int × Int} (hN : a_gN N ρ) (h : a_gv ρ v w) (hq : a_iv N v = some q) : ∃ x, w = .int x ∧ q.1 ≤ x.toInt ∧ x.toInt ≤ q.2 := by
  obtain ⟨t, a, b⟩ := v
  unfold a_gv at h
  split at h
  · rename_i x e; dsimp only at e; subst e; cases hq; exact ⟨x, rfl, h⟩
  · rename_i e; dsimp only at e; subst e; cases hq
  · rename_i e; dsimp only at e; subst e; cases hq
  · rename_i e; dsimp only at e; subst e; cases hq
  · rename_i x e; dsimp only at e; subst e; exact ⟨x, rfl, by rw [h]; exact hN _ _ hq⟩
  · rename_i e; dsimp only at e; subst e; cases hq
  · rename_i x e
    dsimp only at e; subst e
    simp only [a_iv] at hq
    split at hq
    · rename_i r hr
      have h1 := hN _ _ hr
      cases hq
      refine ⟨x, rfl, ?_⟩
      rw [h]
      unfold a_sg
      dsimp only
      repeat' split
      all_goals dsimp only
      all_goals omega
    · cases hq
  · exact h.elim
theorem a_ll_ok {q : Int × Int} (hN : a_gN N ρ) (h : a_gv ρ v w) (hq : a_ll N v = some q) : ∃ x, w = .long x ∧ q.1 ≤ x.toInt ∧ x.toInt ≤ q.2 := by
  obtain ⟨t, a, b⟩ := v
  unfold a_gv at h
  split at h
  · rename_i e; dsimp only at e; subst e; cases hq
  · rename_i x e; dsimp only at e; subst e; cases hq; exact ⟨x, rfl, h⟩
  · rename_i e; dsimp only at e; subst e; cases hq
  · rename_i e; dsimp only at e; subst e; cases hq
  · rename_i e; dsimp only at e; subst e; cases hq
  · rename_i x e; dsimp only at e; subst e; exact ⟨x, rfl, by rw [h]; exact hN _ _ hq⟩
  · rename_i e; dsimp only at e; subst e; cases hq
  · exact h.elim
end A15
end
section
/-! numbers within bounds -/
theorem a_i32 (x : Int32) : (-2147483648) ≤ x.toInt ∧ x.toInt ≤ 2147483647 := by
  have h1 := Int32.le_toInt x
  have h2 := Int32.toInt_lt x
  constructor <;> omega
theorem a_i64 (x : Int64) : (-9223372036854775808) ≤ x.toInt ∧ x.toInt ≤ 9223372036854775807 := by
  have h1 := Int64.le_toInt x
  have h2 := Int64.toInt_lt x
  constructor <;> omega
theorem a_ex32 {x : Int32} {a b : Int} (h : a = b) (h1 : a ≤ x.toInt) (h2 : x.toInt ≤ b) : Int32.ofInt a = x := by
  have : a = x.toInt := by omega
  rw [this, Int32.ofInt_toInt]
theorem a_ex64 {x : Int64} {a b : Int} (h : a = b) (h1 : a ≤ x.toInt) (h2 : x.toInt ≤ b) : Int64.ofInt a = x := by
  have : a = x.toInt := by omega
  rw [this, Int64.ofInt_toInt]
theorem a_bm {a : Int} (h1 : (-2147483648) ≤ a) (h2 : a ≤ 2147483647) : a.bmod (2 ^ 32) = a := by
  apply Int.bmod_eq_of_le <;> omega
theorem a_and {x y : Int32} (h : 0 ≤ y.toInt) : 0 ≤ (x &&& y).toInt ∧ (x &&& y).toInt ≤ y.toInt := by
  have e1 : ∀ z : Int32, z.toInt = if 2 * z.toBitVec.toNat < 2 ^ 32 then (z.toBitVec.toNat : Int) else (z.toBitVec.toNat : Int) - (2 ^ 32 : Nat) := fun z => BitVec.toInt_eq_toNat_cond z.toBitVec
  have e2 : (x &&& y).toBitVec.toNat = x.toBitVec.toNat &&& y.toBitVec.toNat := by rw [Int32.toBitVec_and, BitVec.toNat_and]
  have e3 : (x &&& y).toBitVec.toNat ≤ y.toBitVec.toNat := by rw [e2]; exact Nat.and_le_right
  have e4 := y.toBitVec.isLt
  rw [e1 y] at h ⊢
  rw [e1 (x &&& y)]
  split at h
  · rename_i h5
    rw [if_pos h5, if_pos (by omega)]
    omega
  · omega
theorem a_shr {x y : Int32} (h : 0 ≤ x.toInt) : 0 ≤ (x >>> (y &&& 31)).toInt ∧ (x >>> (y &&& 31)).toInt ≤ x.toInt := by
  rw [pk_shr x (y &&& 31) _ rfl]
  generalize ((y &&& 31).toBitVec.smod 32).toNat = k
  rw [Int.shiftRight_eq_div_pow]
  constructor
  · exact Int.ediv_nonneg h (by exact_mod_cast Nat.zero_le _)
  · exact Int.ediv_le_self _ h
theorem a_mul {a b c : Int} (h : a ≤ b) (hc : 0 ≤ c) : a * c ≤ b * c := Int.mul_le_mul_of_nonneg_right h hc
theorem a_ib0_ok {k : Nat} {p q r : Int × Int} {x y : Int32} (hp : p.1 ≤ x.toInt ∧ x.toInt ≤ p.2) (hq : q.1 ≤ y.toInt ∧ y.toInt ≤ q.2) (h : a_ib0 k p q = some r) : ∃ z, m_ib k x y = some z ∧ r.1 ≤ z.toInt ∧ z.toInt ≤ r.2 := by
  have hx := a_i32 x
  have hy := a_i32 y
  unfold a_ib0 at h
  split at h
  · rename_i he
    rw [a_ex32 he.1 hp.1 hp.2, a_ex32 he.2 hq.1 hq.2] at h
    obtain ⟨z, h1, h2⟩ := Option.map_eq_some_iff.mp h
    subst h2
    exact ⟨z, h1, Int.le_refl _, Int.le_refl _⟩
  · split at h
    · cases h
      refine ⟨x + y, rfl, ?_⟩
      split
      · rw [Int32.toInt_add, a_bm (by omega) (by omega)]; dsimp only; omega
      · exact a_i32 _
    · cases h
      refine ⟨x - y, rfl, ?_⟩
      split
      · rw [Int32.toInt_sub, a_bm (by omega) (by omega)]; dsimp only; omega
      · exact a_i32 _
    · cases h
      refine ⟨x * y, rfl, ?_⟩
      split
      · rename_i he
        have e1 : y.toInt = q.1 := by omega
        have e2 := a_mul hp.1 he.2.1
        have e3 := a_mul hp.2 he.2.1
        rw [Int32.toInt_mul, e1, a_bm (by omega) (by omega)]; dsimp only; omega
      · split
        · rename_i he
          have e1 : x.toInt = p.1 := by omega
          have e2 := a_mul hq.1 he.2.1
          have e3 := a_mul hq.2 he.2.1
          rw [Int32.toInt_mul, e1, Int.mul_comm p.1 y.toInt, a_bm (by omega) (by omega)]; dsimp only; omega
        · exact a_i32 _
    · cases h
      refine ⟨x &&& y, rfl, ?_⟩
      split
      · have := a_and (x := x) (y := y) (by omega)
        dsimp only
        omega
      · split
        · have := a_and (x := y) (y := x) (by omega)
          rw [Int32.and_comm]
          dsimp only
          omega
        · exact a_i32 _
    · cases h
      refine ⟨x >>> (y &&& 31), rfl, ?_⟩
      split
      · have := a_shr (x := x) (y := y) (by omega)
        dsimp only
        omega
      · exact a_i32 _
    · cases h
    · cases h
    · rename_i h0 h1 h2 h3 h7 h9 h10
      split at h
      · cases h
        rename_i hk8
        have g0 : ¬ k = 0 := h0
        have g1 : ¬ k = 1 := h1
        have g2 : ¬ k = 2 := h2
        have g3 : ¬ k = 3 := h3
        have hk : k = 4 ∨ k = 5 ∨ k = 6 ∨ k = 7 ∨ k = 8 := by omega
        rcases hk with rfl | rfl | rfl | rfl | rfl
        all_goals exact ⟨_, rfl, a_i32 _⟩
      · cases h
theorem a_ib_ok {k : Nat} {p q r : Int × Int} {x y : Int32} (hp : p.1 ≤ x.toInt ∧ x.toInt ≤ p.2) (hq : q.1 ≤ y.toInt ∧ y.toInt ≤ q.2) (h : a_ib k p q = some r) : ∃ z, m_ib k x y = some z ∧ r.1 ≤ z.toInt ∧ z.toInt ≤ r.2 := by
  unfold a_ib at h
  by_cases hc : (Nat.beq k 0 && decide (-2147483648 ≤ p.1 + q.1) && decide (p.2 + q.2 ≤ 2147483647)) = true
  · rw [hc] at h
    simp only [Bool.and_eq_true, decide_eq_true_eq] at hc
    have hk : k = 0 := Nat.eq_of_beq_eq_true hc.1.1
    subst hk
    cases h
    refine ⟨x + y, rfl, ?_⟩
    rw [Int32.toInt_add, a_bm (by omega) (by omega)]
    dsimp only
    omega
  · simp only [Bool.not_eq_true] at hc
    rw [hc] at h
    exact a_ib0_ok hp hq h
theorem a_lb_ok {k : Nat} {p q r : Int × Int} {x y : Int64} (hp : p.1 ≤ x.toInt ∧ x.toInt ≤ p.2) (hq : q.1 ≤ y.toInt ∧ y.toInt ≤ q.2) (h : a_lb k p q = some r) : ∃ z, m_lb k x y = some z ∧ r.1 ≤ z.toInt ∧ z.toInt ≤ r.2 := by
  unfold a_lb at h
  split at h
  · rename_i he
    rw [a_ex64 he.1 hp.1 hp.2, a_ex64 he.2 hq.1 hq.2] at h
    obtain ⟨z, h1, h2⟩ := Option.map_eq_some_iff.mp h
    subst h2
    exact ⟨z, h1, Int.le_refl _, Int.le_refl _⟩
  · split at h
    · rename_i hk
      cases h
      have hk : k = 0 ∨ k = 1 ∨ k = 2 ∨ k = 3 ∨ k = 4 := by omega
      rcases hk with rfl | rfl | rfl | rfl | rfl
      all_goals exact ⟨_, rfl, a_i64 _⟩
    · cases h
theorem a_lsh_ok {k : Nat} {p q r : Int × Int} {x : Int64} {y : Int32} (hp : p.1 ≤ x.toInt ∧ x.toInt ≤ p.2) (hq : q.1 ≤ y.toInt ∧ y.toInt ≤ q.2) (h : a_lsh k p q = some r) : ∃ z, m_lsh k x y = some z ∧ r.1 ≤ z.toInt ∧ z.toInt ≤ r.2 := by
  unfold a_lsh at h
  split at h
  · rename_i he
    rw [a_ex64 he.1 hp.1 hp.2, a_ex32 he.2 hq.1 hq.2] at h
    obtain ⟨z, h1, h2⟩ := Option.map_eq_some_iff.mp h
    subst h2
    exact ⟨z, h1, Int.le_refl _, Int.le_refl _⟩
  · split at h
    · rename_i hk
      cases h
      have hk : k = 0 ∨ k = 1 := by omega
      rcases hk with rfl | rfl
      all_goals exact ⟨_, rfl, a_i64 _⟩
    · cases h
theorem a_rf_ok {k c a : Int} {q : Int × Int} (h1 : q.1 ≤ a) (h2 : a ≤ q.2) (hr : a_rel k a c) : ∃ q' ∈ a_rf k c q, q'.1 ≤ a ∧ a ≤ q'.2 := by
  obtain ⟨lo, hi⟩ := q
  dsimp only at h1 h2
  unfold a_rel at hr
  unfold a_rf
  split at hr
  · rw [if_pos (by dsimp only; omega)]
    exact ⟨_, List.mem_singleton.mpr rfl, by dsimp only; omega, by dsimp only; omega⟩
  · dsimp only
    split
    · by_cases h : a < c
      · exact ⟨_, List.mem_cons_self, by dsimp only; omega, by dsimp only; omega⟩
      · exact ⟨_, List.mem_cons_of_mem _ List.mem_cons_self, by dsimp only; omega, by dsimp only; omega⟩
    · split
      · exfalso; omega
      · split
        · exact ⟨_, List.mem_singleton.mpr rfl, by dsimp only; omega, by dsimp only; omega⟩
        · split
          · exact ⟨_, List.mem_singleton.mpr rfl, by dsimp only; omega, by dsimp only; omega⟩
          · exact ⟨_, List.mem_singleton.mpr rfl, by dsimp only; omega, by dsimp only; omega⟩
  · rw [if_pos (by dsimp only; omega)]
    exact ⟨_, List.mem_singleton.mpr rfl, by dsimp only; omega, by dsimp only; split <;> omega⟩
  · rw [if_pos (by dsimp only; omega)]
    exact ⟨_, List.mem_singleton.mpr rfl, by dsimp only; split <;> omega, by dsimp only; omega⟩
  · rw [if_pos (by dsimp only; omega)]
    exact ⟨_, List.mem_singleton.mpr rfl, by dsimp only; split <;> omega, by dsimp only; omega⟩
  · dsimp only
    rw [if_pos (show lo ≤ c by omega)]
    exact ⟨_, List.mem_singleton.mpr rfl, by dsimp only; omega, by dsimp only; split <;> omega⟩
theorem a_i2l {x : Int32} : x.toInt64.toInt = x.toInt := Int32.toInt_toInt64 x
theorem a_l2i {x : Int64} (h1 : (-2147483648) ≤ x.toInt) (h2 : x.toInt ≤ 2147483647) : x.toInt32.toInt = x.toInt := by
  rw [Int64.toInt_toInt32]
  exact a_bm h1 h2
theorem a_i2b {x : Int32} (h1 : -128 ≤ x.toInt) (h2 : x.toInt ≤ 127) : x.toInt8.toInt32 = x := by
  apply Int32.toInt_inj.mp
  rw [Int8.toInt_toInt32, Int32.toInt_toInt8]
  apply Int.bmod_eq_of_le <;> omega
theorem a_i2bR (x : Int32) : -128 ≤ x.toInt8.toInt32.toInt ∧ x.toInt8.toInt32.toInt ≤ 127 := by
  rw [Int8.toInt_toInt32]
  have h1 := Int8.le_toInt x.toInt8
  have h2 := Int8.toInt_lt x.toInt8
  omega
theorem a_i2s {x : Int32} (h1 : -32768 ≤ x.toInt) (h2 : x.toInt ≤ 32767) : x.toInt16.toInt32 = x := by
  apply Int32.toInt_inj.mp
  rw [Int16.toInt_toInt32, Int32.toInt_toInt16]
  apply Int.bmod_eq_of_le <;> omega
theorem a_i2sR (x : Int32) : -32768 ≤ x.toInt16.toInt32.toInt ∧ x.toInt16.toInt32.toInt ≤ 32767 := by
  rw [Int16.toInt_toInt32]
  have h1 := Int16.le_toInt x.toInt16
  have h2 := Int16.toInt_lt x.toInt16
  omega
theorem a_cmpI (x y : Int64) : (lg_cmp x y).toInt = a_sg x.toInt y.toInt := by
  unfold lg_cmp a_sg
  have e1 : (x > y) ↔ y.toInt < x.toInt := Int64.lt_iff_toInt_lt
  have e2 : (x = y) ↔ x.toInt = y.toInt := Int64.toInt_inj.symm
  by_cases h1 : y.toInt < x.toInt
  · rw [if_pos (e1.mpr h1), if_pos h1]; rfl
  · rw [if_neg (fun h => h1 (e1.mp h)), if_neg h1]
    by_cases h2 : x.toInt = y.toInt
    · rw [if_pos (e2.mpr h2), if_pos h2]; rfl
    · rw [if_neg (fun h => h2 (e2.mp h)), if_neg h2]; rfl
theorem a_cd_rel (k : Int) (x y : Int32) : m_cd k x y = true ↔ a_rel k x.toInt y.toInt := by
  unfold m_cd a_rel
  split <;> simp [Int32.lt_iff_toInt_lt, Int32.le_iff_toInt_le, ← Int32.toInt_inj]
theorem a_ng_rel (k : Int) (x y : Int) (h : ¬ a_rel k x y) : a_rel (a_ng k) x y := by
  unfold a_rel at h
  split at h
  · exact h
  · exact Classical.not_not.mp h
  · show y ≤ x; omega
  · show x < y; omega
  · show x ≤ y; omega
  · rename_i h0 h1 h2 h3 h4
    have hk : a_ng k = 4 := by
      unfold a_ng
      split <;> first | rfl | contradiction
    rw [hk]
    show y < x
    omega
theorem a_fl_rel (k : Int) (x y : Int) (h : a_rel k x y) : a_rel (a_fl k) y x := by
  unfold a_rel at h
  split at h
  · exact h.symm
  · exact fun e => h e.symm
  · exact h
  · exact h
  · exact h
  · rename_i h0 h1 h2 h3 h4
    have hk : a_fl k = 3 := by
      unfold a_fl
      split <;> first | rfl | contradiction
    rw [hk]
    exact h
theorem a_gN_set {N : a_N} {ρ : Nat → Int} (hN : a_gN N ρ) {i : Nat} {q : Int × Int} (h1 : q.1 ≤ ρ i) (h2 : ρ i ≤ q.2) : a_gN (N.set i q) ρ := by
  intro j r hj
  rw [List.getElem?_set] at hj
  split at hj
  · rename_i e
    subst e
    split at hj
    · cases hj; exact ⟨h1, h2⟩
    · cases hj
  · exact hN j r hj
theorem a_sg_rel {k a b : Int} (h : a_rel k (a_sg a b) 0) : a_rel k a b := by
  have h3 : (b < a ∧ a_sg a b = 1) ∨ (a = b ∧ a_sg a b = 0) ∨ (a < b ∧ a_sg a b = -1) := by
    unfold a_sg
    by_cases h1 : b < a
    · rw [if_pos h1]; exact Or.inl ⟨h1, rfl⟩
    · rw [if_neg h1]
      by_cases h2 : a = b
      · rw [if_pos h2]; exact Or.inr (Or.inl ⟨h2, rfl⟩)
      · rw [if_neg h2]; exact Or.inr (Or.inr ⟨by omega, rfl⟩)
  unfold a_rel at h
  split at h
  · show a = b; omega
  · show ¬ a = b; omega
  · show a < b; omega
  · show b ≤ a; omega
  · show b < a; omega
  · rename_i h0 h1 h2 h4 h5
    have : a_rel k a b = (a ≤ b) := by
      unfold a_rel
      split <;> first | rfl | contradiction
    rw [this]
    omega
theorem a_br1_ok {N : a_N} {ρ : Nat → Int} {v : a_V} {w : Value} {k c : Int} {o : List a_N} (hN : a_gN N ρ) (hv : a_gv ρ v w) (h : a_br1 N k v c = some o) : ∃ x, w = .int x ∧ (a_rel k x.toInt c → ∃ N' ∈ o, a_gN N' ρ) := by
  obtain ⟨t, a, b⟩ := v
  unfold a_br1 at h
  dsimp only at h
  split at h
  · rename_i ht
    subst ht
    split at h
    · rename_i q hq
      cases h
      cases w with
      | int x =>
        refine ⟨x, rfl, fun hr => ?_⟩
        have hv : x.toInt = ρ a.toNat := hv
        rw [hv] at hr
        obtain ⟨q', e1, e2, e3⟩ := a_rf_ok (hN _ _ hq).1 (hN _ _ hq).2 hr
        exact ⟨_, List.mem_map.mpr ⟨q', e1, rfl⟩, a_gN_set hN e2 e3⟩
      | _ => exact hv.elim
    · cases h
  · split at h
    · rename_i ht
      obtain ⟨rfl, rfl⟩ := ht
      split at h
      · rename_i q hq
        cases h
        cases w with
        | int x =>
          refine ⟨x, rfl, fun hr => ?_⟩
          have hv : x.toInt = a_sg (ρ a.toNat) b := hv
          rw [hv] at hr
          have hr2 : a_rel k (ρ a.toNat) b := a_sg_rel hr
          obtain ⟨q', e1, e2, e3⟩ := a_rf_ok (hN _ _ hq).1 (hN _ _ hq).2 hr2
          exact ⟨_, List.mem_map.mpr ⟨q', e1, rfl⟩, a_gN_set hN e2 e3⟩
        | _ => exact hv.elim
      · cases h
    · split at h
      · rename_i q hq
        cases h
        obtain ⟨x, rfl, h1, h2⟩ := a_iv_ok hN hv hq
        refine ⟨x, rfl, fun hr => ?_⟩
        obtain ⟨q', e1, e2, e3⟩ := a_rf_ok h1 h2 hr
        rw [if_neg (by intro h9; rw [List.isEmpty_iff] at h9; rw [h9] at e1; cases e1)]
        exact ⟨_, List.mem_singleton.mpr rfl, hN⟩
      · cases h
theorem a_cmp_ok {N : a_N} {ρ : Nat → Int} {v v' : a_V} {w w' : Value} {k : Int} {o : List a_N} (hN : a_gN N ρ) (hv : a_gv ρ v w) (hv' : a_gv ρ v' w') (h : a_cmp N k v v' = some o) : ∃ x y, w = .int x ∧ w' = .int y ∧ (a_rel k x.toInt y.toInt → ∃ N' ∈ o, a_gN N' ρ) := by
  unfold a_cmp at h
  split at h
  · rename_i p q hp hq
    obtain ⟨x, rfl, h1, h2⟩ := a_iv_ok hN hv hp
    obtain ⟨y, rfl, h3, h4⟩ := a_iv_ok hN hv' hq
    refine ⟨x, y, rfl, rfl, fun hr => ?_⟩
    split at h
    · have e : y.toInt = q.1 := by omega
      obtain ⟨x', hx, hh⟩ := a_br1_ok hN hv h
      cases hx
      exact hh (by rw [← e]; exact hr)
    · split at h
      · have e : x.toInt = p.1 := by omega
        obtain ⟨x', hx, hh⟩ := a_br1_ok hN hv' h
        cases hx
        exact hh (by rw [← e]; exact a_fl_rel _ _ _ hr)
      · cases h
        exact ⟨_, List.mem_singleton.mpr rfl, hN⟩
  · cases h
end
section
/-! LINEAR EXPRESSIONS over symbols: a number, and symbols with their factors -/
abbrev b_L : Type := Int × List (Nat × Int)
abbrev b_B : Type := Int × Int × Nat
abbrev b_N : Type := Nat × List b_B
def b_evs (ρ : Nat → Int) : List (Nat × Int) → Int
  | [] => 0
  | q :: r => q.2 * ρ q.1 + b_evs ρ r
def b_ev (ρ : Nat → Int) (x : b_L) : Int := x.1 + b_evs ρ x.2
def b_ins (s : Nat) (k : Int) : List (Nat × Int) → List (Nat × Int)
  | [] => [(s, k)]
  | q :: r => bif Nat.beq s q.1 then (bif decide (q.2 + k = 0) then r else (q.1, q.2 + k) :: r) else bif Nat.blt s q.1 then (s, k) :: q :: r else q :: b_ins s k r
def b_adds (k : Int) (x : List (Nat × Int)) : List (Nat × Int) → List (Nat × Int)
  | [] => x
  | q :: r => b_ins q.1 (k * q.2) (b_adds k x r)
/-- x + k y -/
def b_add (x : b_L) (k : Int) (y : b_L) : b_L := (x.1 + k * y.1, b_adds k x.2 y.2)
def b_con (c : Int) : b_L := (c, [])
def b_sym (s : Nat) : b_L := (0, [(s, 1)])
def b_sca (k : Int) (x : b_L) : b_L := b_add (b_con 0) k x
def b_adc (x : b_L) (c : Int) : b_L := (x.1 + c, x.2)
def b_at (N : b_N) (s : Nat) : Option b_B := bif Nat.blt s N.1 then N.2[N.1 - 1 - s]? else none
def b_sb (N : b_N) (s : Nat) (q : b_B) : b_N := (N.1, N.2.set (N.1 - 1 - s) q)
def b_push (N : b_N) (q : b_B) : b_N := (N.1 + 1, q :: N.2)
def b_ub (N : b_N) (q : Nat × Int) : Option Int := match b_at N q.1 with
  | some b => some (q.2 * (bif decide (0 < q.2) then b.2.1 else b.1))
  | none => none
def b_his (N : b_N) : List (Nat × Int) → Option Int
  | [] => some 0
  | q :: r => match b_ub N q, b_his N r with
    | some a, some b => some (a + b)
    | _, _ => none
/-- an upper bound, by the symbols' bounds -/
def b_hi (N : b_N) (x : b_L) : Option Int := match b_his N x.2 with
  | some a => some (x.1 + a)
  | none => none
def b_lo (N : b_N) (x : b_L) : Option Int := match b_hi N (b_sca (-1) x) with
  | some a => some (-a)
  | none => none
def b_mk (m : Nat) (a : Int) : Prop := m ≠ 0 → ∃ j : Nat, Nat.testBit m j = true ∧ a = (j : Int) - 1
def b_gB (q : b_B) (a : Int) : Prop := q.1 ≤ a ∧ a ≤ q.2.1 ∧ b_mk q.2.2 a
def b_gN (N : b_N) (ρ : Nat → Int) : Prop := N.2.length = N.1 ∧ ∀ s q, b_at N s = some q → b_gB q (ρ s)
def b_agr (n : Nat) (ρ ρ' : Nat → Int) : Prop := ∀ s, s < n → ρ' s = ρ s
def b_u (n : Nat) (x : b_L) : Prop := ∀ q ∈ x.2, q.1 < n
/-- x stands for the number a -/
def b_gx (n : Nat) (ρ : Nat → Int) (x : b_L) (a : Int) : Prop := b_ev ρ x = a ∧ b_u n x
theorem b_bif {α : Type} {P : α → Prop} {c : Bool} {x y : α} (h1 : c = true → P x) (h2 : c = false → P y) : P (bif c then x else y) := by
  cases c with
  | true => exact h1 rfl
  | false => exact h2 rfl
section B60
variable {ρ ρ' : Nat → Int} {N : b_N}
theorem b_ins_ev (s : Nat) (k : Int) : ∀ l : List (Nat × Int), b_evs ρ (b_ins s k l) = k * ρ s + b_evs ρ l
  | [] => by simp [b_ins, b_evs]
  | q :: r => by
    unfold b_ins
    cases h1 : Nat.beq s q.1 with
    | true =>
      have e := Nat.eq_of_beq_eq_true h1
      cases h2 : decide (q.2 + k = 0) with
      | true =>
        have h3 := of_decide_eq_true h2
        have h4 : k = -q.2 := by omega
        simp only [cond_true, b_evs, ← e, h4]
        rw [Int.neg_mul]; omega
      | false => simp only [cond_true, cond_false, b_evs, ← e, Int.add_mul]; omega
    | false =>
      cases h2 : Nat.blt s q.1 with
      | true => simp [b_evs]
      | false => simp only [cond_false, b_evs, b_ins_ev s k r]; omega
theorem b_adds_ev (k : Int) (x : List (Nat × Int)) : ∀ l : List (Nat × Int), b_evs ρ (b_adds k x l) = b_evs ρ x + k * b_evs ρ l
  | [] => by simp [b_adds, b_evs]
  | q :: r => by
    simp only [b_adds, b_ins_ev, b_adds_ev k x r, b_evs, Int.mul_add, Int.mul_assoc]; omega
theorem b_add_ev (x : b_L) (k : Int) (y : b_L) : b_ev ρ (b_add x k y) = b_ev ρ x + k * b_ev ρ y := by
  simp only [b_ev, b_add, b_adds_ev, Int.mul_add]; omega
theorem b_con_ev (c : Int) : b_ev ρ (b_con c) = c := by simp [b_ev, b_con, b_evs]
theorem b_sym_ev (s : Nat) : b_ev ρ (b_sym s) = ρ s := by simp [b_ev, b_sym, b_evs]
theorem b_sca_ev (k : Int) (x : b_L) : b_ev ρ (b_sca k x) = k * b_ev ρ x := by
  simp [b_sca, b_add_ev, b_con_ev]
theorem b_adc_ev (x : b_L) (c : Int) : b_ev ρ (b_adc x c) = b_ev ρ x + c := by
  simp only [b_ev, b_adc]; omega
theorem b_ub_ok (hN : b_gN N ρ) {q : Nat × Int} {a : Int} (h : b_ub N q = some a) : q.2 * ρ q.1 ≤ a := by
  unfold b_ub at h
  split at h
  · rename_i b hb
    obtain ⟨h1, h2, -⟩ := hN.2 _ _ hb
    cases h
    cases h3 : decide (0 < q.2) with
    | true =>
      have h4 := of_decide_eq_true h3
      exact Int.mul_le_mul_of_nonneg_left h2 (by omega)
    | false =>
      have h4 := of_decide_eq_false h3
      exact Int.mul_le_mul_of_nonpos_left (by omega) h1
  · cases h
theorem b_his_ok (hN : b_gN N ρ) : ∀ {l : List (Nat × Int)} {a : Int}, b_his N l = some a → b_evs ρ l ≤ a
  | [], a, h => by cases h; exact Int.le_refl _
  | q :: r, a, h => by
    unfold b_his at h
    split at h
    · rename_i u w h1 h2
      cases h
      have h3 := b_ub_ok hN h1
      have h4 := b_his_ok hN h2
      simp only [b_evs]; omega
    · cases h
theorem b_hi_ok (hN : b_gN N ρ) {x : b_L} {a : Int} (h : b_hi N x = some a) : b_ev ρ x ≤ a := by
  unfold b_hi at h
  split at h
  · rename_i u h1
    cases h
    have := b_his_ok hN h1
    simp only [b_ev]; omega
  · cases h
theorem b_lo_ok (hN : b_gN N ρ) {x : b_L} {a : Int} (h : b_lo N x = some a) : a ≤ b_ev ρ x := by
  unfold b_lo at h
  split at h
  · rename_i u h1
    cases h
    have := b_hi_ok hN h1
    rw [b_sca_ev] at this; omega
  · cases h
theorem b_evs_agr {n : Nat} (ha : b_agr n ρ ρ') : ∀ {l : List (Nat × Int)}, (∀ q ∈ l, q.1 < n) → b_evs ρ' l = b_evs ρ l
  | [], _ => rfl
  | q :: r, h => by
    simp only [b_evs, ha _ (h q List.mem_cons_self), b_evs_agr ha (l := r) (fun q hq => h q (List.mem_cons_of_mem _ hq))]
theorem b_ins_u {n s : Nat} {k : Int} (hs : s < n) : ∀ {l : List (Nat × Int)}, (∀ q ∈ l, q.1 < n) → ∀ q ∈ b_ins s k l, q.1 < n
  | [], _, q, hq => by simp only [b_ins, List.mem_singleton] at hq; subst hq; exact hs
  | p :: r, h, q, hq => by
    have hr : ∀ q ∈ r, q.1 < n := fun q hq => h q (List.mem_cons_of_mem _ hq)
    have hp := h p List.mem_cons_self
    unfold b_ins at hq
    cases h1 : Nat.beq s p.1 with
    | true =>
      rw [h1] at hq
      cases h2 : decide (p.2 + k = 0) with
      | true => rw [h2] at hq; exact hr q hq
      | false =>
        rw [h2] at hq
        rcases List.mem_cons.mp hq with rfl | hq
        · exact hp
        · exact hr q hq
    | false =>
      rw [h1] at hq
      cases h2 : Nat.blt s p.1 with
      | true =>
        rw [h2] at hq
        rcases List.mem_cons.mp hq with rfl | hq
        · exact hs
        · exact h q hq
      | false =>
        rw [h2] at hq
        rcases List.mem_cons.mp hq with rfl | hq
        · exact hp
        · exact b_ins_u hs hr q hq
theorem b_adds_u {n : Nat} {k : Int} {x : List (Nat × Int)} (hx : ∀ q ∈ x, q.1 < n) : ∀ {l : List (Nat × Int)}, (∀ q ∈ l, q.1 < n) → ∀ q ∈ b_adds k x l, q.1 < n
  | [], _ => hx
  | p :: r, h => b_ins_u (h p List.mem_cons_self) (b_adds_u hx (l := r) (fun q hq => h q (List.mem_cons_of_mem _ hq)))
theorem b_gx.add {n : Nat} {x y : b_L} {a b : Int} (k : Int) (hx : b_gx n ρ x a) (hy : b_gx n ρ y b) : b_gx n ρ (b_add x k y) (a + k * b) :=
  ⟨by rw [b_add_ev, hx.1, hy.1], b_adds_u hx.2 hy.2⟩
theorem b_gx.con {n : Nat} (c : Int) : b_gx n ρ (b_con c) c := ⟨b_con_ev c, fun q h => by cases h⟩
theorem b_gx.sym {n s : Nat} (h : s < n) : b_gx n ρ (b_sym s) (ρ s) := ⟨b_sym_ev s, fun q hq => by
  simp only [b_sym, List.mem_singleton] at hq; subst hq; exact h⟩
theorem b_gx.sca {n : Nat} {x : b_L} {a : Int} (k : Int) (hx : b_gx n ρ x a) : b_gx n ρ (b_sca k x) (k * a) := by
  have := b_gx.add (ρ := ρ) (n := n) k (b_gx.con 0) hx
  rw [Int.zero_add] at this
  exact this
theorem b_gx.adc {n : Nat} {x : b_L} {a : Int} (c : Int) (hx : b_gx n ρ x a) : b_gx n ρ (b_adc x c) (a + c) := ⟨by rw [b_adc_ev, hx.1], hx.2⟩
theorem b_gx.ext {n n' : Nat} {x : b_L} {a : Int} (hn : n ≤ n') (ha : b_agr n ρ ρ') (hx : b_gx n ρ x a) : b_gx n' ρ' x a :=
  ⟨by rw [← hx.1]; simp only [b_ev, b_evs_agr ha hx.2], fun q hq => Nat.lt_of_lt_of_le (hx.2 q hq) hn⟩
theorem b_at_lt {s : Nat} {q : b_B} (h : b_at N s = some q) : s < N.1 := by
  unfold b_at at h
  cases h1 : Nat.blt s N.1 with
  | true => exact Nat.blt_eq.mp h1
  | false => rw [h1] at h; cases h
theorem b_push_ok (hN : b_gN N ρ) {q : b_B} {a : Int} (hq : b_gB q a) : b_gN (b_push N q) (fun s => if s = N.1 then a else ρ s) := by
  refine ⟨by simp [b_push, hN.1], fun s r h => ?_⟩
  have hs := b_at_lt h
  simp only [b_push] at hs
  unfold b_at at h
  have h0 : Nat.blt s (N.1 + 1) = true := Nat.blt_eq.mpr hs
  simp only [b_push, h0, cond_true] at h
  by_cases he : s = N.1
  · subst he
    have : N.1 + 1 - 1 - N.1 = 0 := by omega
    rw [this] at h
    cases h
    simpa using hq
  · have h1 : N.1 + 1 - 1 - s = (N.1 - 1 - s) + 1 := by omega
    rw [h1, List.getElem?_cons_succ] at h
    dsimp only
    rw [if_neg he]
    refine hN.2 s r ?_
    unfold b_at
    rw [Nat.blt_eq.mpr (by omega : s < N.1)]
    exact h
theorem b_push_agr (N : b_N) (ρ : Nat → Int) (a : Int) : b_agr N.1 ρ (fun s => if s = N.1 then a else ρ s) := fun s hs => by
  dsimp only
  rw [if_neg (by omega)]
theorem b_sb_ok (hN : b_gN N ρ) {s : Nat} {q : b_B} (hs : s < N.1) (hq : b_gB q (ρ s)) : b_gN (b_sb N s q) ρ := by
  refine ⟨by simp [b_sb, hN.1], fun t r h => ?_⟩
  have ht := b_at_lt h
  simp only [b_sb] at ht
  unfold b_at at h
  simp only [b_sb, Nat.blt_eq.mpr ht, cond_true] at h
  rw [List.getElem?_set] at h
  split at h
  · rename_i e
    split at h
    · cases h
      have : t = s := by omega
      subst this
      exact hq
    · cases h
  · exact hN.2 t r (by unfold b_at; rw [Nat.blt_eq.mpr ht]; exact h)
end B60
end
section
/-! WHAT IS KNOWN OF THE SYMBOLS: bounds and facts 'x ≤ 0' -/
abbrev b_F : Type := List b_L
abbrev b_NF : Type := b_N × b_F
def b_gF (n : Nat) (F : b_F) (ρ : Nat → Int) : Prop := ∀ f ∈ F, b_ev ρ f ≤ 0 ∧ b_u n f
def b_le0 (N : b_N) (x : b_L) (k : Int) : Bool := match b_hi N x with
  | some a => decide (a ≤ k)
  | none => false
/-- how often the fact f takes the term q away (0: not at all) -/
def b_rat (q : Nat × Int) : List (Nat × Int) → Int
  | [] => 0
  | r :: t => bif Nat.beq r.1 q.1 then (bif decide (q.2 / r.2 * r.2 = q.2) then q.2 / r.2 else 0) else b_rat q t
noncomputable def b_leN (N : b_N) (F : b_F) (k : Int) (d : Nat) : b_L → Bool :=
  Nat.rec (motive := fun _ => b_L → Bool) (fun x => b_le0 N x k) (fun _ ih x => b_le0 N x k || x.2.reverse.any (fun q => F.any (fun f => decide (0 < b_rat q f.2) && ih (b_add x (-(b_rat q f.2)) f)))) d
noncomputable def b_le (W : b_NF) (x : b_L) (k : Int) : Bool := b_leN W.1 W.2 k 8 x
noncomputable def b_ge (W : b_NF) (x : b_L) (k : Int) : Bool := b_leN W.1 W.2 (-k) 8 (b_sca (-1) x)
def b_tight1 (N : b_N) (x : b_L) (q : Nat × Int) : b_N := match b_at N q.1, b_lo N (b_add x (-1) (0, [q])) with
  | some b, some l => bif decide (0 < q.2) then (bif decide ((-l) / q.2 < b.2.1) then b_sb N q.1 (b.1, (-l) / q.2, b.2.2) else N)
    else bif decide (q.2 < 0) then (bif decide (b.1 < -((-l) / (-q.2))) then b_sb N q.1 (-((-l) / (-q.2)), b.2.1, b.2.2) else N) else N
  | _, _ => N
def b_tightL (x : b_L) : b_N → List (Nat × Int) → b_N
  | N, [] => N
  | N, q :: r => b_tightL x (b_tight1 N x q) r
def b_cross (N : b_N) (l : List (Nat × Int)) : Bool := l.any fun q => match b_at N q.1 with
  | some b => decide (b.2.1 < b.1)
  | none => false
def b_prop : b_N → b_F → Option b_N
  | N, [] => some N
  | N, f :: r => bif b_cross (b_tightL f N f.2) f.2 then none else b_prop (b_tightL f N f.2) r
def b_two (l : List (Nat × Int)) : Bool := match l with
  | _ :: _ :: _ => true
  | _ => false
/-- 'y ≤ 0' is learned; nothing where it can't be -/
noncomputable def b_lrn (W : b_NF) (y : b_L) : List b_NF :=
  bif b_ge W y 1 then [] else bif b_cross (b_tightL y W.1 y.2) y.2 then [] else match b_prop (b_tightL y W.1 y.2) W.2 with
    | none => []
    | some N => [(N, bif b_two y.2 && !(b_le0 (b_tightL y W.1 y.2) y 0) && !(W.2.any fun f => decide (f = y)) then y :: W.2 else W.2)]
def b_neg (x : b_L) : b_L := b_sca (-1) x
def b_one (l : List (Nat × Int)) : Bool := match l with
  | [q] => decide (q.2 = 1) || decide (q.2 = -1)
  | _ => false
noncomputable def b_learn (W : b_NF) (k : Int) (x : b_L) : List b_NF := match k with
  | 0 => (b_lrn W x).flatMap fun U => b_lrn U (b_neg x)
  | 1 => bif b_le W x 0 then b_lrn W (b_adc x 1) else bif b_ge W x 0 then b_lrn W (b_adc (b_neg x) 1) else bif b_one x.2 then b_lrn W (b_adc (b_neg x) 1) ++ b_lrn W (b_adc x 1) else [W]
  | 2 => b_lrn W (b_adc x 1)
  | 3 => b_lrn W (b_neg x)
  | 4 => b_lrn W (b_adc (b_neg x) 1)
  | _ => b_lrn W x
def b_gW (W : b_NF) (ρ : Nat → Int) : Prop := b_gN W.1 ρ ∧ b_gF W.1.1 W.2 ρ
section B61
variable {ρ : Nat → Int} {N : b_N} {F : b_F} {W : b_NF}
theorem b_le0_ok (hN : b_gN N ρ) {x : b_L} {k : Int} (h : b_le0 N x k = true) : b_ev ρ x ≤ k := by
  unfold b_le0 at h
  split at h
  · rename_i a ha
    have := b_hi_ok hN ha
    have h1 := of_decide_eq_true h
    omega
  · cases h
theorem b_leN_ok {n : Nat} (hN : b_gN N ρ) (hF : b_gF n F ρ) {k : Int} : ∀ (d : Nat) (x : b_L), b_leN N F k d x = true → b_ev ρ x ≤ k := by
  intro d
  induction d with
  | zero => intro x h; exact b_le0_ok hN h
  | succ d ih =>
    intro x h
    have h : (b_le0 N x k || x.2.reverse.any (fun q => F.any (fun f => decide (0 < b_rat q f.2) && b_leN N F k d (b_add x (-(b_rat q f.2)) f)))) = true := h
    rw [Bool.or_eq_true] at h
    rcases h with h | h
    · exact b_le0_ok hN h
    · obtain ⟨q, -, h1⟩ := List.any_eq_true.mp h
      obtain ⟨f, hf, h2⟩ := List.any_eq_true.mp h1
      rw [Bool.and_eq_true] at h2
      have h3 := ih _ h2.2
      rw [b_add_ev] at h3
      have h4 := (hF f hf).1
      have h5 := of_decide_eq_true h2.1
      have h6 : b_rat q f.2 * b_ev ρ f ≤ 0 := Int.mul_nonpos_of_nonneg_of_nonpos (by omega) h4
      rw [Int.neg_mul] at h3
      omega
theorem b_le_ok (hW : b_gW W ρ) {x : b_L} {k : Int} (h : b_le W x k = true) : b_ev ρ x ≤ k := b_leN_ok hW.1 hW.2 8 x h
theorem b_ge_ok (hW : b_gW W ρ) {x : b_L} {k : Int} (h : b_ge W x k = true) : k ≤ b_ev ρ x := by
  have := b_leN_ok hW.1 hW.2 8 _ h
  rw [b_sca_ev] at this
  omega
theorem b_tight1_ok (hN : b_gN N ρ) {x : b_L} (hx : b_ev ρ x ≤ 0) (q : Nat × Int) : b_gN (b_tight1 N x q) ρ ∧ (b_tight1 N x q).1 = N.1 := by
  unfold b_tight1
  split
  · rename_i b l hb hl
    have hs := b_at_lt hb
    obtain ⟨g1, g2, g3⟩ := hN.2 _ _ hb
    have h1 := b_lo_ok hN hl
    rw [b_add_ev] at h1
    have h2 : b_ev ρ (0, [q]) = q.2 * ρ q.1 := by simp [b_ev, b_evs]
    rw [h2] at h1
    have h3 : q.2 * ρ q.1 ≤ -l := by omega
    cases hk : decide (0 < q.2) with
    | true =>
      have hk := of_decide_eq_true hk
      simp only [cond_true]
      refine b_bif (P := fun N' : b_N => b_gN N' ρ ∧ N'.1 = N.1) (fun _ => ?_) (fun _ => ⟨hN, rfl⟩)
      refine ⟨b_sb_ok hN hs ⟨g1, ?_, g3⟩, rfl⟩
      exact (Int.le_ediv_iff_mul_le hk).mpr (by rw [Int.mul_comm]; exact h3)
    | false =>
      simp only [cond_false]
      cases hk2 : decide (q.2 < 0) with
      | true =>
        have hk2 := of_decide_eq_true hk2
        simp only [cond_true]
        refine b_bif (P := fun N' : b_N => b_gN N' ρ ∧ N'.1 = N.1) (fun _ => ?_) (fun _ => ⟨hN, rfl⟩)
        refine ⟨b_sb_ok hN hs ⟨?_, g2, g3⟩, rfl⟩
        have h4 : -(ρ q.1) ≤ (-l) / (-q.2) := (Int.le_ediv_iff_mul_le (by omega)).mpr (by
          rw [Int.neg_mul_neg, Int.mul_comm]; exact h3)
        dsimp only
        omega
      | false => exact ⟨hN, rfl⟩
  · exact ⟨hN, rfl⟩
theorem b_tightL_ok {x : b_L} (hx : b_ev ρ x ≤ 0) : ∀ (l : List (Nat × Int)) {N : b_N}, b_gN N ρ → b_gN (b_tightL x N l) ρ ∧ (b_tightL x N l).1 = N.1
  | [], N, hN => ⟨hN, rfl⟩
  | q :: r, N, hN => by
    obtain ⟨h1, h2⟩ := b_tight1_ok hN hx q
    obtain ⟨h3, h4⟩ := b_tightL_ok hx r h1
    exact ⟨h3, h4.trans h2⟩
theorem b_cross_no (hN : b_gN N ρ) {l : List (Nat × Int)} : b_cross N l = false := by
  cases h : b_cross N l with
  | false => rfl
  | true =>
    obtain ⟨q, -, h1⟩ := List.any_eq_true.mp h
    split at h1
    · rename_i b hb
      obtain ⟨g1, g2, -⟩ := hN.2 _ _ hb
      have := of_decide_eq_true h1
      omega
    · cases h1
theorem b_prop_ok {n : Nat} : ∀ (F : b_F) {N : b_N}, b_gN N ρ → b_gF n F ρ → ∃ N', b_prop N F = some N' ∧ b_gN N' ρ ∧ N'.1 = N.1
  | [], N, hN, _ => ⟨N, rfl, hN, rfl⟩
  | f :: r, N, hN, hF => by
    obtain ⟨h1, h2⟩ := b_tightL_ok (hF f List.mem_cons_self).1 f.2 hN
    obtain ⟨N', h3, h4, h5⟩ := b_prop_ok r h1 (fun g hg => hF g (List.mem_cons_of_mem _ hg))
    exact ⟨N', by simp only [b_prop, b_cross_no h1, cond_false]; exact h3, h4, h5.trans h2⟩
/-- where 'y ≤ 0' holds there is one state, and it holds there -/
theorem b_lrn_ok (hW : b_gW W ρ) {y : b_L} {a : Int} (hg : b_gx W.1.1 ρ y a) (ha : a ≤ 0) : ∃ U ∈ b_lrn W y, b_gW U ρ ∧ U.1.1 = W.1.1 := by
  have hy : b_ev ρ y ≤ 0 := by rw [hg.1]; exact ha
  unfold b_lrn
  cases h0 : b_ge W y 1 with
  | true => have := b_ge_ok hW h0; omega
  | false =>
    obtain ⟨h1, h2⟩ := b_tightL_ok hy y.2 hW.1
    obtain ⟨N', h3, h4, h5⟩ := b_prop_ok W.2 h1 hW.2
    simp only [cond_false, b_cross_no h1, h3]
    refine ⟨_, List.mem_singleton.mpr rfl, ⟨h4, ?_⟩, h5.trans h2⟩
    dsimp only
    rw [h5, h2]
    refine b_bif (P := fun F' : b_F => b_gF W.1.1 F' ρ) (fun _ => fun f hf => ?_) (fun _ => hW.2)
    rcases List.mem_cons.mp hf with rfl | hf
    · exact ⟨hy, hg.2⟩
    · exact hW.2 f hf
def b_rel (k : Int) (x : Int) : Prop := match k with
  | 0 => x = 0
  | 1 => x ≠ 0
  | 2 => x < 0
  | 3 => 0 ≤ x
  | 4 => 0 < x
  | _ => x ≤ 0
theorem b_neg_ev (x : b_L) : b_ev ρ (b_neg x) = - b_ev ρ x := by
  unfold b_neg; rw [b_sca_ev]; omega
theorem b_gx.neg {n : Nat} {x : b_L} {a : Int} (hx : b_gx n ρ x a) : b_gx n ρ (b_neg x) (-a) := by
  have := hx.sca (-1)
  rw [Int.neg_one_mul] at this
  exact this
theorem b_learn_ok (hW : b_gW W ρ) {k : Int} {x : b_L} {a : Int} (hx : b_gx W.1.1 ρ x a) (h : b_rel k a) : ∃ U ∈ b_learn W k x, b_gW U ρ ∧ U.1.1 = W.1.1 := by
  have hx1 := hx.1
  unfold b_learn
  unfold b_rel at h
  split at h
  · obtain ⟨U, h1, h2, h3⟩ := b_lrn_ok hW hx (by omega)
    obtain ⟨V, h4, h5, h6⟩ := b_lrn_ok h2 (y := b_neg x) (by rw [h3]; exact hx.neg) (by omega)
    exact ⟨V, List.mem_flatMap.mpr ⟨U, h1, h4⟩, h5, h6.trans h3⟩
  · cases h1 : b_le W x 0 with
    | true =>
      have := b_le_ok hW h1
      simp only [cond_true]
      exact b_lrn_ok hW (hx.adc 1) (by omega)
    | false =>
      cases h2 : b_ge W x 0 with
      | true =>
        have := b_ge_ok hW h2
        simp only [cond_true, cond_false]
        exact b_lrn_ok hW (hx.neg.adc 1) (by omega)
      | false =>
        cases h3 : b_one x.2 with
        | true =>
          simp only [cond_true, cond_false]
          by_cases hp : 0 < a
          · obtain ⟨U, g1, g2⟩ := b_lrn_ok hW (hx.neg.adc 1) (by omega)
            exact ⟨U, List.mem_append_left _ g1, g2⟩
          · obtain ⟨U, g1, g2⟩ := b_lrn_ok hW (hx.adc 1) (by omega)
            exact ⟨U, List.mem_append_right _ g1, g2⟩
        | false => exact ⟨W, List.mem_singleton.mpr rfl, hW, rfl⟩
  · exact b_lrn_ok hW (hx.adc 1) (by omega)
  · exact b_lrn_ok hW hx.neg (by omega)
  · exact b_lrn_ok hW (hx.neg.adc 1) (by omega)
  · exact b_lrn_ok hW hx h
end B61
end
section
/-! VALUES, and what the operations make of them -/
abbrev b_V : Type := Nat × b_L
def b_gv (n : Nat) (ρ : Nat → Int) (v : b_V) (w : Value) : Prop := match v.1, w with
  | 0, .int z => b_gx n ρ v.2 z.toInt
  | 1, .long z => b_gx n ρ v.2 z.toInt
  | 2, .ref k => v.2 = ((k : Int), [])
  | 6, .int z => ∃ a, b_gx n ρ v.2 a ∧ z.toInt = a_sg a 0
  | _, _ => False
def b_ext (W : b_NF) (ρ : Nat → Int) (W' : b_NF) (ρ' : Nat → Int) : Prop := W.1.1 ≤ W'.1.1 ∧ b_agr W.1.1 ρ ρ' ∧ b_gW W' ρ'
/-- a number is found, in a state that knows no less -/
def b_yl (W : b_NF) (ρ : Nat → Int) (U : b_NF × b_L) (a : Int) : Prop := ∃ ρ', b_ext W ρ U.1 ρ' ∧ b_gx U.1.1.1 ρ' U.2 a
def b_fresh (W : b_NF) (lo hi : Int) (mk : Nat) : b_NF × b_L := bif decide (lo = hi) then (W, b_con lo) else ((b_push W.1 (lo, hi, mk), W.2), b_sym W.1.1)
noncomputable def b_fit (W : b_NF) (x : b_L) (lo hi : Int) : b_NF × b_L := bif b_le W x hi && b_ge W x lo then (W, x) else b_fresh W lo hi 0
def b_f32 (W : b_NF) : b_NF × b_L := b_fresh W (-2147483648) 2147483647 0
def b_f64 (W : b_NF) : b_NF × b_L := b_fresh W (-9223372036854775808) 9223372036854775807 0
noncomputable def b_t32 (W : b_NF) (x : b_L) : b_NF × b_L := b_fit W x (-2147483648) 2147483647
noncomputable def b_t64 (W : b_NF) (x : b_L) : b_NF × b_L := b_fit W x (-9223372036854775808) 9223372036854775807
def b_num6 (W : b_NF) (x : b_L) : Option (b_NF × b_L) := match b_lo W.1 x, b_hi W.1 x with
    | some l, some h => some (bif decide (0 < l) then (W, b_con 1) else bif decide (h < 0) then (W, b_con (-1)) else bif decide (l = 0) && decide (h = 0) then (W, b_con 0) else b_fresh W (-1) 1 0)
    | _, _ => none
def b_num (W : b_NF) (v : b_V) : Option (b_NF × b_L) := match v.1 with
  | 0 => some (W, v.2)
  | 6 => b_num6 W v.2
  | _ => none
def b_lng (v : b_V) : Option b_L := match v.1 with
  | 1 => some v.2
  | _ => none
noncomputable def b_ibin1 (W : b_NF) (k : Nat) (x y : b_L) (a b c d : Int) : Option (b_NF × b_L) := match k with
  | 0 => some (b_t32 W (b_add x 1 y))
  | 1 => some (b_t32 W (b_add x (-1) y))
  | 2 => some (bif decide (c = d) then b_t32 W (b_sca c x) else bif decide (a = b) then b_t32 W (b_sca a y) else bif decide (0 ≤ a) && (decide (0 ≤ c) && decide (b * d ≤ 2147483647)) then b_fresh W (a * c) (b * d) 0 else b_f32 W)
  | 3 => some (bif decide (0 ≤ c) then b_fresh W 0 d 0 else bif decide (0 ≤ a) then b_fresh W 0 b 0 else b_f32 W)
  | 6 => some (bif decide (a = 1) && (decide (b = 1) && (decide (0 ≤ c) && decide (d ≤ 30))) then b_fresh W (2 ^ c.toNat) (2 ^ d.toNat) 0 else b_f32 W)
  | 7 => some (bif decide (0 ≤ a) then b_fresh W 0 b 0 else b_f32 W)
  | 9 => bif decide (0 < c) || decide (d < 0) then some (b_f32 W) else none
  | 10 => bif decide (0 < c) || decide (d < 0) then some (b_f32 W) else none
  | _ => bif Nat.ble k 8 then some (b_f32 W) else none
noncomputable def b_ibin (W : b_NF) (k : Nat) (x y : b_L) : Option (b_NF × b_L) := match b_lo W.1 x, b_hi W.1 x, b_lo W.1 y, b_hi W.1 y with
  | some a, some b, some c, some d => bif decide (a = b) && decide (c = d) then (match m_ib k (Int32.ofInt a) (Int32.ofInt c) with
      | some z => some (W, b_con z.toInt)
      | none => none) else b_ibin1 W k x y a b c d
  | _, _, _, _ => none
noncomputable def b_lbin1 (W : b_NF) (k : Nat) (x y : b_L) (a b c d : Int) : Option (b_NF × b_L) := match k with
  | 0 => some (b_t64 W (b_add x 1 y))
  | 1 => some (b_t64 W (b_add x (-1) y))
  | 2 => some (bif decide (c = d) then b_t64 W (b_sca c x) else bif decide (a = b) then b_t64 W (b_sca a y) else b_f64 W)
  | 5 => bif decide (0 < c) || decide (d < 0) then some (b_f64 W) else none
  | 6 => bif decide (0 < c) || decide (d < 0) then some (b_f64 W) else none
  | _ => bif Nat.ble k 4 then some (b_f64 W) else none
noncomputable def b_lbin (W : b_NF) (k : Nat) (x y : b_L) : Option (b_NF × b_L) := match b_lo W.1 x, b_hi W.1 x, b_lo W.1 y, b_hi W.1 y with
  | some a, some b, some c, some d => bif decide (a = b) && decide (c = d) then (match m_lb k (Int64.ofInt a) (Int64.ofInt c) with
      | some z => some (W, b_con z.toInt)
      | none => none) else b_lbin1 W k x y a b c d
  | _, _, _, _ => none
section B62
variable {ρ : Nat → Int} {W : b_NF}
theorem b_ext.rf (hW : b_gW W ρ) : b_ext W ρ W ρ := ⟨Nat.le_refl _, fun _ _ => rfl, hW⟩
theorem b_ext.tr {W1 W2 W3 : b_NF} {ρ1 ρ2 ρ3 : Nat → Int} (h : b_ext W1 ρ1 W2 ρ2) (g : b_ext W2 ρ2 W3 ρ3) : b_ext W1 ρ1 W3 ρ3 :=
  ⟨Nat.le_trans h.1 g.1, fun s hs => (g.2.1 s (Nat.lt_of_lt_of_le hs h.1)).trans (h.2.1 s hs), g.2.2⟩
theorem b_gx.up {W' : b_NF} {ρ' : Nat → Int} {x : b_L} {a : Int} (he : b_ext W ρ W' ρ') (hx : b_gx W.1.1 ρ x a) : b_gx W'.1.1 ρ' x a := hx.ext he.1 he.2.1
theorem b_gv.up {W' : b_NF} {ρ' : Nat → Int} {v : b_V} {w : Value} (he : b_ext W ρ W' ρ') (hv : b_gv W.1.1 ρ v w) : b_gv W'.1.1 ρ' v w := by
  obtain ⟨t, x⟩ := v
  unfold b_gv at hv ⊢
  split at hv
  · exact hv.up he
  · exact hv.up he
  · exact hv
  · obtain ⟨a, h1, h2⟩ := hv; exact ⟨a, h1.up he, h2⟩
  · exact hv.elim
theorem b_yl.same {x : b_L} {a : Int} (hW : b_gW W ρ) (hx : b_gx W.1.1 ρ x a) : b_yl W ρ (W, x) a := ⟨ρ, b_ext.rf hW, hx⟩
theorem b_fresh_ok (hW : b_gW W ρ) {lo hi a : Int} {mk : Nat} (h1 : lo ≤ a) (h2 : a ≤ hi) (hm : b_mk mk a) : b_yl W ρ (b_fresh W lo hi mk) a := by
  unfold b_fresh
  cases h : decide (lo = hi) with
  | true =>
    have e := of_decide_eq_true h
    have : a = lo := by omega
    subst this
    exact b_yl.same hW (b_gx.con _)
  | false =>
    refine ⟨fun s => if s = W.1.1 then a else ρ s, ⟨Nat.le_succ _, b_push_agr W.1 ρ a, b_push_ok hW.1 ⟨h1, h2, hm⟩, fun f hf => ?_⟩, ?_⟩
    · obtain ⟨g1, g2⟩ := hW.2 f hf
      have g3 : b_gx W.1.1 ρ f (b_ev ρ f) := ⟨rfl, g2⟩
      have g4 := g3.ext (Nat.le_succ _) (b_push_agr W.1 ρ a)
      exact ⟨by rw [g4.1]; exact g1, g4.2⟩
    · have := b_gx.sym (ρ := fun s => if s = W.1.1 then a else ρ s) (Nat.lt_succ_self W.1.1)
      have h9 : b_gx (W.1.1 + 1) (fun s => if s = W.1.1 then a else ρ s) (b_sym W.1.1) a := by simpa using this
      exact h9
theorem b_mk0 (a : Int) : b_mk 0 a := fun h => absurd rfl h
theorem b_fit_ok (hW : b_gW W ρ) {lo hi a z : Int} {x : b_L} (hx : b_gx W.1.1 ρ x a) (h1 : lo ≤ z) (h2 : z ≤ hi) (h3 : lo ≤ a → a ≤ hi → z = a) : b_yl W ρ (b_fit W x lo hi) z := by
  unfold b_fit
  cases h : b_le W x hi && b_ge W x lo with
  | true =>
    rw [Bool.and_eq_true] at h
    have g1 := b_le_ok hW h.1
    have g2 := b_ge_ok hW h.2
    rw [hx.1] at g1 g2
    rw [h3 g2 g1]
    exact b_yl.same hW hx
  | false => exact b_fresh_ok hW h1 h2 (b_mk0 _)
theorem b_f32_ok (hW : b_gW W ρ) (z : Int32) : b_yl W ρ (b_f32 W) z.toInt := b_fresh_ok hW (a_i32 z).1 (a_i32 z).2 (b_mk0 _)
theorem b_f64_ok (hW : b_gW W ρ) (z : Int64) : b_yl W ρ (b_f64 W) z.toInt := b_fresh_ok hW (a_i64 z).1 (a_i64 z).2 (b_mk0 _)
theorem b_t32_ok (hW : b_gW W ρ) {x : b_L} {a : Int} (z : Int32) (hx : b_gx W.1.1 ρ x a) (h : z.toInt = a.bmod (2 ^ 32)) : b_yl W ρ (b_t32 W x) z.toInt :=
  b_fit_ok hW hx (a_i32 z).1 (a_i32 z).2 (fun h1 h2 => by rw [h]; exact a_bm h1 h2)
theorem b_bm64 {a : Int} (h1 : (-9223372036854775808) ≤ a) (h2 : a ≤ 9223372036854775807) : a.bmod (2 ^ 64) = a := by
  apply Int.bmod_eq_of_le <;> omega
theorem b_t64_ok (hW : b_gW W ρ) {x : b_L} {a : Int} (z : Int64) (hx : b_gx W.1.1 ρ x a) (h : z.toInt = a.bmod (2 ^ 64)) : b_yl W ρ (b_t64 W x) z.toInt :=
  b_fit_ok hW hx (a_i64 z).1 (a_i64 z).2 (fun h1 h2 => by rw [h]; exact b_bm64 h1 h2)
theorem b_num_ok (hW : b_gW W ρ) {v : b_V} {w : Value} (hv : b_gv W.1.1 ρ v w) {U : b_NF × b_L} (h : b_num W v = some U) : ∃ z : Int32, w = .int z ∧ b_yl W ρ U z.toInt := by
  obtain ⟨t, x⟩ := v
  unfold b_gv at hv
  split at hv
  · rename_i z e
    dsimp only at e; subst e
    cases h
    exact ⟨z, rfl, b_yl.same hW hv⟩
  · rename_i e; dsimp only at e; subst e; cases h
  · rename_i e; dsimp only at e; subst e; cases h
  · rename_i z e
    dsimp only at e; subst e
    obtain ⟨a, h1, h2⟩ := hv
    refine ⟨z, rfl, ?_⟩
    have h : b_num6 W x = some U := h
    unfold b_num6 at h
    split at h
    · rename_i l hh hl hu
      have g1 := b_lo_ok hW.1 hl
      have g2 := b_hi_ok hW.1 hu
      rw [h1.1] at g1 g2
      cases h
      rw [h2]
      unfold a_sg
      cases e1 : decide (0 < l) with
      | true =>
        have := of_decide_eq_true e1
        rw [if_pos (by omega)]
        exact b_yl.same hW (b_gx.con _)
      | false =>
        cases e2 : decide (hh < 0) with
        | true =>
          have := of_decide_eq_true e2
          rw [if_neg (by omega), if_neg (by omega)]
          exact b_yl.same hW (b_gx.con _)
        | false =>
          cases e3 : decide (l = 0) && decide (hh = 0) with
          | true =>
            simp only [Bool.and_eq_true, decide_eq_true_eq] at e3
            rw [if_neg (by omega), if_pos (by omega)]
            exact b_yl.same hW (b_gx.con _)
          | false =>
            simp only [cond_false]
            refine b_fresh_ok hW ?_ ?_ (b_mk0 _)
            · repeat' split
              all_goals omega
            · repeat' split
              all_goals omega
    · cases h
  · exact hv.elim
theorem b_and2 {x y : Int32} (h : 0 ≤ x.toInt) : 0 ≤ (x &&& y).toInt ∧ (x &&& y).toInt ≤ x.toInt := by
  rw [Int32.and_comm]; exact a_and h
theorem b_shl1 {y : Int32} (h1 : 0 ≤ y.toInt) (h2 : y.toInt ≤ 30) : ((1 : Int32) <<< (y &&& 31)).toInt = 2 ^ y.toInt.toNat := by
  have : ∀ n : Nat, n ≤ 30 → ((1 : Int32) <<< (Int32.ofNat n &&& 31)).toInt = 2 ^ n := by decide +kernel
  have e : y = Int32.ofNat y.toInt.toNat := by
    have := a_ex32 (x := y) (a := y.toInt) (b := y.toInt) rfl (Int.le_refl _) (Int.le_refl _)
    rw [← this]
    have h3 : (y.toInt.toNat : Int) = y.toInt := Int.toNat_of_nonneg h1
    rw [this]
    conv => lhs; rw [← this, ← h3]
    rfl
  have h4 := this y.toInt.toNat (by omega)
  rw [← e] at h4
  exact h4
theorem b_ibin_ok (hW : b_gW W ρ) {k : Nat} {x y : b_L} {u w : Int32} (hx : b_gx W.1.1 ρ x u.toInt) (hy : b_gx W.1.1 ρ y w.toInt) {U : b_NF × b_L} (h : b_ibin W k x y = some U) : ∃ z, m_ib k u w = some z ∧ b_yl W ρ U z.toInt := by
  unfold b_ibin at h
  split at h
  · rename_i a b c d ha hb hc hd
    have h1 := b_lo_ok hW.1 ha
    have h2 := b_hi_ok hW.1 hb
    have h3 := b_lo_ok hW.1 hc
    have h4 := b_hi_ok hW.1 hd
    rw [hx.1] at h1 h2
    rw [hy.1] at h3 h4
    cases e0 : decide (a = b) && decide (c = d) with
    | true =>
      rw [e0] at h
      simp only [Bool.and_eq_true, decide_eq_true_eq] at e0
      rw [a_ex32 e0.1 h1 h2, a_ex32 e0.2 h3 h4] at h
      simp only [cond_true] at h
      split at h
      · rename_i z hz
        cases h
        exact ⟨z, hz, b_yl.same hW (b_gx.con _)⟩
      · cases h
    | false =>
      rw [e0] at h
      simp only [cond_false] at h
      unfold b_ibin1 at h
      split at h
      · cases h
        exact ⟨u + w, rfl, b_t32_ok hW _ (hx.add 1 hy) (by rw [Int32.toInt_add, Int.one_mul])⟩
      · cases h
        exact ⟨u - w, rfl, b_t32_ok hW _ (hx.add (-1) hy) (by rw [Int32.toInt_sub]; congr 1; omega)⟩
      · cases h
        refine ⟨u * w, rfl, ?_⟩
        cases e1 : decide (c = d) with
        | true =>
          have e1 := of_decide_eq_true e1
          have e2 : w.toInt = c := by omega
          exact b_t32_ok hW _ (hx.sca c) (by rw [Int32.toInt_mul, e2, Int.mul_comm])
        | false =>
          cases e2 : decide (a = b) with
          | true =>
            have e2 := of_decide_eq_true e2
            have e3 : u.toInt = a := by omega
            exact b_t32_ok hW _ (hy.sca a) (by rw [Int32.toInt_mul, e3])
          | false =>
            cases e3 : decide (0 ≤ a) && (decide (0 ≤ c) && decide (b * d ≤ 2147483647)) with
            | true =>
              simp only [Bool.and_eq_true, decide_eq_true_eq] at e3
              obtain ⟨g1, g2, g3⟩ := e3
              have g4 : a * c ≤ u.toInt * w.toInt := Int.mul_le_mul h1 h3 g2 (by omega)
              have g5 : u.toInt * w.toInt ≤ b * d := Int.mul_le_mul h2 h4 (by omega) (by omega)
              have g6 : 0 ≤ a * c := Int.mul_nonneg g1 g2
              have g7 : (u * w).toInt = u.toInt * w.toInt := by rw [Int32.toInt_mul, a_bm (by omega) (by omega)]
              rw [g7]
              exact b_fresh_ok hW g4 g5 (b_mk0 _)
            | false => exact b_f32_ok hW _
      · cases h
        refine ⟨u &&& w, rfl, ?_⟩
        cases e1 : decide (0 ≤ c) with
        | true =>
          have e1 := of_decide_eq_true e1
          have := a_and (x := u) (y := w) (by omega)
          exact b_fresh_ok hW this.1 (by omega) (b_mk0 _)
        | false =>
          cases e2 : decide (0 ≤ a) with
          | true =>
            have e2 := of_decide_eq_true e2
            have := b_and2 (x := u) (y := w) (by omega)
            exact b_fresh_ok hW this.1 (by omega) (b_mk0 _)
          | false => exact b_f32_ok hW _
      · cases h
        refine ⟨u <<< (w &&& 31), rfl, ?_⟩
        cases e1 : decide (a = 1) && (decide (b = 1) && (decide (0 ≤ c) && decide (d ≤ 30))) with
        | true =>
          simp only [Bool.and_eq_true, decide_eq_true_eq] at e1
          obtain ⟨g1, g2, g3, g4⟩ := e1
          have e2 : u = 1 := by
            have := a_ex32 (x := u) (a := 1) (b := 1) rfl (by omega) (by omega)
            rw [← this]; rfl
          subst e2
          rw [b_shl1 (by omega) (by omega)]
          refine b_fresh_ok hW ?_ ?_ (b_mk0 _)
          · have : c.toNat ≤ w.toInt.toNat := by omega
            exact_mod_cast Nat.pow_le_pow_right (by decide) this
          · have : w.toInt.toNat ≤ d.toNat := by omega
            exact_mod_cast Nat.pow_le_pow_right (by decide) this
        | false => exact b_f32_ok hW _
      · cases h
        refine ⟨u >>> (w &&& 31), rfl, ?_⟩
        cases e1 : decide (0 ≤ a) with
        | true =>
          have e1 := of_decide_eq_true e1
          have := a_shr (x := u) (y := w) (by omega)
          exact b_fresh_ok hW this.1 (by omega) (b_mk0 _)
        | false => exact b_f32_ok hW _
      · cases e1 : decide (0 < c) || decide (d < 0) with
        | true =>
          rw [e1] at h
          simp only [Bool.or_eq_true, decide_eq_true_eq] at e1
          cases h
          have hne : ¬ w = 0 := fun e => by
            subst e
            have : (0 : Int32).toInt = 0 := rfl
            omega
          exact ⟨u / w, by simp only [m_ib, if_neg hne], b_f32_ok hW _⟩
        | false => rw [e1] at h; cases h
      · cases e1 : decide (0 < c) || decide (d < 0) with
        | true =>
          rw [e1] at h
          simp only [Bool.or_eq_true, decide_eq_true_eq] at e1
          cases h
          have hne : ¬ w = 0 := fun e => by
            subst e
            have : (0 : Int32).toInt = 0 := rfl
            omega
          exact ⟨u - u / w * w, by simp only [m_ib, if_neg hne], b_f32_ok hW _⟩
        | false => rw [e1] at h; cases h
      · rename_i n0 n1 n2 n3 n6 n7 n9 n10
        cases e1 : Nat.ble k 8 with
        | true =>
          rw [e1] at h
          cases h
          have hk : k ≤ 8 := Nat.le_of_ble_eq_true e1
          have a0 : k ≠ 0 := n0
          have a1 : k ≠ 1 := n1
          have a2 : k ≠ 2 := n2
          have a3 : k ≠ 3 := n3
          have a6 : k ≠ 6 := n6
          have a7 : k ≠ 7 := n7
          have hk2 : k = 4 ∨ k = 5 ∨ k = 8 := by omega
          rcases hk2 with rfl | rfl | rfl
          · exact ⟨u ||| w, rfl, b_f32_ok hW _⟩
          · exact ⟨u ^^^ w, rfl, b_f32_ok hW _⟩
          · exact ⟨_, rfl, b_f32_ok hW _⟩
        | false => rw [e1] at h; cases h
  · cases h
theorem b_lbin_ok (hW : b_gW W ρ) {k : Nat} {x y : b_L} {u w : Int64} (hx : b_gx W.1.1 ρ x u.toInt) (hy : b_gx W.1.1 ρ y w.toInt) {U : b_NF × b_L} (h : b_lbin W k x y = some U) : ∃ z, m_lb k u w = some z ∧ b_yl W ρ U z.toInt := by
  unfold b_lbin at h
  split at h
  · rename_i a b c d ha hb hc hd
    have h1 := b_lo_ok hW.1 ha
    have h2 := b_hi_ok hW.1 hb
    have h3 := b_lo_ok hW.1 hc
    have h4 := b_hi_ok hW.1 hd
    rw [hx.1] at h1 h2
    rw [hy.1] at h3 h4
    cases e0 : decide (a = b) && decide (c = d) with
    | true =>
      rw [e0] at h
      simp only [Bool.and_eq_true, decide_eq_true_eq] at e0
      rw [a_ex64 e0.1 h1 h2, a_ex64 e0.2 h3 h4] at h
      simp only [cond_true] at h
      split at h
      · rename_i z hz
        cases h
        exact ⟨z, hz, b_yl.same hW (b_gx.con _)⟩
      · cases h
    | false =>
      rw [e0] at h
      simp only [cond_false] at h
      unfold b_lbin1 at h
      split at h
      · cases h
        exact ⟨u + w, rfl, b_t64_ok hW _ (hx.add 1 hy) (by rw [Int64.toInt_add, Int.one_mul])⟩
      · cases h
        exact ⟨u - w, rfl, b_t64_ok hW _ (hx.add (-1) hy) (by rw [Int64.toInt_sub]; congr 1; omega)⟩
      · cases h
        refine ⟨u * w, rfl, ?_⟩
        cases e1 : decide (c = d) with
        | true =>
          have e1 := of_decide_eq_true e1
          have e2 : w.toInt = c := by omega
          exact b_t64_ok hW _ (hx.sca c) (by rw [Int64.toInt_mul, e2, Int.mul_comm])
        | false =>
          cases e2 : decide (a = b) with
          | true =>
            have e2 := of_decide_eq_true e2
            have e3 : u.toInt = a := by omega
            exact b_t64_ok hW _ (hy.sca a) (by rw [Int64.toInt_mul, e3])
          | false => exact b_f64_ok hW _
      · cases e1 : decide (0 < c) || decide (d < 0) with
        | true =>
          rw [e1] at h
          simp only [Bool.or_eq_true, decide_eq_true_eq] at e1
          cases h
          have hne : ¬ w = 0 := fun e => by
            subst e
            have : (0 : Int64).toInt = 0 := rfl
            omega
          exact ⟨u / w, by simp only [m_lb, if_neg hne], b_f64_ok hW _⟩
        | false => rw [e1] at h; cases h
      · cases e1 : decide (0 < c) || decide (d < 0) with
        | true =>
          rw [e1] at h
          simp only [Bool.or_eq_true, decide_eq_true_eq] at e1
          cases h
          have hne : ¬ w = 0 := fun e => by
            subst e
            have : (0 : Int64).toInt = 0 := rfl
            omega
          exact ⟨u - u / w * w, by simp only [m_lb, if_neg hne], b_f64_ok hW _⟩
        | false => rw [e1] at h; cases h
      · rename_i n0 n1 n2 n5 n6
        cases e1 : Nat.ble k 4 with
        | true =>
          rw [e1] at h
          cases h
          have hk : k ≤ 4 := Nat.le_of_ble_eq_true e1
          have a0 : k ≠ 0 := n0
          have a1 : k ≠ 1 := n1
          have a2 : k ≠ 2 := n2
          have hk2 : k = 3 ∨ k = 4 := by omega
          rcases hk2 with rfl | rfl
          · exact ⟨u &&& w, rfl, b_f64_ok hW _⟩
          · exact ⟨u ||| w, rfl, b_f64_ok hW _⟩
        | false => rw [e1] at h; cases h
  · cases h
end B62
end
section
/-! THE TYPED HEAP: for each cell its kind, its length, and by residue what its places may hold -/
abbrev b_T : Type := Nat × Int × Int × Nat
abbrev b_C : Type := Nat × Nat × Nat × Nat × List b_T
abbrev b_M : Type := List (Nat × b_L × b_V)
/-- the value at a place, of a field or of an element -/
def b_rd (σ : m_S) (k i : Nat) : Option Value := match σ[k]? with
  | some (.inr (_, fs)) => fs[i]?
  | some (.inl (_, .inl xs)) => (xs[i]?).map Value.int
  | some (.inl (_, .inr (.inl xs))) => (xs[i]?).map Value.long
  | some (.inl (_, .inr (.inr xs))) => (xs[i]?).map va_rf
  | none => none
def b_gt (t : b_T) (w : Value) : Prop := match t.1, w with
  | 0, .int z => b_gB t.2 z.toInt
  | 1, .long z => b_gB t.2 z.toInt
  | 2, .ref k => t.2.1 = (k : Int) ∧ k < 139
  | _, _ => False
/-- the cell's kind and length: c = (0 an object | 1 a row, class or kind, length, modulus, types) -/
def b_sh (c : b_C) (z : m_E) : Prop := match z with
  | .inr (a, fs) => c.1 = 0 ∧ c.2.1 = a ∧ fs.length = c.2.2.1
  | .inl (t, .inl xs) => c.1 = 1 ∧ c.2.1 = t ∧ t < 3 ∧ xs.length = c.2.2.1
  | .inl (t, .inr (.inl xs)) => c.1 = 1 ∧ c.2.1 = t ∧ t = 3 ∧ xs.length = c.2.2.1
  | .inl (t, .inr (.inr xs)) => c.1 = 1 ∧ c.2.1 = t ∧ t = 4 ∧ xs.length = c.2.2.1
def b_gE (c : b_C) (σ : m_S) (k : Nat) : Prop := ∃ z, σ[k]? = some z ∧ b_sh c z ∧ 0 < c.2.2.2.1 ∧ ∀ i, i < c.2.2.1 → ∃ t w, c.2.2.2.2[i % c.2.2.2.1]? = some t ∧ b_rd σ k i = some w ∧ b_gt t w
def b_gH (T : Nat → Option b_C) (σ : m_S) : Prop := σ.length = 139 ∧ ∀ k, k < 139 → ∃ c, T k = some c ∧ b_gE c σ k
/-- ghosts: numbers that are told of the cells 'dep' alone -/
abbrev b_G : Type := Nat → m_S → Int → Int
def b_frame (Wr : Nat → Nat → Bool) (σ σ' : m_S) : Prop := ∀ k i, Wr k i = false → b_rd σ' k i = b_rd σ k i
def b_gM1 (G : b_G) (fz : List (List Int32)) (n : Nat) (ρ : Nat → Int) (σ : m_S) (q : Nat × b_L × b_V) : Prop :=
  ∃ a, b_gx n ρ q.2.1 a ∧ (if q.1 < 139 then ∃ i : Nat, a = (i : Int) ∧ ∃ w, b_rd σ q.1 i = some w ∧ b_gv n ρ q.2.2 w
    else if q.1 < m_fzb then q.2.2.1 = 0 ∧ b_gx n ρ q.2.2.2 (G q.1 σ a)
    else ∃ i : Nat, a = (i : Int) ∧ ∃ zs z, fz[q.1 - m_fzb]? = some zs ∧ zs[i]? = some z ∧ b_gv n ρ q.2.2 (.int z))
def b_gM (G : b_G) (fz : List (List Int32)) (n : Nat) (ρ : Nat → Int) (σ : m_S) (M : b_M) : Prop := ∀ q ∈ M, b_gM1 G fz n ρ σ q
def b_look (cell : Nat) (x : b_L) : b_M → Option b_V
  | [] => none
  | q :: r => bif Nat.beq q.1 cell && decide (q.2.1 = x) then some q.2.2 else b_look cell x r
def b_res (m : Nat) (x : b_L) : Option Nat := bif x.2.all (fun q => decide (q.2 % (m : Int) = 0)) then some ((x.1 % (m : Int)).toNat) else none
/-- the type of a place; of several residues the hull -/
def b_hull : List b_T → Option b_T
  | [] => none
  | [t] => bif Nat.beq t.1 2 then none else some t
  | t :: r => match b_hull r with
    | some u => bif Nat.beq t.1 u.1 && !(Nat.beq t.1 2) then some (t.1, min t.2.1 u.2.1, max t.2.2.1 u.2.2.1, 0) else none
    | none => none
def b_tyat (c : b_C) (x : b_L) : Option b_T := match c.2.2.2.2 with
  | [t] => some t
  | l => match b_res c.2.2.2.1 x with
    | some r => l[r]?
    | none => b_hull l
section B63
variable {ρ ρ' : Nat → Int} {W W' : b_NF} {G : b_G} {fz : List (List Int32)} {σ σ' : m_S} {M : b_M} {n : Nat}
theorem b_gM1.up {q : Nat × b_L × b_V} (he : b_ext W ρ W' ρ') (h : b_gM1 G fz W.1.1 ρ σ q) : b_gM1 G fz W'.1.1 ρ' σ q := by
  obtain ⟨a, h1, h2⟩ := h
  refine ⟨a, h1.up he, ?_⟩
  by_cases c1 : q.1 < 139
  · rw [if_pos c1] at h2 ⊢
    obtain ⟨i, e, w, h3, h4⟩ := h2
    exact ⟨i, e, w, h3, h4.up he⟩
  · rw [if_neg c1] at h2 ⊢
    by_cases c2 : q.1 < m_fzb
    · rw [if_pos c2] at h2 ⊢
      exact ⟨h2.1, h2.2.up he⟩
    · rw [if_neg c2] at h2 ⊢
      obtain ⟨i, e, zs, z, h3, h4, h5⟩ := h2
      exact ⟨i, e, zs, z, h3, h4, h5.up he⟩
theorem b_gM.up (he : b_ext W ρ W' ρ') (h : b_gM G fz W.1.1 ρ σ M) : b_gM G fz W'.1.1 ρ' σ M := fun q hq => (h q hq).up he
theorem b_look_mem {cell : Nat} {x : b_L} {v : b_V} : ∀ {M : b_M}, b_look cell x M = some v → (cell, x, v) ∈ M
  | [], h => by cases h
  | q :: r, h => by
    unfold b_look at h
    cases h1 : Nat.beq q.1 cell && decide (q.2.1 = x) with
    | true =>
      rw [h1] at h
      simp only [cond_true, Option.some.injEq] at h
      simp only [Bool.and_eq_true, decide_eq_true_eq] at h1
      obtain ⟨a, b, c⟩ := q
      have e := Nat.eq_of_beq_eq_true h1.1
      dsimp only at e h h1
      subst e
      rw [← h1.2, ← h]
      exact List.mem_cons_self
    | false =>
      rw [h1] at h
      exact List.mem_cons_of_mem _ (b_look_mem h)
theorem b_res_ok {m : Nat} {x : b_L} {r i : Nat} (hm : 0 < m) (hx : b_ev ρ x = (i : Int)) (h : b_res m x = some r) : r = i % m := by
  unfold b_res at h
  cases h1 : x.2.all (fun q => decide (q.2 % (m : Int) = 0)) with
  | true =>
    rw [h1] at h
    simp only [cond_true, Option.some.injEq] at h
    have h2 : ∀ l : List (Nat × Int), (∀ q ∈ l, q.2 % (m : Int) = 0) → b_evs ρ l % (m : Int) = 0 := by
      intro l
      induction l with
      | nil => intro _; rfl
      | cons q l ih =>
        intro h
        simp only [b_evs]
        rw [Int.add_emod, Int.mul_emod, h q List.mem_cons_self, ih (fun p hp => h p (List.mem_cons_of_mem _ hp))]
        simp
    have h3 := h2 x.2 (fun q hq => of_decide_eq_true (List.all_eq_true.mp h1 q hq))
    have h4 : (i : Int) % (m : Int) = x.1 % (m : Int) := by
      rw [← hx]
      unfold b_ev
      rw [Int.add_emod, h3]
      simp
    rw [← h, ← h4]
    omega
  | false => rw [h1] at h; cases h
theorem b_hull_ok : ∀ {l : List b_T} {u t : b_T} {w : Value}, b_hull l = some u → t ∈ l → b_gt t w → b_gt u w
  | [], _, _, _, h, _, _ => by cases h
  | [t], u, t', w, h, ht, hw => by
    unfold b_hull at h
    rcases List.mem_singleton.mp ht with rfl
    cases h1 : Nat.beq t'.1 2 with
    | true => rw [h1] at h; cases h
    | false => rw [h1] at h; cases h; exact hw
  | t :: t2 :: r, u, t', w, h, ht, hw => by
    unfold b_hull at h
    split at h
    · rename_i v hv
      cases h1 : Nat.beq t.1 v.1 && !(Nat.beq t.1 2) with
      | true =>
        rw [h1] at h
        simp only [cond_true, Option.some.injEq] at h
        simp only [Bool.and_eq_true, Bool.not_eq_true'] at h1
        have e := Nat.eq_of_beq_eq_true h1.1
        have e2 : t.1 ≠ 2 := fun h9 => by rw [h9] at h1; simp at h1
        subst h
        rcases List.mem_cons.mp ht with rfl | ht
        · obtain ⟨a, lo, hi, mk⟩ := t'
          unfold b_gt at hw ⊢
          dsimp only at hw e e2 ⊢
          split at hw
          · exact ⟨by have := hw.1; dsimp only at this ⊢; omega, by have := hw.2.1; dsimp only at this ⊢; omega, b_mk0 _⟩
          · exact ⟨by have := hw.1; dsimp only at this ⊢; omega, by have := hw.2.1; dsimp only at this ⊢; omega, b_mk0 _⟩
          · exact absurd rfl e2
          · exact hw.elim
        · have h2 := b_hull_ok hv ht hw
          obtain ⟨a, lo, hi, mk⟩ := v
          unfold b_gt at h2 ⊢
          dsimp only at h2 e ⊢
          rw [e]
          split at h2
          · exact ⟨by have := h2.1; dsimp only at this ⊢; omega, by have := h2.2.1; dsimp only at this ⊢; omega, b_mk0 _⟩
          · exact ⟨by have := h2.1; dsimp only at this ⊢; omega, by have := h2.2.1; dsimp only at this ⊢; omega, b_mk0 _⟩
          · rename_i e3; exact absurd e e2
          · exact h2.elim
      | false => rw [h1] at h; cases h
    · cases h
theorem b_tyat_ok {c : b_C} {k i : Nat} {x : b_L} {t : b_T} (hc : b_gE c σ k) (hi : i < c.2.2.1) (hx : b_ev ρ x = (i : Int)) (h : b_tyat c x = some t) : ∃ w, b_rd σ k i = some w ∧ b_gt t w := by
  obtain ⟨z, h1, h2, h3, h4⟩ := hc
  obtain ⟨u, w, g1, g2, g3⟩ := h4 i hi
  refine ⟨w, g2, ?_⟩
  unfold b_tyat at h
  split at h
  · rename_i t' e
    cases h
    rw [e] at g1
    have : u = t := by
      have h5 := List.mem_of_getElem? g1
      exact List.mem_singleton.mp h5
    rw [← this]; exact g3
  · split at h
    · rename_i r hr
      rw [b_res_ok h3 hx hr] at h
      rw [h] at g1
      cases g1
      exact g3
    · exact b_hull_ok h (List.mem_of_getElem? g1) g3
end B63
end
section
/-! READING AND WRITING a place of the typed heap -/
def b_span (a b : Nat) : Nat := (2 ^ (b - a) - 1) <<< a
/-- the set of what x can be (bits one up), 0 where it isn't known -/
def b_mset (N : b_N) (x : b_L) : Nat := match x.2 with
  | [] => bif decide (-1 ≤ x.1) && decide (x.1 ≤ 126) then b_span (x.1 + 1).toNat (x.1 + 2).toNat else 0
  | [q] => bif decide (x.1 = 0) && decide (q.2 = 1) then (match b_at N q.1 with
      | some b => bif Nat.beq b.2.2 0 then (bif decide (-1 ≤ b.1) && decide (b.2.1 ≤ 126) then b_span (b.1 + 1).toNat (b.2.1 + 2).toNat else 0) else b.2.2 &&& b_span (b.1 + 1).toNat (b.2.1 + 2).toNat
      | none => 0) else (match b_lo N x, b_hi N x with
      | some a, some b => bif decide (a = b) && (decide (-1 ≤ a) && decide (a ≤ 126)) then b_span (a + 1).toNat (a + 2).toNat else 0
      | _, _ => 0)
  | _ => match b_lo N x, b_hi N x with
      | some a, some b => bif decide (a = b) && (decide (-1 ≤ a) && decide (a ≤ 126)) then b_span (a + 1).toNat (a + 2).toNat else 0
      | _, _ => 0
def b_inm (N : b_N) (x : b_L) (mk : Nat) : Bool := bif Nat.beq mk 0 then true else !(Nat.beq (b_mset N x) 0) && Nat.beq (b_mset N x &&& mk) (b_mset N x)
noncomputable def b_inB (W : b_NF) (x : b_L) (q : b_B) : Bool := b_le W x q.2.1 && (b_ge W x q.1 && b_inm W.1 x q.2.2)
noncomputable def b_inb (W : b_NF) (x : b_L) (n : Nat) : Bool := b_le W x ((n : Int) - 1) && b_ge W x 0
noncomputable def b_get (T : Nat → Option b_C) (W : b_NF) (M : b_M) (cell : Nat) (x : b_L) : Option (b_NF × b_M × b_V) := match b_look cell x M with
  | some v => some (W, M, v)
  | none => match T cell with
    | some c => bif b_inb W x c.2.2.1 then (match b_tyat c x with
      | some t => bif Nat.beq t.1 2 then some (W, M, (2, (t.2.1, []))) else some ((b_fresh W t.2.1 t.2.2.1 t.2.2.2).1, (cell, x, (t.1, (b_fresh W t.2.1 t.2.2.1 t.2.2.2).2)) :: M, (t.1, (b_fresh W t.2.1 t.2.2.1 t.2.2.2).2))
      | none => none) else none
    | none => none
def b_kill (dep : Nat → Nat → Bool) (cell : Nat) (x : b_L) (M : b_M) : b_M := M.filter fun q => bif Nat.beq q.1 cell then (match (b_add q.2.1 (-1) x).2 with
    | [] => !(decide ((b_add q.2.1 (-1) x).1 = 0))
    | _ => false) else !(dep q.1 cell)
def b_tys (c : b_C) (x : b_L) : List b_T := match c.2.2.2.2 with
  | [t] => [t]
  | l => match b_res c.2.2.2.1 x with
    | some r => match l[r]? with
      | some t => [t]
      | none => l
    | none => l
def b_wok (Wr : Nat → Nat → Bool) (c : b_C) (cell : Nat) (x : b_L) : Bool := bif Nat.beq c.1 0 then (match x.2 with
      | [] => Wr cell x.1.toNat
      | _ => false) else Wr cell 0
/-- place x of a cell gets a number (tag 0 int, 1 long) -/
noncomputable def b_put (T : Nat → Option b_C) (dep Wr : Nat → Nat → Bool) (W : b_NF) (M : b_M) (cell : Nat) (x : b_L) (tag : Nat) (y : b_L) : Option b_M := match T cell with
  | some c => bif (b_tys c x).all (fun t => Nat.beq t.1 tag && b_inB W y t.2) && b_wok Wr c cell x then some ((cell, x, (tag, y)) :: b_kill dep cell x M) else none
  | none => none
/-- rows: all of a row may be written, or nothing -/
def b_WrOk (T : Nat → Option b_C) (Wr : Nat → Nat → Bool) : Prop := ∀ k c, T k = some c → c.1 = 1 → ∀ i, Wr k i = Wr k 0
def b_GOk (G : b_G) (dep : Nat → Nat → Bool) : Prop := ∀ g σ σ', (∀ c, dep g c = true → ∀ i, b_rd σ' c i = b_rd σ c i) → ∀ a, G g σ' a = G g σ a
def b_DepOk (dep : Nat → Nat → Bool) : Prop := ∀ g c, g < 139 → dep g c = false
/-- one place is written, all else stays -/
def b_upd (σ : m_S) (k i : Nat) (w : Value) (σ' : m_S) : Prop := σ'.length = σ.length ∧ (∀ k' i', b_rd σ' k' i' = if k' = k ∧ i' = i then some w else b_rd σ k' i') ∧ ∀ (k' : Nat) (z : m_E), σ[k']? = some z → ∃ z', σ'[k']? = some z' ∧ ∀ c, b_sh c z → b_sh c z'
section B64
variable {ρ ρ' : Nat → Int} {W W' : b_NF} {G : b_G} {fz : List (List Int32)} {σ σ' : m_S} {M : b_M} {n : Nat} {T : Nat → Option b_C} {dep Wr : Nat → Nat → Bool}
theorem b_span_ok {a b j : Nat} (h : a < b) : Nat.testBit (b_span a b) j = true ↔ a ≤ j ∧ j < b := by
  unfold b_span
  rw [Nat.testBit_shiftLeft, Nat.testBit_two_pow_sub_one]
  simp only [Bool.and_eq_true, decide_eq_true_eq]
  omega
theorem b_mset_ok (hN : b_gN W.1 ρ) {x : b_L} (h0 : b_mset W.1 x ≠ 0) : ∃ j : Nat, Nat.testBit (b_mset W.1 x) j = true ∧ b_ev ρ x = (j : Int) - 1 := by
  have key : ∀ a b : Int, b_lo W.1 x = some a → b_hi W.1 x = some b → (bif decide (a = b) && (decide (-1 ≤ a) && decide (a ≤ 126)) then b_span (a + 1).toNat (a + 2).toNat else 0) ≠ 0 → ∃ j : Nat, Nat.testBit (bif decide (a = b) && (decide (-1 ≤ a) && decide (a ≤ 126)) then b_span (a + 1).toNat (a + 2).toNat else 0) j = true ∧ b_ev ρ x = (j : Int) - 1 := by
    intro a b ha hb h
    have g1 := b_lo_ok hN ha
    have g2 := b_hi_ok hN hb
    cases e : decide (a = b) && (decide (-1 ≤ a) && decide (a ≤ 126)) with
    | true =>
      simp only [Bool.and_eq_true, decide_eq_true_eq] at e
      refine ⟨(a + 1).toNat, ?_, by omega⟩
      simp only [cond_true]
      exact (b_span_ok (by omega)).mpr ⟨Nat.le_refl _, by omega⟩
    | false => rw [e] at h; exact absurd rfl h
  unfold b_mset at h0 ⊢
  split at h0
  · rename_i e
    cases e1 : decide (-1 ≤ x.1) && decide (x.1 ≤ 126) with
    | true =>
      simp only [Bool.and_eq_true, decide_eq_true_eq] at e1
      refine ⟨(x.1 + 1).toNat, ?_, ?_⟩
      · simp only [cond_true]
        exact (b_span_ok (by omega)).mpr ⟨Nat.le_refl _, by omega⟩
      · unfold b_ev; rw [e]; simp only [b_evs]; omega
    | false => rw [e1] at h0; exact absurd rfl h0
  · rename_i q e
    cases e1 : decide (x.1 = 0) && decide (q.2 = 1) with
    | true =>
      rw [e1] at h0
      simp only [Bool.and_eq_true, decide_eq_true_eq] at e1
      simp only [cond_true] at h0 ⊢
      have hx : b_ev ρ x = ρ q.1 := by unfold b_ev; rw [e, e1.1]; simp only [b_evs, e1.2]; omega
      split at h0
      · rename_i b hb
        obtain ⟨g1, g2, g3⟩ := hN.2 _ _ hb
        cases e2 : Nat.beq b.2.2 0 with
        | true =>
          rw [e2] at h0
          cases e3 : decide (-1 ≤ b.1) && decide (b.2.1 ≤ 126) with
          | true =>
            simp only [Bool.and_eq_true, decide_eq_true_eq] at e3
            refine ⟨(ρ q.1 + 1).toNat, ?_, by omega⟩
            simp only [cond_true]
            exact (b_span_ok (by omega)).mpr ⟨by omega, by omega⟩
          | false => rw [e3] at h0; exact absurd rfl h0
        | false =>
          have hne : b.2.2 ≠ 0 := fun h9 => by rw [h9] at e2; cases e2
          obtain ⟨j, g4, g5⟩ := g3 hne
          refine ⟨j, ?_, by omega⟩
          simp only [cond_false]
          rw [Nat.testBit_and, g4, (b_span_ok (by omega)).mpr ⟨by omega, by omega⟩]
          rfl
      · exact absurd rfl h0
    | false =>
      rw [e1] at h0
      simp only [cond_false] at h0 ⊢
      split at h0
      · rename_i a b ha hb
        exact key a b ha hb h0
      · exact absurd rfl h0
  · split at h0
    · rename_i a b ha hb
      exact key a b ha hb h0
    · exact absurd rfl h0
theorem b_inm_ok (hN : b_gN W.1 ρ) {x : b_L} {mk : Nat} (h : b_inm W.1 x mk = true) : b_mk mk (b_ev ρ x) := by
  intro hm
  unfold b_inm at h
  have : Nat.beq mk 0 = false := by
    cases e : Nat.beq mk 0 with
    | true => exact absurd (Nat.eq_of_beq_eq_true e) hm
    | false => rfl
  rw [this] at h
  simp only [cond_false, Bool.and_eq_true, Bool.not_eq_true'] at h
  have h1 : b_mset W.1 x ≠ 0 := fun h9 => by rw [h9] at h; simp at h
  obtain ⟨j, g1, g2⟩ := b_mset_ok hN h1
  refine ⟨j, ?_, g2⟩
  have h2 := Nat.eq_of_beq_eq_true h.2
  rw [← h2, Nat.testBit_and, Bool.and_eq_true] at g1
  exact g1.2
theorem b_inB_ok (hW : b_gW W ρ) {x : b_L} {q : b_B} (h : b_inB W x q = true) : b_gB q (b_ev ρ x) := by
  unfold b_inB at h
  simp only [Bool.and_eq_true] at h
  exact ⟨b_ge_ok hW h.2.1, b_le_ok hW h.1, b_inm_ok hW.1 h.2.2⟩
theorem b_inb_ok (hW : b_gW W ρ) {x : b_L} {m : Nat} (h : b_inb W x m = true) : ∃ i : Nat, b_ev ρ x = (i : Int) ∧ i < m := by
  unfold b_inb at h
  simp only [Bool.and_eq_true] at h
  have h1 := b_le_ok hW h.1
  have h2 := b_ge_ok hW h.2
  exact ⟨(b_ev ρ x).toNat, by omega, by omega⟩
theorem b_get_ok (hW : b_gW W ρ) (hH : b_gH T σ) (hM : b_gM G fz W.1.1 ρ σ M) {cell : Nat} {x : b_L} {a : Int} (hc : cell < 139) (hx : b_gx W.1.1 ρ x a) {W' : b_NF} {M' : b_M} {v : b_V} (h : b_get T W M cell x = some (W', M', v)) :
    ∃ (ρ' : Nat → Int) (i : Nat) (w : Value), b_ext W ρ W' ρ' ∧ b_gM G fz W'.1.1 ρ' σ M' ∧ a = (i : Int) ∧ b_rd σ cell i = some w ∧ b_gv W'.1.1 ρ' v w := by
  unfold b_get at h
  split at h
  · rename_i v' hl
    cases h
    obtain ⟨a', g1, g2⟩ := hM _ (b_look_mem hl)
    dsimp only at g1 g2
    rw [if_pos hc] at g2
    obtain ⟨i, e, w, g3, g4⟩ := g2
    exact ⟨ρ, i, w, b_ext.rf hW, hM, by rw [← hx.1, g1.1, e], g3, g4⟩
  · split at h
    · rename_i c hT
      cases h1 : b_inb W x c.2.2.1 with
      | true =>
        rw [h1] at h
        simp only [cond_true] at h
        obtain ⟨i, h2, h3⟩ := b_inb_ok hW h1
        obtain ⟨c', h4, h5⟩ := hH.2 cell hc
        rw [hT] at h4
        cases h4
        split at h
        · rename_i t ht
          obtain ⟨w, g1, g2⟩ := b_tyat_ok h5 h3 h2 ht
          cases h6 : Nat.beq t.1 2 with
          | true =>
            rw [h6] at h
            cases h
            have e := Nat.eq_of_beq_eq_true h6
            refine ⟨ρ, i, w, b_ext.rf hW, hM, by rw [← hx.1, h2], g1, ?_⟩
            obtain ⟨t1, lo, hi, mk⟩ := t
            dsimp only at e
            subst e
            unfold b_gt at g2
            split at g2
            · rename_i e; cases e
            · rename_i e; cases e
            · unfold b_gv; dsimp only at g2 ⊢; rw [g2.1]; rfl
            · exact g2.elim
          | false =>
            rw [h6] at h
            cases h
            have hb : ∃ z, (b_gB t.2 z ∧ (∀ n ρ y, b_gx n ρ y z → b_gv n ρ (t.1, y) w)) := by
              obtain ⟨t1, tq⟩ := t
              unfold b_gt at g2
              split at g2
              · rename_i z e; dsimp only at e; subst e; exact ⟨z.toInt, g2, fun n ρ y hy => hy⟩
              · rename_i z e; dsimp only at e; subst e; exact ⟨z.toInt, g2, fun n ρ y hy => hy⟩
              · rename_i e; dsimp only at e; subst e; cases h6
              · exact g2.elim
            obtain ⟨z, q1, q2⟩ := hb
            obtain ⟨ρ', he, hy⟩ := b_fresh_ok hW q1.1 q1.2.1 q1.2.2
            refine ⟨ρ', i, w, he, ?_, by rw [← hx.1, h2], g1, q2 _ _ _ hy⟩
            intro q hq
            rcases List.mem_cons.mp hq with rfl | hq
            · refine ⟨a, hx.up he, ?_⟩
              dsimp only
              rw [if_pos hc]
              exact ⟨i, by rw [← hx.1, h2], w, g1, q2 _ _ _ hy⟩
            · exact (hM q hq).up he
        · cases h
      | false => rw [h1] at h; cases h
    · cases h
end B64
end
section
/-! what a written place leaves -/
section B65
variable {ρ ρ' : Nat → Int} {W W' : b_NF} {G : b_G} {fz : List (List Int32)} {σ σ' : m_S} {M : b_M} {n : Nat} {T : Nat → Option b_C} {dep Wr : Nat → Nat → Bool}
theorem b_tys_ok {c : b_C} {x : b_L} {i : Nat} {t : b_T} (hm : 0 < c.2.2.2.1) (hx : b_ev ρ x = (i : Int)) (h : c.2.2.2.2[i % c.2.2.2.1]? = some t) : t ∈ b_tys c x := by
  unfold b_tys
  split
  · rename_i t' e
    rw [e] at h
    exact List.mem_of_getElem? h
  · split
    · rename_i r hr
      rw [b_res_ok hm hx hr, h]
      exact List.mem_singleton.mpr rfl
    · exact List.mem_of_getElem? h
theorem b_kill_ok (hG : b_GOk G dep) (hD : b_DepOk dep) (hM : b_gM G fz n ρ σ M) {cell i : Nat} {x : b_L} {w : Value} (hc : cell < 139) (hx : b_ev ρ x = (i : Int)) (hu : b_upd σ cell i w σ') : b_gM G fz n ρ σ' (b_kill dep cell x M) := by
  intro q hq
  obtain ⟨h1, h2⟩ := List.mem_filter.mp hq
  obtain ⟨a, g1, g2⟩ := hM q h1
  refine ⟨a, g1, ?_⟩
  cases e : Nat.beq q.1 cell with
  | true =>
    rw [e] at h2
    have e := Nat.eq_of_beq_eq_true e
    rw [e, if_pos hc] at g2 ⊢
    obtain ⟨j, e1, w', g3, g4⟩ := g2
    refine ⟨j, e1, w', ?_, g4⟩
    rw [hu.2.1, if_neg, g3]
    rintro ⟨-, rfl⟩
    simp only [cond_true] at h2
    split at h2
    · rename_i e2
      have h3 : b_ev ρ (b_add q.2.1 (-1) x) = 0 := by rw [b_add_ev, g1.1, hx, e1]; omega
      unfold b_ev at h3
      rw [e2] at h3
      simp only [b_evs, Int.add_zero] at h3
      rw [h3] at h2
      simp at h2
    · cases h2
  | false =>
    rw [e] at h2
    have hne : q.1 ≠ cell := fun h9 => by rw [h9] at e; simp at e
    simp only [cond_false, Bool.not_eq_true'] at h2
    split at g2
    · rename_i h3
      obtain ⟨j, e1, w', g3, g4⟩ := g2
      rw [if_pos h3]
      exact ⟨j, e1, w', by rw [hu.2.1, if_neg (fun h9 => hne h9.1)]; exact g3, g4⟩
    · rename_i h3
      rw [if_neg h3]
      split at g2
      · rename_i h4
        rw [if_pos h4, hG q.1 σ σ' (fun c hc2 i' => ?_) a]
        · exact g2
        · rw [hu.2.1, if_neg]
          rintro ⟨rfl, -⟩
          rw [h2] at hc2
          cases hc2
      · rename_i h4
        rw [if_neg h4]
        exact g2
theorem b_put_ok (hG : b_GOk G dep) (hD : b_DepOk dep) (hWr : b_WrOk T Wr) (hW : b_gW W ρ) (hH : b_gH T σ) (hM : b_gM G fz W.1.1 ρ σ M) {cell i tag : Nat} {x y : b_L} {w : Value} {c : b_C} (hc : cell < 139) (hT : T cell = some c) (hi : i < c.2.2.1) (hx : b_gx W.1.1 ρ x (i : Int)) (hy : b_gv W.1.1 ρ (tag, y) w) (ht : tag < 2) (hu : b_upd σ cell i w σ') {M' : b_M} (h : b_put T dep Wr W M cell x tag y = some M') :
    b_gH T σ' ∧ b_gM G fz W.1.1 ρ σ' M' ∧ b_frame Wr σ σ' := by
  unfold b_put at h
  rw [hT] at h
  dsimp only at h
  cases h1 : (b_tys c x).all (fun t => Nat.beq t.1 tag && b_inB W y t.2) && b_wok Wr c cell x with
  | false => rw [h1] at h; cases h
  | true =>
    rw [h1] at h
    simp only [cond_true, Option.some.injEq] at h
    rw [Bool.and_eq_true] at h1
    obtain ⟨h1, h2⟩ := h1
    have hwr : Wr cell i = true := by
      unfold b_wok at h2
      cases e : Nat.beq c.1 0 with
      | true =>
        rw [e] at h2
        simp only [cond_true] at h2
        split at h2
        · rename_i e2
          have h3 := hx.1
          unfold b_ev at h3
          rw [e2] at h3
          simp only [b_evs, Int.add_zero] at h3
          rw [h3] at h2
          exact h2
        · cases h2
      | false =>
        rw [e] at h2
        obtain ⟨c', g1, z, g2, g3, -⟩ := hH.2 cell hc
        rw [hT] at g1
        cases g1
        have hc1 : c.1 = 1 := by
          unfold b_sh at g3
          split at g3
          · exfalso; rw [g3.1] at e; cases e
          · exact g3.1
          · exact g3.1
          · exact g3.1
        rw [hWr cell c hT hc1 i]
        exact h2
    have hty : ∀ t, t ∈ b_tys c x → b_gt t w := by
      intro t hm
      have h3 := List.all_eq_true.mp h1 t hm
      rw [Bool.and_eq_true] at h3
      have e := Nat.eq_of_beq_eq_true h3.1
      have h4 := b_inB_ok hW h3.2
      obtain ⟨t1, tq⟩ := t
      dsimp only at e h4
      subst e
      have hv := hy
      unfold b_gv at hv
      unfold b_gt
      dsimp only at hv ⊢
      split at hv
      · rw [hv.1] at h4; exact h4
      · rw [hv.1] at h4; exact h4
      · omega
      · omega
      · exact hv.elim
    refine ⟨⟨hu.1.trans hH.1, fun k hk => ?_⟩, ?_, ?_⟩
    · obtain ⟨d, g1, z, g2, g3, g4, g5⟩ := hH.2 k hk
      obtain ⟨z', g6, g7⟩ := hu.2.2 k z g2
      refine ⟨d, g1, z', g6, g7 d g3, g4, fun j hj => ?_⟩
      obtain ⟨t, w', q1, q2, q3⟩ := g5 j hj
      rw [hu.2.1]
      by_cases h9 : k = cell ∧ j = i
      · obtain ⟨rfl, rfl⟩ := h9
        rw [hT] at g1
        cases g1
        exact ⟨t, w, q1, if_pos ⟨rfl, rfl⟩, hty t (b_tys_ok g4 hx.1 q1)⟩
      · rw [if_neg h9]
        exact ⟨t, w', q1, q2, q3⟩
    · rw [← h]
      intro q hq
      rcases List.mem_cons.mp hq with rfl | hq
      · refine ⟨(i : Int), hx, ?_⟩
        dsimp only
        rw [if_pos hc]
        exact ⟨i, rfl, w, by rw [hu.2.1, if_pos ⟨rfl, rfl⟩], hy⟩
      · exact b_kill_ok hG hD hM hc hx.1 hu q hq
    · intro k j hk
      rw [hu.2.1, if_neg]
      rintro ⟨rfl, rfl⟩
      rw [hwr] at hk
      cases hk
theorem b_upd_field {b a k : Nat} {fs : List Value} {w : Value} (h : σ[b]? = some (.inr (a, fs))) (hk : k < fs.length) : b_upd σ b k w (σ.set b (.inr (a, fs.set k w))) := by
  have hb := (List.getElem?_eq_some_iff.mp h).1
  refine ⟨by simp, fun k' i' => ?_, fun k' z hz => ?_⟩
  · unfold b_rd
    by_cases e : k' = b
    · subst e
      rw [List.getElem?_set_self hb, h]
      dsimp only
      by_cases e2 : i' = k
      · subst e2; rw [if_pos ⟨rfl, rfl⟩, List.getElem?_set_self hk]
      · rw [if_neg (fun h9 => e2 h9.2), List.getElem?_set_ne (fun h9 => e2 h9.symm)]
    · rw [List.getElem?_set_ne (fun h9 => e h9.symm), if_neg (fun h9 => e h9.1)]
  · by_cases e : k' = b
    · subst e
      rw [h] at hz
      cases hz
      exact ⟨_, List.getElem?_set_self hb, fun c hc => by
        unfold b_sh at hc ⊢
        dsimp only at hc ⊢
        rw [List.length_set]
        exact hc⟩
    · exact ⟨z, by rw [List.getElem?_set_ne (fun h9 => e h9.symm)]; exact hz, fun c hc => hc⟩
theorem b_upd_int {b t k : Nat} {xs : List Int32} {w : Int32} (h : σ[b]? = some (.inl (t, .inl xs))) (hk : k < xs.length) : b_upd σ b k (.int w) (σ.set b (.inl (t, .inl (xs.set k w)))) := by
  have hb := (List.getElem?_eq_some_iff.mp h).1
  refine ⟨by simp, fun k' i' => ?_, fun k' z hz => ?_⟩
  · unfold b_rd
    by_cases e : k' = b
    · subst e
      rw [List.getElem?_set_self hb, h]
      dsimp only
      by_cases e2 : i' = k
      · subst e2; rw [if_pos ⟨rfl, rfl⟩, List.getElem?_set_self hk]; rfl
      · rw [if_neg (fun h9 => e2 h9.2), List.getElem?_set_ne (fun h9 => e2 h9.symm)]
    · rw [List.getElem?_set_ne (fun h9 => e h9.symm), if_neg (fun h9 => e h9.1)]
  · by_cases e : k' = b
    · subst e
      rw [h] at hz
      cases hz
      exact ⟨_, List.getElem?_set_self hb, fun c hc => by
        unfold b_sh at hc ⊢
        dsimp only at hc ⊢
        rw [List.length_set]
        exact hc⟩
    · exact ⟨z, by rw [List.getElem?_set_ne (fun h9 => e h9.symm)]; exact hz, fun c hc => hc⟩
theorem b_upd_long {b t k : Nat} {xs : List Int64} {w : Int64} (h : σ[b]? = some (.inl (t, .inr (.inl xs)))) (hk : k < xs.length) : b_upd σ b k (.long w) (σ.set b (.inl (t, .inr (.inl (xs.set k w))))) := by
  have hb := (List.getElem?_eq_some_iff.mp h).1
  refine ⟨by simp, fun k' i' => ?_, fun k' z hz => ?_⟩
  · unfold b_rd
    by_cases e : k' = b
    · subst e
      rw [List.getElem?_set_self hb, h]
      dsimp only
      by_cases e2 : i' = k
      · subst e2; rw [if_pos ⟨rfl, rfl⟩, List.getElem?_set_self hk]; rfl
      · rw [if_neg (fun h9 => e2 h9.2), List.getElem?_set_ne (fun h9 => e2 h9.symm)]
    · rw [List.getElem?_set_ne (fun h9 => e h9.symm), if_neg (fun h9 => e h9.1)]
  · by_cases e : k' = b
    · subst e
      rw [h] at hz
      cases hz
      exact ⟨_, List.getElem?_set_self hb, fun c hc => by
        unfold b_sh at hc ⊢
        dsimp only at hc ⊢
        rw [List.length_set]
        exact hc⟩
    · exact ⟨z, by rw [List.getElem?_set_ne (fun h9 => e h9.symm)]; exact hz, fun c hc => hc⟩
end B65
end
section
/-! ONE STEP INSIDE A FRAME -/
abbrev b_Lv : Type := List (Nat × b_V)
abbrev b_R : Type := b_NF × b_M × Nat × b_Lv × List b_V
def b_ld (lv : b_Lv) (i : Nat) : Option b_V := match lv with
  | [] => none
  | q :: r => bif Nat.beq q.1 i then some q.2 else b_ld r i
def b_cat (v : b_V) : Nat := bif Nat.beq v.1 1 then 2 else 1
def b_knd (v : b_V) : Int := match v.1 with
  | 0 => 0
  | 1 => 1
  | 2 => 2
  | 6 => 0
  | _ => 3
def b_c2 (lv : b_Lv) (i : Nat) : Bool := match b_ld lv i with
  | some v => Nat.beq v.1 1
  | none => true
/-- local i becomes v (of one place) -/
def b_st1 (lv : b_Lv) (i : Nat) (v : b_V) : b_Lv := (i, v) :: lv.filter fun q => !(Nat.beq q.1 i) && !(Nat.beq (q.1 + 1) i && b_c2 lv q.1)
def b_st2 (lv : b_Lv) (i : Nat) (v : b_V) : b_Lv := (i, v) :: lv.filter fun q => !(Nat.beq q.1 i) && (!(Nat.beq q.1 (i + 1)) && !(Nat.beq (q.1 + 1) i && b_c2 lv q.1))
def b_gl (n : Nat) (ρ : Nat → Int) (lv : b_Lv) (cl : m_V) : Prop := ∀ i v, b_ld lv i = some v → ∃ w, m_ld cl i = some w ∧ b_gv n ρ v w
/-- a frame's locals and stack -/
def b_gf (n : Nat) (ρ : Nat → Int) (lv : b_Lv) (st : List b_V) (cl : m_V) (cs : List Value) : Prop := b_gl n ρ lv cl ∧ a_all2 (b_gv n ρ) st cs ∧ m_okl 139 cl = true ∧ cs.all (m_okv 139) = true
def b_gA (T : Nat → Option b_C) (G : b_G) (fz : List (List Int32)) (W : b_NF) (M : b_M) (ρ : Nat → Int) (σ : m_S) : Prop := b_gW W ρ ∧ b_gH T σ ∧ b_gM G fz W.1.1 ρ σ M
section B66
variable {ρ ρ' : Nat → Int} {W W' : b_NF} {n : Nat} {v : b_V} {w : Value}
theorem b_gv_cat (h : b_gv n ρ v w) : b_cat v = w.category := by
  obtain ⟨t, x⟩ := v
  unfold b_gv at h
  split at h <;> first | exact h.elim | (rename_i e; dsimp only at e; subst e; rfl)
theorem b_gv_knd (h : b_gv n ρ v w) : b_knd v = m_k w := by
  obtain ⟨t, x⟩ := v
  unfold b_gv at h
  split at h <;> first | exact h.elim | (rename_i e; dsimp only at e; subst e; rfl)
theorem b_gl.up {lv : b_Lv} {cl : m_V} (he : b_ext W ρ W' ρ') (h : b_gl W.1.1 ρ lv cl) : b_gl W'.1.1 ρ' lv cl := fun i v hv => by
  obtain ⟨w, h1, h2⟩ := h i v hv
  exact ⟨w, h1, h2.up he⟩
theorem b_all2.up {st : List b_V} {cs : List Value} (he : b_ext W ρ W' ρ') (h : a_all2 (b_gv W.1.1 ρ) st cs) : a_all2 (b_gv W'.1.1 ρ') st cs := h.imp fun _ _ h => h.up he
theorem b_gf.up {lv : b_Lv} {st : List b_V} {cl : m_V} {cs : List Value} (he : b_ext W ρ W' ρ') (h : b_gf W.1.1 ρ lv st cl cs) : b_gf W'.1.1 ρ' lv st cl cs := ⟨h.1.up he, b_all2.up he h.2.1, h.2.2⟩
theorem b_ld_filter {f : Nat × b_V → Bool} {i : Nat} {v : b_V} : ∀ {lv : b_Lv}, (∀ q, q.1 = i → f q = true) → b_ld (lv.filter f) i = some v → b_ld lv i = some v
  | [], _, h => h
  | q :: r, hf, h => by
    rw [List.filter_cons] at h
    unfold b_ld
    cases e : Nat.beq q.1 i with
    | true =>
      have e1 := Nat.eq_of_beq_eq_true e
      rw [if_pos (hf q e1)] at h
      unfold b_ld at h
      rw [e] at h
      exact h
    | false =>
      simp only [cond_false]
      split at h
      · unfold b_ld at h
        rw [e] at h
        exact b_ld_filter hf h
      · exact b_ld_filter hf h
theorem b_ld_gone {f : Nat × b_V → Bool} {i : Nat} : ∀ {lv : b_Lv}, (∀ q, q.1 = i → f q = false) → b_ld (lv.filter f) i = none
  | [], _ => rfl
  | q :: r, hf => by
    rw [List.filter_cons]
    split
    · rename_i h
      unfold b_ld
      cases e : Nat.beq q.1 i with
      | true => rw [hf q (Nat.eq_of_beq_eq_true e)] at h; cases h
      | false => exact b_ld_gone hf
    · exact b_ld_gone hf
theorem m_ld_filter {f : Nat × Value → Bool} {i : Nat} {w : Value} : ∀ {lv : m_V}, m_ld lv i = some w → f (i, w) = true → m_ld (lv.filter f) i = some w
  | [], h, _ => h
  | q :: r, h, hf => by
    unfold m_ld at h ⊢
    rw [List.find?_cons] at h
    rw [List.filter_cons]
    cases e : (q.1 == i) with
    | true =>
      rw [e] at h
      simp only [Option.map_some, Option.some.injEq] at h
      have e1 : q.1 = i := by simpa using e
      have e2 : q = (i, w) := by rw [← e1, ← h]
      rw [e2, if_pos hf, List.find?_cons]
      simp
    | false =>
      rw [e] at h
      have h2 := m_ld_filter (lv := r) h hf
      split
      · rw [List.find?_cons, e]; exact h2
      · exact h2
theorem m_ld_cons (lv : m_V) (i j : Nat) (w : Value) : m_ld ((i, w) :: lv) j = if i = j then some w else m_ld lv j := by
  unfold m_ld
  rw [List.find?_cons]
  by_cases e : i = j
  · subst e; simp
  · rw [if_neg e]
    have : (i == j) = false := by simpa using e
    rw [this]
theorem m_okl_filter {f : Nat × Value → Bool} {lv : m_V} {k : Nat} (h : m_okl k lv = true) : m_okl k (lv.filter f) = true := by
  unfold m_okl at h ⊢
  rw [List.all_eq_true] at h ⊢
  exact fun q hq => h q (List.mem_filter.mp hq).1
theorem b_st1_ok {lv : b_Lv} {cl : m_V} (i : Nat) (hl : b_gl n ρ lv cl) (hv : b_gv n ρ v w) : b_gl n ρ (b_st1 lv i v) (m_st1 cl i w) := by
  intro j u hu
  unfold b_st1 at hu
  unfold m_st1
  rw [m_ld_cons]
  unfold b_ld at hu
  dsimp only at hu
  cases e : Nat.beq i j with
  | true =>
    rw [e] at hu
    cases hu
    rw [if_pos (Nat.eq_of_beq_eq_true e)]
    exact ⟨w, rfl, hv⟩
  | false =>
    rw [e] at hu
    simp only [cond_false] at hu
    have hne : i ≠ j := fun h9 => by rw [h9] at e; simp at e
    rw [if_neg hne]
    cases e2 : Nat.beq (j + 1) i && b_c2 lv j with
    | true =>
      rw [b_ld_gone (fun q hq => by rw [hq, e2]; simp)] at hu
      cases hu
    | false =>
      have h1 := b_ld_filter (fun q hq => by
        rw [hq, e2]
        have : Nat.beq j i = false := by
          cases h9 : Nat.beq j i with
          | true => exact absurd (Nat.eq_of_beq_eq_true h9).symm hne
          | false => rfl
        rw [this]; rfl) hu
      obtain ⟨w', h2, h3⟩ := hl j u h1
      refine ⟨w', m_ld_filter h2 ?_, h3⟩
      have h4 : (j == i) = false := by simpa using fun h9 => hne h9.symm
      have h5 := b_gv_cat h3
      dsimp only
      rw [h4]
      simp only [Bool.not_false, Bool.true_and, Bool.not_eq_true', Bool.and_eq_false_iff]
      by_cases h6 : j + 1 = i
      · right
        rw [← h5]
        rw [h6] at e2
        rw [show Nat.beq i i = true from Nat.beq_refl i, Bool.true_and] at e2
        unfold b_c2 at e2
        rw [h1] at e2
        dsimp only at e2
        unfold b_cat
        rw [e2]
        rfl
      · left; simpa using h6
theorem b_st2_ok {lv : b_Lv} {cl : m_V} (i : Nat) (hl : b_gl n ρ lv cl) (hv : b_gv n ρ v w) : b_gl n ρ (b_st2 lv i v) (m_st2 cl i w) := by
  intro j u hu
  unfold b_st2 at hu
  unfold m_st2
  rw [m_ld_cons]
  unfold b_ld at hu
  dsimp only at hu
  cases e : Nat.beq i j with
  | true =>
    rw [e] at hu
    cases hu
    rw [if_pos (Nat.eq_of_beq_eq_true e)]
    exact ⟨w, rfl, hv⟩
  | false =>
    rw [e] at hu
    simp only [cond_false] at hu
    have hne : i ≠ j := fun h9 => by rw [h9] at e; simp at e
    rw [if_neg hne]
    cases e3 : Nat.beq j (i + 1) with
    | true =>
      rw [b_ld_gone (fun q hq => by rw [hq, e3]; simp)] at hu
      cases hu
    | false =>
    cases e2 : Nat.beq (j + 1) i && b_c2 lv j with
    | true =>
      rw [b_ld_gone (fun q hq => by rw [hq, e2]; simp)] at hu
      cases hu
    | false =>
      have h1 := b_ld_filter (fun q hq => by
        rw [hq, e2, e3]
        have : Nat.beq j i = false := by
          cases h9 : Nat.beq j i with
          | true => exact absurd (Nat.eq_of_beq_eq_true h9).symm hne
          | false => rfl
        rw [this]; rfl) hu
      obtain ⟨w', h2, h3⟩ := hl j u h1
      refine ⟨w', m_ld_filter h2 ?_, h3⟩
      have h4 : (j == i) = false := by simpa using fun h9 => hne h9.symm
      have h7 : (j == i + 1) = false := by
        have : j ≠ i + 1 := fun h9 => by rw [h9] at e3; simp at e3
        simpa using this
      have h5 := b_gv_cat h3
      dsimp only
      rw [h4, h7]
      simp only [Bool.not_false, Bool.true_and, Bool.not_eq_true', Bool.and_eq_false_iff]
      by_cases h6 : j + 1 = i
      · right
        rw [← h5]
        rw [h6] at e2
        rw [show Nat.beq i i = true from Nat.beq_refl i, Bool.true_and] at e2
        unfold b_c2 at e2
        rw [h1] at e2
        dsimp only at e2
        unfold b_cat
        rw [e2]
        rfl
      · left; simpa using h6
theorem b_ok1 {cl : m_V} {i k : Nat} {w : Value} (h : m_okl k cl = true) (hw : m_okv k w = true) : m_okl k (m_st1 cl i w) = true := by
  unfold m_st1
  have := m_okl_filter (f := fun q => !(q.1 == i) && !(q.1 + 1 == i && q.2.category == 2)) h
  unfold m_okl at this ⊢
  rw [List.all_cons, this, hw]
  rfl
theorem b_ok2 {cl : m_V} {i k : Nat} {w : Value} (h : m_okl k cl = true) (hw : m_okv k w = true) : m_okl k (m_st2 cl i w) = true := by
  unfold m_st2
  have := m_okl_filter (f := fun q => !(q.1 == i) && (!(q.1 == i + 1) && !(q.1 + 1 == i && q.2.category == 2))) h
  unfold m_okl at this ⊢
  rw [List.all_cons, this, hw]
  rfl
theorem b_okld {cl : m_V} {i k : Nat} {w : Value} (h : m_okl k cl = true) (hw : m_ld cl i = some w) : m_okv k w = true := by
  unfold m_ld at hw
  obtain ⟨q, h1, h2⟩ := Option.map_eq_some_iff.mp hw
  subst h2
  exact List.all_eq_true.mp h q (List.mem_of_find?_eq_some h1)
end B66
end
section
/-! THE OPERATIONS that leave the heap alone -/
abbrev b_H : Type := Option (List b_R)
def b_Step (T : Nat → Option b_C) (G : b_G) (fz : List (List Int32)) (Wr : Nat → Nat → Bool) (I : m_I) (nx : Nat) (W : b_NF) (ρ : Nat → Int) (cl : m_V) (cs : List Value) (σ : m_S) (L : List b_R) : Prop :=
  ∃ pc' cl' cs' σ', m_step fz I nx cl cs σ = some (.inl (pc', cl', cs', σ')) ∧ b_frame Wr σ σ' ∧ ∃ r ∈ L, ∃ ρ', b_ext W ρ r.1 ρ' ∧ r.2.2.1 = pc' ∧ b_gH T σ' ∧ b_gM G fz r.1.1.1 ρ' σ' r.2.1 ∧ b_gf r.1.1.1 ρ' r.2.2.2.1 r.2.2.2.2 cl' cs'
def b_h0 (W : b_NF) (M : b_M) (v : Int) (nx : Nat) (lv : b_Lv) (st : List b_V) : b_H := bif decide (-2147483648 ≤ v) && decide (v ≤ 2147483647) then some [(W, M, nx, lv, (0, b_con v) :: st)] else none
def b_h1 (W : b_NF) (M : b_M) (v : Int) (nx : Nat) (lv : b_Lv) (st : List b_V) : b_H := bif decide (-9223372036854775808 ≤ v) && decide (v ≤ 9223372036854775807) then some [(W, M, nx, lv, (1, b_con v) :: st)] else none
def b_h2 (W : b_NF) (M : b_M) (a : Nat) (v : Int) (nx : Nat) (lv : b_Lv) (st : List b_V) : b_H := match b_ld lv a with
  | some w => bif decide (b_knd w = v) then some [(W, M, nx, lv, w :: st)] else none
  | none => none
def b_h3 (W : b_NF) (M : b_M) (a : Nat) (v : Int) (nx : Nat) (lv : b_Lv) (st : List b_V) : b_H := match st with
  | w :: r => bif decide (b_knd w = v) then some [(W, M, nx, (if v = 1 then b_st2 lv a w else b_st1 lv a w), r)] else none
  | [] => none
noncomputable def b_h4 (W : b_NF) (M : b_M) (a : Nat) (v : Int) (nx : Nat) (lv : b_Lv) (st : List b_V) : b_H := match b_ld lv a with
  | some w => match b_num W w with
    | some (W1, x) => bif decide (-2147483648 ≤ v) && decide (v ≤ 2147483647) then some [((b_t32 W1 (b_adc x v)).1, M, nx, b_st1 lv a (0, (b_t32 W1 (b_adc x v)).2), st)] else none
    | none => none
  | none => none
noncomputable def b_h5 (W : b_NF) (M : b_M) (a : Nat) (nx : Nat) (lv : b_Lv) (st : List b_V) : b_H := match st with
  | y :: x :: r => match b_num W x with
    | some (W1, x1) => match b_num W1 y with
      | some (W2, y1) => match b_ibin W2 a x1 y1 with
        | some U => some [(U.1, M, nx, lv, (0, U.2) :: r)]
        | none => none
      | none => none
    | none => none
  | _ => none
noncomputable def b_h6 (W : b_NF) (M : b_M) (a : Nat) (nx : Nat) (lv : b_Lv) (st : List b_V) : b_H := match st with
  | y :: x :: r => bif Nat.beq x.1 1 && Nat.beq y.1 1 then (match b_lbin W a x.2 y.2 with
      | some U => some [(U.1, M, nx, lv, (1, U.2) :: r)]
      | none => none) else none
  | _ => none
noncomputable def b_un1 (W : b_NF) (k : Nat) (x : b_L) : Option (b_NF × b_V) := match k with
  | 0 => some ((b_t32 W (b_neg x)).1, (0, (b_t32 W (b_neg x)).2))
  | 1 => some (W, (1, x))
  | 3 => some ((b_fit W x (-128) 127).1, (0, (b_fit W x (-128) 127).2))
  | 4 => some ((b_fit W x (-32768) 32767).1, (0, (b_fit W x (-32768) 32767).2))
  | _ => none
noncomputable def b_un (W : b_NF) (k : Nat) (v : b_V) : Option (b_NF × b_V) := bif Nat.beq v.1 1 then (match k with
    | 2 => some ((b_t32 W v.2).1, (0, (b_t32 W v.2).2))
    | 5 => some ((b_t64 W (b_neg v.2)).1, (1, (b_t64 W (b_neg v.2)).2))
    | _ => none) else match b_num W v with
    | some (W1, x) => b_un1 W1 k x
    | none => none
noncomputable def b_h7 (W : b_NF) (M : b_M) (a : Nat) (nx : Nat) (lv : b_Lv) (st : List b_V) : b_H := match st with
  | v :: r => match b_un W a v with
    | some U => some [(U.1, M, nx, lv, U.2 :: r)]
    | none => none
  | [] => none
def b_h8 (W : b_NF) (M : b_M) (nx : Nat) (lv : b_Lv) (st : List b_V) : b_H := match st with
  | y :: x :: r => bif Nat.beq x.1 1 && Nat.beq y.1 1 then some [(W, M, nx, lv, (6, b_add x.2 (-1) y.2) :: r)] else none
  | _ => none
def b_stk (k : Nat) (st : List b_V) : Option (List b_V) := match k, st with
  | 0, a :: r => if b_cat a = 1 then some r else none
  | 1, a :: r => if b_cat a = 2 then some r else none
  | 2, a :: r => if b_cat a = 1 then some (a :: a :: r) else none
  | 3, a :: b :: r => if b_cat a = 1 ∧ b_cat b = 1 then some (a :: b :: a :: b :: r) else none
  | _, _ => none
def b_h9 (W : b_NF) (M : b_M) (a : Nat) (nx : Nat) (lv : b_Lv) (st : List b_V) : b_H := match b_stk a st with
  | some r => some [(W, M, nx, lv, r)]
  | none => none
noncomputable def b_h11 (W : b_NF) (M : b_M) (a : Nat) (v : Int) (nx : Nat) (lv : b_Lv) (st : List b_V) : b_H := match st with
  | x :: r => bif Nat.beq x.1 0 || Nat.beq x.1 6 then some ((b_learn W v x.2).map (fun U => (U, M, a, lv, r)) ++ (b_learn W (a_ng v) x.2).map (fun U => (U, M, nx, lv, r))) else none
  | [] => none
noncomputable def b_h12 (W : b_NF) (M : b_M) (a : Nat) (v : Int) (nx : Nat) (lv : b_Lv) (st : List b_V) : b_H := match st with
  | y :: x :: r => match b_num W x with
    | some (W1, x1) => match b_num W1 y with
      | some (W2, y1) => some ((b_learn W2 v (b_add x1 (-1) y1)).map (fun U => (U, M, a, lv, r)) ++ (b_learn W2 (a_ng v) (b_add x1 (-1) y1)).map (fun U => (U, M, nx, lv, r)))
      | none => none
    | none => none
  | _ => none
noncomputable def b_tsw (W : b_NF) (M : b_M) (x : b_L) (lv : b_Lv) (r : List b_V) : Int → List Nat → List b_R
  | _, [] => []
  | j, t :: ts => (b_learn W 0 (b_adc x (-j))).map (fun U => (U, M, t, lv, r)) ++ b_tsw W M x lv r (j + 1) ts
noncomputable def b_h13 (W : b_NF) (M : b_M) (a : Nat) (v : Int) (l : List Nat) (lv : b_Lv) (st : List b_V) : b_H := match st with
  | y :: r => match b_num W y with
    | some (W1, x) => some ((b_learn W1 2 (b_adc x (-v))).map (fun U => (U, M, a, lv, r)) ++ ((b_learn W1 3 (b_adc x (-(v + l.length)))).map (fun U => (U, M, a, lv, r)) ++ b_tsw W1 M x lv r v l))
    | none => none
  | [] => none
noncomputable def b_lsw (W : b_NF) (M : b_M) (x : b_L) (lv : b_Lv) (r : List b_V) : List Nat → List b_R
  | k :: t :: ts => (b_learn W 0 (b_adc x (-(k : Int)))).map (fun U => (U, M, t, lv, r)) ++ b_lsw W M x lv r ts
  | _ => []
noncomputable def b_h14 (W : b_NF) (M : b_M) (a : Nat) (l : List Nat) (lv : b_Lv) (st : List b_V) : b_H := match st with
  | y :: r => match b_num W y with
    | some (W1, x) => some ((W1, M, a, lv, r) :: b_lsw W1 M x lv r l)
    | none => none
  | [] => none
noncomputable def b_h28 (W : b_NF) (M : b_M) (a : Nat) (nx : Nat) (lv : b_Lv) (st : List b_V) : b_H := match st with
  | y :: x :: r => bif Nat.beq x.1 1 && Nat.ble a 1 then (match b_num W y with
      | some (W1, _) => some [((b_f64 W1).1, M, nx, lv, (1, (b_f64 W1).2) :: r)]
      | none => none) else none
  | _ => none
section B67
variable {T : Nat → Option b_C} {G : b_G} {fz : List (List Int32)} {Wr : Nat → Nat → Bool} {ρ : Nat → Int} {W : b_NF} {M : b_M} {cl : m_V} {cs : List Value} {σ : m_S} {lv : b_Lv} {st : List b_V} {L : List b_R} {nx : Nat}
theorem b_frame.rf : b_frame Wr σ σ := fun _ _ _ => rfl
theorem b_pure {I : m_I} {pc' : Nat} {cl' : m_V} {cs' : List Value} (hH : b_gH T σ) (hM : b_gM G fz W.1.1 ρ σ M) (hs : m_step fz I nx cl cs σ = some (.inl (pc', cl', cs', σ))) {U : b_NF} {ρ' : Nat → Int} (he : b_ext W ρ U ρ') {lv' : b_Lv} {st' : List b_V} (hr : (U, M, pc', lv', st') ∈ L) (hf : b_gf U.1.1 ρ' lv' st' cl' cs') : b_Step T G fz Wr I nx W ρ cl cs σ L :=
  ⟨pc', cl', cs', σ, hs, b_frame.rf, _, hr, ρ', he, rfl, hH, hM.up he, hf⟩
theorem b_cons {R : b_V → Value → Prop} {v : b_V} {r : List b_V} : ∀ {cs : List Value}, a_all2 R (v :: r) cs → ∃ w t, cs = w :: t ∧ R v w ∧ a_all2 R r t
  | [], h => h.elim
  | w :: t, h => ⟨w, t, rfl, h.1, h.2⟩
theorem b_okc {w : Value} {t : List Value} (h : (w :: t).all (m_okv 139) = true) : m_okv 139 w = true ∧ t.all (m_okv 139) = true := by
  rw [List.all_cons, Bool.and_eq_true] at h; exact h
theorem b_okm {w : Value} {t : List Value} (h1 : m_okv 139 w = true) (h2 : t.all (m_okv 139) = true) : (w :: t).all (m_okv 139) = true := by
  rw [List.all_cons, h1, h2]; rfl
theorem b_h0_ok {a : Nat} {v : Int} {q : List Nat} (hW : b_gW W ρ) (hH : b_gH T σ) (hM : b_gM G fz W.1.1 ρ σ M) (hf : b_gf W.1.1 ρ lv st cl cs) (h : b_h0 W M v nx lv st = some L) : b_Step T G fz Wr (0, a, v, q) nx W ρ cl cs σ L := by
  unfold b_h0 at h
  cases e : decide (-2147483648 ≤ v) && decide (v ≤ 2147483647) with
  | true =>
    rw [e] at h
    simp only [Bool.and_eq_true, decide_eq_true_eq] at e
    cases h
    have h1 : (Int32.ofInt v).toInt = v := by rw [Int32.toInt_ofInt]; exact a_bm e.1 e.2
    have h2 : b_gx W.1.1 ρ (b_con v) (Int32.ofInt v).toInt := by rw [h1]; exact b_gx.con v
    exact b_pure hH hM (pc' := nx) (cl' := cl) (cs' := .int (Int32.ofInt v) :: cs) (by rfl) (b_ext.rf hW) (List.mem_singleton.mpr rfl) ⟨hf.1, ⟨h2, hf.2.1⟩, hf.2.2.1, b_okm rfl hf.2.2.2⟩
  | false => rw [e] at h; cases h
theorem b_h1_ok {a : Nat} {v : Int} {q : List Nat} (hW : b_gW W ρ) (hH : b_gH T σ) (hM : b_gM G fz W.1.1 ρ σ M) (hf : b_gf W.1.1 ρ lv st cl cs) (h : b_h1 W M v nx lv st = some L) : b_Step T G fz Wr (1, a, v, q) nx W ρ cl cs σ L := by
  unfold b_h1 at h
  cases e : decide (-9223372036854775808 ≤ v) && decide (v ≤ 9223372036854775807) with
  | true =>
    rw [e] at h
    simp only [Bool.and_eq_true, decide_eq_true_eq] at e
    cases h
    have h1 : (Int64.ofInt v).toInt = v := by rw [Int64.toInt_ofInt]; exact b_bm64 e.1 e.2
    have h2 : b_gx W.1.1 ρ (b_con v) (Int64.ofInt v).toInt := by rw [h1]; exact b_gx.con v
    exact b_pure hH hM (pc' := nx) (cl' := cl) (cs' := .long (Int64.ofInt v) :: cs) (by rfl) (b_ext.rf hW) (List.mem_singleton.mpr rfl) ⟨hf.1, ⟨h2, hf.2.1⟩, hf.2.2.1, b_okm rfl hf.2.2.2⟩
  | false => rw [e] at h; cases h
theorem b_h2_ok {a : Nat} {v : Int} {q : List Nat} (hW : b_gW W ρ) (hH : b_gH T σ) (hM : b_gM G fz W.1.1 ρ σ M) (hf : b_gf W.1.1 ρ lv st cl cs) (h : b_h2 W M a v nx lv st = some L) : b_Step T G fz Wr (2, a, v, q) nx W ρ cl cs σ L := by
  unfold b_h2 at h
  split at h
  · rename_i u hu
    cases e : decide (b_knd u = v) with
    | true =>
      rw [e] at h
      cases h
      have e := of_decide_eq_true e
      obtain ⟨w, h1, h2⟩ := hf.1 a u hu
      have h3 := b_gv_knd h2
      refine b_pure hH hM (pc' := nx) (cl' := cl) (cs' := w :: cs) ?_ (b_ext.rf hW) (List.mem_singleton.mpr rfl) ⟨hf.1, ⟨h2, hf.2.1⟩, hf.2.2.1, b_okm (b_okld hf.2.2.1 h1) hf.2.2.2⟩
      simp only [m_step, h1]
      rw [if_pos (by rw [← h3, e])]
    | false => rw [e] at h; cases h
  · cases h
theorem b_h3_ok {a : Nat} {v : Int} {q : List Nat} (hW : b_gW W ρ) (hH : b_gH T σ) (hM : b_gM G fz W.1.1 ρ σ M) (hf : b_gf W.1.1 ρ lv st cl cs) (h : b_h3 W M a v nx lv st = some L) : b_Step T G fz Wr (3, a, v, q) nx W ρ cl cs σ L := by
  unfold b_h3 at h
  split at h
  · rename_i u r
    cases e : decide (b_knd u = v) with
    | true =>
      rw [e] at h
      cases h
      have e := of_decide_eq_true e
      obtain ⟨h1, h2, h3, h4⟩ := hf
      obtain ⟨w, t, rfl, g1, g2⟩ := b_cons h2
      obtain ⟨g3, g4⟩ := b_okc h4
      have g5 := b_gv_knd g1
      refine b_pure hH hM (pc' := nx) (cl' := if v = 1 then m_st2 cl a w else m_st1 cl a w) (cs' := t) ?_ (b_ext.rf hW) (List.mem_singleton.mpr rfl) ?_
      · simp only [m_step]
        rw [if_pos (by rw [← g5, e])]
      · by_cases hv : v = 1
        · rw [if_pos hv, if_pos hv]
          exact ⟨b_st2_ok a h1 g1, g2, b_ok2 h3 g3, g4⟩
        · rw [if_neg hv, if_neg hv]
          exact ⟨b_st1_ok a h1 g1, g2, b_ok1 h3 g3, g4⟩
    | false => rw [e] at h; cases h
  · cases h
theorem b_h4_ok {a : Nat} {v : Int} {q : List Nat} (hW : b_gW W ρ) (hH : b_gH T σ) (hM : b_gM G fz W.1.1 ρ σ M) (hf : b_gf W.1.1 ρ lv st cl cs) (h : b_h4 W M a v nx lv st = some L) : b_Step T G fz Wr (4, a, v, q) nx W ρ cl cs σ L := by
  unfold b_h4 at h
  split at h
  · rename_i u hu
    split at h
    · rename_i W1 x hn
      cases e : decide (-2147483648 ≤ v) && decide (v ≤ 2147483647) with
      | true =>
        rw [e] at h
        simp only [Bool.and_eq_true, decide_eq_true_eq] at e
        cases h
        obtain ⟨w, h1, h2⟩ := hf.1 a u hu
        obtain ⟨z, rfl, ρ1, g1, g2⟩ := b_num_ok hW h2 hn
        have h9 : (Int32.ofInt v).toInt = v := by rw [Int32.toInt_ofInt]; exact a_bm e.1 e.2
        obtain ⟨ρ2, g3, g4⟩ := b_t32_ok g1.2.2 (z + Int32.ofInt v) (g2.adc v) (by rw [Int32.toInt_add, h9])
        have he := g1.tr g3
        refine b_pure hH hM (pc' := nx) (cl' := m_st1 cl a (.int (z + Int32.ofInt v))) (cs' := cs) ?_ he (List.mem_singleton.mpr rfl) ⟨b_st1_ok a (hf.1.up he) g4, b_all2.up he hf.2.1, b_ok1 hf.2.2.1 rfl, hf.2.2.2⟩
        simp only [m_step, h1]
      | false => rw [e] at h; cases h
    · cases h
  · cases h
theorem b_h5_ok {a : Nat} {v : Int} {q : List Nat} (hW : b_gW W ρ) (hH : b_gH T σ) (hM : b_gM G fz W.1.1 ρ σ M) (hf : b_gf W.1.1 ρ lv st cl cs) (h : b_h5 W M a nx lv st = some L) : b_Step T G fz Wr (5, a, v, q) nx W ρ cl cs σ L := by
  unfold b_h5 at h
  split at h
  · rename_i y x r
    split at h
    · rename_i W1 x1 hx
      split at h
      · rename_i W2 y1 hy
        split at h
        · rename_i U hU
          cases h
          obtain ⟨h1, h2, h3, h4⟩ := hf
          obtain ⟨wy, t1, rfl, g1, g2⟩ := b_cons h2
          obtain ⟨wx, t, rfl, g3, g4⟩ := b_cons g2
          obtain ⟨zx, rfl, ρ1, q1, q2⟩ := b_num_ok hW g3 hx
          obtain ⟨zy, rfl, ρ2, q3, q4⟩ := b_num_ok q1.2.2 (g1.up q1) hy
          obtain ⟨z, k1, ρ3, k2, k3⟩ := b_ibin_ok q3.2.2 (q2.up q3) q4 hU
          have he := (q1.tr q3).tr k2
          refine b_pure hH hM (pc' := nx) (cl' := cl) (cs' := .int z :: t) ?_ he (List.mem_singleton.mpr rfl) ⟨h1.up he, ⟨k3, b_all2.up he g4⟩, h3, b_okm rfl (b_okc (b_okc h4).2).2⟩
          simp only [m_step, k1, Option.map_some]
        · cases h
      · cases h
    · cases h
  · cases h
theorem b_lg {n : Nat} {x : b_V} {w : Value} (h : Nat.beq x.1 1 = true) (hv : b_gv n ρ x w) : ∃ z : Int64, w = .long z ∧ b_gx n ρ x.2 z.toInt := by
  obtain ⟨t, y⟩ := x
  have e := Nat.eq_of_beq_eq_true h
  dsimp only at e
  subst e
  unfold b_gv at hv
  split at hv
  · rename_i e; cases e
  · rename_i z e; exact ⟨z, rfl, hv⟩
  · rename_i e; cases e
  · rename_i e; cases e
  · exact hv.elim
theorem b_h6_ok {a : Nat} {v : Int} {q : List Nat} (hW : b_gW W ρ) (hH : b_gH T σ) (hM : b_gM G fz W.1.1 ρ σ M) (hf : b_gf W.1.1 ρ lv st cl cs) (h : b_h6 W M a nx lv st = some L) : b_Step T G fz Wr (6, a, v, q) nx W ρ cl cs σ L := by
  unfold b_h6 at h
  split at h
  · rename_i y x r
    cases e : Nat.beq x.1 1 && Nat.beq y.1 1 with
    | true =>
      rw [e] at h
      rw [Bool.and_eq_true] at e
      simp only [cond_true] at h
      split at h
      · rename_i U hU
        cases h
        obtain ⟨h1, h2, h3, h4⟩ := hf
        obtain ⟨wy, t1, rfl, g1, g2⟩ := b_cons h2
        obtain ⟨wx, t, rfl, g3, g4⟩ := b_cons g2
        obtain ⟨zx, rfl, q2⟩ := b_lg e.1 g3
        obtain ⟨zy, rfl, q4⟩ := b_lg e.2 g1
        obtain ⟨z, k1, ρ3, he, k3⟩ := b_lbin_ok hW q2 q4 hU
        refine b_pure hH hM (pc' := nx) (cl' := cl) (cs' := .long z :: t) ?_ he (List.mem_singleton.mpr rfl) ⟨h1.up he, ⟨k3, b_all2.up he g4⟩, h3, b_okm rfl (b_okc (b_okc h4).2).2⟩
        simp only [m_step, k1, Option.map_some]
      · cases h
    | false => rw [e] at h; cases h
  · cases h
end B67
end
section
/-! the rest of the operations that leave the heap alone -/
def b_max1 (W : b_NF) (k : Nat) (x y : b_L) (a b c d : Int) : b_NF × b_L := match k with
  | 0 => bif decide (b ≤ c) then (W, y) else bif decide (d ≤ a) then (W, x) else b_fresh W (max a c) (max b d) 0
  | _ => bif decide (d ≤ a) then (W, y) else bif decide (b ≤ c) then (W, x) else b_fresh W (min a c) (min b d) 0
def b_max (W : b_NF) (k : Nat) (x y : b_L) : Option (b_NF × b_L) := match b_lo W.1 x, b_hi W.1 x, b_lo W.1 y, b_hi W.1 y with
  | some a, some b, some c, some d => some (b_max1 W k x y a b c d)
  | _, _, _, _ => none
noncomputable def b_h40 (W : b_NF) (M : b_M) (k : Nat) (nx : Nat) (lv : b_Lv) (st : List b_V) : b_H := match st with
  | y :: r => bif Nat.beq k 6 then (bif Nat.beq y.1 1 then some [((b_f64 W).1, M, nx, lv, (1, (b_f64 W).2) :: r)] else none) else match r with
    | x :: t => bif Nat.beq k 4 then (bif Nat.beq x.1 1 && Nat.beq y.1 1 then (match b_max W 0 x.2 y.2 with
        | some U => some [(U.1, M, nx, lv, (1, U.2) :: t)]
        | none => none) else none) else bif Nat.ble k 1 then (match b_num W x with
        | some (W1, x1) => match b_num W1 y with
          | some (W2, y1) => match b_max W2 k x1 y1 with
            | some U => some [(U.1, M, nx, lv, (0, U.2) :: t)]
            | none => none
          | none => none
        | none => none) else none
    | [] => none
  | [] => none
section B68
variable {T : Nat → Option b_C} {G : b_G} {fz : List (List Int32)} {Wr : Nat → Nat → Bool} {ρ : Nat → Int} {W : b_NF} {M : b_M} {cl : m_V} {cs : List Value} {σ : m_S} {lv : b_Lv} {st : List b_V} {L : List b_R} {nx : Nat}
theorem b_un_ok (hW : b_gW W ρ) {k : Nat} {v : b_V} {w : Value} (hv : b_gv W.1.1 ρ v w) {U : b_NF × b_V} (h : b_un W k v = some U) : ∃ w', m_un k w = some w' ∧ m_okv 139 w' = true ∧ ∃ ρ', b_ext W ρ U.1 ρ' ∧ b_gv U.1.1.1 ρ' U.2 w' := by
  unfold b_un at h
  cases e : Nat.beq v.1 1 with
  | true =>
    rw [e] at h
    obtain ⟨z, rfl, h1⟩ := b_lg e hv
    simp only [cond_true] at h
    split at h
    · cases h
      obtain ⟨ρ', g1, g2⟩ := b_t32_ok hW z.toInt32 h1 (Int64.toInt_toInt32 z)
      exact ⟨.int z.toInt32, rfl, rfl, ρ', g1, g2⟩
    · cases h
      obtain ⟨ρ', g1, g2⟩ := b_t64_ok hW (-z) h1.neg (Int64.toInt_neg z)
      exact ⟨.long (-z), rfl, rfl, ρ', g1, g2⟩
    · cases h
  | false =>
    rw [e] at h
    simp only [cond_false] at h
    split at h
    · rename_i W1 x hn
      obtain ⟨z, rfl, ρ1, g1, g2⟩ := b_num_ok hW hv hn
      unfold b_un1 at h
      split at h
      · cases h
        obtain ⟨ρ', k1, k2⟩ := b_t32_ok g1.2.2 (-z) g2.neg (Int32.toInt_neg z)
        exact ⟨.int (-z), rfl, rfl, ρ', g1.tr k1, k2⟩
      · cases h
        have k2 : b_gx W1.1.1 ρ1 x z.toInt64.toInt := by rw [a_i2l]; exact g2
        exact ⟨.long z.toInt64, rfl, rfl, ρ1, g1, k2⟩
      · cases h
        obtain ⟨ρ', k1, k2⟩ := b_fit_ok g1.2.2 (z := z.toInt8.toInt32.toInt) g2 (a_i2bR z).1 (a_i2bR z).2 (fun q1 q2 => by rw [a_i2b q1 q2])
        exact ⟨.int z.toInt8.toInt32, rfl, rfl, ρ', g1.tr k1, k2⟩
      · cases h
        obtain ⟨ρ', k1, k2⟩ := b_fit_ok g1.2.2 (z := z.toInt16.toInt32.toInt) g2 (a_i2sR z).1 (a_i2sR z).2 (fun q1 q2 => by rw [a_i2s q1 q2])
        exact ⟨.int z.toInt16.toInt32, rfl, rfl, ρ', g1.tr k1, k2⟩
      · cases h
    · cases h
theorem b_h7_ok {a : Nat} {v : Int} {q : List Nat} (hW : b_gW W ρ) (hH : b_gH T σ) (hM : b_gM G fz W.1.1 ρ σ M) (hf : b_gf W.1.1 ρ lv st cl cs) (h : b_h7 W M a nx lv st = some L) : b_Step T G fz Wr (7, a, v, q) nx W ρ cl cs σ L := by
  unfold b_h7 at h
  split at h
  · rename_i u r
    split at h
    · rename_i U hU
      cases h
      obtain ⟨h1, h2, h3, h4⟩ := hf
      obtain ⟨w, t, rfl, g1, g2⟩ := b_cons h2
      obtain ⟨w', k1, k0, ρ', he, k3⟩ := b_un_ok hW g1 hU
      refine b_pure hH hM (pc' := nx) (cl' := cl) (cs' := w' :: t) ?_ he (List.mem_singleton.mpr rfl) ⟨h1.up he, ⟨k3, b_all2.up he g2⟩, h3, b_okm k0 (b_okc h4).2⟩
      simp only [m_step, k1, Option.map_some]
    · cases h
  · cases h
theorem b_sg0 (a b : Int) : a_sg a b = a_sg (a - b) 0 := by
  unfold a_sg
  repeat' split
  all_goals omega
theorem b_h8_ok {a : Nat} {v : Int} {q : List Nat} (hW : b_gW W ρ) (hH : b_gH T σ) (hM : b_gM G fz W.1.1 ρ σ M) (hf : b_gf W.1.1 ρ lv st cl cs) (h : b_h8 W M nx lv st = some L) : b_Step T G fz Wr (8, a, v, q) nx W ρ cl cs σ L := by
  unfold b_h8 at h
  split at h
  · rename_i y x r
    cases e : Nat.beq x.1 1 && Nat.beq y.1 1 with
    | true =>
      rw [e] at h
      rw [Bool.and_eq_true] at e
      cases h
      obtain ⟨h1, h2, h3, h4⟩ := hf
      obtain ⟨wy, t1, rfl, g1, g2⟩ := b_cons h2
      obtain ⟨wx, t, rfl, g3, g4⟩ := b_cons g2
      obtain ⟨zx, rfl, q2⟩ := b_lg e.1 g3
      obtain ⟨zy, rfl, q4⟩ := b_lg e.2 g1
      refine b_pure hH hM (pc' := nx) (cl' := cl) (cs' := .int (lg_cmp zx zy) :: t) (by rfl) (b_ext.rf hW) (List.mem_singleton.mpr rfl) ⟨h1, ⟨?_, g4⟩, h3, b_okm rfl (b_okc (b_okc h4).2).2⟩
      refine ⟨zx.toInt - zy.toInt, ?_, by rw [a_cmpI, b_sg0]⟩
      have k := q2.add (-1) q4
      have e2 : zx.toInt + -1 * zy.toInt = zx.toInt - zy.toInt := by omega
      rw [e2] at k
      exact k
    | false => rw [e] at h; cases h
  · cases h
theorem b_stk_ok {n : Nat} {k : Nat} {r : List b_V} (hs : a_all2 (b_gv n ρ) st cs) (hc : cs.all (m_okv 139) = true) (h : b_stk k st = some r) : ∃ t, m_stk k cs = some t ∧ a_all2 (b_gv n ρ) r t ∧ t.all (m_okv 139) = true := by
  unfold b_stk at h
  split at h
  · rename_i a r'
    split at h
    · rename_i e
      cases h
      obtain ⟨w, t, rfl, g1, g2⟩ := b_cons hs
      exact ⟨t, by simp only [m_stk]; rw [if_pos (by rw [← b_gv_cat g1]; exact e)], g2, (b_okc hc).2⟩
    · cases h
  · rename_i a r'
    split at h
    · rename_i e
      cases h
      obtain ⟨w, t, rfl, g1, g2⟩ := b_cons hs
      exact ⟨t, by simp only [m_stk]; rw [if_pos (by rw [← b_gv_cat g1]; exact e)], g2, (b_okc hc).2⟩
    · cases h
  · rename_i a r'
    split at h
    · rename_i e
      cases h
      obtain ⟨w, t, rfl, g1, g2⟩ := b_cons hs
      exact ⟨w :: w :: t, by simp only [m_stk]; rw [if_pos (by rw [← b_gv_cat g1]; exact e)], ⟨g1, g1, g2⟩, b_okm (b_okc hc).1 hc⟩
    · cases h
  · rename_i a b r'
    split at h
    · rename_i e
      cases h
      obtain ⟨w, t, rfl, g1, g2⟩ := b_cons hs
      obtain ⟨w2, t, rfl, g3, g4⟩ := b_cons g2
      exact ⟨w :: w2 :: w :: w2 :: t, by simp only [m_stk]; rw [if_pos (by rw [← b_gv_cat g1, ← b_gv_cat g3]; exact e)], ⟨g1, g3, g1, g3, g4⟩, b_okm (b_okc hc).1 (b_okm (b_okc (b_okc hc).2).1 hc)⟩
    · cases h
  · cases h
theorem b_h9_ok {a : Nat} {v : Int} {q : List Nat} (hW : b_gW W ρ) (hH : b_gH T σ) (hM : b_gM G fz W.1.1 ρ σ M) (hf : b_gf W.1.1 ρ lv st cl cs) (h : b_h9 W M a nx lv st = some L) : b_Step T G fz Wr (9, a, v, q) nx W ρ cl cs σ L := by
  unfold b_h9 at h
  split at h
  · rename_i r hr
    cases h
    obtain ⟨t, g1, g2, g3⟩ := b_stk_ok hf.2.1 hf.2.2.2 hr
    refine b_pure hH hM (pc' := nx) (cl' := cl) (cs' := t) ?_ (b_ext.rf hW) (List.mem_singleton.mpr rfl) ⟨hf.1, g2, hf.2.2.1, g3⟩
    simp only [m_step, g1, Option.map_some]
  · cases h
theorem b_h10_ok {a : Nat} {v : Int} {q : List Nat} (hW : b_gW W ρ) (hH : b_gH T σ) (hM : b_gM G fz W.1.1 ρ σ M) (hf : b_gf W.1.1 ρ lv st cl cs) : b_Step T G fz Wr (10, a, v, q) nx W ρ cl cs σ [(W, M, a, lv, st)] :=
  b_pure hH hM (pc' := a) (cl' := cl) (cs' := cs) (by rfl) (b_ext.rf hW) (List.mem_singleton.mpr rfl) hf
theorem b_rel_iff {k a : Int} : b_rel k a ↔ a_rel k a 0 := by
  unfold b_rel a_rel
  split <;> simp_all
theorem b_br {k a : Int} {pc1 pc2 : Nat} {W' : b_NF} {ρ' : Nat → Int} {I : m_I} {x : b_L} {r : List b_V} {t : List Value} (hH : b_gH T σ) (hM : b_gM G fz W.1.1 ρ σ M) (he : b_ext W ρ W' ρ') (hx : b_gx W'.1.1 ρ' x a) (hf : b_gf W'.1.1 ρ' lv r cl t) {c : Bool} (hc : c = true ↔ b_rel k a)
    (hs : m_step fz I nx cl cs σ = some (.inl (if c = true then pc1 else pc2, cl, t, σ))) (hL : L = (b_learn W' k x).map (fun U => (U, M, pc1, lv, r)) ++ (b_learn W' (a_ng k) x).map (fun U => (U, M, pc2, lv, r))) : b_Step T G fz Wr I nx W ρ cl cs σ L := by
  have hup : ∀ {U : b_NF}, b_gW U ρ' → U.1.1 = W'.1.1 → b_ext W' ρ' U ρ' := fun h1 h2 => ⟨by rw [h2]; exact Nat.le_refl _, fun _ _ => rfl, h1⟩
  by_cases h : c = true
  · obtain ⟨U, g1, g2, g3⟩ := b_learn_ok he.2.2 hx (hc.mp h)
    rw [if_pos h] at hs
    have he2 := he.tr (hup g2 g3)
    refine b_pure hH hM hs he2 (lv' := lv) (st' := r) ?_ (hf.up (hup g2 g3))
    rw [hL]
    exact List.mem_append_left _ (List.mem_map.mpr ⟨U, g1, rfl⟩)
  · have h2 : b_rel (a_ng k) a := b_rel_iff.mpr (a_ng_rel k a 0 (fun h9 => h (hc.mpr (b_rel_iff.mpr h9))))
    obtain ⟨U, g1, g2, g3⟩ := b_learn_ok he.2.2 hx h2
    rw [if_neg h] at hs
    have he2 := he.tr (hup g2 g3)
    refine b_pure hH hM hs he2 (lv' := lv) (st' := r) ?_ (hf.up (hup g2 g3))
    rw [hL]
    exact List.mem_append_right _ (List.mem_map.mpr ⟨U, g1, rfl⟩)
theorem b_sg_iff {k a : Int} : b_rel k (a_sg a 0) ↔ b_rel k a := by
  constructor
  · intro h
    exact b_rel_iff.mpr (a_sg_rel (b_rel_iff.mp h))
  · intro h
    unfold a_sg
    unfold b_rel at h ⊢
    split at h <;> (repeat' split) <;> omega
theorem b_h11_ok {a : Nat} {v : Int} {q : List Nat} (hW : b_gW W ρ) (hH : b_gH T σ) (hM : b_gM G fz W.1.1 ρ σ M) (hf : b_gf W.1.1 ρ lv st cl cs) (h : b_h11 W M a v nx lv st = some L) : b_Step T G fz Wr (11, a, v, q) nx W ρ cl cs σ L := by
  unfold b_h11 at h
  split at h
  · rename_i x r
    cases e : Nat.beq x.1 0 || Nat.beq x.1 6 with
    | true =>
      rw [e] at h
      simp only [cond_true, Option.some.injEq] at h
      obtain ⟨h1, h2, h3, h4⟩ := hf
      obtain ⟨w, t, rfl, g1, g2⟩ := b_cons h2
      have hz : ∃ (z : Int32) (b : Int), w = .int z ∧ b_gx W.1.1 ρ x.2 b ∧ (b_rel v z.toInt ↔ b_rel v b) := by
        obtain ⟨tg, y⟩ := x
        unfold b_gv at g1
        split at g1
        · rename_i z e2; exact ⟨z, z.toInt, rfl, g1, Iff.rfl⟩
        · rename_i e2; dsimp only at e2; subst e2; simp at e
        · rename_i e2; dsimp only at e2; subst e2; simp at e
        · rename_i z e2
          obtain ⟨b, k1, k2⟩ := g1
          exact ⟨z, b, rfl, k1, by rw [k2]; exact b_sg_iff⟩
        · exact g1.elim
      obtain ⟨z, b, rfl, k1, k2⟩ := hz
      have hc : m_cd v z 0 = true ↔ b_rel v b := by
        rw [a_cd_rel, ← k2, b_rel_iff]
        exact Iff.rfl
      exact b_br hH hM (b_ext.rf hW) k1 ⟨h1, g2, h3, (b_okc h4).2⟩ hc (by rfl) h.symm
    | false => rw [e] at h; cases h
  · cases h
theorem b_h12_ok {a : Nat} {v : Int} {q : List Nat} (hW : b_gW W ρ) (hH : b_gH T σ) (hM : b_gM G fz W.1.1 ρ σ M) (hf : b_gf W.1.1 ρ lv st cl cs) (h : b_h12 W M a v nx lv st = some L) : b_Step T G fz Wr (12, a, v, q) nx W ρ cl cs σ L := by
  unfold b_h12 at h
  split at h
  · rename_i y x r
    split at h
    · rename_i W1 x1 hx
      split at h
      · rename_i W2 y1 hy
        simp only [Option.some.injEq] at h
        obtain ⟨h1, h2, h3, h4⟩ := hf
        obtain ⟨wy, t1, rfl, g1, g2⟩ := b_cons h2
        obtain ⟨wx, t, rfl, g3, g4⟩ := b_cons g2
        obtain ⟨zx, rfl, ρ1, q1, q2⟩ := b_num_ok hW g3 hx
        obtain ⟨zy, rfl, ρ2, q3, q4⟩ := b_num_ok q1.2.2 (g1.up q1) hy
        have he := q1.tr q3
        have hd := (q2.up q3).add (-1) q4
        have hc : m_cd v zx zy = true ↔ b_rel v (zx.toInt + -1 * zy.toInt) := by
          rw [a_cd_rel, b_rel_iff]
          unfold a_rel
          split <;> omega
        exact b_br hH hM he hd ⟨h1.up he, b_all2.up he g4, h3, (b_okc (b_okc h4).2).2⟩ hc (by rfl) h.symm
      · cases h
    · cases h
  · cases h
end B68
end
section
/-! switches, shifts, Math -/
section B69
variable {T : Nat → Option b_C} {G : b_G} {fz : List (List Int32)} {Wr : Nat → Nat → Bool} {ρ : Nat → Int} {W : b_NF} {M : b_M} {cl : m_V} {cs : List Value} {σ : m_S} {lv : b_Lv} {st : List b_V} {L : List b_R} {nx : Nat}
theorem b_same {W' : b_NF} {ρ' : Nat → Int} {U : b_NF} (h1 : b_gW U ρ') (h2 : U.1.1 = W'.1.1) : b_ext W' ρ' U ρ' := ⟨by rw [h2]; exact Nat.le_refl _, fun _ _ => rfl, h1⟩
theorem b_tsw_ok {x : b_L} {r : List b_V} {a : Int} (hW : b_gW W ρ) (hx : b_gx W.1.1 ρ x a) : ∀ (l : List Nat) (j : Int) (t : Nat), j ≤ a → l[(a - j).toNat]? = some t → ∃ U, (U, M, t, lv, r) ∈ b_tsw W M x lv r j l ∧ b_gW U ρ ∧ U.1.1 = W.1.1
  | [], _, _, _, h => by simp at h
  | u :: l, j, t, hj, h => by
    unfold b_tsw
    by_cases e : a = j
    · have : (a - j).toNat = 0 := by omega
      rw [this] at h
      cases h
      obtain ⟨U, g1, g2, g3⟩ := b_learn_ok hW (k := 0) (hx.adc (-j)) (by show a + -j = 0; omega)
      exact ⟨U, List.mem_append_left _ (List.mem_map.mpr ⟨U, g1, rfl⟩), g2, g3⟩
    · have : (a - j).toNat = (a - (j + 1)).toNat + 1 := by omega
      rw [this, List.getElem?_cons_succ] at h
      obtain ⟨U, g1, g2⟩ := b_tsw_ok hW hx l (j + 1) t (by omega) h
      exact ⟨U, List.mem_append_right _ g1, g2⟩
theorem b_h13_ok {a : Nat} {v : Int} {q : List Nat} (hW : b_gW W ρ) (hH : b_gH T σ) (hM : b_gM G fz W.1.1 ρ σ M) (hf : b_gf W.1.1 ρ lv st cl cs) (h : b_h13 W M a v q lv st = some L) : b_Step T G fz Wr (13, a, v, q) nx W ρ cl cs σ L := by
  unfold b_h13 at h
  split at h
  · rename_i y r
    split at h
    · rename_i W1 x hn
      simp only [Option.some.injEq] at h
      obtain ⟨h1, h2, h3, h4⟩ := hf
      obtain ⟨w, t, rfl, g1, g2⟩ := b_cons h2
      obtain ⟨z, rfl, ρ1, q1, q2⟩ := b_num_ok hW g1 hn
      have hf1 : b_gf W1.1.1 ρ1 lv r cl t := ⟨h1.up q1, b_all2.up q1 g2, h3, (b_okc h4).2⟩
      have go : ∀ {U : b_NF} {pc : Nat}, (U, M, pc, lv, r) ∈ L → b_gW U ρ1 → U.1.1 = W1.1.1 → m_tsw a v q z.toInt = pc → b_Step T G fz Wr (13, a, v, q) nx W ρ cl (.int z :: t) σ L := by
        intro U pc k1 k2 k3 k4
        refine b_pure hH hM (pc' := pc) (cl' := cl) (cs' := t) ?_ (q1.tr (b_same k2 k3)) k1 (hf1.up (b_same k2 k3))
        simp only [m_step, k4]
      by_cases c1 : z.toInt < v
      · obtain ⟨U, k1, k2, k3⟩ := b_learn_ok q1.2.2 (k := 2) (q2.adc (-v)) (by show z.toInt + -v < 0; omega)
        refine go (U := U) (pc := a) ?_ k2 k3 (by unfold m_tsw; rw [if_pos c1])
        rw [← h]
        exact List.mem_append_left _ (List.mem_map.mpr ⟨U, k1, rfl⟩)
      · cases hq : q[(z.toInt - v).toNat]? with
        | none =>
          have hlen : q.length ≤ (z.toInt - v).toNat := List.getElem?_eq_none_iff.mp hq
          obtain ⟨U, k1, k2, k3⟩ := b_learn_ok q1.2.2 (k := 3) (q2.adc (-(v + q.length))) (by show 0 ≤ z.toInt + -(v + q.length); omega)
          refine go (U := U) (pc := a) ?_ k2 k3 (by unfold m_tsw; rw [if_neg c1, hq]; rfl)
          rw [← h]
          exact List.mem_append_right _ (List.mem_append_left _ (List.mem_map.mpr ⟨U, k1, rfl⟩))
        | some pc =>
          obtain ⟨U, k1, k2, k3⟩ := b_tsw_ok (M := M) (lv := lv) (r := r) q1.2.2 q2 q v pc (by omega) hq
          refine go (U := U) (pc := pc) ?_ k2 k3 (by unfold m_tsw; rw [if_neg c1, hq]; rfl)
          rw [← h]
          exact List.mem_append_right _ (List.mem_append_right _ k1)
    · cases h
  · cases h
theorem b_lsw_ok {x : b_L} {r : List b_V} {a : Int} {d : Nat} (hW : b_gW W ρ) (hx : b_gx W.1.1 ρ x a) : ∀ (l : List Nat), m_lsw d l a = d ∨ ∃ U, (U, M, m_lsw d l a, lv, r) ∈ b_lsw W M x lv r l ∧ b_gW U ρ ∧ U.1.1 = W.1.1
  | [] => Or.inl rfl
  | [_] => Or.inl rfl
  | k :: t :: ts => by
    unfold m_lsw b_lsw
    by_cases e : (k : Int) = a
    · rw [if_pos e]
      obtain ⟨U, g1, g2, g3⟩ := b_learn_ok hW (k := 0) (hx.adc (-(k : Int))) (by show a + -(k : Int) = 0; omega)
      exact Or.inr ⟨U, List.mem_append_left _ (List.mem_map.mpr ⟨U, g1, rfl⟩), g2, g3⟩
    · rw [if_neg e]
      rcases b_lsw_ok (d := d) hW hx ts with h | ⟨U, g1, g2⟩
      · exact Or.inl h
      · exact Or.inr ⟨U, List.mem_append_right _ g1, g2⟩
theorem b_h14_ok {a : Nat} {v : Int} {q : List Nat} (hW : b_gW W ρ) (hH : b_gH T σ) (hM : b_gM G fz W.1.1 ρ σ M) (hf : b_gf W.1.1 ρ lv st cl cs) (h : b_h14 W M a q lv st = some L) : b_Step T G fz Wr (14, a, v, q) nx W ρ cl cs σ L := by
  unfold b_h14 at h
  split at h
  · rename_i y r
    split at h
    · rename_i W1 x hn
      simp only [Option.some.injEq] at h
      obtain ⟨h1, h2, h3, h4⟩ := hf
      obtain ⟨w, t, rfl, g1, g2⟩ := b_cons h2
      obtain ⟨z, rfl, ρ1, q1, q2⟩ := b_num_ok hW g1 hn
      have hf1 : b_gf W1.1.1 ρ1 lv r cl t := ⟨h1.up q1, b_all2.up q1 g2, h3, (b_okc h4).2⟩
      rcases b_lsw_ok (d := a) (M := M) (lv := lv) (r := r) q1.2.2 q2 q with k | ⟨U, k1, k2, k3⟩
      · refine b_pure hH hM (pc' := a) (cl' := cl) (cs' := t) ?_ q1 (lv' := lv) (st' := r) (by rw [← h]; exact List.mem_cons_self) hf1
        simp only [m_step, k]
      · refine b_pure hH hM (pc' := m_lsw a q z.toInt) (cl' := cl) (cs' := t) (by rfl) (q1.tr (b_same k2 k3)) (lv' := lv) (st' := r) (by rw [← h]; exact List.mem_cons_of_mem _ k1) (hf1.up (b_same k2 k3))
    · cases h
  · cases h
theorem b_h28_ok {a : Nat} {v : Int} {q : List Nat} (hW : b_gW W ρ) (hH : b_gH T σ) (hM : b_gM G fz W.1.1 ρ σ M) (hf : b_gf W.1.1 ρ lv st cl cs) (h : b_h28 W M a nx lv st = some L) : b_Step T G fz Wr (28, a, v, q) nx W ρ cl cs σ L := by
  unfold b_h28 at h
  split at h
  · rename_i y x r
    cases e : Nat.beq x.1 1 && Nat.ble a 1 with
    | true =>
      rw [e] at h
      rw [Bool.and_eq_true] at e
      simp only [cond_true] at h
      split at h
      · rename_i W1 y1 hn
        cases h
        obtain ⟨h1, h2, h3, h4⟩ := hf
        obtain ⟨wy, t1, rfl, g1, g2⟩ := b_cons h2
        obtain ⟨wx, t, rfl, g3, g4⟩ := b_cons g2
        obtain ⟨zx, rfl, q2⟩ := b_lg e.1 g3
        obtain ⟨zy, rfl, ρ1, q3, q4⟩ := b_num_ok hW g1 hn
        have hz : ∃ z, m_lsh a zx zy = some z := by
          have ha : a ≤ 1 := Nat.le_of_ble_eq_true e.2
          match a, ha with
          | 0, _ => exact ⟨_, rfl⟩
          | 1, _ => exact ⟨_, rfl⟩
        obtain ⟨z, hz⟩ := hz
        obtain ⟨ρ2, k1, k2⟩ := b_f64_ok q3.2.2 z
        have he := q3.tr k1
        refine b_pure hH hM (pc' := nx) (cl' := cl) (cs' := .long z :: t) ?_ he (List.mem_singleton.mpr rfl) ⟨h1.up he, ⟨k2, b_all2.up he g4⟩, h3, b_okm rfl (b_okc (b_okc h4).2).2⟩
        simp only [m_step, hz, Option.map_some]
      · cases h
    | false => rw [e] at h; cases h
  · cases h
theorem b_max_ok {k : Nat} {x y : b_L} {u w z : Int} (hW : b_gW W ρ) (hx : b_gx W.1.1 ρ x u) (hy : b_gx W.1.1 ρ y w) {U : b_NF × b_L} (h : b_max W k x y = some U) (hz : if k = 0 then z = max u w else z = min u w) : b_yl W ρ U z := by
  unfold b_max at h
  split at h
  · rename_i a b c d ha hb hc hd
    have h1 := b_lo_ok hW.1 ha
    have h2 := b_hi_ok hW.1 hb
    have h3 := b_lo_ok hW.1 hc
    have h4 := b_hi_ok hW.1 hd
    rw [hx.1] at h1 h2
    rw [hy.1] at h3 h4
    cases h
    unfold b_max1
    split
    · rw [if_pos rfl] at hz
      cases e1 : decide (b ≤ c) with
      | true =>
        have e1 := of_decide_eq_true e1
        have : z = w := by omega
        rw [this]
        exact b_yl.same hW hy
      | false =>
        cases e2 : decide (d ≤ a) with
        | true =>
          have e2 := of_decide_eq_true e2
          have : z = u := by omega
          rw [this]
          exact b_yl.same hW hx
        | false => exact b_fresh_ok hW (by omega) (by omega) (b_mk0 _)
    · rename_i hk
      rw [if_neg hk] at hz
      cases e1 : decide (d ≤ a) with
      | true =>
        have e1 := of_decide_eq_true e1
        have : z = w := by omega
        rw [this]
        exact b_yl.same hW hy
      | false =>
        cases e2 : decide (b ≤ c) with
        | true =>
          have e2 := of_decide_eq_true e2
          have : z = u := by omega
          rw [this]
          exact b_yl.same hW hx
        | false => exact b_fresh_ok hW (by omega) (by omega) (b_mk0 _)
  · cases h
theorem b_h40_ok {a : Nat} {v : Int} {q : List Nat} (hW : b_gW W ρ) (hH : b_gH T σ) (hM : b_gM G fz W.1.1 ρ σ M) (hf : b_gf W.1.1 ρ lv st cl cs) (h : b_h40 W M a nx lv st = some L) : b_Step T G fz Wr (40, a, v, q) nx W ρ cl cs σ L := by
  unfold b_h40 at h
  split at h
  · rename_i y r
    obtain ⟨h1, h2, h3, h4⟩ := hf
    obtain ⟨wy, t1, rfl, g1, g2⟩ := b_cons h2
    cases e : Nat.beq a 6 with
    | true =>
      rw [e] at h
      have e := Nat.eq_of_beq_eq_true e
      subst e
      simp only [cond_true] at h
      cases e2 : Nat.beq y.1 1 with
      | true =>
        rw [e2] at h
        cases h
        obtain ⟨zy, rfl, q4⟩ := b_lg e2 g1
        obtain ⟨ρ2, k1, k2⟩ := b_f64_ok hW (if 0 < zy then zy else -zy)
        refine b_pure hH hM (pc' := nx) (cl' := cl) (cs' := .long (if 0 < zy then zy else -zy) :: t1) ?_ k1 (List.mem_singleton.mpr rfl) ⟨h1.up k1, ⟨k2, b_all2.up k1 g2⟩, h3, b_okm rfl (b_okc h4).2⟩
        simp only [m_step]
        rfl
      | false => rw [e2] at h; cases h
    | false =>
      rw [e] at h
      have hne : a ≠ 6 := fun h9 => by subst h9; cases e
      simp only [cond_false] at h
      split at h
      · rename_i x t
        obtain ⟨wx, t2, rfl, g3, g4⟩ := b_cons g2
        cases e2 : Nat.beq a 4 with
        | true =>
          rw [e2] at h
          have e2 := Nat.eq_of_beq_eq_true e2
          subst e2
          simp only [cond_true] at h
          cases e3 : Nat.beq x.1 1 && Nat.beq y.1 1 with
          | true =>
            rw [e3] at h
            rw [Bool.and_eq_true] at e3
            simp only [cond_true] at h
            split at h
            · rename_i U hU
              cases h
              obtain ⟨zx, rfl, q2⟩ := b_lg e3.1 g3
              obtain ⟨zy, rfl, q4⟩ := b_lg e3.2 g1
              obtain ⟨ρ2, k1, k2⟩ := b_max_ok (z := (if zy < zx then zx else zy).toInt) hW q2 q4 hU (by
                rw [if_pos rfl]
                by_cases hc : zy < zx
                · rw [if_pos hc]
                  have := Int64.lt_iff_toInt_lt.mp hc
                  omega
                · rw [if_neg hc]
                  have : ¬ zy.toInt < zx.toInt := fun h9 => hc (Int64.lt_iff_toInt_lt.mpr h9)
                  omega)
              refine b_pure hH hM (pc' := nx) (cl' := cl) (cs' := .long (if zy < zx then zx else zy) :: t2) ?_ k1 (List.mem_singleton.mpr rfl) ⟨h1.up k1, ⟨k2, b_all2.up k1 g4⟩, h3, b_okm rfl (b_okc (b_okc h4).2).2⟩
              simp only [m_step]
              rfl
            · cases h
          | false => rw [e3] at h; cases h
        | false =>
          rw [e2] at h
          simp only [cond_false] at h
          cases e3 : Nat.ble a 1 with
          | true =>
            rw [e3] at h
            have ha : a ≤ 1 := Nat.le_of_ble_eq_true e3
            simp only [cond_true] at h
            split at h
            · rename_i W1 x1 hx
              split at h
              · rename_i W2 y1 hy
                split at h
                · rename_i U hU
                  cases h
                  obtain ⟨zx, rfl, ρ1, q1, q2⟩ := b_num_ok hW g3 hx
                  obtain ⟨zy, rfl, ρ2, q3, q4⟩ := b_num_ok q1.2.2 (g1.up q1) hy
                  have hlt : ∀ {p r : Int32}, p < r ↔ p.toInt < r.toInt := Int32.lt_iff_toInt_lt
                  match a, ha, hU with
                  | 0, _, hU =>
                    obtain ⟨ρ3, k1, k2⟩ := b_max_ok (z := (if zx < zy then zy else zx).toInt) q3.2.2 (q2.up q3) q4 hU (by
                      rw [if_pos rfl]
                      by_cases hc : zx < zy
                      · rw [if_pos hc]; have := hlt.mp hc; omega
                      · rw [if_neg hc]; have : ¬ zx.toInt < zy.toInt := fun h9 => hc (hlt.mpr h9); omega)
                    have he := (q1.tr q3).tr k1
                    refine b_pure hH hM (pc' := nx) (cl' := cl) (cs' := .int (if zx < zy then zy else zx) :: t2) ?_ he (List.mem_singleton.mpr rfl) ⟨h1.up he, ⟨k2, b_all2.up he g4⟩, h3, b_okm rfl (b_okc (b_okc h4).2).2⟩
                    simp only [m_step]
                    rfl
                  | 1, _, hU =>
                    obtain ⟨ρ3, k1, k2⟩ := b_max_ok (z := (if zy < zx then zy else zx).toInt) q3.2.2 (q2.up q3) q4 hU (by
                      rw [if_neg (by decide)]
                      by_cases hc : zy < zx
                      · rw [if_pos hc]; have := hlt.mp hc; omega
                      · rw [if_neg hc]; have : ¬ zy.toInt < zx.toInt := fun h9 => hc (hlt.mpr h9); omega)
                    have he := (q1.tr q3).tr k1
                    refine b_pure hH hM (pc' := nx) (cl' := cl) (cs' := .int (if zy < zx then zy else zx) :: t2) ?_ he (List.mem_singleton.mpr rfl) ⟨h1.up he, ⟨k2, b_all2.up he g4⟩, h3, b_okm rfl (b_okc (b_okc h4).2).2⟩
                    simp only [m_step]
                    rfl
                · cases h
              · cases h
            · cases h
          | false => rw [e3] at h; cases h
      · cases h
  · cases h
end B69
end
section
/-! THE OPERATIONS that read the heap; frozen rows: the script (0), and rows whose numbers are known (Z) -/
def b_rf (v : b_V) : Bool := Nat.beq v.1 2 && (decide (0 ≤ v.2.1) && decide (v.2.1 < 139))
noncomputable def b_h15 (T : Nat → Option b_C) (W : b_NF) (M : b_M) (a : Nat) (v : Int) (nx : Nat) (lv : b_Lv) (st : List b_V) : b_H := match st with
  | b :: r => bif b_rf b && decide (0 ≤ v) then (match T b.2.1.toNat with
      | some c => bif Nat.beq c.1 0 && Nat.beq c.2.1 a then (match b_get T W M b.2.1.toNat (b_con v) with
        | some U => some [(U.1, U.2.1, nx, lv, U.2.2 :: r)]
        | none => none) else none
      | none => none) else none
  | [] => none
def b_kd (a t : Nat) : Bool := match a with
  | 0 => Nat.beq t 0
  | 1 => Nat.beq t 1 || Nat.beq t 2
  | 2 => Nat.beq t 3
  | 3 => Nat.beq t 4
  | _ => false
noncomputable def b_rows (W : b_NF) (M : b_M) (x : b_L) (nx : Nat) (lv : b_Lv) (r : List b_V) : Int → List b_T → List b_R
  | _, [] => []
  | j, t :: ts => (b_learn W 0 (b_adc x (-j))).map (fun U => (U, M, nx, lv, (2, (t.2.1, [])) :: r)) ++ b_rows W M x nx lv r (j + 1) ts
noncomputable def b_ald (T : Nat → Option b_C) (W : b_NF) (M : b_M) (a : Nat) (x : b_L) (cell : Nat) (nx : Nat) (lv : b_Lv) (r : List b_V) : b_H := match T cell with
  | some c => bif Nat.beq c.1 1 && b_kd a c.2.1 then (bif Nat.beq a 3 then (bif Nat.beq c.2.2.1 c.2.2.2.1 && Nat.beq c.2.2.2.2.length c.2.2.1 && b_inb W x c.2.2.1 && c.2.2.2.2.all (fun t => Nat.beq t.1 2) then some (b_rows W M x nx lv r 0 c.2.2.2.2) else none)
      else match b_get T W M cell x with
      | some U => bif Nat.ble U.2.2.1 1 then some [(U.1, U.2.1, nx, lv, U.2.2 :: r)] else none
      | none => none) else none
  | none => none
/-- the script's length stands at place 0 of ghost 500 -/
noncomputable def b_sld (W : b_NF) (M : b_M) (x : b_L) (nx : Nat) (lv : b_Lv) (r : List b_V) : b_H := match b_look 500 (b_con 0) M with
  | some l => bif b_ge W x 0 && b_le W (b_add x (-1) l.2) (-1) then (match b_look m_fzb x M with
      | some v => bif Nat.beq v.1 0 then some [(W, M, nx, lv, v :: r)] else none
      | none => some [((b_f32 W).1, (m_fzb, x, (0, (b_f32 W).2)) :: M, nx, lv, (0, (b_f32 W).2) :: r)]) else none
  | none => none
noncomputable def b_zld (Z : Nat → Option (List Int32)) (W : b_NF) (M : b_M) (x : b_L) (j : Nat) (nx : Nat) (lv : b_Lv) (r : List b_V) : b_H := match Z j, b_lo W.1 x, b_hi W.1 x with
  | some zs, some a, some b => bif decide (a = b) && decide (0 ≤ a) then (match zs[a.toNat]? with
      | some z => some [(W, M, nx, lv, (0, b_con z.toInt) :: r)]
      | none => none) else none
  | _, _, _ => none
noncomputable def b_h18 (T : Nat → Option b_C) (Z : Nat → Option (List Int32)) (W : b_NF) (M : b_M) (a : Nat) (nx : Nat) (lv : b_Lv) (st : List b_V) : b_H := match st with
  | i :: b :: r => match b_num W i with
    | some (W1, x) => bif b_rf b then b_ald T W1 M a x b.2.1.toNat nx lv r else bif Nat.beq b.1 2 && Nat.beq a 0 then (bif decide (b.2.1 = 1000000) then b_sld W1 M x nx lv r else bif decide (1000000 < b.2.1) then b_zld Z W1 M x (b.2.1.toNat - m_fzb) nx lv r else none) else none
    | none => none
  | _ => none
noncomputable def b_h43 (Z : Nat → Option (List Int32)) (W : b_NF) (M : b_M) (nx : Nat) (lv : b_Lv) (st : List b_V) : b_H := match st with
  | i :: b :: r => match b_num W i with
    | some (W1, x) => bif Nat.beq b.1 2 && decide (1000000 < b.2.1) then (match Z (b.2.1.toNat - m_fzb) with
        | some zs => bif b_inb W1 x zs.length then some [((b_f32 W1).1, M, nx, lv, (0, (b_f32 W1).2) :: r)] else none
        | none => none) else none
    | none => none
  | _ => none
def b_h20 (T : Nat → Option b_C) (Z : Nat → Option (List Int32)) (W : b_NF) (M : b_M) (nx : Nat) (lv : b_Lv) (st : List b_V) : b_H := match st with
  | b :: r => bif b_rf b then (match T b.2.1.toNat with
      | some c => bif Nat.beq c.1 1 && Nat.ble c.2.2.1 100000 then some [(W, M, nx, lv, (0, b_con (c.2.2.1 : Int)) :: r)] else none
      | none => none) else bif Nat.beq b.1 2 && decide (b.2.1 = 1000000) then (match b_look 500 (b_con 0) M with
        | some l => some [(W, M, nx, lv, (0, l.2) :: r)]
        | none => none) else bif Nat.beq b.1 2 && decide (1000000 < b.2.1) then (match Z (b.2.1.toNat - m_fzb) with
        | some zs => bif Nat.ble zs.length 100000 then some [(W, M, nx, lv, (0, b_con (zs.length : Int)) :: r)] else none
        | none => none) else none
  | [] => none
/-- what the frozen rows are -/
def b_ZOk (Z : Nat → Option (List Int32)) (G : b_G) (fz : List (List Int32)) : Prop := (∃ xs, fz[0]? = some xs ∧ xs.length < 2147483648 ∧ ∀ σ a, G 500 σ a = (xs.length : Int)) ∧ ∀ j zs, Z j = some zs → 0 < j → fz[j]? = some zs
section B70
variable {T : Nat → Option b_C} {Z : Nat → Option (List Int32)} {G : b_G} {fz : List (List Int32)} {Wr : Nat → Nat → Bool} {ρ : Nat → Int} {W : b_NF} {M : b_M} {cl : m_V} {cs : List Value} {σ : m_S} {lv : b_Lv} {st : List b_V} {L : List b_R} {nx : Nat}
theorem b_rf_ok {n : Nat} {v : b_V} {w : Value} (h : b_rf v = true) (hv : b_gv n ρ v w) : ∃ k : Nat, w = .ref k ∧ v.2 = ((k : Int), []) ∧ k < 139 := by
  unfold b_rf at h
  simp only [Bool.and_eq_true, decide_eq_true_eq] at h
  obtain ⟨t, x⟩ := v
  have e := Nat.eq_of_beq_eq_true h.1
  dsimp only at e
  subst e
  unfold b_gv at hv
  split at hv
  · rename_i e; cases e
  · rename_i e; cases e
  · rename_i k e
    dsimp only at hv
    rw [hv] at h
    exact ⟨k, rfl, hv, by have := h.2.2; dsimp only at this; omega⟩
  · rename_i e; cases e
  · exact hv.elim
theorem b_r2 {n : Nat} {v : b_V} {w : Value} (h : Nat.beq v.1 2 = true) (hv : b_gv n ρ v w) : ∃ k : Nat, w = .ref k ∧ v.2 = ((k : Int), []) := by
  obtain ⟨t, x⟩ := v
  have e := Nat.eq_of_beq_eq_true h
  dsimp only at e
  subst e
  unfold b_gv at hv
  split at hv
  · rename_i e; cases e
  · rename_i e; cases e
  · rename_i k e; exact ⟨k, rfl, hv⟩
  · rename_i e; cases e
  · exact hv.elim
theorem b_rd_lt {c : b_C} {z : m_E} {k i : Nat} {w : Value} (hz : σ[k]? = some z) (hs : b_sh c z) (h : b_rd σ k i = some w) : i < c.2.2.1 := by
  unfold b_rd at h
  rw [hz] at h
  unfold b_sh at hs
  match z, hs, h with
  | .inr (a, fs), hs, h => rw [← hs.2.2]; exact (List.getElem?_eq_some_iff.mp h).1
  | .inl (t, .inl xs), hs, h =>
    obtain ⟨u, h1, -⟩ := Option.map_eq_some_iff.mp h
    rw [← hs.2.2.2]; exact (List.getElem?_eq_some_iff.mp h1).1
  | .inl (t, .inr (.inl xs)), hs, h =>
    obtain ⟨u, h1, -⟩ := Option.map_eq_some_iff.mp h
    rw [← hs.2.2.2]; exact (List.getElem?_eq_some_iff.mp h1).1
  | .inl (t, .inr (.inr xs)), hs, h =>
    obtain ⟨u, h1, -⟩ := Option.map_eq_some_iff.mp h
    rw [← hs.2.2.2]; exact (List.getElem?_eq_some_iff.mp h1).1
theorem b_gt_ok {t : b_T} {w : Value} (h : b_gt t w) : m_okv 139 w = true := by
  obtain ⟨a, q⟩ := t
  unfold b_gt at h
  split at h
  · rfl
  · rfl
  · simp only [m_okv, Bool.or_eq_true, decide_eq_true_eq]; exact Or.inl h.2
  · exact h.elim
theorem b_rd_ok {k i : Nat} {w : Value} (hH : b_gH T σ) (hk : k < 139) (h : b_rd σ k i = some w) : m_okv 139 w = true := by
  obtain ⟨c, -, z, h1, h2, -, h3⟩ := hH.2 k hk
  obtain ⟨t, w', -, g1, g2⟩ := h3 i (b_rd_lt h1 h2 h)
  rw [h] at g1
  cases g1
  exact b_gt_ok g2
theorem b_h15_ok {a : Nat} {v : Int} {q : List Nat} (hW : b_gW W ρ) (hH : b_gH T σ) (hM : b_gM G fz W.1.1 ρ σ M) (hf : b_gf W.1.1 ρ lv st cl cs) (h : b_h15 T W M a v nx lv st = some L) : b_Step T G fz Wr (15, a, v, q) nx W ρ cl cs σ L := by
  unfold b_h15 at h
  split at h
  · rename_i b r
    cases e : b_rf b && decide (0 ≤ v) with
    | true =>
      rw [e] at h
      simp only [Bool.and_eq_true, decide_eq_true_eq] at e
      simp only [cond_true] at h
      split at h
      · rename_i c hT
        cases e2 : Nat.beq c.1 0 && Nat.beq c.2.1 a with
        | true =>
          rw [e2] at h
          rw [Bool.and_eq_true] at e2
          simp only [cond_true] at h
          split at h
          · rename_i U hU
            cases h
            obtain ⟨h1, h2, h3, h4⟩ := hf
            obtain ⟨w0, t, rfl, g1, g2⟩ := b_cons h2
            obtain ⟨k, rfl, g3, g4⟩ := b_rf_ok e.1 g1
            rw [g3] at hT hU
            dsimp only at hT hU
            rw [Int.toNat_natCast] at hT hU
            obtain ⟨U1, U2, U3⟩ := U
            obtain ⟨ρ', i, w, k1, k2, k3, k4, k5⟩ := b_get_ok hW hH hM g4 (b_gx.con v) hU
            obtain ⟨c', k6, z, k7, k8, -⟩ := hH.2 k g4
            rw [hT] at k6
            cases k6
            have e0 := Nat.eq_of_beq_eq_true e2.1
            have e1 := Nat.eq_of_beq_eq_true e2.2
            have hi : i = v.toNat := by omega
            subst hi
            refine ⟨nx, cl, w :: t, σ, ?_, b_frame.rf, _, List.mem_singleton.mpr rfl, ρ', k1, rfl, hH, k2, h1.up k1, ⟨k5, b_all2.up k1 g2⟩, h3, b_okm (b_rd_ok hH g4 k4) (b_okc h4).2⟩
            unfold b_sh at k8
            match z, k8, k7 with
            | .inr (ci, fs), k8, k7 =>
              have k9 : fs[v.toNat]? = some w := by unfold b_rd at k4; rw [k7] at k4; exact k4
              simp only [m_step, k7, k9]
              rw [if_pos (by rw [← k8.2.1, e1])]
            | .inl (_, .inl _), k8, _ => exact absurd (e0.symm.trans k8.1) (by decide)
            | .inl (_, .inr (.inl _)), k8, _ => exact absurd (e0.symm.trans k8.1) (by decide)
            | .inl (_, .inr (.inr _)), k8, _ => exact absurd (e0.symm.trans k8.1) (by decide)
          · cases h
        | false => rw [e2] at h; cases h
      · cases h
    | false => rw [e] at h; cases h
  · cases h
theorem b_rows_ok {x : b_L} {r : List b_V} {a : Int} (hW : b_gW W ρ) (hx : b_gx W.1.1 ρ x a) : ∀ (l : List b_T) (j : Int) (t : b_T), j ≤ a → l[(a - j).toNat]? = some t → ∃ U, (U, M, nx, lv, (2, (t.2.1, [])) :: r) ∈ b_rows W M x nx lv r j l ∧ b_gW U ρ ∧ U.1.1 = W.1.1
  | [], _, _, _, h => by simp at h
  | u :: l, j, t, hj, h => by
    unfold b_rows
    by_cases e : a = j
    · have : (a - j).toNat = 0 := by omega
      rw [this] at h
      cases h
      obtain ⟨U, g1, g2, g3⟩ := b_learn_ok hW (k := 0) (hx.adc (-j)) (by show a + -j = 0; omega)
      exact ⟨U, List.mem_append_left _ (List.mem_map.mpr ⟨U, g1, rfl⟩), g2, g3⟩
    · have : (a - j).toNat = (a - (j + 1)).toNat + 1 := by omega
      rw [this, List.getElem?_cons_succ] at h
      obtain ⟨U, g1, g2⟩ := b_rows_ok hW hx l (j + 1) t (by omega) h
      exact ⟨U, List.mem_append_right _ g1, g2⟩
theorem b_nc {z : Int32} {i : Nat} (h : z.toInt = (i : Int)) : z.toNatClampNeg = i := by
  unfold Int32.toNatClampNeg
  rw [h]
  rfl
theorem b_in {z : Int32} {i n : Nat} (h : z.toInt = (i : Int)) (hi : i < n) : m_in z n = true := by
  unfold m_in
  simp only [decide_eq_true_eq]
  omega
theorem b_ald_ok {a k : Nat} {x : b_L} {r : List b_V} {t : List Value} {z : Int32} (hW : b_gW W ρ) (hH : b_gH T σ) (hM : b_gM G fz W.1.1 ρ σ M) (hk : k < 139) (hx : b_gx W.1.1 ρ x z.toInt) (hf : b_gf W.1.1 ρ lv r cl t) (h : b_ald T W M a x k nx lv r = some L) :
    ∃ w, m_ald fz a z k σ = some w ∧ ∃ q ∈ L, ∃ ρ', b_ext W ρ q.1 ρ' ∧ q.2.2.1 = nx ∧ b_gM G fz q.1.1.1 ρ' σ q.2.1 ∧ b_gf q.1.1.1 ρ' q.2.2.2.1 q.2.2.2.2 cl (w :: t) := by
  unfold b_ald at h
  split at h
  · rename_i c hT
    cases e : Nat.beq c.1 1 && b_kd a c.2.1 with
    | true =>
      rw [e] at h
      rw [Bool.and_eq_true] at e
      simp only [cond_true] at h
      obtain ⟨c', k6, zc, k7, k8, k9, k10⟩ := hH.2 k hk
      rw [hT] at k6
      cases k6
      have e0 := Nat.eq_of_beq_eq_true e.1
      have hfz : ¬ m_fzb ≤ k := by unfold m_fzb; omega
      obtain ⟨h1, h2, h3, h4⟩ := hf
      have rd : ∀ {i : Nat} {w : Value}, z.toInt = (i : Int) → b_rd σ k i = some w → m_ald fz a z k σ = some w := by
        intro i w hz hr
        have hlt := b_rd_lt k7 k8 hr
        have hin := b_in hz hlt
        have hnc := b_nc hz
        unfold m_ald
        rw [if_neg hfz, k7]
        unfold b_rd at hr
        rw [k7] at hr
        unfold b_sh at k8
        have hkd := e.2
        match zc, k8, hr with
        | .inr _, k8, _ => exact absurd (e0.symm.trans k8.1) (by decide)
        | .inl (tt, .inl xs), k8, hr =>
          obtain ⟨y, g1, g2⟩ := Option.map_eq_some_iff.mp hr
          subst g2
          dsimp only
          rw [k8.2.2.2]
          have hd : xs.getD i 0 = y := by simp [List.getD, g1]
          rw [k8.2.1] at hkd
          have ht : tt < 3 := k8.2.2.1
          have hcond : a = 0 ∧ tt = 0 ∨ a = 1 ∧ (tt = 1 ∨ tt = 2) := by
            unfold b_kd at hkd
            split at hkd
            · exact Or.inl ⟨rfl, Nat.eq_of_beq_eq_true hkd⟩
            · rw [Bool.or_eq_true] at hkd
              rcases hkd with h | h
              · exact Or.inr ⟨rfl, Or.inl (Nat.eq_of_beq_eq_true h)⟩
              · exact Or.inr ⟨rfl, Or.inr (Nat.eq_of_beq_eq_true h)⟩
            · have := Nat.eq_of_beq_eq_true hkd; omega
            · have := Nat.eq_of_beq_eq_true hkd; omega
            · cases hkd
          rw [if_pos ⟨hcond, hin⟩, hnc, hd]
        | .inl (tt, .inr (.inl xs)), k8, hr =>
          obtain ⟨y, g1, g2⟩ := Option.map_eq_some_iff.mp hr
          subst g2
          dsimp only
          rw [k8.2.2.2]
          have hd : xs.getD i 0 = y := by simp [List.getD, g1]
          rw [k8.2.1] at hkd
          have ht : tt = 3 := k8.2.2.1
          subst ht
          have ha : a = 2 := by
            unfold b_kd at hkd
            split at hkd
            · cases hkd
            · cases hkd
            · rfl
            · cases hkd
            · cases hkd
          rw [if_pos ⟨ha, rfl, hin⟩, hnc, hd]
        | .inl (tt, .inr (.inr xs)), k8, hr =>
          obtain ⟨y, g1, g2⟩ := Option.map_eq_some_iff.mp hr
          subst g2
          dsimp only
          rw [k8.2.2.2]
          have hd : xs.getD i none = y := by simp [List.getD, g1]
          rw [k8.2.1] at hkd
          have ht : tt = 4 := k8.2.2.1
          subst ht
          have ha : a = 3 := by
            unfold b_kd at hkd
            split at hkd
            · cases hkd
            · cases hkd
            · cases hkd
            · rfl
            · cases hkd
          rw [if_pos ⟨ha, rfl, hin⟩, hnc, hd]
      cases e3 : Nat.beq a 3 with
      | true =>
        rw [e3] at h
        simp only [cond_true] at h
        cases e4 : Nat.beq c.2.2.1 c.2.2.2.1 && Nat.beq c.2.2.2.2.length c.2.2.1 && b_inb W x c.2.2.1 && c.2.2.2.2.all (fun t => Nat.beq t.1 2) with
        | true =>
          rw [e4] at h
          simp only [Bool.and_eq_true] at e4
          cases h
          obtain ⟨⟨⟨q1, q2⟩, q3⟩, q4⟩ := e4
          have q1 := Nat.eq_of_beq_eq_true q1
          have q2 := Nat.eq_of_beq_eq_true q2
          obtain ⟨i, p1, p2⟩ := b_inb_ok hW q3
          rw [hx.1] at p1
          obtain ⟨u, w, p3, p4, p5⟩ := k10 i p2
          rw [← q1, Nat.mod_eq_of_lt p2] at p3
          have hu := Nat.eq_of_beq_eq_true (List.all_eq_true.mp q4 u (List.mem_of_getElem? p3))
          obtain ⟨U, r1, r2, r3⟩ := b_rows_ok (M := M) (nx := nx) (lv := lv) (r := r) hW hx c.2.2.2.2 0 u (by omega) (by
            have : (z.toInt - 0).toNat = i := by omega
            rw [this]; exact p3)
          refine ⟨w, rd p1 p4, _, r1, ρ, b_same r2 r3, rfl, hM.up (b_same r2 r3), ?_⟩
          refine b_gf.up (b_same r2 r3) ⟨h1, ⟨?_, h2⟩, h3, b_okm (b_gt_ok p5) h4⟩
          obtain ⟨u1, uq⟩ := u
          dsimp only at hu
          subst hu
          unfold b_gt at p5
          split at p5
          · rename_i e; cases e
          · rename_i e; cases e
          · unfold b_gv; dsimp only at p5 ⊢; rw [p5.1]; rfl
          · exact p5.elim
        | false => rw [e4] at h; cases h
      | false =>
        rw [e3] at h
        simp only [cond_false] at h
        split at h
        · rename_i U hU
          cases e4 : Nat.ble U.2.2.1 1 with
          | true =>
            rw [e4] at h
            cases h
            obtain ⟨U1, U2, U3⟩ := U
            obtain ⟨ρ', i, w, p1, p2, p3, p4, p5⟩ := b_get_ok hW hH hM hk hx hU
            exact ⟨w, rd p3 p4, _, List.mem_singleton.mpr rfl, ρ', p1, rfl, p2, h1.up p1, ⟨p5, b_all2.up p1 h2⟩, h3, b_okm (b_rd_ok hH hk p4) h4⟩
          | false => rw [e4] at h; cases h
        · cases h
    | false => rw [e] at h; cases h
  · cases h
end B70
end
section
/-! frozen rows; lengths -/
section B71
variable {T : Nat → Option b_C} {Z : Nat → Option (List Int32)} {G : b_G} {fz : List (List Int32)} {Wr : Nat → Nat → Bool} {ρ : Nat → Int} {W : b_NF} {M : b_M} {cl : m_V} {cs : List Value} {σ : m_S} {lv : b_Lv} {st : List b_V} {L : List b_R} {nx : Nat}
theorem b_len500 (hZ : b_ZOk Z G fz) (hM : b_gM G fz W.1.1 ρ σ M) {l : b_V} (h : b_look 500 (b_con 0) M = some l) : ∃ xs, fz[0]? = some xs ∧ xs.length < 2147483648 ∧ b_gx W.1.1 ρ l.2 (xs.length : Int) := by
  obtain ⟨a, -, g2⟩ := hM _ (b_look_mem h)
  dsimp only at g2
  rw [if_neg (by decide), if_pos (by decide)] at g2
  obtain ⟨xs, k1, k2, k3⟩ := hZ.1
  rw [k3] at g2
  exact ⟨xs, k1, k2, g2.2⟩
theorem b_sld_ok {x : b_L} {r : List b_V} {t : List Value} {z : Int32} (hZ : b_ZOk Z G fz) (hW : b_gW W ρ) (hM : b_gM G fz W.1.1 ρ σ M) (hx : b_gx W.1.1 ρ x z.toInt) (hf : b_gf W.1.1 ρ lv r cl t) (h : b_sld W M x nx lv r = some L) :
    ∃ w, m_ald fz 0 z m_fzb σ = some w ∧ ∃ q ∈ L, ∃ ρ', b_ext W ρ q.1 ρ' ∧ q.2.2.1 = nx ∧ b_gM G fz q.1.1.1 ρ' σ q.2.1 ∧ b_gf q.1.1.1 ρ' q.2.2.2.1 q.2.2.2.2 cl (w :: t) := by
  unfold b_sld at h
  split at h
  · rename_i l hl
    obtain ⟨xs, k1, k2, k3⟩ := b_len500 hZ hM hl
    cases e : b_ge W x 0 && b_le W (b_add x (-1) l.2) (-1) with
    | true =>
      rw [e] at h
      rw [Bool.and_eq_true] at e
      simp only [cond_true] at h
      have g1 := b_ge_ok hW e.1
      have g2 := b_le_ok hW e.2
      rw [(hx.add (-1) k3).1] at g2
      rw [hx.1] at g1
      obtain ⟨i, hi⟩ : ∃ i : Nat, z.toInt = (i : Int) := ⟨z.toInt.toNat, by omega⟩
      have hlt : i < xs.length := by omega
      obtain ⟨y, hy⟩ : ∃ y, xs[i]? = some y := ⟨xs[i], List.getElem?_eq_getElem hlt⟩
      have hm : m_ald fz 0 z m_fzb σ = some (.int y) := by
        unfold m_ald
        rw [if_pos (Nat.le_refl _), Nat.sub_self, k1]
        dsimp only
        rw [if_pos ⟨rfl, b_in hi hlt⟩, b_nc hi]
        simp [List.getD, hy]
      obtain ⟨h1, h2, h3, h4⟩ := hf
      refine ⟨.int y, hm, ?_⟩
      split at h
      · rename_i v hv
        cases e2 : Nat.beq v.1 0 with
        | true =>
          rw [e2] at h
          cases h
          obtain ⟨a, q1, q2⟩ := hM _ (b_look_mem hv)
          dsimp only at q1 q2
          rw [if_neg (by decide), if_neg (by decide)] at q2
          obtain ⟨j, p1, zs, y', p2, p3, p4⟩ := q2
          rw [Nat.sub_self, k1] at p2
          cases p2
          have hij : j = i := by
            have := q1.1.symm.trans hx.1
            omega
          subst hij
          rw [hy] at p3
          cases p3
          exact ⟨_, List.mem_singleton.mpr rfl, ρ, b_ext.rf hW, rfl, hM, h1, ⟨p4, h2⟩, h3, b_okm rfl h4⟩
        | false => rw [e2] at h; cases h
      · cases h
        obtain ⟨ρ', he, hy2⟩ := b_f32_ok hW y
        refine ⟨_, List.mem_singleton.mpr rfl, ρ', he, rfl, ?_, h1.up he, ⟨hy2, b_all2.up he h2⟩, h3, b_okm rfl h4⟩
        intro q hq
        rcases List.mem_cons.mp hq with rfl | hq
        · refine ⟨z.toInt, hx.up he, ?_⟩
          dsimp only
          rw [if_neg (by decide), if_neg (by decide)]
          exact ⟨i, hi, xs, y, by rw [Nat.sub_self]; exact k1, hy, hy2⟩
        · exact (hM q hq).up he
    | false => rw [e] at h; cases h
  · cases h
theorem b_zld_ok {x : b_L} {r : List b_V} {t : List Value} {z : Int32} {k : Nat} (hZ : b_ZOk Z G fz) (hW : b_gW W ρ) (hM : b_gM G fz W.1.1 ρ σ M) (hk : m_fzb < k) (hx : b_gx W.1.1 ρ x z.toInt) (hf : b_gf W.1.1 ρ lv r cl t) (h : b_zld Z W M x (k - m_fzb) nx lv r = some L) :
    ∃ w, m_ald fz 0 z k σ = some w ∧ ∃ q ∈ L, ∃ ρ', b_ext W ρ q.1 ρ' ∧ q.2.2.1 = nx ∧ b_gM G fz q.1.1.1 ρ' σ q.2.1 ∧ b_gf q.1.1.1 ρ' q.2.2.2.1 q.2.2.2.2 cl (w :: t) := by
  unfold b_zld at h
  split at h
  · rename_i zs a b hz ha hb
    cases e : decide (a = b) && decide (0 ≤ a) with
    | true =>
      rw [e] at h
      simp only [Bool.and_eq_true, decide_eq_true_eq] at e
      simp only [cond_true] at h
      split at h
      · rename_i y hy
        cases h
        have g1 := b_lo_ok hW.1 ha
        have g2 := b_hi_ok hW.1 hb
        rw [hx.1] at g1 g2
        have hi : z.toInt = (a.toNat : Int) := by omega
        have hlt := (List.getElem?_eq_some_iff.mp hy).1
        have hfz := hZ.2 _ zs hz (by omega)
        obtain ⟨h1, h2, h3, h4⟩ := hf
        refine ⟨.int y, ?_, _, List.mem_singleton.mpr rfl, ρ, b_ext.rf hW, rfl, hM, h1, ⟨b_gx.con y.toInt, h2⟩, h3, b_okm rfl h4⟩
        unfold m_ald
        rw [if_pos (Nat.le_of_lt hk), hfz]
        dsimp only
        rw [if_pos ⟨rfl, b_in hi hlt⟩, b_nc hi]
        simp [List.getD, hy]
      · cases h
    | false => rw [e] at h; cases h
  · cases h
theorem b_h18_ok {a : Nat} {v : Int} {q : List Nat} (hZ : b_ZOk Z G fz) (hW : b_gW W ρ) (hH : b_gH T σ) (hM : b_gM G fz W.1.1 ρ σ M) (hf : b_gf W.1.1 ρ lv st cl cs) (h : b_h18 T Z W M a nx lv st = some L) : b_Step T G fz Wr (18, a, v, q) nx W ρ cl cs σ L := by
  unfold b_h18 at h
  split at h
  · rename_i i b r
    split at h
    · rename_i W1 x hn
      obtain ⟨h1, h2, h3, h4⟩ := hf
      obtain ⟨wi, t1, rfl, g1, g2⟩ := b_cons h2
      obtain ⟨wb, t, rfl, g3, g4⟩ := b_cons g2
      obtain ⟨z, rfl, ρ1, q1, q2⟩ := b_num_ok hW g1 hn
      have hf1 : b_gf W1.1.1 ρ1 lv r cl t := ⟨h1.up q1, b_all2.up q1 g4, h3, (b_okc (b_okc h4).2).2⟩
      have fin : ∀ {k : Nat}, wb = .ref k → (∃ w, m_ald fz a z k σ = some w ∧ ∃ q ∈ L, ∃ ρ', b_ext W1 ρ1 q.1 ρ' ∧ q.2.2.1 = nx ∧ b_gM G fz q.1.1.1 ρ' σ q.2.1 ∧ b_gf q.1.1.1 ρ' q.2.2.2.1 q.2.2.2.2 cl (w :: t)) → b_Step T G fz Wr (18, a, v, q) nx W ρ cl (.int z :: wb :: t) σ L := by
        rintro k rfl ⟨w, k1, p, k2, ρ', k3, k4, k5, k6⟩
        refine ⟨nx, cl, w :: t, σ, ?_, b_frame.rf, p, k2, ρ', q1.tr k3, k4, hH, k5, k6⟩
        simp only [m_step, k1, Option.map_some]
      cases e : b_rf b with
      | true =>
        rw [e] at h
        simp only [cond_true] at h
        obtain ⟨k, hk, k2, k3⟩ := b_rf_ok e g3
        rw [k2] at h
        dsimp only at h
        rw [Int.toNat_natCast] at h
        exact fin hk (b_ald_ok q1.2.2 hH (hM.up q1) k3 q2 hf1 h)
      | false =>
        rw [e] at h
        simp only [cond_false] at h
        cases e2 : Nat.beq b.1 2 && Nat.beq a 0 with
        | true =>
          rw [e2] at h
          rw [Bool.and_eq_true] at e2
          simp only [cond_true] at h
          obtain ⟨k, hk, k2⟩ := b_r2 e2.1 g3
          have ha := Nat.eq_of_beq_eq_true e2.2
          subst ha
          rw [k2] at h
          dsimp only at h
          rw [Int.toNat_natCast] at h
          cases e3 : decide ((k : Int) = 1000000) with
          | true =>
            rw [e3] at h
            have e3 := of_decide_eq_true e3
            have hk2 : k = m_fzb := by unfold m_fzb; omega
            subst hk2
            exact fin hk (b_sld_ok hZ q1.2.2 (hM.up q1) q2 hf1 h)
          | false =>
            rw [e3] at h
            simp only [cond_false] at h
            cases e4 : decide (1000000 < (k : Int)) with
            | true =>
              rw [e4] at h
              have e4 := of_decide_eq_true e4
              exact fin hk (b_zld_ok hZ q1.2.2 (hM.up q1) (by unfold m_fzb; omega) q2 hf1 h)
            | false => rw [e4] at h; cases h
        | false => rw [e2] at h; cases h
    · cases h
  · cases h
theorem b_h43_ok {a : Nat} {v : Int} {q : List Nat} (hZ : b_ZOk Z G fz) (hW : b_gW W ρ) (hH : b_gH T σ) (hM : b_gM G fz W.1.1 ρ σ M) (hf : b_gf W.1.1 ρ lv st cl cs) (h : b_h43 Z W M nx lv st = some L) : b_Step T G fz Wr (43, a, v, q) nx W ρ cl cs σ L := by
  unfold b_h43 at h
  split at h
  · rename_i i b r
    split at h
    · rename_i W1 x hn
      obtain ⟨h1, h2, h3, h4⟩ := hf
      obtain ⟨wi, t1, rfl, g1, g2⟩ := b_cons h2
      obtain ⟨wb, t, rfl, g3, g4⟩ := b_cons g2
      obtain ⟨z, rfl, ρ1, q1, q2⟩ := b_num_ok hW g1 hn
      cases e : Nat.beq b.1 2 && decide (1000000 < b.2.1) with
      | true =>
        rw [e] at h
        simp only [Bool.and_eq_true, decide_eq_true_eq] at e
        simp only [cond_true] at h
        obtain ⟨k, rfl, k2⟩ := b_r2 e.1 g3
        rw [k2] at h e
        dsimp only at h e
        rw [Int.toNat_natCast] at h
        split at h
        · rename_i zs hz
          cases e2 : b_inb W1 x zs.length with
          | true =>
            rw [e2] at h
            cases h
            obtain ⟨j, p1, p2⟩ := b_inb_ok q1.2.2 e2
            rw [q2.1] at p1
            have hk : m_fzb < k := by unfold m_fzb; omega
            have hfz := hZ.2 _ zs hz (by omega)
            obtain ⟨ρ2, k3, k4⟩ := b_f32_ok q1.2.2 (zs.getD z.toNatClampNeg 0)
            have he := q1.tr k3
            refine b_pure hH hM (pc' := nx) (cl' := cl) (cs' := .int (zs.getD z.toNatClampNeg 0) :: t) ?_ he (List.mem_singleton.mpr rfl) ⟨h1.up he, ⟨k4, b_all2.up he g4⟩, h3, b_okm rfl (b_okc (b_okc h4).2).2⟩
            simp only [m_step]
            rw [if_pos (Nat.le_of_lt hk), hfz]
            dsimp only
            rw [if_pos (b_in p1 p2)]
          | false => rw [e2] at h; cases h
        · cases h
      | false => rw [e] at h; cases h
    · cases h
  · cases h
theorem b_of32 {n : Nat} (h : n < 2147483648) : (Int32.ofNat n).toInt = (n : Int) := by
  have : Int32.ofNat n = Int32.ofInt (n : Int) := rfl
  rw [this, Int32.toInt_ofInt]
  exact a_bm (by omega) (by omega)
theorem b_h20_ok {a : Nat} {v : Int} {q : List Nat} (hZ : b_ZOk Z G fz) (hW : b_gW W ρ) (hH : b_gH T σ) (hM : b_gM G fz W.1.1 ρ σ M) (hf : b_gf W.1.1 ρ lv st cl cs) (h : b_h20 T Z W M nx lv st = some L) : b_Step T G fz Wr (20, a, v, q) nx W ρ cl cs σ L := by
  unfold b_h20 at h
  split at h
  · rename_i b r
    obtain ⟨h1, h2, h3, h4⟩ := hf
    obtain ⟨wb, t, rfl, g3, g4⟩ := b_cons h2
    have fin : ∀ {k m : Nat} {y : b_L}, wb = .ref k → m_len fz k σ = some m → m < 2147483648 → b_gx W.1.1 ρ y (m : Int) → L = [(W, M, nx, lv, (0, y) :: r)] → b_Step T G fz Wr (20, a, v, q) nx W ρ cl (wb :: t) σ L := by
      rintro k m y rfl k1 k2 k3 rfl
      refine b_pure hH hM (pc' := nx) (cl' := cl) (cs' := .int (Int32.ofNat m) :: t) ?_ (b_ext.rf hW) (List.mem_singleton.mpr rfl) ⟨h1, ⟨?_, g4⟩, h3, b_okm rfl (b_okc h4).2⟩
      · simp only [m_step, k1, Option.map_some]
      · show b_gx W.1.1 ρ y (Int32.ofNat m).toInt
        rw [b_of32 k2]
        exact k3
    cases e : b_rf b with
    | true =>
      rw [e] at h
      simp only [cond_true] at h
      obtain ⟨k, hk, k2, k3⟩ := b_rf_ok e g3
      rw [k2] at h
      dsimp only at h
      rw [Int.toNat_natCast] at h
      split at h
      · rename_i c hT
        cases e2 : Nat.beq c.1 1 && Nat.ble c.2.2.1 100000 with
        | true =>
          rw [e2] at h
          rw [Bool.and_eq_true] at e2
          simp only [cond_true, Option.some.injEq] at h
          have e0 := Nat.eq_of_beq_eq_true e2.1
          have e1 : c.2.2.1 ≤ 100000 := Nat.le_of_ble_eq_true e2.2
          obtain ⟨c', k6, z, k7, k8, -⟩ := hH.2 k k3
          rw [hT] at k6
          cases k6
          refine fin (m := c.2.2.1) hk ?_ (by omega) (b_gx.con _) h.symm
          unfold m_len
          rw [if_neg (by unfold m_fzb; omega), k7]
          unfold b_sh at k8
          match z, k8 with
          | .inr _, k8 => exact absurd (e0.symm.trans k8.1) (by decide)
          | .inl (tt, .inl xs), k8 => dsimp only; rw [if_pos k8.2.2.1, k8.2.2.2]
          | .inl (tt, .inr (.inl xs)), k8 => dsimp only; rw [if_pos k8.2.2.1, k8.2.2.2]
          | .inl (tt, .inr (.inr xs)), k8 => dsimp only; rw [if_pos k8.2.2.1, k8.2.2.2]
        | false => rw [e2] at h; cases h
      · cases h
    | false =>
      rw [e] at h
      simp only [cond_false] at h
      cases e2 : Nat.beq b.1 2 && decide (b.2.1 = 1000000) with
      | true =>
        rw [e2] at h
        simp only [Bool.and_eq_true, decide_eq_true_eq] at e2
        simp only [cond_true] at h
        split at h
        · rename_i l hl
          simp only [Option.some.injEq] at h
          obtain ⟨k, hk, k2⟩ := b_r2 e2.1 g3
          rw [k2] at e2
          dsimp only at e2
          have hk2 : k = m_fzb := by unfold m_fzb; omega
          subst hk2
          obtain ⟨xs, p1, p2, p3⟩ := b_len500 hZ hM hl
          refine fin (m := xs.length) hk ?_ p2 p3 h.symm
          unfold m_len
          rw [if_pos (Nat.le_refl _), Nat.sub_self, p1]
          rfl
        · cases h
      | false =>
        rw [e2] at h
        simp only [cond_false] at h
        cases e3 : Nat.beq b.1 2 && decide (1000000 < b.2.1) with
        | true =>
          rw [e3] at h
          simp only [Bool.and_eq_true, decide_eq_true_eq] at e3
          simp only [cond_true] at h
          obtain ⟨k, hk, k2⟩ := b_r2 e3.1 g3
          rw [k2] at h e3
          dsimp only at h e3
          rw [Int.toNat_natCast] at h
          split at h
          · rename_i zs hz
            cases e4 : Nat.ble zs.length 100000 with
            | true =>
              rw [e4] at h
              simp only [cond_true, Option.some.injEq] at h
              have e4 : zs.length ≤ 100000 := Nat.le_of_ble_eq_true e4
              have hkf : m_fzb < k := by unfold m_fzb; omega
              refine fin (m := zs.length) hk ?_ (by omega) (b_gx.con _) h.symm
              unfold m_len
              rw [if_pos (Nat.le_of_lt hkf), hZ.2 _ zs hz (by omega)]
              rfl
            | false => rw [e4] at h; cases h
          · cases h
        | false => rw [e3] at h; cases h
  · cases h
end B71
end
section
/-! THE OPERATIONS that write -/
def b_fty (ty : FieldType) (tag : Nat) : Bool := match ty with
  | .int => Nat.beq tag 0
  | .long => Nat.beq tag 1
  | _ => false
def b_h41 (W : b_NF) (M : b_M) (a : Nat) (nx : Nat) (lv : b_Lv) (st : List b_V) : b_H := some [(W, M, nx, lv, (2, (((m_fzb + a : Nat) : Int), [])) :: st)]
noncomputable def b_pt (T : Nat → Option b_C) (dep Wr : Nat → Nat → Bool) (W : b_NF) (M : b_M) (cell : Nat) (x : b_L) (tag : Nat) (y : b_L) (nx : Nat) (lv : b_Lv) (r : List b_V) : b_H := match b_put T dep Wr W M cell x tag y with
  | some M' => some [(W, M', nx, lv, r)]
  | none => none
noncomputable def b_h16 (T : Nat → Option b_C) (dep Wr : Nat → Nat → Bool) (W : b_NF) (M : b_M) (a : Nat) (v : Int) (nx : Nat) (lv : b_Lv) (st : List b_V) : b_H := match st with
  | w :: b :: r => bif b_rf b && decide (0 ≤ v) then (match T b.2.1.toNat with
      | some c => bif Nat.beq c.1 0 && Nat.beq c.2.1 a && Nat.blt v.toNat c.2.2.1 then (bif Nat.beq w.1 1 then (bif b_fty (m_tyf a v.toNat) 1 then b_pt T dep Wr W M b.2.1.toNat (b_con v) 1 w.2 nx lv r else none)
          else match b_num W w with
          | some (W1, y) => bif b_fty (m_tyf a v.toNat) 0 then b_pt T dep Wr W1 M b.2.1.toNat (b_con v) 0 y nx lv r else none
          | none => none) else none
      | none => none) else none
  | _ => none
noncomputable def b_ast (T : Nat → Option b_C) (dep Wr : Nat → Nat → Bool) (W : b_NF) (M : b_M) (a : Nat) (x : b_L) (cell t : Nat) (w : b_V) (nx : Nat) (lv : b_Lv) (r : List b_V) : b_H := match a with
  | 2 => bif Nat.beq w.1 1 then b_pt T dep Wr W M cell x 1 w.2 nx lv r else none
  | 0 => match b_num W w with
    | some (W1, y) => b_pt T dep Wr W1 M cell x 0 y nx lv r
    | none => none
  | 1 => match b_num W w with
    | some (W1, y) => bif Nat.beq t 1 then b_pt T dep Wr (b_fit W1 y (-128) 127).1 M cell x 0 (b_fit W1 y (-128) 127).2 nx lv r else b_pt T dep Wr (b_fit W1 y 0 1).1 M cell x 0 (b_fit W1 y 0 1).2 nx lv r
    | none => none
  | _ => none
noncomputable def b_h19 (T : Nat → Option b_C) (dep Wr : Nat → Nat → Bool) (W : b_NF) (M : b_M) (a : Nat) (nx : Nat) (lv : b_Lv) (st : List b_V) : b_H := match st with
  | w :: i :: b :: r => match b_num W i with
    | some (W1, x) => bif b_rf b then (match T b.2.1.toNat with
        | some c => bif Nat.beq c.1 1 && b_kd a c.2.1 && b_inb W1 x c.2.2.1 then b_ast T dep Wr W1 M a x b.2.1.toNat c.2.1 w nx lv r else none
        | none => none) else none
    | none => none
  | _ => none
section B72
variable {T : Nat → Option b_C} {G : b_G} {fz : List (List Int32)} {dep Wr : Nat → Nat → Bool} {ρ : Nat → Int} {W : b_NF} {M : b_M} {cl : m_V} {cs : List Value} {σ : m_S} {lv : b_Lv} {st : List b_V} {L : List b_R} {nx : Nat}
theorem b_h41_ok {a : Nat} {v : Int} {q : List Nat} (hW : b_gW W ρ) (hH : b_gH T σ) (hM : b_gM G fz W.1.1 ρ σ M) (hf : b_gf W.1.1 ρ lv st cl cs) (h : b_h41 W M a nx lv st = some L) : b_Step T G fz Wr (41, a, v, q) nx W ρ cl cs σ L := by
  cases h
  refine b_pure hH hM (pc' := nx) (cl' := cl) (cs' := .ref (m_fzb + a) :: cs) (by rfl) (b_ext.rf hW) (List.mem_singleton.mpr rfl) ⟨hf.1, ⟨rfl, hf.2.1⟩, hf.2.2.1, b_okm ?_ hf.2.2.2⟩
  simp only [m_okv, Bool.or_eq_true, decide_eq_true_eq]
  exact Or.inr (Nat.le_add_right _ _)
theorem b_pt_ok {I : m_I} {W1 : b_NF} {ρ1 : Nat → Int} {cell i tag : Nat} {x y : b_L} {w : Value} {c : b_C} {r : List b_V} {t : List Value} {σ' : m_S} (hG : b_GOk G dep) (hD : b_DepOk dep) (hWr : b_WrOk T Wr) (hH : b_gH T σ) (hM : b_gM G fz W1.1.1 ρ1 σ M) (he : b_ext W ρ W1 ρ1) (hc : cell < 139) (hT : T cell = some c) (hi : i < c.2.2.1) (hx : b_gx W1.1.1 ρ1 x (i : Int)) (hy : b_gv W1.1.1 ρ1 (tag, y) w) (ht : tag < 2) (hu : b_upd σ cell i w σ')
    (hf : b_gf W1.1.1 ρ1 lv r cl t) (hs : m_step fz I nx cl cs σ = some (.inl (nx, cl, t, σ'))) (h : b_pt T dep Wr W1 M cell x tag y nx lv r = some L) : b_Step T G fz Wr I nx W ρ cl cs σ L := by
  unfold b_pt at h
  split at h
  · rename_i M' hp
    cases h
    obtain ⟨g1, g2, g3⟩ := b_put_ok hG hD hWr he.2.2 hH hM hc hT hi hx hy ht hu hp
    exact ⟨nx, cl, t, σ', hs, g3, _, List.mem_singleton.mpr rfl, ρ1, he, rfl, g1, g2, hf⟩
  · cases h
theorem b_h16_ok {a : Nat} {v : Int} {q : List Nat} (hG : b_GOk G dep) (hD : b_DepOk dep) (hWr : b_WrOk T Wr) (hW : b_gW W ρ) (hH : b_gH T σ) (hM : b_gM G fz W.1.1 ρ σ M) (hf : b_gf W.1.1 ρ lv st cl cs) (h : b_h16 T dep Wr W M a v nx lv st = some L) : b_Step T G fz Wr (16, a, v, q) nx W ρ cl cs σ L := by
  unfold b_h16 at h
  split at h
  · rename_i w b r
    cases e : b_rf b && decide (0 ≤ v) with
    | true =>
      rw [e] at h
      simp only [Bool.and_eq_true, decide_eq_true_eq] at e
      simp only [cond_true] at h
      obtain ⟨h1, h2, h3, h4⟩ := hf
      obtain ⟨cw, t1, rfl, g1, g2⟩ := b_cons h2
      obtain ⟨cb, t, rfl, g3, g4⟩ := b_cons g2
      obtain ⟨k, rfl, k2, k3⟩ := b_rf_ok e.1 g3
      rw [k2] at h
      dsimp only at h
      rw [Int.toNat_natCast] at h
      split at h
      · rename_i c hT
        cases e2 : Nat.beq c.1 0 && Nat.beq c.2.1 a && Nat.blt v.toNat c.2.2.1 with
        | true =>
          rw [e2] at h
          simp only [Bool.and_eq_true] at e2
          simp only [cond_true] at h
          have e0 := Nat.eq_of_beq_eq_true e2.1.1
          have e1 := Nat.eq_of_beq_eq_true e2.1.2
          have hi : v.toNat < c.2.2.1 := Nat.blt_eq.mp e2.2
          obtain ⟨c', k6, z, k7, k8, -⟩ := hH.2 k k3
          rw [hT] at k6
          cases k6
          have hvn : (v.toNat : Int) = v := Int.toNat_of_nonneg e.2
          have hobj : ∃ fs, σ[k]? = some (.inr (a, fs)) ∧ v.toNat < fs.length := by
            unfold b_sh at k8
            match z, k8, k7 with
            | .inr (ci, fs), k8, k7 => exact ⟨fs, by rw [k7, ← k8.2.1, e1], by rw [k8.2.2]; exact hi⟩
            | .inl (_, .inl _), k8, _ => exact absurd (e0.symm.trans k8.1) (by decide)
            | .inl (_, .inr (.inl _)), k8, _ => exact absurd (e0.symm.trans k8.1) (by decide)
            | .inl (_, .inr (.inr _)), k8, _ => exact absurd (e0.symm.trans k8.1) (by decide)
          obtain ⟨fs, p1, p2⟩ := hobj
          have hst : ∀ u : Value, m_fit (m_tyf a v.toNat) u = true → m_step fz (16, a, v, q) nx cl (u :: .ref k :: t) σ = some (.inl (nx, cl, t, σ.set k (.inr (a, fs.set v.toNat u)))) := by
            intro u hu
            simp only [m_step, p1]
            rw [if_pos ⟨trivial, p2, hu⟩]
          have hxx : ∀ {W1 : b_NF} {ρ1 : Nat → Int}, b_gx W1.1.1 ρ1 (b_con v) ((v.toNat : Nat) : Int) := fun {W1 ρ1} => by rw [hvn]; exact b_gx.con v
          cases e3 : Nat.beq w.1 1 with
          | true =>
            rw [e3] at h
            simp only [cond_true] at h
            obtain ⟨zw, rfl, q2⟩ := b_lg e3 g1
            cases e4 : b_fty (m_tyf a v.toNat) 1 with
            | true =>
              rw [e4] at h
              have hfit : m_fit (m_tyf a v.toNat) (.long zw) = true := by
                unfold b_fty at e4
                split at e4
                · cases e4
                · rename_i e5; rw [e5]; rfl
                · cases e4
              exact b_pt_ok hG hD hWr hH hM (b_ext.rf hW) k3 hT hi hxx (tag := 1) (y := w.2) (w := .long zw) q2 (by decide) (b_upd_field p1 p2) ⟨h1, g4, h3, (b_okc (b_okc h4).2).2⟩ (hst _ hfit) h
            | false => rw [e4] at h; cases h
          | false =>
            rw [e3] at h
            simp only [cond_false] at h
            split at h
            · rename_i W1 y hn
              obtain ⟨zw, rfl, ρ1, q1, q2⟩ := b_num_ok hW g1 hn
              cases e4 : b_fty (m_tyf a v.toNat) 0 with
              | true =>
                rw [e4] at h
                have hfit : m_fit (m_tyf a v.toNat) (.int zw) = true := by
                  unfold b_fty at e4
                  split at e4
                  · rename_i e5; rw [e5]; rfl
                  · cases e4
                  · cases e4
                exact b_pt_ok hG hD hWr hH (hM.up q1) q1 k3 hT hi hxx (tag := 0) (y := y) (w := .int zw) q2 (by decide) (b_upd_field p1 p2) ⟨h1.up q1, b_all2.up q1 g4, h3, (b_okc (b_okc h4).2).2⟩ (hst _ hfit) h
              | false => rw [e4] at h; cases h
            · cases h
        | false => rw [e2] at h; cases h
      · cases h
    | false => rw [e] at h; cases h
  · cases h
theorem b_bool1 {x : Int32} (h1 : 0 ≤ x.toInt) (h2 : x.toInt ≤ 1) : vp_nar .boolean x = x := by
  have e : x = Int32.ofInt x.toInt := (Int32.ofInt_toInt x).symm
  have : x.toInt = 0 ∨ x.toInt = 1 := by omega
  rcases this with h | h <;> (rw [e, h]; rfl)
theorem b_boolR (x : Int32) : 0 ≤ (vp_nar .boolean x).toInt ∧ (vp_nar .boolean x).toInt ≤ 1 := a_and (x := x) (y := 1) (by decide)
theorem b_h19_ok {a : Nat} {v : Int} {q : List Nat} (hG : b_GOk G dep) (hD : b_DepOk dep) (hWr : b_WrOk T Wr) (hW : b_gW W ρ) (hH : b_gH T σ) (hM : b_gM G fz W.1.1 ρ σ M) (hf : b_gf W.1.1 ρ lv st cl cs) (h : b_h19 T dep Wr W M a nx lv st = some L) : b_Step T G fz Wr (19, a, v, q) nx W ρ cl cs σ L := by
  unfold b_h19 at h
  split at h
  · rename_i w i b r
    split at h
    · rename_i W1 x hn
      obtain ⟨h1, h2, h3, h4⟩ := hf
      obtain ⟨cw, t1, rfl, g1, g2⟩ := b_cons h2
      obtain ⟨ci, t2, rfl, g3, g4⟩ := b_cons g2
      obtain ⟨cb, t, rfl, g5, g6⟩ := b_cons g4
      obtain ⟨zi, rfl, ρ1, q1, q2⟩ := b_num_ok hW g3 hn
      cases e : b_rf b with
      | true =>
        rw [e] at h
        simp only [cond_true] at h
        obtain ⟨k, rfl, k2, k3⟩ := b_rf_ok e g5
        rw [k2] at h
        dsimp only at h
        rw [Int.toNat_natCast] at h
        split at h
        · rename_i c hT
          cases e2 : Nat.beq c.1 1 && b_kd a c.2.1 && b_inb W1 x c.2.2.1 with
          | true =>
            rw [e2] at h
            simp only [Bool.and_eq_true] at e2
            simp only [cond_true] at h
            have e0 := Nat.eq_of_beq_eq_true e2.1.1
            have hkd := e2.1.2
            obtain ⟨j, p1, p2⟩ := b_inb_ok q1.2.2 e2.2
            rw [q2.1] at p1
            obtain ⟨c', k6, z, k7, k8, -⟩ := hH.2 k k3
            rw [hT] at k6
            cases k6
            have hnc := b_nc p1
            have hxx : b_gx W1.1.1 ρ1 x (j : Int) := by rw [← p1]; exact q2
            have hok := (b_okc (b_okc (b_okc h4).2).2).2
            unfold b_ast at h
            split at h
            · cases e3 : Nat.beq w.1 1 with
              | true =>
                rw [e3] at h
                simp only [cond_true] at h
                obtain ⟨zw, rfl, q3⟩ := b_lg e3 (g1.up q1)
                have ht3 : c.2.1 = 3 := by unfold b_kd at hkd; exact Nat.eq_of_beq_eq_true hkd
                have hrow : ∃ xs, σ[k]? = some (.inl (3, .inr (.inl xs))) ∧ xs.length = c.2.2.1 := by
                  unfold b_sh at k8
                  match z, k8, k7 with
                  | .inr _, k8, _ => exact absurd (e0.symm.trans k8.1) (by decide)
                  | .inl (tt, .inl _), k8, _ => have := k8.2.2.1; have := k8.2.1; omega
                  | .inl (tt, .inr (.inl xs)), k8, k7 => exact ⟨xs, by rw [k7, k8.2.2.1], k8.2.2.2⟩
                  | .inl (tt, .inr (.inr _)), k8, _ => have := k8.2.2.1; have := k8.2.1; omega
                obtain ⟨xs, r1, r2⟩ := hrow
                refine b_pt_ok hG hD hWr hH (hM.up q1) q1 k3 hT p2 hxx (tag := 1) (y := w.2) (w := .long zw) q3 (by decide) (b_upd_long r1 (by omega)) ⟨h1.up q1, b_all2.up q1 g6, h3, hok⟩ ?_ h
                have hA : m_ast 2 (.long zw) zi k σ = some (σ.set k (.inl (3, .inr (.inl (xs.set j zw))))) := by
                  unfold m_ast
                  rw [r1]
                  dsimp only
                  rw [if_pos ⟨rfl, rfl, b_in p1 (by omega)⟩, hnc]
                simp only [m_step, hA, Option.map_some]
              | false => rw [e3] at h; cases h
            · split at h
              · rename_i W2 y hn2
                obtain ⟨zw, rfl, ρ2, q3, q4⟩ := b_num_ok q1.2.2 (g1.up q1) hn2
                have he := q1.tr q3
                have ht0 : c.2.1 = 0 := by unfold b_kd at hkd; exact Nat.eq_of_beq_eq_true hkd
                have hrow : ∃ xs, σ[k]? = some (.inl (0, .inl xs)) ∧ xs.length = c.2.2.1 := by
                  unfold b_sh at k8
                  match z, k8, k7 with
                  | .inr _, k8, _ => exact absurd (e0.symm.trans k8.1) (by decide)
                  | .inl (tt, .inl xs), k8, k7 => exact ⟨xs, by rw [k7, ← k8.2.1, ht0], k8.2.2.2⟩
                  | .inl (tt, .inr (.inl xs)), k8, k7 => have := k8.2.2.1; have := k8.2.1; omega
                  | .inl (tt, .inr (.inr _)), k8, _ => have := k8.2.2.1; have := k8.2.1; omega
                obtain ⟨xs, r1, r2⟩ := hrow
                refine b_pt_ok hG hD hWr hH (hM.up he) he k3 hT p2 (hxx.up q3) (tag := 0) (y := y) (w := .int zw) q4 (by decide) (b_upd_int r1 (by omega)) ⟨h1.up he, b_all2.up he g6, h3, hok⟩ ?_ h
                have hA : m_ast 0 (.int zw) zi k σ = some (σ.set k (.inl (0, .inl (xs.set j zw)))) := by
                  unfold m_ast
                  rw [r1]
                  dsimp only
                  rw [if_pos (b_in p1 (by omega)), if_pos ⟨rfl, rfl⟩, hnc]
                simp only [m_step, hA, Option.map_some]
              · cases h
            · split at h
              · rename_i W2 y hn2
                obtain ⟨zw, rfl, ρ2, q3, q4⟩ := b_num_ok q1.2.2 (g1.up q1) hn2
                have he := q1.tr q3
                have hrow : ∃ xs, σ[k]? = some (.inl (c.2.1, .inl xs)) ∧ xs.length = c.2.2.1 ∧ (c.2.1 = 1 ∨ c.2.1 = 2) := by
                  have ht : c.2.1 = 1 ∨ c.2.1 = 2 := by
                    have hkd : (Nat.beq c.2.1 1 || Nat.beq c.2.1 2) = true := hkd
                    rw [Bool.or_eq_true] at hkd
                    rcases hkd with h | h
                    · exact Or.inl (Nat.eq_of_beq_eq_true h)
                    · exact Or.inr (Nat.eq_of_beq_eq_true h)
                  unfold b_sh at k8
                  match z, k8, k7 with
                  | .inr _, k8, _ => exact absurd (e0.symm.trans k8.1) (by decide)
                  | .inl (tt, .inl xs), k8, k7 => exact ⟨xs, by rw [k7, ← k8.2.1], k8.2.2.2, ht⟩
                  | .inl (tt, .inr (.inl xs)), k8, k7 => have := k8.2.2.1; have := k8.2.1; omega
                  | .inl (tt, .inr (.inr _)), k8, _ => have := k8.2.2.1; have := k8.2.1; omega
                obtain ⟨xs, r1, r2, r3⟩ := hrow
                cases e3 : Nat.beq c.2.1 1 with
                | true =>
                  rw [e3] at h
                  simp only [cond_true] at h
                  have e3 := Nat.eq_of_beq_eq_true e3
                  rw [e3] at r1
                  obtain ⟨zb, hzb⟩ : ∃ zb, vp_nar .byte zw = zb := ⟨_, rfl⟩
                  have hzr : -128 ≤ zb.toInt ∧ zb.toInt ≤ 127 := by rw [← hzb, vp_nar_byte]; exact a_i2bR zw
                  obtain ⟨ρ3, q5, q6⟩ := b_fit_ok q3.2.2 (z := zb.toInt) q4 (lo := -128) (hi := 127) hzr.1 hzr.2 (fun s1 s2 => by rw [← hzb, vp_nar_byte, a_i2b s1 s2])
                  have he2 := he.tr q5
                  refine b_pt_ok hG hD hWr hH (hM.up he2) he2 k3 hT p2 (hxx.up (q3.tr q5)) (tag := 0) (y := (b_fit W2 y (-128) 127).2) (w := .int zb) (by unfold b_gv; exact q6) (by decide) (b_upd_int r1 (by omega)) ⟨h1.up he2, b_all2.up he2 g6, h3, hok⟩ ?_ h
                  have hA : m_ast 1 (.int zw) zi k σ = some (σ.set k (.inl (1, .inl (xs.set j zb)))) := by
                    unfold m_ast
                    rw [r1]
                    dsimp only
                    rw [if_pos (b_in p1 (by omega)), if_neg (by decide), if_pos ⟨rfl, rfl⟩, hnc, hzb]
                  simp only [m_step, hA, Option.map_some]
                | false =>
                  rw [e3] at h
                  simp only [cond_false] at h
                  have e4 : c.2.1 = 2 := by
                    rcases r3 with h | h
                    · rw [h] at e3; cases e3
                    · exact h
                  rw [e4] at r1
                  obtain ⟨ρ3, q5, q6⟩ := b_fit_ok q3.2.2 (z := (vp_nar .boolean zw).toInt) q4 (lo := 0) (hi := 1) (b_boolR zw).1 (b_boolR zw).2 (fun s1 s2 => by rw [b_bool1 s1 s2])
                  have he2 := he.tr q5
                  refine b_pt_ok hG hD hWr hH (hM.up he2) he2 k3 hT p2 (hxx.up (q3.tr q5)) (tag := 0) (y := (b_fit W2 y 0 1).2) (w := .int (vp_nar .boolean zw)) q6 (by decide) (b_upd_int r1 (by omega)) ⟨h1.up he2, b_all2.up he2 g6, h3, hok⟩ ?_ h
                  have hA : m_ast 1 (.int zw) zi k σ = some (σ.set k (.inl (2, .inl (xs.set j (vp_nar .boolean zw))))) := by
                    unfold m_ast
                    rw [r1]
                    dsimp only
                    rw [if_pos (b_in p1 (by omega)), if_neg (by decide), if_neg (by decide), if_pos ⟨rfl, rfl⟩, hnc]
                  simp only [m_step, hA, Option.map_some]
              · cases h
            · cases h
          | false => rw [e2] at h; cases h
        · cases h
      | false => rw [e] at h; cases h
    · cases h
  · cases h
end B72
end
section
/-! System.arraycopy -/
def b_cats (r : List b_V) : Nat := match r with
  | [] => 0
  | v :: t => b_cat v + b_cats t
def b_sub1 (l0 l1 : List b_T) : Bool := match l0, l1 with
  | [t0], [t1] => Nat.beq t0.1 t1.1 && (Nat.ble t0.1 1 && (decide (t1.2.1 ≤ t0.2.1) && (decide (t0.2.2.1 ≤ t1.2.2.1) && Nat.beq t1.2.2.2 0)))
  | _, _ => false
def b_k03 (c0 c1 : b_C) : Bool := Nat.beq c0.1 1 && (Nat.beq c1.1 1 && (Nat.beq c0.2.1 c1.2.1 && (Nat.beq c0.2.1 0 || Nat.beq c0.2.1 3)))
noncomputable def b_rng26 (W : b_NF) (n d s : b_L) (l0 l1 : Nat) : Bool := b_ge W n 0 && (b_ge W d 0 && (b_ge W s 0 && (b_le W (b_add s 1 n) (l0 : Int) && b_le W (b_add d 1 n) (l1 : Int))))
noncomputable def b_cp26 (T : Nat → Option b_C) (dep Wr : Nat → Nat → Bool) (W : b_NF) (M : b_M) (n d s : b_L) (b1 b0 : Nat) (nx : Nat) (lv : b_Lv) (r : List b_V) : b_H := match T b0, T b1 with
  | some c0, some c1 => bif b_k03 c0 c1 && (b_rng26 W n d s c0.2.2.1 c1.2.2.1 && (Wr b1 0 && (b_sub1 c0.2.2.2.2 c1.2.2.2.2 && Nat.ble (b_cats r) 8))) then some [(W, M.filter (fun q => !(Nat.beq q.1 b1) && !(dep q.1 b1)), nx, lv, r)] else none
  | _, _ => none
noncomputable def b_h26 (T : Nat → Option b_C) (dep Wr : Nat → Nat → Bool) (W : b_NF) (M : b_M) (nx : Nat) (lv : b_Lv) (st : List b_V) : b_H := match st with
  | n :: d :: b1 :: s :: b0 :: r => match b_num W n with
    | some (W1, xn) => match b_num W1 d with
      | some (W2, xd) => match b_num W2 s with
        | some (W3, xs) => bif b_rf b1 && b_rf b0 then b_cp26 T dep Wr W3 M xn xd xs b1.2.1.toNat b0.2.1.toNat nx lv r else none
        | none => none
      | none => none
    | none => none
  | _ => none
section B73
variable {T : Nat → Option b_C} {G : b_G} {fz : List (List Int32)} {dep Wr : Nat → Nat → Bool} {ρ : Nat → Int} {W : b_NF} {M : b_M} {cl : m_V} {cs : List Value} {σ σ' : m_S} {lv : b_Lv} {st : List b_V} {L : List b_R} {nx : Nat}
theorem b_cats_ok {n : Nat} : ∀ {r : List b_V} {t : List Value}, a_all2 (b_gv n ρ) r t → b_cats r = (t.map fun v => v.category).sum
  | [], [], _ => rfl
  | v :: r, w :: t, h => by
    simp only [b_cats, List.map_cons, List.sum_cons, b_gv_cat h.1, b_cats_ok h.2]
theorem b_sub1_ok {l0 l1 : List b_T} {t : b_T} {w : Value} (h : b_sub1 l0 l1 = true) (ht : t ∈ l0) (hw : b_gt t w) : ∃ t1, l1 = [t1] ∧ b_gt t1 w := by
  unfold b_sub1 at h
  split at h
  · rename_i t0 t1
    simp only [Bool.and_eq_true, decide_eq_true_eq] at h
    obtain ⟨h1, h2, h3, h4, h5⟩ := h
    rcases List.mem_singleton.mp ht with rfl
    refine ⟨t1, rfl, ?_⟩
    have e := Nat.eq_of_beq_eq_true h1
    have e5 := Nat.eq_of_beq_eq_true h5
    have e2 : t.1 ≤ 1 := Nat.le_of_ble_eq_true h2
    obtain ⟨a, lo, hi, mk⟩ := t
    obtain ⟨a1, lo1, hi1, mk1⟩ := t1
    dsimp only at e e5 e2 h3 h4
    subst e
    subst e5
    unfold b_gt at hw ⊢
    dsimp only at hw ⊢
    split at hw
    · exact ⟨by have := hw.1; dsimp only at this ⊢; omega, by have := hw.2.1; dsimp only at this ⊢; omega, b_mk0 _⟩
    · exact ⟨by have := hw.1; dsimp only at this ⊢; omega, by have := hw.2.1; dsimp only at this ⊢; omega, b_mk0 _⟩
    · omega
    · exact hw.elim
  · cases h
/-- all of a row may have changed, nothing else has -/
theorem b_row_ok {b1 : Nat} {c1 : b_C} {z' : m_E} (hG : b_GOk G dep) (hWr : b_WrOk T Wr) (hH : b_gH T σ) (hM : b_gM G fz W.1.1 ρ σ M) (hb : b1 < 139) (hT : T b1 = some c1) (hc : c1.1 = 1) (hw : Wr b1 0 = true) (hsh : b_sh c1 z') (hel : ∀ i, i < c1.2.2.1 → ∃ t w, c1.2.2.2.2[i % c1.2.2.2.1]? = some t ∧ b_rd (σ.set b1 z') b1 i = some w ∧ b_gt t w) :
    b_gH T (σ.set b1 z') ∧ b_gM G fz W.1.1 ρ (σ.set b1 z') (M.filter (fun q => !(Nat.beq q.1 b1) && !(dep q.1 b1))) ∧ b_frame Wr σ (σ.set b1 z') := by
  have hlen : b1 < σ.length := by rw [hH.1]; exact hb
  have hoth : ∀ k i, k ≠ b1 → b_rd (σ.set b1 z') k i = b_rd σ k i := by
    intro k i hk
    unfold b_rd
    rw [List.getElem?_set_ne (fun h9 => hk h9.symm)]
  refine ⟨⟨by rw [List.length_set]; exact hH.1, fun k hk => ?_⟩, fun q hq => ?_, fun k i hk => ?_⟩
  · by_cases e : k = b1
    · subst e
      obtain ⟨c, g1, z, g2, g3, g4, g5⟩ := hH.2 k hk
      rw [hT] at g1
      cases g1
      exact ⟨_, hT, z', List.getElem?_set_self hlen, hsh, g4, hel⟩
    · obtain ⟨c, g1, z, g2, g3, g4, g5⟩ := hH.2 k hk
      refine ⟨c, g1, z, by rw [List.getElem?_set_ne (fun h9 => e h9.symm)]; exact g2, g3, g4, fun i hi => ?_⟩
      rw [hoth k i e]
      exact g5 i hi
  · obtain ⟨h1, h2⟩ := List.mem_filter.mp hq
    simp only [Bool.and_eq_true, Bool.not_eq_true'] at h2
    have hne : q.1 ≠ b1 := fun h9 => by rw [h9] at h2; simp at h2
    obtain ⟨a, g1, g2⟩ := hM q h1
    refine ⟨a, g1, ?_⟩
    by_cases c1 : q.1 < 139
    · rw [if_pos c1] at g2 ⊢
      obtain ⟨j, e1, w', g3, g4⟩ := g2
      exact ⟨j, e1, w', by rw [hoth _ _ hne]; exact g3, g4⟩
    · rw [if_neg c1] at g2 ⊢
      by_cases c2 : q.1 < m_fzb
      · rw [if_pos c2] at g2 ⊢
        rw [hG q.1 σ (σ.set b1 z') (fun c hc2 i' => hoth c i' (fun h9 => by rw [h9] at hc2; rw [hc2] at h2; exact absurd h2.2 (by decide))) a]
        exact g2
      · rw [if_neg c2] at g2 ⊢
        exact g2
  · refine hoth k i (fun h9 => ?_)
    subst h9
    rw [hWr k c1 hT hc i, hw] at hk
    cases hk
theorem b_cpy_at {α : Type} {d : α} {xs ys : List α} {sp dp n j : Nat} (hj : j < ys.length) : (m_cpy d xs ys sp dp n)[j]? = some (va_cpy (fun j => xs.getD j d) (fun j => ys.getD j d) sp dp n j) := by
  unfold m_cpy
  rw [List.getElem?_map, List.getElem?_range hj]
  rfl
theorem b_cpy_len {α : Type} {d : α} {xs ys : List α} {sp dp n : Nat} : (m_cpy d xs ys sp dp n).length = ys.length := by simp [m_cpy]
theorem b_h26_ok {a : Nat} {v : Int} {q : List Nat} (hG : b_GOk G dep) (hWr : b_WrOk T Wr) (hW : b_gW W ρ) (hH : b_gH T σ) (hM : b_gM G fz W.1.1 ρ σ M) (hf : b_gf W.1.1 ρ lv st cl cs) (h : b_h26 T dep Wr W M nx lv st = some L) : b_Step T G fz Wr (26, a, v, q) nx W ρ cl cs σ L := by
  unfold b_h26 at h
  split at h
  · rename_i n d b1 s b0 r
    split at h
    · rename_i W1 xn hn
      split at h
      · rename_i W2 xd hd
        split at h
        · rename_i W3 xs hs
          obtain ⟨h1, h2, h3, h4⟩ := hf
          obtain ⟨cn, t1, rfl, g1, g2⟩ := b_cons h2
          obtain ⟨cd, t2, rfl, g3, g4⟩ := b_cons g2
          obtain ⟨cb1, t3, rfl, g5, g6⟩ := b_cons g4
          obtain ⟨csp, t4, rfl, g7, g8⟩ := b_cons g6
          obtain ⟨cb0, t, rfl, g9, g10⟩ := b_cons g8
          obtain ⟨zn, rfl, ρ1, p1, p2⟩ := b_num_ok hW g1 hn
          obtain ⟨zd, rfl, ρ2, p3, p4⟩ := b_num_ok p1.2.2 (g3.up p1) hd
          obtain ⟨zs, rfl, ρ3, p5, p6⟩ := b_num_ok (p1.tr p3).2.2 (g7.up (p1.tr p3)) hs
          have he := (p1.tr p3).tr p5
          have xn3 := (p2.up p3).up p5
          have xd3 := p4.up p5
          cases e : b_rf b1 && b_rf b0 with
          | true =>
            rw [e] at h
            rw [Bool.and_eq_true] at e
            simp only [cond_true] at h
            obtain ⟨k1, rfl, k2, k3⟩ := b_rf_ok e.1 g5
            obtain ⟨k0, rfl, k4, k5⟩ := b_rf_ok e.2 g9
            rw [k2, k4] at h
            dsimp only at h
            rw [Int.toNat_natCast, Int.toNat_natCast] at h
            unfold b_cp26 at h
            split at h
            · rename_i c0 c1 hT0 hT1
              cases e2 : b_k03 c0 c1 && (b_rng26 W3 xn xd xs c0.2.2.1 c1.2.2.1 && (Wr k1 0 && (b_sub1 c0.2.2.2.2 c1.2.2.2.2 && Nat.ble (b_cats r) 8))) with
              | true =>
                rw [e2] at h
                simp only [cond_true, Option.some.injEq] at h
                simp only [Bool.and_eq_true] at e2
                obtain ⟨f1, f2, f3, f4, f5⟩ := e2
                unfold b_k03 at f1
                simp only [Bool.and_eq_true, Bool.or_eq_true] at f1
                obtain ⟨a1, a2, a3, a4⟩ := f1
                have a1 := Nat.eq_of_beq_eq_true a1
                have a2 := Nat.eq_of_beq_eq_true a2
                have a3 := Nat.eq_of_beq_eq_true a3
                unfold b_rng26 at f2
                simp only [Bool.and_eq_true] at f2
                obtain ⟨b2, b3, b4, b5, b6⟩ := f2
                have b2 := b_ge_ok he.2.2 b2
                have b3 := b_ge_ok he.2.2 b3
                have b4 := b_ge_ok he.2.2 b4
                have b5 := b_le_ok he.2.2 b5
                have b6 := b_le_ok he.2.2 b6
                rw [xn3.1] at b2
                rw [xd3.1] at b3
                rw [p6.1] at b4
                rw [(p6.add 1 xn3).1] at b5
                rw [(xd3.add 1 xn3).1] at b6
                have hcat : (t.map fun v => v.category).sum ≤ 8 := by
                  rw [← b_cats_ok g10]
                  exact Nat.le_of_ble_eq_true f5
                obtain ⟨in0, hin0⟩ : ∃ i : Nat, zn.toInt = (i : Int) := ⟨zn.toInt.toNat, by omega⟩
                obtain ⟨id0, hid0⟩ : ∃ i : Nat, zd.toInt = (i : Int) := ⟨zd.toInt.toNat, by omega⟩
                obtain ⟨is0, his0⟩ : ∃ i : Nat, zs.toInt = (i : Int) := ⟨zs.toInt.toNat, by omega⟩
                obtain ⟨c0', u1, z0, u2, u3, u4, u5⟩ := hH.2 k0 k5
                obtain ⟨c1', v1, z1, v2, v3, v4, v5⟩ := hH.2 k1 k3
                rw [hT0] at u1
                cases u1
                rw [hT1] at v1
                cases v1
                have hfin : ∀ τz : m_E, m_acp in0 id0 k1 is0 k0 σ = some (σ.set k1 τz) → b_sh c1 τz → (∀ i, i < c1.2.2.1 → ∃ t w, c1.2.2.2.2[i % c1.2.2.2.1]? = some t ∧ b_rd (σ.set k1 τz) k1 i = some w ∧ b_gt t w) → b_Step T G fz Wr (26, a, v, q) nx W ρ cl (.int zn :: .int zd :: .ref k1 :: .int zs :: .ref k0 :: t) σ L := by
                  intro τz s1 s2 s3
                  obtain ⟨s4, s5, s6⟩ := b_row_ok hG hWr hH (hM.up he) k3 hT1 a2 f3 s2 s3
                  refine ⟨nx, cl, t, σ.set k1 τz, ?_, s6, _, by rw [← h]; exact List.mem_singleton.mpr rfl, ρ3, he, rfl, s4, s5, h1.up he, b_all2.up he g10, h3, (b_okc (b_okc (b_okc (b_okc (b_okc h4).2).2).2).2).2⟩
                  simp only [m_step]
                  rw [if_pos ⟨by omega, by omega, by omega, hcat⟩, b_nc hin0, b_nc hid0, b_nc his0, s1]
                  rfl
                have hty : ∀ {w : Value} {i : Nat}, b_rd σ k0 i = some w → ∃ t1, c1.2.2.2.2 = [t1] ∧ b_gt t1 w := by
                  intro w i hr
                  obtain ⟨t0, w', m1, m2, m3⟩ := u5 i (b_rd_lt u2 u3 hr)
                  rw [hr] at m2
                  cases m2
                  exact b_sub1_ok f4 (List.mem_of_getElem? m1) m3
                have hmod : ∀ {t1 : b_T} {i : Nat}, c1.2.2.2.2 = [t1] → i < c1.2.2.1 → c1.2.2.2.2[i % c1.2.2.2.1]? = some t1 := by
                  intro t1 i m1 hi
                  obtain ⟨t0, w', m2, -, -⟩ := v5 i hi
                  rw [m1] at m2 ⊢
                  rw [m2]
                  exact congrArg some (List.mem_singleton.mp (List.mem_of_getElem? m2))
                have hlen1 : k1 < σ.length := by rw [hH.1]; exact k3
                have i1 : is0 + in0 ≤ c0.2.2.1 := by omega
                have i2 : id0 + in0 ≤ c1.2.2.1 := by omega
                unfold b_sh at u3 v3
                match z0, z1, u2, u3, v2, v3 with
                | .inr _, _, _, u3, _, _ => exact absurd (a1.symm.trans u3.1) (by decide)
                | _, .inr _, _, _, _, v3 => exact absurd (a2.symm.trans v3.1) (by decide)
                | .inl (t0, .inl xs0), .inl (t1, .inl ys), u2, u3, v2, v3 =>
                  have ht0 : t0 = 0 := by
                    rcases a4 with h | h
                    · have := Nat.eq_of_beq_eq_true h; have := u3.2.1; omega
                    · have := Nat.eq_of_beq_eq_true h; have := u3.2.1; have := u3.2.2.1; omega
                  have ht1 : t1 = 0 := by have := v3.2.1; have := u3.2.1; omega
                  subst ht0
                  subst ht1
                  have l0 := u3.2.2.2
                  have l1 := v3.2.2.2
                  refine hfin (.inl (0, .inl (m_cpy 0 xs0 ys is0 id0 in0))) ?_ ⟨a2, v3.2.1, by decide, by rw [b_cpy_len]; exact l1⟩ ?_
                  · unfold m_acp
                    rw [u2, v2]
                    dsimp only
                    rw [if_pos ⟨rfl, rfl, by omega, by omega⟩]
                  · intro i hi
                    have hrd : b_rd (σ.set k1 (.inl (0, .inl (m_cpy 0 xs0 ys is0 id0 in0)))) k1 i = some (.int (va_cpy (fun j => xs0.getD j 0) (fun j => ys.getD j 0) is0 id0 in0 i)) := by
                      unfold b_rd
                      rw [List.getElem?_set_self hlen1]
                      dsimp only
                      rw [b_cpy_at (by omega)]
                      rfl
                    rw [hrd]
                    unfold va_cpy
                    split
                    · rename_i hc
                      have hlt : is0 + (i - id0) < xs0.length := by omega
                      have hr0 : b_rd σ k0 (is0 + (i - id0)) = some (.int (xs0.getD (is0 + (i - id0)) 0)) := by
                        unfold b_rd
                        rw [u2]
                        dsimp only
                        rw [List.getElem?_eq_getElem hlt]
                        simp [List.getD, List.getElem?_eq_getElem hlt]
                      obtain ⟨t1, m1, m2⟩ := hty hr0
                      exact ⟨t1, _, hmod m1 hi, rfl, m2⟩
                    · have hlt : i < ys.length := by omega
                      obtain ⟨t1, w', m1, m2, m3⟩ := v5 i hi
                      have : w' = .int (ys.getD i 0) := by
                        unfold b_rd at m2
                        rw [v2] at m2
                        dsimp only at m2
                        rw [List.getElem?_eq_getElem hlt] at m2
                        simp only [Option.map_some, Option.some.injEq] at m2
                        rw [← m2]
                        simp [List.getD, List.getElem?_eq_getElem hlt]
                      rw [this] at m3
                      exact ⟨t1, _, m1, rfl, m3⟩
                | .inl (t0, .inr (.inl xs0)), .inl (t1, .inr (.inl ys)), u2, u3, v2, v3 =>
                  have ht0 : t0 = 3 := u3.2.2.1
                  have ht1 : t1 = 3 := v3.2.2.1
                  subst ht0
                  subst ht1
                  have l0 := u3.2.2.2
                  have l1 := v3.2.2.2
                  refine hfin (.inl (3, .inr (.inl (m_cpy 0 xs0 ys is0 id0 in0)))) ?_ ⟨a2, v3.2.1, rfl, by rw [b_cpy_len]; exact l1⟩ ?_
                  · unfold m_acp
                    rw [u2, v2]
                    dsimp only
                    rw [if_pos ⟨rfl, rfl, by omega, by omega⟩]
                  · intro i hi
                    have hrd : b_rd (σ.set k1 (.inl (3, .inr (.inl (m_cpy 0 xs0 ys is0 id0 in0))))) k1 i = some (.long (va_cpy (fun j => xs0.getD j 0) (fun j => ys.getD j 0) is0 id0 in0 i)) := by
                      unfold b_rd
                      rw [List.getElem?_set_self hlen1]
                      dsimp only
                      rw [b_cpy_at (by omega)]
                      rfl
                    rw [hrd]
                    unfold va_cpy
                    split
                    · rename_i hc
                      have hlt : is0 + (i - id0) < xs0.length := by omega
                      have hr0 : b_rd σ k0 (is0 + (i - id0)) = some (.long (xs0.getD (is0 + (i - id0)) 0)) := by
                        unfold b_rd
                        rw [u2]
                        dsimp only
                        rw [List.getElem?_eq_getElem hlt]
                        simp [List.getD, List.getElem?_eq_getElem hlt]
                      obtain ⟨t1, m1, m2⟩ := hty hr0
                      exact ⟨t1, _, hmod m1 hi, rfl, m2⟩
                    · have hlt : i < ys.length := by omega
                      obtain ⟨t1, w', m1, m2, m3⟩ := v5 i hi
                      have : w' = .long (ys.getD i 0) := by
                        unfold b_rd at m2
                        rw [v2] at m2
                        dsimp only at m2
                        rw [List.getElem?_eq_getElem hlt] at m2
                        simp only [Option.map_some, Option.some.injEq] at m2
                        rw [← m2]
                        simp [List.getD, List.getElem?_eq_getElem hlt]
                      rw [this] at m3
                      exact ⟨t1, _, m1, rfl, m3⟩
                | .inl (t0, .inl _), .inl (t1, .inr (.inl _)), _, u3, _, v3 => have := u3.2.2.1; have := v3.2.2.1; have := u3.2.1; have := v3.2.1; omega
                | .inl (t0, .inr (.inl _)), .inl (t1, .inl _), _, u3, _, v3 => have := u3.2.2.1; have := v3.2.2.1; have := u3.2.1; have := v3.2.1; omega
                | .inl (t0, .inr (.inr _)), _, _, u3, _, _ =>
                  rcases a4 with h | h
                  · have := Nat.eq_of_beq_eq_true h; have := u3.2.1; have := u3.2.2.1; omega
                  · have := Nat.eq_of_beq_eq_true h; have := u3.2.1; have := u3.2.2.1; omega
                | _, .inl (t1, .inr (.inr _)), _, _, _, v3 =>
                  rcases a4 with h | h
                  · have := Nat.eq_of_beq_eq_true h; have := v3.2.1; have := v3.2.2.1; omega
                  · have := Nat.eq_of_beq_eq_true h; have := v3.2.1; have := v3.2.2.1; omega
              | false => rw [e2] at h; cases h
            · cases h
          | false => rw [e] at h; cases h
        · cases h
      · cases h
    · cases h
  · cases h
end B73
end
section
/-! ONE STEP, whichever it is (calls and ends aside) -/
noncomputable def b_loc (T : Nat → Option b_C) (Z : Nat → Option (List Int32)) (dep Wr : Nat → Nat → Bool) (W : b_NF) (M : b_M) (I : m_I) (nx : Nat) (lv : b_Lv) (st : List b_V) : b_H :=
  bif Nat.ble I.1 43 then (bif Nat.ble I.1 12 then (bif Nat.ble I.1 5 then (bif Nat.ble I.1 2 then (bif Nat.beq I.1 2 then b_h2 W M I.2.1 I.2.2.1 nx lv st else bif Nat.beq I.1 0 then b_h0 W M I.2.2.1 nx lv st else b_h1 W M I.2.2.1 nx lv st)
      else (bif Nat.beq I.1 5 then b_h5 W M I.2.1 nx lv st else bif Nat.beq I.1 3 then b_h3 W M I.2.1 I.2.2.1 nx lv st else b_h4 W M I.2.1 I.2.2.1 nx lv st))
    else (bif Nat.ble I.1 9 then (bif Nat.ble I.1 7 then (bif Nat.beq I.1 6 then b_h6 W M I.2.1 nx lv st else b_h7 W M I.2.1 nx lv st) else (bif Nat.beq I.1 8 then b_h8 W M nx lv st else b_h9 W M I.2.1 nx lv st))
      else (bif Nat.beq I.1 12 then b_h12 W M I.2.1 I.2.2.1 nx lv st else bif Nat.beq I.1 11 then b_h11 W M I.2.1 I.2.2.1 nx lv st else some [(W, M, I.2.1, lv, st)])))
    else (bif Nat.ble I.1 18 then (bif Nat.ble I.1 15 then (bif Nat.beq I.1 15 then b_h15 T W M I.2.1 I.2.2.1 nx lv st else bif Nat.beq I.1 13 then b_h13 W M I.2.1 I.2.2.1 I.2.2.2 lv st else b_h14 W M I.2.1 I.2.2.2 lv st) else (bif Nat.beq I.1 16 then b_h16 T dep Wr W M I.2.1 I.2.2.1 nx lv st else bif Nat.beq I.1 18 then b_h18 T Z W M I.2.1 nx lv st else none))
      else (bif Nat.ble I.1 26 then (bif Nat.beq I.1 19 then b_h19 T dep Wr W M I.2.1 nx lv st else bif Nat.beq I.1 20 then b_h20 T Z W M nx lv st else bif Nat.beq I.1 26 then b_h26 T dep Wr W M nx lv st else none)
        else (bif Nat.beq I.1 28 then b_h28 W M I.2.1 nx lv st else bif Nat.beq I.1 40 then b_h40 W M I.2.1 nx lv st else bif Nat.beq I.1 41 then b_h41 W M I.2.1 nx lv st else bif Nat.beq I.1 43 then b_h43 Z W M nx lv st else none)))) else none
section B74
variable {T : Nat → Option b_C} {Z : Nat → Option (List Int32)} {G : b_G} {fz : List (List Int32)} {dep Wr : Nat → Nat → Bool} {ρ : Nat → Int} {W : b_NF} {M : b_M} {cl : m_V} {cs : List Value} {σ : m_S} {lv : b_Lv} {st : List b_V} {L : List b_R} {nx : Nat}
theorem b_loc_ok {I : m_I} (hG : b_GOk G dep) (hD : b_DepOk dep) (hWr : b_WrOk T Wr) (hZ : b_ZOk Z G fz) (hW : b_gW W ρ) (hH : b_gH T σ) (hM : b_gM G fz W.1.1 ρ σ M) (hf : b_gf W.1.1 ρ lv st cl cs) (h : b_loc T Z dep Wr W M I nx lv st = some L) : b_Step T G fz Wr I nx W ρ cl cs σ L := by
  obtain ⟨op, a, v, q⟩ := I
  cases hb : Nat.ble op 43 with
  | false =>
    unfold b_loc at h
    dsimp only at h
    rw [hb] at h
    cases h
  | true =>
    have hle : op ≤ 43 := Nat.le_of_ble_eq_true hb
    match op, hle, h with
    | 0, _, h => exact b_h0_ok hW hH hM hf h
    | 1, _, h => exact b_h1_ok hW hH hM hf h
    | 2, _, h => exact b_h2_ok hW hH hM hf h
    | 3, _, h => exact b_h3_ok hW hH hM hf h
    | 4, _, h => exact b_h4_ok hW hH hM hf h
    | 5, _, h => exact b_h5_ok hW hH hM hf h
    | 6, _, h => exact b_h6_ok hW hH hM hf h
    | 7, _, h => exact b_h7_ok hW hH hM hf h
    | 8, _, h => exact b_h8_ok hW hH hM hf h
    | 9, _, h => exact b_h9_ok hW hH hM hf h
    | 10, _, h =>
      have h : some [(W, M, a, lv, st)] = some L := h
      cases h
      exact b_h10_ok hW hH hM hf
    | 11, _, h => exact b_h11_ok hW hH hM hf h
    | 12, _, h => exact b_h12_ok hW hH hM hf h
    | 13, _, h => exact b_h13_ok hW hH hM hf h
    | 14, _, h => exact b_h14_ok hW hH hM hf h
    | 15, _, h => exact b_h15_ok hW hH hM hf h
    | 16, _, h => exact b_h16_ok hG hD hWr hW hH hM hf h
    | 17, _, h => have h : (none : b_H) = some L := h; cases h
    | 18, _, h => exact b_h18_ok hZ hW hH hM hf h
    | 19, _, h => exact b_h19_ok hG hD hWr hW hH hM hf h
    | 20, _, h => exact b_h20_ok hZ hW hH hM hf h
    | 21, _, h => have h : (none : b_H) = some L := h; cases h
    | 22, _, h => have h : (none : b_H) = some L := h; cases h
    | 23, _, h => have h : (none : b_H) = some L := h; cases h
    | 24, _, h => have h : (none : b_H) = some L := h; cases h
    | 25, _, h => have h : (none : b_H) = some L := h; cases h
    | 26, _, h => exact b_h26_ok hG hWr hW hH hM hf h
    | 27, _, h => have h : (none : b_H) = some L := h; cases h
    | 28, _, h => exact b_h28_ok hW hH hM hf h
    | 29, _, h => have h : (none : b_H) = some L := h; cases h
    | 30, _, h => have h : (none : b_H) = some L := h; cases h
    | 31, _, h => have h : (none : b_H) = some L := h; cases h
    | 32, _, h => have h : (none : b_H) = some L := h; cases h
    | 33, _, h => have h : (none : b_H) = some L := h; cases h
    | 34, _, h => have h : (none : b_H) = some L := h; cases h
    | 35, _, h => have h : (none : b_H) = some L := h; cases h
    | 36, _, h => have h : (none : b_H) = some L := h; cases h
    | 37, _, h => have h : (none : b_H) = some L := h; cases h
    | 38, _, h => have h : (none : b_H) = some L := h; cases h
    | 39, _, h => have h : (none : b_H) = some L := h; cases h
    | 40, _, h => exact b_h40_ok hW hH hM hf h
    | 41, _, h => exact b_h41_ok hW hH hM hf h
    | 42, _, h => have h : (none : b_H) = some L := h; cases h
    | 43, _, h => exact b_h43_ok hZ hW hH hM hf h
    | n + 44, hle, _ => omega
end B74
end
section
/-! TEMPLATES: a state with symbols of its own (bounds, facts, locals, stack, memory), which a state that arrives is held against. A symbol is bound where it stands first, alone, in locals, stack, memory. -/
abbrev b_Tp : Type := List b_B × b_F × b_Lv × List b_V × b_M
def b_toN (l : List b_B) : b_N := (l.length, l.reverse)
def b_sbs (θ : List b_L) : List (Nat × Int) → Option b_L
  | [] => some (b_con 0)
  | q :: r => match θ[q.1]?, b_sbs θ r with
    | some y, some z => some (b_add z q.2 y)
    | _, _ => none
def b_sub (θ : List b_L) (x : b_L) : Option b_L := match b_sbs θ x.2 with
  | some z => some (b_adc z x.1)
  | none => none
def b_dv (cf res : Int) (x : b_L) : b_L := ((x.1 - res) / cf, x.2.map fun q => (q.1, q.2 / cf))
def b_nw (θ : List b_L) (v u : b_V) : List b_L := match v.2.2 with
  | [q] => bif Nat.beq q.1 θ.length then θ ++ [b_dv q.2 v.2.1 u.2] else θ
  | _ => θ
def b_mtL (lv : b_Lv) : List b_L → b_Lv → Option (List b_L)
  | θ, [] => some θ
  | θ, q :: r => match b_ld lv q.1 with
    | some u => b_mtL lv (b_nw θ q.2 u) r
    | none => none
def b_mtS : List b_L → List b_V → List b_V → Option (List b_L)
  | θ, [], [] => some θ
  | θ, v :: r, u :: t => b_mtS (b_nw θ v u) r t
  | _, _, _ => none
noncomputable def b_get2 (T : Nat → Option b_C) (W : b_NF) (M : b_M) (cell : Nat) (x : b_L) : Option (b_NF × b_M × b_V) := bif Nat.blt cell 139 then b_get T W M cell x else match b_look cell x M with
  | some v => some (W, M, v)
  | none => none
noncomputable def b_mtM (T : Nat → Option b_C) : b_NF → b_M → List b_L → b_M → Option (b_NF × b_M × List b_L)
  | W, M, θ, [] => some (W, M, θ)
  | W, M, θ, q :: r => match b_sub θ q.2.1 with
    | some y => match b_get2 T W M q.1 y with
      | some U => b_mtM T U.1 U.2.1 (b_nw θ q.2.2 U.2.2) r
      | none => none
    | none => none
def b_zero (N : b_N) (x : b_L) : Bool := b_le0 N x 0 && b_le0 N (b_sca (-1) x) 0
def b_eqv (N : b_N) (θ : List b_L) (v u : b_V) : Bool := bif Nat.beq v.1 u.1 then (bif Nat.ble v.1 1 then (match b_sub θ v.2 with
    | some y => b_zero N (b_add y (-1) u.2)
    | none => false) else Nat.beq v.1 2 && decide (v.2 = u.2)) else false
def b_ckL (N : b_N) (θ : List b_L) (lv : b_Lv) : b_Lv → Bool
  | [] => true
  | q :: r => (match b_ld lv q.1 with
    | some u => b_eqv N θ q.2 u
    | none => false) && b_ckL N θ lv r
def b_ckS (N : b_N) (θ : List b_L) : List b_V → List b_V → Bool
  | [], [] => true
  | v :: r, u :: t => b_eqv N θ v u && b_ckS N θ r t
  | _, _ => false
def b_ckM (N : b_N) (θ : List b_L) (M : b_M) : b_M → Bool
  | [] => true
  | q :: r => (match b_sub θ q.2.1 with
    | some y => (match b_look q.1 y M with
      | some u => b_eqv N θ q.2.2 u
      | none => false)
    | none => false) && b_ckM N θ M r
noncomputable def b_ckB (W : b_NF) : List b_L → List b_B → Bool
  | [], [] => true
  | x :: xs, q :: qs => b_inB W x q && b_ckB W xs qs
  | _, _ => false
noncomputable def b_ckF (W : b_NF) (θ : List b_L) : b_F → Bool
  | [] => true
  | f :: r => (match b_sub θ f with
    | some y => b_le W y 0
    | none => false) && b_ckF W θ r
/-- a quick look, for nothing but speed -/
def b_fast (N : b_N) (lv : b_Lv) : b_Lv → Bool
  | [] => true
  | q :: r => (match q.2.2.2 with
    | [] => (match b_ld lv q.1 with
      | some u => b_zero N (b_add q.2.2 (-1) u.2)
      | none => false)
    | _ => true) && b_fast N lv r
noncomputable def b_match2 (T : Nat → Option b_C) (W : b_NF) (M : b_M) (lv : b_Lv) (st : List b_V) (θ : List b_L) (tp : b_Tp) : Option (b_NF × b_M × List b_L) := bif b_fast W.1 lv tp.2.2.1 then (match b_mtM T W M θ tp.2.2.2.2 with
    | some U => bif b_ckL U.1.1 U.2.2 lv tp.2.2.1 && (b_ckS U.1.1 U.2.2 tp.2.2.2.1 st && (b_ckM U.1.1 U.2.2 U.2.1 tp.2.2.2.2 && (b_ckB U.1 U.2.2 tp.1 && b_ckF U.1 U.2.2 tp.2.1))) then some U else none
    | none => none) else none
noncomputable def b_match (T : Nat → Option b_C) (W : b_NF) (M : b_M) (lv : b_Lv) (st : List b_V) (θ0 : List b_L) (tp : b_Tp) : Option (b_NF × b_M × List b_L) := match b_mtL lv θ0 tp.2.2.1 with
  | some θ1 => match b_mtS θ1 tp.2.2.2.1 st with
    | some θ2 => b_match2 T W M lv st θ2 tp
    | none => none
  | none => none
def b_ul (n : Nat) (x : b_L) : Bool := x.2.all fun q => Nat.blt q.1 n
/-- the template uses its own symbols alone -/
def b_tpu (tp : b_Tp) : Bool := tp.2.1.all (b_ul tp.1.length) && (tp.2.2.1.all (fun q => b_ul tp.1.length q.2.2) && (tp.2.2.2.1.all (fun v => b_ul tp.1.length v.2) && tp.2.2.2.2.all (fun q => b_ul tp.1.length q.2.1 && b_ul tp.1.length q.2.2.2)))
def b_rt (ρ : Nat → Int) (θ : List b_L) (s : Nat) : Int := b_ev ρ (θ.getD s (b_con 0))
def b_pre (θ0 θ : List b_L) : Prop := ∀ (s : Nat) (y : b_L), θ0[s]? = some y → θ[s]? = some y
def b_ua (n : Nat) (θ : List b_L) : Prop := ∀ y ∈ θ, b_u n y
section B75
variable {T : Nat → Option b_C} {G : b_G} {fz : List (List Int32)} {ρ ρ' : Nat → Int} {W : b_NF} {M : b_M} {cl : m_V} {cs : List Value} {σ : m_S} {lv : b_Lv} {st : List b_V} {n : Nat} {θ : List b_L}
theorem b_ul_ok {x : b_L} (h : b_ul n x = true) : b_u n x := fun q hq => Nat.blt_eq.mp (List.all_eq_true.mp h q hq)
theorem b_pre.tr {θ1 θ2 θ3 : List b_L} (h : b_pre θ1 θ2) (g : b_pre θ2 θ3) : b_pre θ1 θ3 := fun s y hy => g s y (h s y hy)
theorem b_nw_ok {v u : b_V} (hθ : b_ua n θ) (hu : b_u n u.2) : b_ua n (b_nw θ v u) ∧ b_pre θ (b_nw θ v u) := by
  unfold b_nw
  split
  · rename_i q hq
    refine b_bif (P := fun θ' => b_ua n θ' ∧ b_pre θ θ') (fun _ => ⟨?_, ?_⟩) (fun _ => ⟨hθ, fun _ _ h => h⟩)
    · intro y hy
      rcases List.mem_append.mp hy with h | h
      · exact hθ y h
      · rw [List.mem_singleton.mp h]
        intro p hp
        obtain ⟨r, h1, rfl⟩ := List.mem_map.mp hp
        exact hu r h1
    · intro s y hy
      rw [List.getElem?_append_left (List.getElem?_eq_some_iff.mp hy).1]
      exact hy
  · exact ⟨hθ, fun _ _ h => h⟩
theorem b_gv_u {v : b_V} {w : Value} (h : b_gv n ρ v w) : b_u n v.2 := by
  obtain ⟨t, x⟩ := v
  unfold b_gv at h
  split at h
  · exact h.2
  · exact h.2
  · dsimp only at h; rw [h]; intro q hq; cases hq
  · obtain ⟨a, h1, -⟩ := h; exact h1.2
  · exact h.elim
theorem b_mtL_ok (hl : b_gl n ρ lv cl) : ∀ {l : b_Lv} {θ θ' : List b_L}, b_ua n θ → b_mtL lv θ l = some θ' → b_ua n θ' ∧ b_pre θ θ'
  | [], θ, θ', hθ, h => by cases h; exact ⟨hθ, fun _ _ h => h⟩
  | q :: r, θ, θ', hθ, h => by
    unfold b_mtL at h
    split at h
    · rename_i u hu
      obtain ⟨w, -, h2⟩ := hl _ _ hu
      obtain ⟨g1, g2⟩ := b_nw_ok (v := q.2) hθ (b_gv_u h2)
      obtain ⟨g3, g4⟩ := b_mtL_ok hl g1 h
      exact ⟨g3, g2.tr g4⟩
    · cases h
theorem b_mtS_ok : ∀ {l st : List b_V} {cs : List Value} {θ θ' : List b_L}, a_all2 (b_gv n ρ) st cs → b_ua n θ → b_mtS θ l st = some θ' → b_ua n θ' ∧ b_pre θ θ'
  | [], [], _, θ, θ', _, hθ, h => by cases h; exact ⟨hθ, fun _ _ h => h⟩
  | v :: r, u :: t, cs, θ, θ', hs, hθ, h => by
    obtain ⟨w, cs', rfl, g1, g2⟩ := b_cons hs
    obtain ⟨g3, g4⟩ := b_nw_ok (v := v) hθ (b_gv_u g1)
    obtain ⟨g5, g6⟩ := b_mtS_ok (l := r) (st := t) g2 g3 h
    exact ⟨g5, g4.tr g6⟩
theorem b_ua.up {W' : b_NF} (he : b_ext W ρ W' ρ') (h : b_ua W.1.1 θ) : b_ua W'.1.1 θ := fun y hy q hq => Nat.lt_of_lt_of_le (h y hy q hq) he.1
theorem b_rt_ok {s : Nat} {y : b_L} (hθ : b_ua n θ) (h : θ[s]? = some y) : b_gx n ρ y (b_rt ρ θ s) := by
  refine ⟨?_, hθ y (List.mem_of_getElem? h)⟩
  unfold b_rt
  simp [List.getD, h]
theorem b_sbs_ok (hθ : b_ua n θ) : ∀ {l : List (Nat × Int)} {z : b_L}, b_sbs θ l = some z → b_gx n ρ z (b_evs (b_rt ρ θ) l)
  | [], z, h => by cases h; exact b_gx.con 0
  | q :: r, z, h => by
    unfold b_sbs at h
    split at h
    · rename_i y w h1 h2
      cases h
      have g := (b_sbs_ok hθ h2).add q.2 (b_rt_ok hθ h1)
      have e : b_evs (b_rt ρ θ) (q :: r) = b_evs (b_rt ρ θ) r + q.2 * b_rt ρ θ q.1 := by simp only [b_evs]; omega
      rw [e]
      exact g
    · cases h
theorem b_sub_ok (hθ : b_ua n θ) {x y : b_L} (h : b_sub θ x = some y) : b_gx n ρ y (b_ev (b_rt ρ θ) x) := by
  unfold b_sub at h
  split at h
  · rename_i z hz
    cases h
    have g := (b_sbs_ok (ρ := ρ) hθ hz).adc x.1
    have e : b_ev (b_rt ρ θ) x = b_evs (b_rt ρ θ) x.2 + x.1 := by simp only [b_ev]; omega
    rw [e]
    exact g
  · cases h
theorem b_sbs_pre {θ' : List b_L} (hp : b_pre θ θ') : ∀ {l : List (Nat × Int)} {z : b_L}, b_sbs θ l = some z → b_sbs θ' l = some z
  | [], z, h => h
  | q :: r, z, h => by
    unfold b_sbs at h ⊢
    split at h
    · rename_i y w h1 h2
      rw [hp _ _ h1, b_sbs_pre hp h2]
      exact h
    · cases h
theorem b_sub_pre {θ' : List b_L} (hp : b_pre θ θ') {x y : b_L} (h : b_sub θ x = some y) : b_sub θ' x = some y := by
  unfold b_sub at h ⊢
  split at h
  · rename_i z hz
    rw [b_sbs_pre hp hz]
    exact h
  · cases h
theorem b_zero_ok (hN : b_gN W.1 ρ) {x : b_L} (h : b_zero W.1 x = true) : b_ev ρ x = 0 := by
  unfold b_zero at h
  rw [Bool.and_eq_true] at h
  have h1 := b_le0_ok hN h.1
  have h2 := b_le0_ok hN h.2
  rw [b_sca_ev] at h2
  omega
/-- the template's value stands for what the arriving value stands for -/
theorem b_eqv_ok {θ' : List b_L} {m : Nat} (hN : b_gN W.1 ρ) (hθ : b_ua W.1.1 θ') (hp : b_pre θ θ') {v u : b_V} {w : Value} (hv : b_u m v.2) (hu : b_gv W.1.1 ρ u w) (h : b_eqv W.1 θ v u = true) : b_gv m (b_rt ρ θ') v w := by
  unfold b_eqv at h
  cases e : Nat.beq v.1 u.1 with
  | true =>
    rw [e] at h
    have e := Nat.eq_of_beq_eq_true e
    simp only [cond_true] at h
    cases e2 : Nat.ble v.1 1 with
    | true =>
      rw [e2] at h
      simp only [cond_true] at h
      have e2 : v.1 ≤ 1 := Nat.le_of_ble_eq_true e2
      split at h
      · rename_i y hy
        have g1 := b_sub_ok (ρ := ρ) hθ (b_sub_pre hp hy)
        have key : ∀ a, b_gx W.1.1 ρ u.2 a → b_gx m (b_rt ρ θ') v.2 a := by
          intro a ha
          have g2 := b_zero_ok hN h
          rw [(g1.add (-1) ha).1] at g2
          exact ⟨by omega, hv⟩
        obtain ⟨t, x⟩ := v
        obtain ⟨t', x'⟩ := u
        dsimp only at e e2 key
        subst e
        unfold b_gv at hu ⊢
        dsimp only at hu ⊢
        split at hu
        · exact key _ hu
        · exact key _ hu
        · omega
        · omega
        · exact hu.elim
      · cases h
    | false =>
      rw [e2] at h
      simp only [cond_false, Bool.and_eq_true, decide_eq_true_eq] at h
      have h1 := Nat.eq_of_beq_eq_true h.1
      obtain ⟨t, x⟩ := v
      obtain ⟨t', x'⟩ := u
      dsimp only at e h1 h
      subst e
      subst h1
      unfold b_gv at hu ⊢
      dsimp only at hu ⊢
      split at hu
      · rename_i e3; cases e3
      · rename_i e3; cases e3
      · show x = _
        rw [h.2]; exact hu
      · rename_i e3; cases e3
      · exact hu.elim
  | false => rw [e] at h; cases h
theorem b_ckL_ok {θ' : List b_L} {m : Nat} (hN : b_gN W.1 ρ) (hθ : b_ua W.1.1 θ') (hp : b_pre θ θ') (hl : b_gl W.1.1 ρ lv cl) : ∀ {l : b_Lv}, (∀ q ∈ l, b_u m q.2.2) → b_ckL W.1 θ lv l = true → b_gl m (b_rt ρ θ') l cl
  | [], _, _ => fun i v h => by cases h
  | q :: r, hu, h => by
    unfold b_ckL at h
    rw [Bool.and_eq_true] at h
    intro i v hv
    unfold b_ld at hv
    cases e : Nat.beq q.1 i with
    | true =>
      rw [e] at hv
      cases hv
      have h1 := h.1
      split at h1
      · rename_i u hu2
        obtain ⟨w, g1, g2⟩ := hl _ _ hu2
        rw [Nat.eq_of_beq_eq_true e] at g1
        exact ⟨w, g1, b_eqv_ok hN hθ hp (hu q List.mem_cons_self) g2 h1⟩
      · cases h1
    | false =>
      rw [e] at hv
      exact b_ckL_ok hN hθ hp hl (fun p hp2 => hu p (List.mem_cons_of_mem _ hp2)) h.2 i v hv
theorem b_ckS_ok {θ' : List b_L} {m : Nat} (hN : b_gN W.1 ρ) (hθ : b_ua W.1.1 θ') (hp : b_pre θ θ') : ∀ {l st : List b_V} {cs : List Value}, (∀ v ∈ l, b_u m v.2) → a_all2 (b_gv W.1.1 ρ) st cs → b_ckS W.1 θ l st = true → a_all2 (b_gv m (b_rt ρ θ')) l cs
  | [], [], [], _, _, _ => trivial
  | [], [], _ :: _, _, h, _ => h.elim
  | v :: r, u :: t, cs, hu, hs, h => by
    obtain ⟨w, cs', rfl, g1, g2⟩ := b_cons hs
    unfold b_ckS at h
    rw [Bool.and_eq_true] at h
    exact ⟨b_eqv_ok hN hθ hp (hu v List.mem_cons_self) g1 h.1, b_ckS_ok hN hθ hp (fun p hp2 => hu p (List.mem_cons_of_mem _ hp2)) g2 h.2⟩
theorem b_ckM_ok {m : Nat} (hN : b_gN W.1 ρ) (hθ : b_ua W.1.1 θ) (hM : b_gM G fz W.1.1 ρ σ M) : ∀ {l : b_M}, (∀ q ∈ l, b_u m q.2.1 ∧ b_u m q.2.2.2) → b_ckM W.1 θ M l = true → b_gM G fz m (b_rt ρ θ) σ l
  | [], _, _ => fun q h => by cases h
  | p :: r, hu, h => by
    unfold b_ckM at h
    rw [Bool.and_eq_true] at h
    intro q hq
    rcases List.mem_cons.mp hq with rfl | hq
    · have h1 := h.1
      split at h1
      · rename_i y hy
        split at h1
        · rename_i u hl
          obtain ⟨a, g1, g2⟩ := hM _ (b_look_mem hl)
          dsimp only at g1 g2
          have g3 := b_sub_ok (ρ := ρ) hθ hy
          obtain ⟨u1, u2⟩ := hu q List.mem_cons_self
          have ea : b_ev (b_rt ρ θ) q.2.1 = a := by rw [← g3.1, g1.1]
          refine ⟨a, ⟨ea, u1⟩, ?_⟩
          by_cases c1 : q.1 < 139
          · rw [if_pos c1] at g2 ⊢
            obtain ⟨i, e1, w, g4, g5⟩ := g2
            exact ⟨i, e1, w, g4, b_eqv_ok hN hθ (fun _ _ h => h) u2 g5 h1⟩
          · rw [if_neg c1] at g2 ⊢
            by_cases c2 : q.1 < m_fzb
            · rw [if_pos c2] at g2 ⊢
              have g6 : b_gv W.1.1 ρ u (.int (Int32.ofInt 0)) ∨ True := Or.inr trivial
              unfold b_eqv at h1
              cases e : Nat.beq q.2.2.1 u.1 with
              | true =>
                rw [e] at h1
                have e := Nat.eq_of_beq_eq_true e
                rw [g2.1] at e
                have : Nat.ble q.2.2.1 1 = true := by rw [e]; rfl
                rw [this] at h1
                simp only [cond_true] at h1
                split at h1
                · rename_i y2 hy2
                  have k1 := b_sub_ok (ρ := ρ) hθ hy2
                  have k2 := b_zero_ok hN h1
                  rw [(k1.add (-1) g2.2).1] at k2
                  exact ⟨e, by omega, u2⟩
                · cases h1
              | false => rw [e] at h1; cases h1
            · rw [if_neg c2] at g2 ⊢
              obtain ⟨i, e1, zs, z, g4, g5, g6⟩ := g2
              exact ⟨i, e1, zs, z, g4, g5, b_eqv_ok hN hθ (fun _ _ h => h) u2 g6 h1⟩
        · cases h1
      · cases h1
    · exact b_ckM_ok hN hθ hM (fun p hp2 => hu p (List.mem_cons_of_mem _ hp2)) h.2 q hq
theorem b_ckB_ok (hW : b_gW W ρ) : ∀ {θ : List b_L} {l : List b_B}, b_ckB W θ l = true → θ.length = l.length ∧ ∀ (s : Nat) (q : b_B), l[s]? = some q → b_gB q (b_rt ρ θ s)
  | [], [], _ => ⟨rfl, fun s q h => by cases h⟩
  | x :: xs, p :: qs, h => by
    unfold b_ckB at h
    rw [Bool.and_eq_true] at h
    obtain ⟨g1, g2⟩ := b_ckB_ok hW h.2
    refine ⟨by simp [g1], fun s q hq => ?_⟩
    match s, hq with
    | 0, hq => cases hq; exact b_inB_ok hW h.1
    | s + 1, hq => exact g2 s q hq
theorem b_ckF_ok (hW : b_gW W ρ) (hθ : b_ua W.1.1 θ) : ∀ {l : b_F}, b_ckF W θ l = true → ∀ f ∈ l, b_ev (b_rt ρ θ) f ≤ 0
  | [], _, f, hf => by cases hf
  | g :: r, h, f, hf => by
    unfold b_ckF at h
    rw [Bool.and_eq_true] at h
    rcases List.mem_cons.mp hf with rfl | hf
    · have h1 := h.1
      split at h1
      · rename_i y hy
        have k1 := b_sub_ok (ρ := ρ) hθ hy
        have k2 := b_le_ok hW h1
        rw [k1.1] at k2
        exact k2
      · cases h1
    · exact b_ckF_ok hW hθ h.2 f hf
theorem b_toN_at (l : List b_B) (s : Nat) : b_at (b_toN l) s = l[s]? := by
  unfold b_at b_toN
  dsimp only
  cases e : Nat.blt s l.length with
  | true =>
    have h := Nat.blt_eq.mp e
    simp only [cond_true]
    rw [List.getElem?_reverse (by omega)]
    congr 1
    omega
  | false =>
    simp only [cond_false]
    have h : ¬ s < l.length := fun h9 => by rw [Nat.blt_eq.mpr h9] at e; cases e
    exact (List.getElem?_eq_none_iff.mpr (by omega)).symm
end B75
end
section
/-! a template that is met -/
section B76
variable {T : Nat → Option b_C} {G : b_G} {fz : List (List Int32)} {ρ : Nat → Int} {W : b_NF} {M : b_M} {cl : m_V} {cs : List Value} {σ : m_S} {lv : b_Lv} {st : List b_V}
theorem b_get2_ok (hW : b_gW W ρ) (hH : b_gH T σ) (hM : b_gM G fz W.1.1 ρ σ M) {cell : Nat} {x : b_L} {a : Int} (hx : b_gx W.1.1 ρ x a) {U : b_NF × b_M × b_V} (h : b_get2 T W M cell x = some U) :
    ∃ ρ', b_ext W ρ U.1 ρ' ∧ b_gM G fz U.1.1.1 ρ' σ U.2.1 ∧ b_u U.1.1.1 U.2.2.2 := by
  unfold b_get2 at h
  cases e : Nat.blt cell 139 with
  | true =>
    rw [e] at h
    simp only [cond_true] at h
    obtain ⟨U1, U2, U3⟩ := U
    obtain ⟨ρ', i, w, g1, g2, g3, g4, g5⟩ := b_get_ok hW hH hM (Nat.blt_eq.mp e) hx h
    exact ⟨ρ', g1, g2, b_gv_u g5⟩
  | false =>
    rw [e] at h
    simp only [cond_false] at h
    have hc : ¬ cell < 139 := fun h9 => by rw [Nat.blt_eq.mpr h9] at e; cases e
    split at h
    · rename_i v hl
      cases h
      refine ⟨ρ, b_ext.rf hW, hM, ?_⟩
      obtain ⟨a', g1, g2⟩ := hM _ (b_look_mem hl)
      dsimp only at g1 g2 ⊢
      rw [if_neg hc] at g2
      by_cases c2 : cell < m_fzb
      · rw [if_pos c2] at g2
        exact g2.2.2
      · rw [if_neg c2] at g2
        obtain ⟨i, e1, zs, z, g4, g5, g6⟩ := g2
        exact b_gv_u g6
    · cases h
theorem b_mtM_ok (hH : b_gH T σ) : ∀ {l : b_M} {W : b_NF} {M : b_M} {θ : List b_L} {ρ : Nat → Int} {U : b_NF × b_M × List b_L}, b_gW W ρ → b_gM G fz W.1.1 ρ σ M → b_ua W.1.1 θ → b_mtM T W M θ l = some U → ∃ ρ', b_ext W ρ U.1 ρ' ∧ b_gM G fz U.1.1.1 ρ' σ U.2.1 ∧ b_ua U.1.1.1 U.2.2 ∧ b_pre θ U.2.2
  | [], W, M, θ, ρ, U, hW, hM, hθ, h => by cases h; exact ⟨ρ, b_ext.rf hW, hM, hθ, fun _ _ h => h⟩
  | q :: r, W, M, θ, ρ, U, hW, hM, hθ, h => by
    unfold b_mtM at h
    split at h
    · rename_i y hy
      split at h
      · rename_i V hV
        obtain ⟨ρ1, g1, g2, g3⟩ := b_get2_ok hW hH hM (b_sub_ok (ρ := ρ) hθ hy) hV
        obtain ⟨g4, g5⟩ := b_nw_ok (v := q.2.2) (hθ.up g1) g3
        obtain ⟨ρ2, k1, k2, k3, k4⟩ := b_mtM_ok hH g1.2.2 g2 g4 h
        exact ⟨ρ2, g1.tr k1, k2, k3, g5.tr k4⟩
      · cases h
    · cases h
/-- a template's own state -/
def b_gT (G : b_G) (fz : List (List Int32)) (ρ : Nat → Int) (σ : m_S) (tp : b_Tp) : Prop := b_gW (b_toN tp.1, tp.2.1) ρ ∧ b_gM G fz tp.1.length ρ σ tp.2.2.2.2
theorem b_match_ok {θ0 : List b_L} {tp : b_Tp} (hu : b_tpu tp = true) (hW : b_gW W ρ) (hH : b_gH T σ) (hM : b_gM G fz W.1.1 ρ σ M) (hl : b_gl W.1.1 ρ lv cl) (hs : a_all2 (b_gv W.1.1 ρ) st cs) (hθ : b_ua W.1.1 θ0) {U : b_NF × b_M × List b_L} (h : b_match T W M lv st θ0 tp = some U) :
    ∃ ρ', b_ext W ρ U.1 ρ' ∧ b_gM G fz U.1.1.1 ρ' σ U.2.1 ∧ b_ua U.1.1.1 U.2.2 ∧ b_pre θ0 U.2.2 ∧ U.2.2.length = tp.1.length ∧ b_gT G fz (b_rt ρ' U.2.2) σ tp ∧ b_gl tp.1.length (b_rt ρ' U.2.2) tp.2.2.1 cl ∧ a_all2 (b_gv tp.1.length (b_rt ρ' U.2.2)) tp.2.2.2.1 cs := by
  unfold b_tpu at hu
  simp only [Bool.and_eq_true] at hu
  obtain ⟨u1, u2, u3, u4⟩ := hu
  unfold b_match at h
  split at h
  · rename_i θ1 h1
    split at h
    · rename_i θ2 h2
      obtain ⟨a1, a2⟩ := b_mtL_ok hl hθ h1
      obtain ⟨a3, a4⟩ := b_mtS_ok hs a1 h2
      unfold b_match2 at h
      cases e : b_fast W.1 lv tp.2.2.1 with
      | true =>
        rw [e] at h
        simp only [cond_true] at h
        split at h
        · rename_i V hV
          cases e2 : b_ckL V.1.1 V.2.2 lv tp.2.2.1 && (b_ckS V.1.1 V.2.2 tp.2.2.2.1 st && (b_ckM V.1.1 V.2.2 V.2.1 tp.2.2.2.2 && (b_ckB V.1 V.2.2 tp.1 && b_ckF V.1 V.2.2 tp.2.1))) with
          | true =>
            rw [e2] at h
            simp only [Bool.and_eq_true] at e2
            obtain ⟨f1, f2, f3, f4, f5⟩ := e2
            obtain ⟨ρ', g1, g2, g3, g4⟩ := b_mtM_ok hH hW hM a3 hV
            obtain ⟨k1, k2⟩ := b_ckB_ok g1.2.2 f4
            have k3 := b_ckF_ok g1.2.2 g3 f5
            have k4 := b_ckM_ok (m := tp.1.length) g1.2.2.1 g3 g2 (fun q hq => by
              have := List.all_eq_true.mp u4 q hq
              rw [Bool.and_eq_true] at this
              exact ⟨b_ul_ok this.1, b_ul_ok this.2⟩) f3
            have k5 := b_ckL_ok (m := tp.1.length) g1.2.2.1 g3 (fun _ _ h => h) (hl.up g1) (fun q hq => b_ul_ok (List.all_eq_true.mp u2 q hq)) f1
            have k6 := b_ckS_ok (m := tp.1.length) g1.2.2.1 g3 (fun _ _ h => h) (fun v hv => b_ul_ok (List.all_eq_true.mp u3 v hv)) (b_all2.up g1 hs) f2
            cases h
            exact ⟨ρ', g1, g2, g3, (a2.tr a4).tr g4, k1, ⟨⟨⟨by simp [b_toN], fun s q hq => k2 s q (by rw [← b_toN_at]; exact hq)⟩, fun f hf => ⟨k3 f hf, b_ul_ok (List.all_eq_true.mp u1 f hf)⟩⟩, k4⟩, k5, k6⟩
          | false => rw [e2] at h; cases h
        · cases h
      | false => rw [e] at h; cases h
    · cases h
  · cases h
end B76
end
section
/-! CONTRACTS: number of the method, height of its frames, what holds ahead (arguments as the stack), places written, what holds behind (one of several; the first symbols are the entry's) -/
abbrev b_K : Type := Nat × Nat × b_Tp × List (Nat × Nat) × List b_Tp
def b_wrf (wr : List (Nat × Nat)) (k i : Nat) : Bool := wr.any fun p => Nat.beq p.1 k && (Nat.beq p.2 0 || Nat.beq p.2 (i + 1))
def b_win (F : Nat → Nat → Option (m_I × Nat)) (fz : List (List Int32)) (Fin : Option Value → m_S → Prop) (fs : List m_Fr) (σ : m_S) : Prop := ∃ n o, m_go F fz n fs σ = some o ∧ Fin o.1 o.2
def b_ret (F : Nat → Nat → Option (m_I × Nat)) (fz : List (List Int32)) (Fin : Option Value → m_S → Prop) (gs : List m_Fr) (r : Option Value) (σ : m_S) : Prop := match gs with
  | [] => Fin r σ
  | g :: hs => b_win F fz Fin ((g.1, g.2.1, g.2.2.1, r.toList ++ g.2.2.2) :: hs) σ
def b_out (T : Nat → Option b_C) (G : b_G) (fz : List (List Int32)) (g : Nat) (ρ : Nat → Int) (σ : m_S) (wr : List (Nat × Nat)) (po : b_Tp) (r : Option Value) (σ' : m_S) : Prop :=
  ∃ ρ', b_agr g ρ ρ' ∧ b_gT G fz ρ' σ' po ∧ b_gH T σ' ∧ a_all2 (b_gv po.1.length ρ') po.2.2.2.1 r.toList ∧ r.toList.all (m_okv 139) = true ∧ b_frame (b_wrf wr) σ σ'
def b_Valid (F : Nat → Nat → Option (m_I × Nat)) (fz : List (List Int32)) (T : Nat → Option b_C) (G : b_G) (c : b_K) : Prop :=
  ∀ (Fin : Option Value → m_S → Prop) (ρ : Nat → Int) (σ : m_S) (gs : List m_Fr) (ws : List Value), b_gT G fz ρ σ c.2.2.1 → b_gH T σ → a_all2 (b_gv c.2.2.1.1.length ρ) c.2.2.1.2.2.2.1 ws → ws.all (m_okv 139) = true → gs.length + c.2.1 ≤ 60 →
    (∀ r σ', (∃ po ∈ c.2.2.2.2, b_out T G fz c.2.2.1.1.length ρ σ c.2.2.2.1 po r σ') → b_ret F fz Fin gs r σ') → b_win F fz Fin ((c.1, 0, lv_args 0 ws, []) :: gs) σ
def b_keep (dep : Nat → Nat → Bool) (wr : List (Nat × Nat)) (M : b_M) : b_M := M.filter fun q => !(wr.any fun p => (Nat.beq p.1 q.1 && (Nat.beq p.2 0 || (match q.2.1.2 with
  | [] => decide (q.2.1.1 + 1 = (p.2 : Int))
  | _ => true))) || dep q.1 p.1)
def b_exts : b_NF → List b_L → List b_B → b_NF × List b_L
  | W, θ, [] => (W, θ)
  | W, θ, q :: r => b_exts (b_fresh W q.1 q.2.1 q.2.2).1 (θ ++ [(b_fresh W q.1 q.2.1 q.2.2).2]) r
def b_setm (W : b_NF) (x : b_L) (mk : Nat) : b_NF := match x.2 with
  | [e] => bif decide (x.1 = 0) && decide (e.2 = 1) then (match b_at W.1 e.1 with
    | some b => (b_sb W.1 e.1 (b.1, b.2.1, bif Nat.beq b.2.2 0 then mk else b.2.2 &&& mk), W.2)
    | none => W) else W
  | _ => W
noncomputable def b_lrB (W : b_NF) (x : b_L) (p q : b_B) : List b_NF :=
  (bif decide (p.1 < q.1) then b_lrn (bif Nat.beq p.2.2 q.2.2 then W else b_setm W x q.2.2) (b_adc (b_neg x) q.1) else [bif Nat.beq p.2.2 q.2.2 then W else b_setm W x q.2.2]).flatMap fun U => bif decide (q.2.1 < p.2.1) then b_lrn U (b_adc x (-q.2.1)) else [U]
noncomputable def b_lrBs : b_NF → List b_L → List b_B → List b_B → List b_NF
  | W, x :: xs, p :: ps, q :: qs => (b_lrB W x p q).flatMap fun U => b_lrBs U xs ps qs
  | W, _, _, _ => [W]
noncomputable def b_lrF (θ : List b_L) : b_F → List b_NF → Option (List b_NF)
  | [], L => some L
  | f :: r, L => match b_sub θ f with
    | some y => b_lrF θ r (L.flatMap fun U => b_lrn U y)
    | none => none
def b_sbV (θ : List b_L) : List b_V → Option (List b_V)
  | [] => some []
  | v :: r => bif Nat.ble v.1 1 then (match b_sub θ v.2, b_sbV θ r with
    | some y, some t => some ((v.1, y) :: t)
    | _, _ => none) else none
def b_sbM (θ : List b_L) : b_M → Option b_M
  | [] => some []
  | q :: r => bif Nat.ble q.2.2.1 1 then (match b_sub θ q.2.1, b_sub θ q.2.2.2, b_sbM θ r with
    | some x, some y, some t => some ((q.1, x, (q.2.2.1, y)) :: t)
    | _, _, _ => none) else none
/-- the caller's states behind a call, for one of what may hold then -/
noncomputable def b_app (dep : Nat → Nat → Bool) (W : b_NF) (M : b_M) (θ : List b_L) (pN : List b_B) (wr : List (Nat × Nat)) (po : b_Tp) : Option (List (b_NF × b_M × List b_V)) :=
  match b_lrF (b_exts W θ (po.1.drop pN.length)).2 po.2.1 (b_lrBs (b_exts W θ (po.1.drop pN.length)).1 θ pN po.1), b_sbM (b_exts W θ (po.1.drop pN.length)).2 po.2.2.2.2, b_sbV (b_exts W θ (po.1.drop pN.length)).2 po.2.2.2.1 with
  | some L, some M1, some t => some (L.map fun U => (U, M1 ++ b_keep dep wr M, t))
  | _, _, _ => none
section B77
variable {T : Nat → Option b_C} {G : b_G} {fz : List (List Int32)} {dep : Nat → Nat → Bool} {ρ : Nat → Int} {W : b_NF} {M : b_M} {σ σ' : m_S} {θ : List b_L} {wr : List (Nat × Nat)}
theorem b_keep_ok {n : Nat} (hG : b_GOk G dep) (hM : b_gM G fz n ρ σ M) (hf : b_frame (b_wrf wr) σ σ') : b_gM G fz n ρ σ' (b_keep dep wr M) := by
  intro q hq
  obtain ⟨h1, h2⟩ := List.mem_filter.mp hq
  simp only [Bool.not_eq_true'] at h2
  have h3 := List.any_eq_false.mp h2
  obtain ⟨a, g1, g2⟩ := hM q h1
  refine ⟨a, g1, ?_⟩
  by_cases c1 : q.1 < 139
  · rw [if_pos c1] at g2 ⊢
    obtain ⟨i, e1, w, g3, g4⟩ := g2
    refine ⟨i, e1, w, ?_, g4⟩
    rw [hf q.1 i, g3]
    unfold b_wrf
    refine List.any_eq_false.mpr (fun p hp h9 => h3 p hp ?_)
    rw [Bool.and_eq_true, Bool.or_eq_true] at h9
    rw [Bool.or_eq_true]
    left
    rw [Bool.and_eq_true, Bool.or_eq_true]
    refine ⟨h9.1, ?_⟩
    rcases h9.2 with h | h
    · exact Or.inl h
    · right
      split
      · rename_i e2
        have h4 := g1.1
        unfold b_ev at h4
        rw [e2] at h4
        simp only [b_evs, Int.add_zero] at h4
        have h5 := Nat.eq_of_beq_eq_true h
        simp only [decide_eq_true_eq]
        omega
      · rfl
  · rw [if_neg c1] at g2 ⊢
    by_cases c2 : q.1 < m_fzb
    · rw [if_pos c2] at g2 ⊢
      rw [hG q.1 σ σ' (fun c hc i' => hf c i' ?_) a]
      · exact g2
      · unfold b_wrf
        refine List.any_eq_false.mpr (fun p hp h9 => h3 p hp ?_)
        rw [Bool.and_eq_true] at h9
        rw [Bool.or_eq_true]
        right
        rw [Nat.eq_of_beq_eq_true h9.1]
        exact hc
    · rw [if_neg c2] at g2 ⊢
      exact g2
theorem b_exts_ok {ρc : Nat → Int} : ∀ {l : List b_B} {W : b_NF} {θ : List b_L} {ρ : Nat → Int}, b_gW W ρ → b_ua W.1.1 θ → (∀ s, s < θ.length → b_rt ρ θ s = ρc s) → (∀ (j : Nat) (q : b_B), l[j]? = some q → b_gB q (ρc (θ.length + j))) →
    ∃ ρ', b_ext W ρ (b_exts W θ l).1 ρ' ∧ b_ua (b_exts W θ l).1.1.1 (b_exts W θ l).2 ∧ b_pre θ (b_exts W θ l).2 ∧ (b_exts W θ l).2.length = θ.length + l.length ∧ ∀ s, s < θ.length + l.length → b_rt ρ' (b_exts W θ l).2 s = ρc s
  | [], W, θ, ρ, hW, hθ, hs, _ => ⟨ρ, b_ext.rf hW, hθ, fun _ _ h => h, rfl, hs⟩
  | q :: r, W, θ, ρ, hW, hθ, hs, hl => by
    have h0 := hl 0 q rfl
    obtain ⟨ρ1, g1, g2⟩ := b_fresh_ok hW h0.1 h0.2.1 h0.2.2
    have hua : b_ua (b_fresh W q.1 q.2.1 q.2.2).1.1.1 (θ ++ [(b_fresh W q.1 q.2.1 q.2.2).2]) := by
      intro y hy
      rcases List.mem_append.mp hy with h | h
      · exact hθ.up g1 y h
      · rw [List.mem_singleton.mp h]; exact g2.2
    have hpre : b_pre θ (θ ++ [(b_fresh W q.1 q.2.1 q.2.2).2]) := fun s y hy => by
      rw [List.getElem?_append_left (List.getElem?_eq_some_iff.mp hy).1]; exact hy
    have hs1 : ∀ s, s < (θ ++ [(b_fresh W q.1 q.2.1 q.2.2).2]).length → b_rt ρ1 (θ ++ [(b_fresh W q.1 q.2.1 q.2.2).2]) s = ρc s := by
      intro s hlt
      rw [List.length_append, List.length_singleton] at hlt
      by_cases c : s < θ.length
      · rw [← hs s c]
        have e1 : θ[s]? = some θ[s] := List.getElem?_eq_getElem c
        have e2 := hpre s _ e1
        rw [← (b_rt_ok (ρ := ρ1) hua e2).1, ← (b_rt_ok (ρ := ρ) hθ e1).1]
        exact (((show b_gx W.1.1 ρ θ[s] (b_ev ρ θ[s]) from ⟨rfl, hθ _ (List.getElem_mem c)⟩)).up g1).1
      · have : s = θ.length := by omega
        subst this
        unfold b_rt
        simp only [List.getD, List.getElem?_append_right (Nat.le_refl _), Nat.sub_self, List.getElem?_cons_zero, Option.getD_some]
        exact g2.1
    obtain ⟨ρ2, k1, k2, k3, k4, k5⟩ := b_exts_ok (l := r) g1.2.2 hua hs1 (fun j p hp => by
      have := hl (j + 1) p hp
      rw [List.length_append, List.length_singleton]
      have e : θ.length + 1 + j = θ.length + (j + 1) := by omega
      rw [e]; exact this)
    refine ⟨ρ2, g1.tr k1, k2, hpre.tr k3, ?_, fun s hlt => k5 s ?_⟩
    · show (b_exts _ _ r).2.length = _
      rw [k4, List.length_append, List.length_singleton, List.length_cons]
      omega
    · rw [List.length_append, List.length_singleton]
      rw [List.length_cons] at hlt
      omega
theorem b_setm_ok (hW : b_gW W ρ) {x : b_L} {a : Int} {mk : Nat} (hx : b_gx W.1.1 ρ x a) (hm : b_mk mk a) : b_gW (b_setm W x mk) ρ ∧ (b_setm W x mk).1.1 = W.1.1 := by
  unfold b_setm
  split
  · rename_i e he
    cases e1 : decide (x.1 = 0) && decide (e.2 = 1) with
    | true =>
      simp only [Bool.and_eq_true, decide_eq_true_eq] at e1
      simp only [cond_true]
      have ha : a = ρ e.1 := by
        rw [← hx.1]; unfold b_ev; rw [he, e1.1]; simp only [b_evs, e1.2]; omega
      split
      · rename_i b hb
        obtain ⟨g1, g2, g3⟩ := hW.1.2 _ _ hb
        refine ⟨⟨b_sb_ok hW.1 (b_at_lt hb) ⟨g1, g2, ?_⟩, hW.2⟩, rfl⟩
        rw [ha] at hm
        dsimp only
        cases e2 : Nat.beq b.2.2 0 with
        | true => exact hm
        | false =>
          simp only [cond_false]
          intro hne
          have hb0 : b.2.2 ≠ 0 := fun h9 => by rw [h9] at e2; cases e2
          obtain ⟨j, p1, p2⟩ := g3 hb0
          have hmk : mk ≠ 0 := fun h9 => by rw [h9] at hne; simp at hne
          obtain ⟨j2, p3, p4⟩ := hm hmk
          have : j = j2 := by omega
          subst this
          exact ⟨j, by rw [Nat.testBit_and, p1, p3]; rfl, p2⟩
      · exact ⟨hW, rfl⟩
    | false => exact ⟨hW, rfl⟩
  · exact ⟨hW, rfl⟩
theorem b_lrB_ok (hW : b_gW W ρ) {x : b_L} {a : Int} {p q : b_B} (hx : b_gx W.1.1 ρ x a) (hq : b_gB q a) : ∃ U ∈ b_lrB W x p q, b_gW U ρ ∧ U.1.1 = W.1.1 := by
  unfold b_lrB
  have h0 : ∀ V : b_NF, V = (bif Nat.beq p.2.2 q.2.2 then W else b_setm W x q.2.2) → b_gW V ρ ∧ V.1.1 = W.1.1 := by
    intro V hV
    rw [hV]
    exact b_bif (P := fun V : b_NF => b_gW V ρ ∧ V.1.1 = W.1.1) (fun _ => ⟨hW, rfl⟩) (fun _ => b_setm_ok hW hx hq.2.2)
  obtain ⟨V, hV⟩ : ∃ V, V = (bif Nat.beq p.2.2 q.2.2 then W else b_setm W x q.2.2) := ⟨_, rfl⟩
  obtain ⟨h1, h2⟩ := h0 V hV
  rw [← hV]
  have hxV : b_gx V.1.1 ρ x a := by rw [h2]; exact hx
  obtain ⟨U, g1, g2, g3⟩ : ∃ U ∈ (bif decide (p.1 < q.1) then b_lrn V (b_adc (b_neg x) q.1) else [V]), b_gW U ρ ∧ U.1.1 = V.1.1 := by
    refine b_bif (P := fun l : List b_NF => ∃ U ∈ l, b_gW U ρ ∧ U.1.1 = V.1.1) (fun _ => b_lrn_ok h1 (hxV.neg.adc q.1) (by have := hq.1; omega)) (fun _ => ⟨V, List.mem_singleton.mpr rfl, h1, rfl⟩)
  obtain ⟨U2, k1, k2, k3⟩ : ∃ U2 ∈ (bif decide (q.2.1 < p.2.1) then b_lrn U (b_adc x (-q.2.1)) else [U]), b_gW U2 ρ ∧ U2.1.1 = U.1.1 := by
    refine b_bif (P := fun l : List b_NF => ∃ U2 ∈ l, b_gW U2 ρ ∧ U2.1.1 = U.1.1) (fun _ => b_lrn_ok g2 (by rw [g3]; exact hxV.adc (-q.2.1)) (by have := hq.2.1; omega)) (fun _ => ⟨U, List.mem_singleton.mpr rfl, g2, rfl⟩)
  exact ⟨U2, List.mem_flatMap.mpr ⟨U, g1, k1⟩, k2, by rw [k3, g3, h2]⟩
theorem b_lrBs_ok : ∀ {xs : List b_L} {ps qs : List b_B} {W : b_NF}, b_gW W ρ → b_ua W.1.1 xs → (∀ (s : Nat) (q : b_B) (x : b_L), qs[s]? = some q → xs[s]? = some x → b_gB q (b_ev ρ x)) → ∃ U ∈ b_lrBs W xs ps qs, b_gW U ρ ∧ U.1.1 = W.1.1
  | [], _, _, W, hW, _, _ => ⟨W, by unfold b_lrBs; exact List.mem_singleton.mpr rfl, hW, rfl⟩
  | _ :: _, [], _, W, hW, _, _ => ⟨W, by unfold b_lrBs; exact List.mem_singleton.mpr rfl, hW, rfl⟩
  | _ :: _, _ :: _, [], W, hW, _, _ => ⟨W, by unfold b_lrBs; exact List.mem_singleton.mpr rfl, hW, rfl⟩
  | x :: xs, p :: ps, q :: qs, W, hW, hu, hq => by
    unfold b_lrBs
    obtain ⟨U, g1, g2, g3⟩ := b_lrB_ok (p := p) hW ⟨rfl, hu x List.mem_cons_self⟩ (hq 0 q x rfl rfl)
    obtain ⟨V, k1, k2, k3⟩ := b_lrBs_ok (xs := xs) (ps := ps) (qs := qs) g2 (by rw [g3]; exact fun y hy => hu y (List.mem_cons_of_mem _ hy)) (fun s q' x' h1 h2 => hq (s + 1) q' x' h1 h2)
    exact ⟨V, List.mem_flatMap.mpr ⟨U, g1, k1⟩, k2, k3.trans g3⟩
theorem b_lrF_ok {n : Nat} {ρc : Nat → Int} : ∀ {l : b_F} {L L' : List b_NF}, (∃ U ∈ L, b_gW U ρ ∧ U.1.1 = n) → (∀ f y, f ∈ l → b_sub θ f = some y → ∃ a, b_gx n ρ y a ∧ a ≤ 0) → b_lrF θ l L = some L' → ∃ U ∈ L', b_gW U ρ ∧ U.1.1 = n
  | [], L, L', hL, _, h => by cases h; exact hL
  | f :: r, L, L', hL, hf, h => by
    unfold b_lrF at h
    split at h
    · rename_i y hy
      obtain ⟨U, g1, g2, g3⟩ := hL
      obtain ⟨a, k1, k2⟩ := hf f y List.mem_cons_self hy
      obtain ⟨V, q1, q2, q3⟩ := b_lrn_ok g2 (by rw [g3]; exact k1) k2
      exact b_lrF_ok (ρc := ρc) ⟨V, List.mem_flatMap.mpr ⟨U, g1, q1⟩, q2, q3.trans g3⟩ (fun f' y' h1 h2 => hf f' y' (List.mem_cons_of_mem _ h1) h2) h
    · cases h
end B77
end
section
/-! a call by its contract: the caller's states behind it -/
section B78
variable {T : Nat → Option b_C} {G : b_G} {fz : List (List Int32)} {dep : Nat → Nat → Bool} {ρ ρc : Nat → Int} {W : b_NF} {M : b_M} {σ σ' : m_S} {θ : List b_L} {wr : List (Nat × Nat)} {n m : Nat}
theorem b_ev_rt (hs : ∀ s, s < m → b_rt ρ θ s = ρc s) {x : b_L} (hx : b_u m x) : b_ev (b_rt ρ θ) x = b_ev ρc x := by
  unfold b_ev
  rw [b_evs_agr (ρ := ρc) (ρ' := b_rt ρ θ) (n := m) hs hx]
theorem b_sub_gx (hθ : b_ua n θ) (hs : ∀ s, s < m → b_rt ρ θ s = ρc s) {x y : b_L} {a : Int} (hx : b_gx m ρc x a) (h : b_sub θ x = some y) : b_gx n ρ y a := by
  have := b_sub_ok (ρ := ρ) hθ h
  rw [b_ev_rt hs hx.2, hx.1] at this
  exact this
theorem b_sub_gv (hθ : b_ua n θ) (hs : ∀ s, s < m → b_rt ρ θ s = ρc s) {v : b_V} {y : b_L} {w : Value} (ht : Nat.ble v.1 1 = true) (hv : b_gv m ρc v w) (h : b_sub θ v.2 = some y) : b_gv n ρ (v.1, y) w := by
  have ht := Nat.le_of_ble_eq_true ht
  obtain ⟨t, x⟩ := v
  unfold b_gv at hv ⊢
  dsimp only at hv h ht ⊢
  split at hv
  · exact b_sub_gx hθ hs hv h
  · exact b_sub_gx hθ hs hv h
  · omega
  · omega
  · exact hv.elim
theorem b_sbV_ok (hθ : b_ua n θ) (hs : ∀ s, s < m → b_rt ρ θ s = ρc s) : ∀ {l t : List b_V} {cs : List Value}, a_all2 (b_gv m ρc) l cs → b_sbV θ l = some t → a_all2 (b_gv n ρ) t cs
  | [], t, [], _, h => by cases h; trivial
  | [], _, _ :: _, h, _ => h.elim
  | v :: r, t, cs, hv, h => by
    obtain ⟨w, cs', rfl, g1, g2⟩ := b_cons hv
    unfold b_sbV at h
    cases e : Nat.ble v.1 1 with
    | true =>
      rw [e] at h
      simp only [cond_true] at h
      split at h
      · rename_i y t' h1 h2
        cases h
        exact ⟨b_sub_gv hθ hs e g1 h1, b_sbV_ok hθ hs g2 h2⟩
      · cases h
    | false => rw [e] at h; cases h
theorem b_sbM_ok (hθ : b_ua n θ) (hs : ∀ s, s < m → b_rt ρ θ s = ρc s) : ∀ {l t : b_M}, b_gM G fz m ρc σ l → b_sbM θ l = some t → b_gM G fz n ρ σ t
  | [], t, _, h => by cases h; intro q hq; cases hq
  | p :: r, t, hM, h => by
    unfold b_sbM at h
    cases e : Nat.ble p.2.2.1 1 with
    | true =>
      rw [e] at h
      simp only [cond_true] at h
      split at h
      · rename_i x y t' h1 h2 h3
        cases h
        intro q hq
        rcases List.mem_cons.mp hq with rfl | hq
        · obtain ⟨a, g1, g2⟩ := hM p List.mem_cons_self
          refine ⟨a, b_sub_gx hθ hs g1 h1, ?_⟩
          dsimp only
          by_cases c1 : p.1 < 139
          · rw [if_pos c1] at g2 ⊢
            obtain ⟨i, e1, w, g3, g4⟩ := g2
            exact ⟨i, e1, w, g3, b_sub_gv hθ hs e g4 h2⟩
          · rw [if_neg c1] at g2 ⊢
            by_cases c2 : p.1 < m_fzb
            · rw [if_pos c2] at g2 ⊢
              exact ⟨g2.1, b_sub_gx hθ hs g2.2 h2⟩
            · rw [if_neg c2] at g2 ⊢
              obtain ⟨i, e1, zs, z, g4, g5, g6⟩ := g2
              exact ⟨i, e1, zs, z, g4, g5, b_sub_gv hθ hs e g6 h2⟩
        · exact b_sbM_ok hθ hs (fun q hq => hM q (List.mem_cons_of_mem _ hq)) h3 q hq
      · cases h
    | false => rw [e] at h; cases h
theorem b_app_ok {pN : List b_B} {po : b_Tp} {r : Option Value} {L : List (b_NF × b_M × List b_V)} (hG : b_GOk G dep) (hW : b_gW W ρ) (hM : b_gM G fz W.1.1 ρ σ M) (hθ : b_ua W.1.1 θ) (hlen : θ.length = pN.length) (hpo : pN.length ≤ po.1.length) (ho : b_out T G fz pN.length (b_rt ρ θ) σ wr po r σ') (h : b_app dep W M θ pN wr po = some L) :
    ∃ q ∈ L, ∃ ρ', b_ext W ρ q.1 ρ' ∧ b_gM G fz q.1.1.1 ρ' σ' q.2.1 ∧ a_all2 (b_gv q.1.1.1 ρ') q.2.2 r.toList := by
  obtain ⟨ρc, o1, ⟨⟨o2, o3⟩, o4⟩, o5, o6, o7, o8⟩ := ho
  have hN : ∀ (s : Nat) (q : b_B), po.1[s]? = some q → b_gB q (ρc s) := fun s q hq => o2.2 s q (by rw [b_toN_at]; exact hq)
  obtain ⟨ρ1, g1, g2, g3, g4, g5⟩ := b_exts_ok (ρc := ρc) (l := po.1.drop pN.length) hW hθ (fun s hs => (o1 s (by omega)).symm) (fun j q hq => by
    rw [List.getElem?_drop] at hq
    rw [hlen]
    exact hN _ q hq)
  have hm : θ.length + (po.1.drop pN.length).length = po.1.length := by rw [List.length_drop]; omega
  rw [hm] at g4 g5
  unfold b_app at h
  split at h
  · rename_i L1 M1 t h1 h2 h3
    cases h
    have hB := b_lrBs_ok (ps := pN) (qs := po.1) g1.2.2 (hθ.up g1) (fun s q x hq hx => by
      have hs : s < θ.length := (List.getElem?_eq_some_iff.mp hx).1
      have e1 := b_rt_ok (ρ := ρ1) g2 (g3 s x hx)
      rw [g5 s (by omega)] at e1
      rw [e1.1]
      exact hN s q hq)
    obtain ⟨U, k1, k2, k3⟩ := b_lrF_ok (ρc := ρc) hB (fun f y hf hy => by
      obtain ⟨p1, p2⟩ := o3 f hf
      exact ⟨b_ev ρc f, b_sub_gx g2 g5 ⟨rfl, p2⟩ hy, p1⟩) h1
    have he : b_ext (b_exts W θ (po.1.drop pN.length)).1 ρ1 U ρ1 := ⟨by rw [k3]; exact Nat.le_refl _, fun _ _ => rfl, k2⟩
    refine ⟨_, List.mem_map.mpr ⟨U, k1, rfl⟩, ρ1, g1.tr he, ?_, ?_⟩
    · intro q hq
      rcases List.mem_append.mp hq with hq | hq
      · exact ((b_sbM_ok g2 g5 o4 h2) q hq).up he
      · exact (b_keep_ok hG (hM.up (g1.tr he)) o8) q hq
    · exact b_all2.up he (b_sbV_ok g2 g5 o6 h3)
  · cases h
end B78
end
section
/-! THE WALK of a method between its cuts -/
abbrev b_Fr : Type := Nat × Nat × b_Lv × List b_V
abbrev b_Q : Type := b_NF × b_M × List b_Fr
abbrev b_Cu : Type := Nat × b_Tp × b_L
abbrev b_Hn : Type := Nat → Nat → b_NF → b_M → b_Lv → List b_V → Option (List (b_NF × b_M))
def b_ids (g : Nat) : List b_L := (List.range g).map b_sym
def b_cl (T : Nat → Option b_C) (I : m_I) (st : List b_V) : Option (List b_V × List b_V) :=
  bif decide (I.2.2.1 = 2) || decide (I.2.2.1 = 5) then (bif Nat.ble (I.2.2.2.getD 0 0) st.length then some ((st.take (I.2.2.2.getD 0 0)).reverse, st.drop (I.2.2.2.getD 0 0)) else none)
  else match st.drop (I.2.2.2.getD 0 0) with
    | b :: r => bif b_rf b then (match T b.2.1.toNat with
      | some c => bif Nat.beq c.1 0 && Nat.beq c.2.1 (I.2.2.2.getD 2 0) then some (b :: (st.take (I.2.2.2.getD 0 0)).reverse, r) else none
      | none => none) else none
    | [] => none
def b_args : Nat → List b_V → b_Lv
  | _, [] => []
  | i, v :: vs => (i, v) :: b_args (bif Nat.beq v.1 1 then i + 2 else i + 1) vs
def b_isub (wrc wr : List (Nat × Nat)) : Bool := wrc.all fun p => wr.any fun r => Nat.beq r.1 p.1 && (Nat.beq r.2 0 || (Nat.beq r.2 p.2 && !(Nat.beq p.2 0)))
noncomputable def b_apps (dep : Nat → Nat → Bool) (W : b_NF) (M : b_M) (θ : List b_L) (pN : List b_B) (wr : List (Nat × Nat)) : List b_Tp → Option (List (b_NF × b_M × List b_V))
  | [] => some []
  | po :: r => match b_app dep W M θ pN wr po, b_apps dep W M θ pN wr r with
    | some L, some K => some (L ++ K)
    | _, _ => none
/-- by the first contract of that method that is met -/
noncomputable def b_byK (T : Nat → Option b_C) (dep : Nat → Nat → Bool) (wr : List (Nat × Nat)) (room h : Nat) (W : b_NF) (M : b_M) (mid : Nat) (as : List b_V) : List b_K → Option (List (b_NF × b_M × List b_V))
  | [] => none
  | k :: r => bif Nat.beq k.1 mid then (match b_match T W M [] as [] k.2.2.1 with
      | some U => bif Nat.ble (k.2.1 + room) h && (b_isub k.2.2.2.1 wr && (b_tpu k.2.2.1 && k.2.2.2.2.all (fun po => Nat.ble k.2.2.1.1.length po.1.length))) then b_apps dep U.1 U.2.1 U.2.2 k.2.2.1.1 k.2.2.2.1 k.2.2.2.2 else none
      | none => b_byK T dep wr room h W M mid as r) else b_byK T dep wr room h W M mid as r
noncomputable def b_rok (W : b_NF) (k : Nat) (st : List b_V) : Bool := match k, st with
  | 0, [v] => decide (b_knd v = 0)
  | 1, [v] => decide (b_knd v = 1)
  | 2, [] => true
  | 3, [v] => Nat.beq v.1 0 && (b_le W v.2 1 && b_ge W v.2 0)
  | _, _ => false
noncomputable def b_adv (F : Nat → Nat → Option (m_I × Nat)) (T : Nat → Option b_C) (Z : Nat → Option (List Int32)) (dep : Nat → Nat → Bool) (hn : b_Hn) (Γ : List b_K) (wr : List (Nat × Nat)) (h g : Nat) (posts : List b_Tp) (ih : b_Q → Bool) (Q : b_Q) : Bool := match Q.2.2 with
  | [] => false
  | f :: gs => match hn f.1 f.2.1 Q.1 Q.2.1 f.2.2.1 f.2.2.2 with
    | some L => L.all fun q => ih (q.1, q.2, f :: gs)
    | none => match F f.1 f.2.1 with
      | none => false
      | some Il => bif Nat.beq Il.1.1 24 then (match b_cl T Il.1 f.2.2.2 with
          | some ar => bif Nat.ble (b_cats ar.2) 8 && (Nat.ble (b_cats ar.1) (Il.1.2.2.2.getD 1 0) && Nat.ble (gs.length + 1) h) then (bif Γ.any (fun k => Nat.beq k.1 Il.1.2.1) then (match b_byK T dep wr (gs.length + 1) h Q.1 Q.2.1 Il.1.2.1 ar.1 Γ with
                | some L => L.all fun q => ih (q.1, q.2.1, (f.1, f.2.1 + Il.2, f.2.2.1, q.2.2 ++ ar.2) :: gs)
                | none => false) else Nat.ble (gs.length + 2) h && ih (Q.1, Q.2.1, (Il.1.2.1, 0, b_args 0 ar.1, []) :: (f.1, f.2.1 + Il.2, f.2.2.1, ar.2) :: gs)) else false
          | none => false)
        else bif Nat.beq Il.1.1 27 then b_rok Q.1 Il.1.2.1 f.2.2.2 && (match gs with
          | [] => posts.any fun po => b_tpu po && (match b_match T Q.1 Q.2.1 [] f.2.2.2 (b_ids g) po with
            | some _ => true
            | none => false)
          | f2 :: hs => ih (Q.1, Q.2.1, (f2.1, f2.2.1, f2.2.2.1, f.2.2.2 ++ f2.2.2.2) :: hs))
        else match b_loc T Z dep (b_wrf wr) Q.1 Q.2.1 Il.1 (f.2.1 + Il.2) f.2.2.1 f.2.2.2 with
          | some L => L.all fun r => ih (r.1, r.2.1, (f.1, r.2.2.1, r.2.2.2.1, r.2.2.2.2) :: gs)
          | none => false
noncomputable def b_arr (T : Nat → Option b_C) (g : Nat) (rk : Option b_L) (Q : b_Q) (lv : b_Lv) (st : List b_V) (C : b_Cu) : Bool := match b_match T Q.1 Q.2.1 lv st (b_ids g) C.2.1 with
  | some U => (match b_sub U.2.2 C.2.2 with
    | some y => b_ge U.1 y 0 && (match rk with
      | some r0 => b_le U.1 (b_add y (-1) r0) (-1)
      | none => true)
    | none => false)
  | none => false
noncomputable def b_atc (T : Nat → Option b_C) (mid g : Nat) (rk : Option b_L) (cuts : List b_Cu) (Q : b_Q) : Option Bool := match Q.2.2 with
  | [f] => bif Nat.beq f.1 mid && cuts.any (fun C => Nat.beq C.1 f.2.1) then some (cuts.any fun C => Nat.beq C.1 f.2.1 && (b_tpu C.2.1 && b_arr T g rk Q f.2.2.1 f.2.2.2 C)) else none
  | _ => none
noncomputable def b_walk (F : Nat → Nat → Option (m_I × Nat)) (T : Nat → Option b_C) (Z : Nat → Option (List Int32)) (dep : Nat → Nat → Bool) (hn : b_Hn) (Γ : List b_K) (wr : List (Nat × Nat)) (mid h g : Nat) (posts : List b_Tp) (cuts : List b_Cu) (rk : Option b_L) (n : Nat) : b_Q → Bool :=
  Nat.rec (motive := fun _ => b_Q → Bool) (fun _ => false) (fun _ ih Q => match b_atc T mid g rk cuts Q with
    | some b => b
    | none => b_adv F T Z dep hn Γ wr h g posts ih Q) n
/-- what hints may do: a state that knows no less, one of several -/
def b_HnOk (T : Nat → Option b_C) (G : b_G) (fz : List (List Int32)) (hn : b_Hn) : Prop := ∀ mid pc W M lv st L ρ σ cl cs, hn mid pc W M lv st = some L → b_gW W ρ → b_gH T σ → b_gM G fz W.1.1 ρ σ M → b_gf W.1.1 ρ lv st cl cs → ∃ q ∈ L, ∃ ρ', b_ext W ρ q.1 ρ' ∧ b_gM G fz q.1.1.1 ρ' σ q.2
def b_gfr (n : Nat) (ρ : Nat → Int) (x : b_Fr) (z : m_Fr) : Prop := x.1 = z.1 ∧ x.2.1 = z.2.1 ∧ b_gf n ρ x.2.2.1 x.2.2.2 z.2.2.1 z.2.2.2
/-- from here all goes well, whatever the numbers are that agree with those of the start -/
def b_Good (F : Nat → Nat → Option (m_I × Nat)) (fz : List (List Int32)) (T : Nat → Option b_C) (G : b_G) (wr : List (Nat × Nat)) (Fin : Option Value → m_S → Prop) (gs : List m_Fr) (σ0 : m_S) (n1 : Nat) (ρ1 : Nat → Int) (Q : b_Q) : Prop :=
  ∀ ρ σ cfs, b_agr n1 ρ1 ρ → n1 ≤ Q.1.1.1 → b_gW Q.1 ρ → b_gH T σ → b_gM G fz Q.1.1.1 ρ σ Q.2.1 → a_all2 (b_gfr Q.1.1.1 ρ) Q.2.2 cfs → b_frame (b_wrf wr) σ0 σ → b_win F fz Fin (cfs ++ gs) σ
section B79
variable {F : Nat → Nat → Option (m_I × Nat)} {T : Nat → Option b_C} {Z : Nat → Option (List Int32)} {G : b_G} {fz : List (List Int32)} {dep : Nat → Nat → Bool} {hn : b_Hn} {Γ : List b_K} {wr : List (Nat × Nat)} {h g : Nat} {posts : List b_Tp} {cuts : List b_Cu} {Fin : Option Value → m_S → Prop} {gs : List m_Fr} {σ0 : m_S} {n1 : Nat} {ρ1 : Nat → Int}
theorem b_win_step {fs fs' : List m_Fr} {σ σ' : m_S} (hs : m_next F fz fs σ = some (.inl (fs', σ'))) (hw : b_win F fz Fin fs' σ') : b_win F fz Fin fs σ := by
  obtain ⟨n, o, h1, h2⟩ := hw
  refine ⟨n + 1, o, ?_, h2⟩
  simp only [m_go, hs]
  exact h1
theorem b_win_end {fs : List m_Fr} {σ : m_S} {o : Option Value × m_S} (hs : m_next F fz fs σ = some (.inr o)) (hf : Fin o.1 o.2) : b_win F fz Fin fs σ := by
  refine ⟨1, o, ?_, hf⟩
  simp only [m_go, hs]
theorem b_frame.tr {Wr : Nat → Nat → Bool} {a b c : m_S} (h1 : b_frame Wr a b) (h2 : b_frame Wr b c) : b_frame Wr a c := fun k i hk => (h2 k i hk).trans (h1 k i hk)
theorem b_gfr.up {W W' : b_NF} {ρ ρ' : Nat → Int} {x : b_Fr} {z : m_Fr} (he : b_ext W ρ W' ρ') (h : b_gfr W.1.1 ρ x z) : b_gfr W'.1.1 ρ' x z := ⟨h.1, h.2.1, h.2.2.up he⟩
theorem b_agr.tr {n m : Nat} {a b c : Nat → Int} (h1 : b_agr n a b) (h2 : b_agr m b c) (hn : n ≤ m) : b_agr n a c := fun s hs => (h2 s (Nat.lt_of_lt_of_le hs hn)).trans (h1 s hs)
theorem b_isub_ok {wrc : List (Nat × Nat)} (h : b_isub wrc wr = true) {k i : Nat} (hk : b_wrf wrc k i = true) : b_wrf wr k i = true := by
  unfold b_wrf at hk ⊢
  obtain ⟨p, h1, h2⟩ := List.any_eq_true.mp hk
  obtain ⟨r, h3, h4⟩ := List.any_eq_true.mp (List.all_eq_true.mp h p h1)
  refine List.any_eq_true.mpr ⟨r, h3, ?_⟩
  simp only [Bool.and_eq_true, Bool.or_eq_true, Bool.not_eq_true'] at h2 h4 ⊢
  have e1 := Nat.eq_of_beq_eq_true h2.1
  have e2 := Nat.eq_of_beq_eq_true h4.1
  refine ⟨by rw [e2, e1]; exact Nat.beq_refl k, ?_⟩
  rcases h4.2 with h5 | ⟨h5, h6⟩
  · exact Or.inl h5
  · right
    rcases h2.2 with h7 | h7
    · rw [h7] at h6; cases h6
    · rw [Nat.eq_of_beq_eq_true h5]; exact h7
theorem b_apps_ok {W : b_NF} {M : b_M} {θ : List b_L} {pN : List b_B} {wrc : List (Nat × Nat)} {ρ : Nat → Int} {σ σ' : m_S} {r : Option Value} (hG : b_GOk G dep) (hW : b_gW W ρ) (hM : b_gM G fz W.1.1 ρ σ M) (hθ : b_ua W.1.1 θ) (hlen : θ.length = pN.length) : ∀ {l : List b_Tp} {L : List (b_NF × b_M × List b_V)}, l.all (fun po => Nat.ble pN.length po.1.length) = true → (∃ po ∈ l, b_out T G fz pN.length (b_rt ρ θ) σ wrc po r σ') → b_apps dep W M θ pN wrc l = some L → ∃ q ∈ L, ∃ ρ', b_ext W ρ q.1 ρ' ∧ b_gM G fz q.1.1.1 ρ' σ' q.2.1 ∧ a_all2 (b_gv q.1.1.1 ρ') q.2.2 r.toList
  | [], _, _, ⟨_, hp, _⟩, _ => by cases hp
  | p :: l, L, ha, ⟨po, hp, ho⟩, h => by
    rw [List.all_cons, Bool.and_eq_true] at ha
    unfold b_apps at h
    split at h
    · rename_i L1 L2 h1 h2
      cases h
      rcases List.mem_cons.mp hp with rfl | hp
      · obtain ⟨q, g1, g2⟩ := b_app_ok hG hW hM hθ hlen (Nat.le_of_ble_eq_true ha.1) ho h1
        exact ⟨q, List.mem_append_left _ g1, g2⟩
      · obtain ⟨q, g1, g2⟩ := b_apps_ok hG hW hM hθ hlen ha.2 ⟨po, hp, ho⟩ h2
        exact ⟨q, List.mem_append_right _ g1, g2⟩
    · cases h
end B79
end
section
/-! the walk is right: calls, ends, one step more -/
section B79b
variable {F : Nat → Nat → Option (m_I × Nat)} {T : Nat → Option b_C} {Z : Nat → Option (List Int32)} {G : b_G} {fz : List (List Int32)} {dep : Nat → Nat → Bool} {hn : b_Hn} {Γ : List b_K} {wr : List (Nat × Nat)} {h g : Nat} {posts : List b_Tp} {cuts : List b_Cu} {Fin : Option Value → m_S → Prop} {gs : List m_Fr} {σ0 : m_S} {n1 : Nat} {ρ1 : Nat → Int} {ρ : Nat → Int} {W : b_NF} {M : b_M} {σ : m_S} {cl : m_V} {cs : List Value} {st : List b_V} {lv : b_Lv}
theorem b_args_ok {n : Nat} : ∀ {as : List b_V} {ws : List Value} {i : Nat}, a_all2 (b_gv n ρ) as ws → b_gl n ρ (b_args i as) (lv_args i ws)
  | [], _, _, _ => fun j v h => by cases h
  | v :: as, ws, i, hs => by
    obtain ⟨w, ws', rfl, g1, g2⟩ := b_cons hs
    intro j u hu
    unfold lv_args
    rw [m_ld_cons]
    unfold b_args b_ld at hu
    dsimp only at hu
    cases e : Nat.beq i j with
    | true =>
      rw [e] at hu
      cases hu
      rw [if_pos (Nat.eq_of_beq_eq_true e)]
      exact ⟨w, rfl, g1⟩
    | false =>
      rw [e] at hu
      simp only [cond_false] at hu
      rw [if_neg (fun h9 => by rw [h9] at e; simp at e)]
      have hc := b_gv_cat g1
      have e2 : (bif Nat.beq v.1 1 then i + 2 else i + 1) = (if w.category = 2 then i + 2 else i + 1) := by
        rw [← hc]
        unfold b_cat
        cases Nat.beq v.1 1 with
        | true => rfl
        | false => rfl
      rw [e2] at hu
      exact b_args_ok g2 j u hu
theorem b_okargs : ∀ {ws : List Value} {i : Nat}, ws.all (m_okv 139) = true → m_okl 139 (lv_args i ws) = true
  | [], _, _ => rfl
  | w :: ws, i, hw => by
    obtain ⟨g1, g2⟩ := b_okc hw
    have := b_okargs (ws := ws) (i := if w.category = 2 then i + 2 else i + 1) g2
    unfold lv_args
    unfold m_okl at this ⊢
    rw [List.all_cons, this, g1]
    rfl
theorem b_all_take {k : Nat} {l : List Value} (hl : l.all (m_okv 139) = true) : ((l.take k).reverse).all (m_okv 139) = true ∧ (l.drop k).all (m_okv 139) = true := by
  rw [List.all_eq_true] at hl
  constructor
  · rw [List.all_eq_true]
    intro x hx
    exact hl x (List.mem_of_mem_take (List.mem_reverse.mp hx))
  · rw [List.all_eq_true]
    intro x hx
    exact hl x (List.mem_of_mem_drop hx)
theorem b_cl_ok {I : m_I} {nx n : Nat} {ar : List b_V × List b_V} (hI : I.1 = 24) (hH : b_gH T σ) (hs : a_all2 (b_gv n ρ) st cs) (hok : cs.all (m_okv 139) = true) (hc : b_cl T I st = some ar) :
    ∃ cas crest, m_step fz I nx cl cs σ = some (.inr (.inr (I.2.1, cas, crest))) ∧ a_all2 (b_gv n ρ) ar.1 cas ∧ a_all2 (b_gv n ρ) ar.2 crest ∧ cas.all (m_okv 139) = true ∧ crest.all (m_okv 139) = true := by
  obtain ⟨op, a, v, q⟩ := I
  dsimp only at hI
  subst hI
  unfold b_cl at hc
  dsimp only at hc
  obtain ⟨o1, o2⟩ := b_all_take (k := q.getD 0 0) hok
  cases e : decide (v = 2) || decide (v = 5) with
  | true =>
    rw [e] at hc
    simp only [Bool.or_eq_true, decide_eq_true_eq] at e
    simp only [cond_true] at hc
    cases e2 : Nat.ble (q.getD 0 0) st.length with
    | true =>
      rw [e2] at hc
      cases hc
      refine ⟨(cs.take (q.getD 0 0)).reverse, cs.drop (q.getD 0 0), ?_, (hs.take _).rev, hs.drop _, o1, o2⟩
      have := Nat.le_of_ble_eq_true e2
      rw [hs.len] at this
      simp only [m_step]
      rw [if_pos e, if_pos this]
    | false => rw [e2] at hc; cases hc
  | false =>
    rw [e] at hc
    simp only [Bool.or_eq_false_iff, decide_eq_false_iff_not] at e
    simp only [cond_false] at hc
    split at hc
    · rename_i b r hd
      cases e2 : b_rf b with
      | true =>
        rw [e2] at hc
        simp only [cond_true] at hc
        have hs2 := hs.drop (q.getD 0 0)
        rw [hd] at hs2
        obtain ⟨wb, t, ht, g1, g2⟩ := b_cons hs2
        obtain ⟨k, rfl, k2, k3⟩ := b_rf_ok e2 g1
        rw [k2] at hc
        dsimp only at hc
        rw [Int.toNat_natCast] at hc
        split at hc
        · rename_i c hT
          cases e3 : Nat.beq c.1 0 && Nat.beq c.2.1 (q.getD 2 0) with
          | true =>
            rw [e3] at hc
            rw [Bool.and_eq_true] at e3
            cases hc
            have e4 := Nat.eq_of_beq_eq_true e3.1
            have e5 := Nat.eq_of_beq_eq_true e3.2
            obtain ⟨c', k6, z, k7, k8, -⟩ := hH.2 k k3
            rw [hT] at k6
            cases k6
            have o3 := o2
            rw [ht] at o3
            obtain ⟨o4, o5⟩ := b_okc o3
            refine ⟨.ref k :: (cs.take (q.getD 0 0)).reverse, t, ?_, ⟨g1, (hs.take _).rev⟩, g2, b_okm o4 o1, o5⟩
            unfold b_sh at k8
            match z, k8, k7 with
            | .inr (ci, fs), k8, k7 =>
              simp only [m_step]
              rw [if_neg (fun h9 => by rcases h9 with h9 | h9; exact e.1 h9; exact e.2 h9), ht]
              dsimp only
              rw [k7]
              dsimp only
              rw [if_pos (by rw [← k8.2.1, e5])]
            | .inl (_, .inl _), k8, _ => exact absurd (e4.symm.trans k8.1) (by decide)
            | .inl (_, .inr (.inl _)), k8, _ => exact absurd (e4.symm.trans k8.1) (by decide)
            | .inl (_, .inr (.inr _)), k8, _ => exact absurd (e4.symm.trans k8.1) (by decide)
          | false => rw [e3] at hc; cases hc
        · cases hc
      | false => rw [e2] at hc; cases hc
    · cases hc
theorem b_byK_ok {mid fl : Nat} {as : List b_V} {ws : List Value} {gs' : List m_Fr} (hG : b_GOk G dep) (hW : b_gW W ρ) (hH : b_gH T σ) (hM : b_gM G fz W.1.1 ρ σ M) (hs : a_all2 (b_gv W.1.1 ρ) as ws) (hok : ws.all (m_okv 139) = true) (hgs : gs'.length + h ≤ 60 + fl) :
    ∀ {Γ : List b_K} {L : List (b_NF × b_M × List b_V)}, (∀ k ∈ Γ, b_Valid F fz T G k) → b_byK T dep wr fl h W M mid as Γ = some L →
    (∀ q ∈ L, ∀ ρ' σ' r, b_ext W ρ q.1 ρ' → b_gM G fz q.1.1.1 ρ' σ' q.2.1 → b_gH T σ' → a_all2 (b_gv q.1.1.1 ρ') q.2.2 r.toList → r.toList.all (m_okv 139) = true → b_frame (b_wrf wr) σ σ' → b_ret F fz Fin gs' r σ') → b_win F fz Fin ((mid, 0, lv_args 0 ws, []) :: gs') σ
  | [], _, _, hb, _ => by cases hb
  | k :: r, L, hΓ, hb, hk => by
    unfold b_byK at hb
    cases e : Nat.beq k.1 mid with
    | true =>
      rw [e] at hb
      have e := Nat.eq_of_beq_eq_true e
      simp only [cond_true] at hb
      split at hb
      · rename_i U hU
        cases e2 : Nat.ble (k.2.1 + fl) h && (b_isub k.2.2.2.1 wr && (b_tpu k.2.2.1 && k.2.2.2.2.all (fun po => Nat.ble k.2.2.1.1.length po.1.length))) with
        | true =>
          rw [e2] at hb
          simp only [Bool.and_eq_true] at e2
          obtain ⟨f1, f2, f3, f4⟩ := e2
          simp only [cond_true] at hb
          obtain ⟨ρ', g1, g2, g3, g4, g5, g6, g7, g8⟩ := b_match_ok (cl := []) (lv := []) f3 hW hH hM (fun i v hv => by cases hv) hs (fun y hy => by cases hy) hU
          have f1 : k.2.1 + fl ≤ h := Nat.le_of_ble_eq_true f1
          rw [← e]
          refine hΓ k List.mem_cons_self Fin _ σ gs' ws g6 hH g8 hok (by omega) (fun r' σ' ho => ?_)
          obtain ⟨q, q1, ρ2, q2, q3, q4⟩ := b_apps_ok hG g1.2.2 g2 g3 g5 f4 ho hb
          obtain ⟨po, -, ρc, -, -, o5, -, o7, o8⟩ := ho
          exact hk q q1 ρ2 σ' r' (g1.tr q2) q3 o5 q4 o7 (fun k' i' hw => o8 k' i' (by
            cases e9 : b_wrf k.2.2.2.1 k' i' with
            | true => rw [b_isub_ok f2 e9] at hw; cases hw
            | false => rfl))
        | false => rw [e2] at hb; cases hb
      · exact b_byK_ok hG hW hH hM hs hok hgs (fun k' hk' => hΓ k' (List.mem_cons_of_mem _ hk')) hb hk
    | false =>
      rw [e] at hb
      exact b_byK_ok hG hW hH hM hs hok hgs (fun k' hk' => hΓ k' (List.mem_cons_of_mem _ hk')) hb hk
theorem b_rok_ok {k nx : Nat} {v : Int} {q : List Nat} (hW : b_gW W ρ) (hs : a_all2 (b_gv W.1.1 ρ) st cs) (hr : b_rok W k st = true) : ∃ r : Option Value, m_step fz (27, k, v, q) nx cl cs σ = some (.inr (.inl r)) ∧ r.toList = cs := by
  unfold b_rok at hr
  split at hr
  · rename_i x
    obtain ⟨w, t, rfl, g1, g2⟩ := b_cons hs
    obtain rfl : t = [] := by cases t with
      | nil => rfl
      | cons => exact g2.elim
    have := b_gv_knd g1
    rw [of_decide_eq_true hr] at this
    match w, this with
    | .int z, _ => exact ⟨some (.int z), rfl, rfl⟩
  · rename_i x
    obtain ⟨w, t, rfl, g1, g2⟩ := b_cons hs
    obtain rfl : t = [] := by cases t with
      | nil => rfl
      | cons => exact g2.elim
    have := b_gv_knd g1
    rw [of_decide_eq_true hr] at this
    match w, this with
    | .long z, _ => exact ⟨some (.long z), rfl, rfl⟩
  · obtain rfl : cs = [] := by cases cs with
      | nil => rfl
      | cons => exact hs.elim
    exact ⟨none, rfl, rfl⟩
  · rename_i x
    obtain ⟨w, t, rfl, g1, g2⟩ := b_cons hs
    obtain rfl : t = [] := by cases t with
      | nil => rfl
      | cons => exact g2.elim
    simp only [Bool.and_eq_true] at hr
    obtain ⟨h1, h2, h3⟩ := hr
    have h4 := b_le_ok hW h2
    have h5 := b_ge_ok hW h3
    obtain ⟨t', y⟩ := x
    have h6 := Nat.eq_of_beq_eq_true h1
    dsimp only at h6 h4 h5
    subst h6
    unfold b_gv at g1
    split at g1
    · rename_i z e
      rw [show b_ev ρ y = z.toInt from g1.1] at h4 h5
      have hz : z = 0 ∨ z = 1 := by
        have : z.toInt = 0 ∨ z.toInt = 1 := by omega
        rcases this with h | h
        · left; rw [← Int32.ofInt_toInt z, h]; rfl
        · right; rw [← Int32.ofInt_toInt z, h]; rfl
      refine ⟨some (.int z), ?_, rfl⟩
      simp only [m_step]
      rw [if_pos hz]
    · rename_i e; cases e
    · rename_i e; cases e
    · rename_i e; cases e
    · exact g1.elim
  · cases hr
end B79b
end
section
/-! one step more is right -/
section B79c
variable {F : Nat → Nat → Option (m_I × Nat)} {T : Nat → Option b_C} {Z : Nat → Option (List Int32)} {G : b_G} {fz : List (List Int32)} {dep : Nat → Nat → Bool} {hn : b_Hn} {Γ : List b_K} {wr : List (Nat × Nat)} {h g : Nat} {posts : List b_Tp} {cuts : List b_Cu} {Fin : Option Value → m_S → Prop} {gs : List m_Fr} {σ0 : m_S} {n1 : Nat} {ρ1 : Nat → Int}
theorem b_unc {α β : Type} {R : α → β → Prop} {x : α} {r : List α} : ∀ {bs : List β}, a_all2 R (x :: r) bs → ∃ b t, bs = b :: t ∧ R x b ∧ a_all2 R r t
  | [], h => h.elim
  | b :: t, h => ⟨b, t, rfl, h.1, h.2⟩
theorem b_frs.up {W W' : b_NF} {ρ ρ' : Nat → Int} {fs : List b_Fr} {cfs : List m_Fr} (he : b_ext W ρ W' ρ') (hf : a_all2 (b_gfr W.1.1 ρ) fs cfs) : a_all2 (b_gfr W'.1.1 ρ') fs cfs := hf.imp fun _ _ h => h.up he
theorem b_ids_at {s : Nat} (hs : s < g) : (b_ids g)[s]? = some (b_sym s) := by
  unfold b_ids
  rw [List.getElem?_map, List.getElem?_range hs]
  rfl
theorem b_ids_ua {n : Nat} (hg : g ≤ n) : b_ua n (b_ids g) := by
  intro y hy q hq
  unfold b_ids at hy
  obtain ⟨s, h1, rfl⟩ := List.mem_map.mp hy
  simp only [b_sym, List.mem_singleton] at hq
  subst hq
  have := List.mem_range.mp h1
  dsimp only
  omega
theorem b_ids_rt {ρ : Nat → Int} {θ : List b_L} (hp : b_pre (b_ids g) θ) : ∀ s, s < g → b_rt ρ θ s = ρ s := by
  intro s hs
  have := hp s _ (b_ids_at hs)
  unfold b_rt
  simp only [List.getD, this, Option.getD_some]
  exact b_sym_ev s
theorem b_callOk {I : m_I} {lv : m_V} {as rest : List Value} {σ : m_S} (hH : b_gH T σ) (h1 : m_okl 139 lv = true) (h2 : rest.all (m_okv 139) = true) (h3 : (rest.map fun v => v.category).sum ≤ 8) (h4 : (as.map fun v => v.category).sum ≤ I.2.2.2.getD 1 0) : m_callOk I lv as rest σ = true := by
  unfold m_callOk
  rw [hH.1, h1, h2]
  simp only [Bool.and_true, Bool.and_eq_true, decide_eq_true_eq]
  exact ⟨⟨by decide, h3⟩, h4⟩
theorem b_adv_ok (hG : b_GOk G dep) (hD : b_DepOk dep) (hWr : b_WrOk T (b_wrf wr)) (hZ : b_ZOk Z G fz) (hHn : b_HnOk T G fz hn) (hΓ : ∀ k ∈ Γ, b_Valid F fz T G k) (hgs : gs.length + h ≤ 60) (hg : g ≤ n1) (hPost : ∀ r σ', (∃ po ∈ posts, b_out T G fz g ρ1 σ0 wr po r σ') → b_ret F fz Fin gs r σ')
    {ih : b_Q → Bool} (hih : ∀ Q', ih Q' = true → b_Good F fz T G wr Fin gs σ0 n1 ρ1 Q') {Q : b_Q} (hb : b_adv F T Z dep hn Γ wr h g posts ih Q = true) : b_Good F fz T G wr Fin gs σ0 n1 ρ1 Q := by
  intro ρ σ cfs hag hn1 hW hH hM hfs hfr
  unfold b_adv at hb
  split at hb
  · cases hb
  · rename_i f frs hQ
    rw [hQ] at hfs
    obtain ⟨⟨mid, pc, clv, cst⟩, crs, rfl, ⟨e1, e2, hf⟩, hrs⟩ := b_unc hfs
    dsimp only at e1 e2 hf
    have hlen : crs.length = frs.length := hrs.len.symm
    split at hb
    · rename_i L hL
      obtain ⟨q, q1, ρ', he, hM'⟩ := hHn _ _ _ _ _ _ _ _ _ _ _ hL hW hH hM hf
      exact hih _ (List.all_eq_true.mp hb q q1) ρ' σ ((mid, pc, clv, cst) :: crs) (hag.tr he.2.1 hn1) (Nat.le_trans hn1 he.1) he.2.2 hH hM' ⟨⟨e1, e2, hf.up he⟩, b_frs.up he hrs⟩ hfr
    · split at hb
      · cases hb
      · rename_i Il hF
        obtain ⟨I, len⟩ := Il
        rw [e1, e2] at hF
        dsimp only at hb
        cases e24 : Nat.beq I.1 24 with
        | true =>
          rw [e24] at hb
          have e24 := Nat.eq_of_beq_eq_true e24
          simp only [cond_true] at hb
          split at hb
          · rename_i ar har
            cases ec : Nat.ble (b_cats ar.2) 8 && (Nat.ble (b_cats ar.1) (I.2.2.2.getD 1 0) && Nat.ble (frs.length + 1) h) with
            | true =>
              rw [ec] at hb
              simp only [Bool.and_eq_true] at ec
              obtain ⟨c1, c2, c3⟩ := ec
              have c1 := Nat.le_of_ble_eq_true c1
              have c2 := Nat.le_of_ble_eq_true c2
              have c3 := Nat.le_of_ble_eq_true c3
              simp only [cond_true] at hb
              obtain ⟨cas, crest, m1, m2, m3, m4, m5⟩ := b_cl_ok (fz := fz) (nx := pc + len) (cl := clv) e24 hH hf.2.1 hf.2.2.2 har
              rw [b_cats_ok m3] at c1
              rw [b_cats_ok m2] at c2
              have hcall := b_callOk (I := I) hH hf.2.2.1 m5 c1 c2
              have hnext : m_next F fz (((mid, pc, clv, cst) :: crs) ++ gs) σ = some (.inl ((I.2.1, 0, lv_args 0 cas, []) :: (mid, pc + len, clv, crest) :: (crs ++ gs), σ)) := by
                simp only [List.cons_append, m_next, hF, m1]
                rw [if_pos ⟨hcall, by rw [List.length_append]; omega⟩]
              refine b_win_step hnext ?_
              cases ek : Γ.any (fun k => Nat.beq k.1 I.2.1) with
              | true =>
                rw [ek] at hb
                simp only [cond_true] at hb
                split at hb
                · rename_i L hL
                  refine b_byK_ok (h := h) (fl := frs.length + 1) (gs' := (mid, pc + len, clv, crest) :: (crs ++ gs)) hG hW hH hM m2 m4 (by rw [List.length_cons, List.length_append]; omega) hΓ hL (fun q hq ρ' σ' r he hM' hH' hr hrok hfr' => ?_)
                  have hg2 := hih _ (List.all_eq_true.mp hb q hq) ρ' σ' ((mid, pc + len, clv, r.toList ++ crest) :: crs) (hag.tr he.2.1 hn1) (Nat.le_trans hn1 he.1) he.2.2 hH' hM' ⟨⟨e1, by rw [e2], hf.1.up he, hr.app (b_all2.up he m3), hf.2.2.1, by rw [List.all_append, hrok, m5]; rfl⟩, b_frs.up he hrs⟩ (hfr.tr hfr')
                  exact hg2
                · cases hb
              | false =>
                rw [ek] at hb
                simp only [cond_false, Bool.and_eq_true] at hb
                exact hih _ hb.2 ρ σ ((I.2.1, 0, lv_args 0 cas, []) :: (mid, pc + len, clv, crest) :: crs) hag hn1 hW hH hM ⟨⟨rfl, rfl, b_args_ok m2, trivial, b_okargs m4, rfl⟩, ⟨e1, by rw [e2], hf.1, m3, hf.2.2.1, m5⟩, hrs⟩ hfr
            | false => rw [ec] at hb; cases hb
          · cases hb
        | false =>
          rw [e24] at hb
          simp only [cond_false] at hb
          cases e27 : Nat.beq I.1 27 with
          | true =>
            rw [e27] at hb
            have e27 := Nat.eq_of_beq_eq_true e27
            simp only [cond_true, Bool.and_eq_true] at hb
            obtain ⟨b1, b2⟩ := hb
            obtain ⟨op, ia, iv, iq⟩ := I
            dsimp only at e27
            subst e27
            obtain ⟨r, r1, r2⟩ := b_rok_ok (fz := fz) (nx := pc + len) (v := iv) (q := iq) (cl := clv) (σ := σ) hW hf.2.1 b1
            split at b2
            · rename_i hfr0
              obtain rfl : crs = [] := by
                cases crs with
                | nil => rfl
                | cons => exact hrs.elim
              obtain ⟨po, p1, p2⟩ := List.any_eq_true.mp b2
              rw [Bool.and_eq_true] at p2
              obtain ⟨p2, p3⟩ := p2
              split at p3
              · rename_i U hU
                obtain ⟨ρ', g1, g2, g3, g4, g5, g6, g7, g8⟩ := b_match_ok (cl := []) (lv := []) p2 hW hH hM (fun i v hv => by cases hv) hf.2.1 (b_ids_ua (Nat.le_trans hg hn1)) hU
                have hret := hPost r σ ⟨po, p1, b_rt ρ' U.2.2, fun s hs => by
                  rw [b_ids_rt g4 s hs, g1.2.1 s (by omega), hag s (by omega)], g6, hH, by rw [r2]; exact g8, by rw [r2]; exact hf.2.2.2, hfr⟩
                cases gs with
                | nil => exact b_win_end (o := (r, σ)) (by simp only [List.append_nil, m_next, hF, r1]) hret
                | cons c2 hs =>
                  obtain ⟨m2, p2', l2, s2⟩ := c2
                  exact b_win_step (by simp only [List.cons_append, List.nil_append, m_next, hF, r1]) hret
              · cases p3
            · rename_i f2 hs
              obtain ⟨⟨m2, pc2, l2, s2⟩, crs', rfl, ⟨d1, d2, d3⟩, d4⟩ := b_unc hrs
              refine b_win_step (fs' := ((m2, pc2, l2, r.toList ++ s2) :: crs') ++ gs) (σ' := σ) (by simp only [List.cons_append, m_next, hF, r1]) ?_
              refine hih _ b2 ρ σ ((m2, pc2, l2, r.toList ++ s2) :: crs') hag hn1 hW hH hM ⟨⟨d1, d2, d3.1, ?_, d3.2.2.1, ?_⟩, d4⟩ hfr
              · rw [r2]; exact hf.2.1.app d3.2.1
              · rw [r2, List.all_append, hf.2.2.2, d3.2.2.2]; rfl
          | false =>
            rw [e27] at hb
            simp only [cond_false] at hb
            split at hb
            · rename_i L hL
              rw [e2] at hL
              obtain ⟨pc', cl', cs', σ', s1, s2, q, q1, ρ', he, q3, q4, q5, q6⟩ := b_loc_ok hG hD hWr hZ hW hH hM hf hL
              refine b_win_step (fs' := ((mid, pc', cl', cs') :: crs) ++ gs) (σ' := σ') (by simp only [List.cons_append, m_next, hF, s1]) ?_
              exact hih _ (List.all_eq_true.mp hb q q1) ρ' σ' ((mid, pc', cl', cs') :: crs) (hag.tr he.2.1 hn1) (Nat.le_trans hn1 he.1) he.2.2 q4 q5 ⟨⟨e1, q3, q6⟩, b_frs.up he hrs⟩ (hfr.tr s2)
            · cases hb
end B79c
end
section
/-! a contract that is checked is valid -/
def b_rows0 (T : Nat → Option b_C) (wr : List (Nat × Nat)) : Bool := wr.all fun p => Nat.beq p.2 0 || (match T p.1 with
  | some c => Nat.beq c.1 0
  | none => true)
/-- what holds of the tables alone -/
def b_chk0 (T : Nat → Option b_C) (c : b_K) (cuts : List b_Cu) : Bool := b_rows0 T c.2.2.2.1 && (b_tpu c.2.2.1 && cuts.all fun C => b_tpu C.2.1 && (Nat.ble c.2.2.1.1.length C.2.1.1.length && b_ul C.2.1.1.length C.2.2))
noncomputable def b_chkE (F : Nat → Nat → Option (m_I × Nat)) (T : Nat → Option b_C) (Z : Nat → Option (List Int32)) (dep : Nat → Nat → Bool) (hn : b_Hn) (Γ : List b_K) (c : b_K) (cuts : List b_Cu) (n : Nat) : Bool :=
  b_walk F T Z dep hn Γ c.2.2.2.1 c.1 c.2.1 c.2.2.1.1.length c.2.2.2.2 cuts none n ((b_toN c.2.2.1.1, c.2.2.1.2.1), c.2.2.1.2.2.2.2, [(c.1, 0, b_args 0 c.2.2.1.2.2.2.1, [])])
noncomputable def b_chkC (F : Nat → Nat → Option (m_I × Nat)) (T : Nat → Option b_C) (Z : Nat → Option (List Int32)) (dep : Nat → Nat → Bool) (hn : b_Hn) (Γ : List b_K) (c : b_K) (cuts : List b_Cu) (n : Nat) (C : b_Cu) : Bool :=
  b_adv F T Z dep hn Γ c.2.2.2.1 c.2.1 c.2.2.1.1.length c.2.2.2.2 (b_walk F T Z dep hn Γ c.2.2.2.1 c.1 c.2.1 c.2.2.1.1.length c.2.2.2.2 cuts (some C.2.2) n) ((b_toN C.2.1.1, C.2.1.2.1), C.2.1.2.2.2.2, [(c.1, C.1, C.2.1.2.2.1, C.2.1.2.2.2.1)])
/-- a cut's state, with the frames below -/
def b_CutWin (F : Nat → Nat → Option (m_I × Nat)) (fz : List (List Int32)) (T : Nat → Option b_C) (G : b_G) (wr : List (Nat × Nat)) (Fin : Option Value → m_S → Prop) (gs : List m_Fr) (σ0 : m_S) (mid g : Nat) (ρ1 : Nat → Int) (C : b_Cu) (R : Int → Prop) : Prop :=
  ∀ ρ' σ' cl cs, b_agr g ρ1 ρ' → b_gT G fz ρ' σ' C.2.1 → b_gH T σ' → b_gf C.2.1.1.length ρ' C.2.1.2.2.1 C.2.1.2.2.2.1 cl cs → b_frame (b_wrf wr) σ0 σ' → 0 ≤ b_ev ρ' C.2.2 → R (b_ev ρ' C.2.2) → b_win F fz Fin ((mid, C.1, cl, cs) :: gs) σ'
section B79d
variable {F : Nat → Nat → Option (m_I × Nat)} {T : Nat → Option b_C} {Z : Nat → Option (List Int32)} {G : b_G} {fz : List (List Int32)} {dep : Nat → Nat → Bool} {hn : b_Hn} {Γ : List b_K} {wr : List (Nat × Nat)} {mid h g : Nat} {posts : List b_Tp} {cuts : List b_Cu} {Fin : Option Value → m_S → Prop} {gs : List m_Fr} {σ0 : m_S} {n1 : Nat} {ρ1 : Nat → Int}
theorem b_rows0_ok (h : b_rows0 T wr = true) : b_WrOk T (b_wrf wr) := by
  intro k c hT hc i
  have key : ∀ j, b_wrf wr k j = wr.any fun p => Nat.beq p.1 k := by
    intro j
    unfold b_wrf
    cases e : wr.any fun p => Nat.beq p.1 k with
    | true =>
      obtain ⟨p, h1, h2⟩ := List.any_eq_true.mp e
      refine List.any_eq_true.mpr ⟨p, h1, ?_⟩
      have h3 := List.all_eq_true.mp h p h1
      have e2 := Nat.eq_of_beq_eq_true h2
      rw [Bool.or_eq_true] at h3
      rw [Bool.and_eq_true, Bool.or_eq_true]
      refine ⟨h2, ?_⟩
      rcases h3 with h3 | h3
      · exact Or.inl h3
      · rw [e2, hT] at h3
        dsimp only at h3
        rw [hc] at h3
        cases h3
    | false =>
      refine List.any_eq_false.mpr (fun p hp h9 => ?_)
      rw [Bool.and_eq_true] at h9
      exact List.any_eq_false.mp e p hp h9.1
  rw [key i, key 0]
theorem b_walk_ok (hG : b_GOk G dep) (hD : b_DepOk dep) (hWr : b_WrOk T (b_wrf wr)) (hZ : b_ZOk Z G fz) (hHn : b_HnOk T G fz hn) (hΓ : ∀ k ∈ Γ, b_Valid F fz T G k) (hgs : gs.length + h ≤ 60) (hg : g ≤ n1) (hPost : ∀ r σ', (∃ po ∈ posts, b_out T G fz g ρ1 σ0 wr po r σ') → b_ret F fz Fin gs r σ') {rk : Option b_L} (hrk : ∀ r0, rk = some r0 → b_u n1 r0)
    (hCut : ∀ C ∈ cuts, b_CutWin F fz T G wr Fin gs σ0 mid g ρ1 C (fun a => ∀ r0, rk = some r0 → a < b_ev ρ1 r0)) : ∀ n Q, b_walk F T Z dep hn Γ wr mid h g posts cuts rk n Q = true → b_Good F fz T G wr Fin gs σ0 n1 ρ1 Q := by
  intro n
  induction n with
  | zero => intro Q hq; cases hq
  | succ n ih =>
    intro Q hq
    have hq : (match b_atc T mid g rk cuts Q with
      | some b => b
      | none => b_adv F T Z dep hn Γ wr h g posts (b_walk F T Z dep hn Γ wr mid h g posts cuts rk n) Q) = true := hq
    split at hq
    · rename_i b hb
      subst hq
      unfold b_atc at hb
      split at hb
      · rename_i f hf1
        cases e : Nat.beq f.1 mid && cuts.any (fun C => Nat.beq C.1 f.2.1) with
        | true =>
          rw [e] at hb
          rw [Bool.and_eq_true] at e
          simp only [cond_true, Option.some.injEq] at hb
          obtain ⟨C, h1, h2⟩ := List.any_eq_true.mp hb
          simp only [Bool.and_eq_true] at h2
          obtain ⟨h3, h4, h5⟩ := h2
          intro ρ σ cfs hag hn1 hW hH hM hfs hfr
          rw [hf1] at hfs
          obtain ⟨⟨m2, pc2, clv, cst⟩, crs, rfl, ⟨e1, e2, hf⟩, hrs⟩ := b_unc hfs
          obtain rfl : crs = [] := by
            cases crs with
            | nil => rfl
            | cons => exact hrs.elim
          dsimp only at e1 e2 hf
          unfold b_arr at h5
          split at h5
          · rename_i U hU
            split at h5
            · rename_i y hy
              rw [Bool.and_eq_true] at h5
              obtain ⟨ρ', g1, g2, g3, g4, g5, g6, g7, g8⟩ := b_match_ok h4 hW hH hM hf.1 hf.2.1 (b_ids_ua (Nat.le_trans hg hn1)) hU
              have k1 := b_sub_ok (ρ := ρ') g3 hy
              have k2 := b_ge_ok g1.2.2 h5.1
              rw [k1.1] at k2
              have h6 := hCut C h1 (b_rt ρ' U.2.2) σ clv cst (fun s hs => by rw [b_ids_rt g4 s hs, g1.2.1 s (by omega), hag s (by omega)]) g6 hH ⟨g7, g8, hf.2.2⟩ hfr k2 (fun r0 hr0 => by
                have h7 := h5.2
                rw [hr0] at h7
                dsimp only at h7
                have k3 := b_le_ok g1.2.2 h7
                rw [b_add_ev, k1.1] at k3
                have k4 : b_ev ρ' r0 = b_ev ρ1 r0 := by
                  have := (show b_gx n1 ρ1 r0 (b_ev ρ1 r0) from ⟨rfl, hrk r0 hr0⟩).ext (ρ' := ρ') (n' := n1) (Nat.le_refl _) (hag.tr g1.2.1 hn1)
                  exact this.1
                omega)
              rw [Nat.eq_of_beq_eq_true h3, ← Nat.eq_of_beq_eq_true e.1, e1, e2] at h6
              exact h6
            · cases h5
          · cases h5
        | false => rw [e] at hb; cases hb
      · cases hb
    · exact b_adv_ok hG hD hWr hZ hHn hΓ hgs hg hPost (fun Q' hQ' => ih Q' hQ') hq
theorem b_valid {c : b_K} {n : Nat} (hG : b_GOk G dep) (hD : b_DepOk dep) (hZ : b_ZOk Z G fz) (hHn : b_HnOk T G fz hn) (hΓ : ∀ k ∈ Γ, b_Valid F fz T G k) (h0 : b_chk0 T c cuts = true) (hE : b_chkE F T Z dep hn Γ c cuts n = true) (hC : ∀ C ∈ cuts, b_chkC F T Z dep hn Γ c cuts n C = true) : b_Valid F fz T G c := by
  unfold b_chk0 at h0
  simp only [Bool.and_eq_true] at h0
  obtain ⟨z1, z2, z3⟩ := h0
  intro Fin ρ σ gs ws hT hH hs hok hgs hPost
  have hWr := b_rows0_ok z1
  have hcuts : ∀ m : Nat, ∀ C ∈ cuts, b_CutWin F fz T G c.2.2.2.1 Fin gs σ c.1 c.2.2.1.1.length ρ C (fun a => a.toNat < m) := by
    intro m
    induction m with
    | zero => intro C hC2 ρ' σ' cl cs _ _ _ _ _ _ h9; exact absurd h9 (Nat.not_lt_zero _)
    | succ m ih =>
      intro C hC2 ρ' σ' cl cs a1 a2 a3 a4 a5 a6 a7
      have hz := List.all_eq_true.mp z3 C hC2
      simp only [Bool.and_eq_true] at hz
      obtain ⟨y1, y2, y3⟩ := hz
      have y2 := Nat.le_of_ble_eq_true y2
      have hPost2 : ∀ r σ'', (∃ po ∈ c.2.2.2.2, b_out T G fz c.2.2.1.1.length ρ' σ c.2.2.2.1 po r σ'') → b_ret F fz Fin gs r σ'' := by
        rintro r σ'' ⟨po, p1, ρ'', p2, p3⟩
        exact hPost r σ'' ⟨po, p1, ρ'', a1.tr p2 (Nat.le_refl _), p3⟩
      have hgood := b_adv_ok (n1 := C.2.1.1.length) (ρ1 := ρ') (σ0 := σ) hG hD hWr hZ hHn hΓ hgs y2 hPost2 (b_walk_ok (rk := some C.2.2) hG hD hWr hZ hHn hΓ hgs y2 hPost2 (fun r0 hr0 => by cases hr0; exact b_ul_ok y3) (fun C' hC' ρ2 σ2 cl2 cs2 b1 b2 b3 b4 b5 b6 b7 => by
        refine ih C' hC' ρ2 σ2 cl2 cs2 (a1.tr b1 (Nat.le_refl _)) b2 b3 b4 b5 b6 ?_
        have := b7 C.2.2 rfl
        omega) n) (hC C hC2)
      exact hgood ρ' σ' [(c.1, C.1, cl, cs)] (fun _ _ => rfl) (by simp [b_toN]) a2.1 a3 (by simpa [b_toN] using a2.2) ⟨⟨rfl, rfl, by simpa [b_toN] using a4⟩, trivial⟩ a5
  have hw := b_walk_ok (n1 := c.2.2.1.1.length) (ρ1 := ρ) (σ0 := σ) (rk := none) (mid := c.1) (cuts := cuts) hG hD hWr hZ hHn hΓ hgs (Nat.le_refl _) hPost (fun r0 hr0 => by cases hr0) (fun C hC2 ρ' σ' cl cs b1 b2 b3 b4 b5 b6 _ => hcuts ((b_ev ρ' C.2.2).toNat + 1) C hC2 ρ' σ' cl cs b1 b2 b3 b4 b5 b6 (Nat.lt_succ_self _)) n _ hE
  exact hw ρ σ [(c.1, 0, lv_args 0 ws, [])] (fun _ _ => rfl) (by simp [b_toN]) hT.1 hH (by simpa [b_toN] using hT.2) ⟨⟨rfl, rfl, by simpa [b_toN] using b_args_ok hs, trivial, b_okargs hok, rfl⟩, trivial⟩ b_frame.rf
end B79d
end
section
/-! HINTS: a number is split into what it can be; ghosts are told of -/
/-- the values lo .. lo + k - 1 that the set lets stand, each in a state of its own -/
noncomputable def b_spl (W : b_NF) (x : b_L) (ms : Nat) (lo : Int) : Nat → List b_NF
  | 0 => []
  | k + 1 => b_spl W x ms lo k ++ (bif Nat.beq ms 0 || Nat.testBit ms (lo + (k : Int) + 1).toNat then b_learn W 0 (b_adc x (-(lo + (k : Int)))) else [])
/-- nothing to do where it is one number already -/
noncomputable def b_split (W : b_NF) (x : b_L) : Option (List b_NF) := match b_lo W.1 x, b_hi W.1 x with
  | some a, some b => bif decide (a = b) then none else bif decide (b - a ≤ 300) then some (b_spl W x (b_mset W.1 x) a (b - a + 1).toNat) else none
  | _, _ => none
section B79e
variable {T : Nat → Option b_C} {G : b_G} {fz : List (List Int32)} {ρ : Nat → Int} {W : b_NF} {M : b_M} {σ : m_S}
theorem b_spl_ok (hW : b_gW W ρ) {x : b_L} {a lo : Int} {ms : Nat} (hx : b_gx W.1.1 ρ x a) (hm : ms ≠ 0 → Nat.testBit ms (a + 1).toNat = true) : ∀ k : Nat, lo ≤ a → a < lo + k → ∃ U ∈ b_spl W x ms lo k, b_gW U ρ ∧ U.1.1 = W.1.1
  | 0, h1, h2 => by omega
  | k + 1, h1, h2 => by
    unfold b_spl
    by_cases c : a < lo + k
    · obtain ⟨U, g1, g2⟩ := b_spl_ok hW hx hm k h1 c
      exact ⟨U, List.mem_append_left _ g1, g2⟩
    · have e : a = lo + (k : Int) := by omega
      have hb : (Nat.beq ms 0 || Nat.testBit ms (lo + (k : Int) + 1).toNat) = true := by
        rw [Bool.or_eq_true]
        by_cases h0 : ms = 0
        · left; rw [h0]; rfl
        · right; rw [← e]; exact hm h0
      rw [hb]
      obtain ⟨U, g1, g2⟩ := b_learn_ok hW (k := 0) (hx.adc (-(lo + (k : Int)))) (by show a + -(lo + (k : Int)) = 0; omega)
      exact ⟨U, List.mem_append_right _ g1, g2⟩
theorem b_split_ok (hW : b_gW W ρ) {x : b_L} {a : Int} (hx : b_gx W.1.1 ρ x a) {L : List b_NF} (h : b_split W x = some L) : ∃ U ∈ L, b_gW U ρ ∧ U.1.1 = W.1.1 := by
  unfold b_split at h
  split at h
  · rename_i lo hi h1 h2
    have g1 := b_lo_ok hW.1 h1
    have g2 := b_hi_ok hW.1 h2
    rw [hx.1] at g1 g2
    cases e : decide (lo = hi) with
    | true => rw [e] at h; cases h
    | false =>
      rw [e] at h
      simp only [cond_false] at h
      cases e2 : decide (hi - lo ≤ 300) with
      | true =>
        rw [e2] at h
        cases h
        refine b_spl_ok hW hx (fun h0 => ?_) _ g1 (by omega)
        obtain ⟨j, k1, k2⟩ := b_mset_ok hW.1 h0
        rw [hx.1] at k2
        have : (a + 1).toNat = j := by omega
        rw [this]
        exact k1
      | false => rw [e2] at h; cases h
  · cases h
/-- a hint that splits a number keeps memory as it is -/
theorem b_split_hn (hW : b_gW W ρ) (hM : b_gM G fz W.1.1 ρ σ M) {x : b_L} {a : Int} (hx : b_gx W.1.1 ρ x a) {L : List b_NF} (h : b_split W x = some L) : ∃ q ∈ L.map (fun U => (U, M)), ∃ ρ', b_ext W ρ q.1 ρ' ∧ b_gM G fz q.1.1.1 ρ' σ q.2 := by
  obtain ⟨U, g1, g2, g3⟩ := b_split_ok hW hx h
  exact ⟨(U, M), List.mem_map.mpr ⟨U, g1, rfl⟩, ρ, b_same g2 g3, hM.up (b_same g2 g3)⟩
end B79e
end
section
/-! hints by a table: (kind, number, index): 0 a local is split, 1 a stack value, 2 a place of memory, 3 a local's greatest number aside (where it is below a power of two by one), 4 a local is split where another one (the index' number) is known -/
abbrev b_Ac : Type := Nat × Nat × b_L
noncomputable def b_spM (W : b_NF) (M : b_M) (v : b_V) : Option (List (b_NF × b_M)) := bif Nat.beq v.1 0 then (match b_split W v.2 with
  | some L => some (L.map fun U => (U, M))
  | none => none) else none
noncomputable def b_peel (W : b_NF) (M : b_M) (v : b_V) : Option (List (b_NF × b_M)) := match b_lo W.1 v.2, b_hi W.1 v.2 with
  | some a, some b => bif Nat.beq v.1 0 && (decide (a < b) && Nat.beq ((b + 1).toNat &&& b.toNat) 0) then some ((b_learn W 0 (b_adc v.2 (-b))).map (fun U => (U, M)) ++ (b_learn W 5 (b_adc v.2 (1 - b))).map (fun U => (U, M))) else none
  | _, _ => none
def b_known (W : b_NF) (v : b_V) : Bool := match b_lo W.1 v.2, b_hi W.1 v.2 with
  | some a, some b => decide (a = b)
  | _, _ => false
noncomputable def b_act (T : Nat → Option b_C) (W : b_NF) (M : b_M) (lv : b_Lv) (st : List b_V) (A : b_Ac) : Option (List (b_NF × b_M)) := match A.1 with
  | 0 => match b_ld lv A.2.1 with
    | some v => b_spM W M v
    | none => none
  | 1 => match st[A.2.1]? with
    | some v => b_spM W M v
    | none => none
  | 2 => bif Nat.blt A.2.1 139 && b_ul W.1.1 A.2.2 then (match b_get T W M A.2.1 A.2.2 with
    | some U => b_spM U.1 U.2.1 U.2.2
    | none => none) else none
  | 3 => match b_ld lv A.2.1 with
    | some v => b_peel W M v
    | none => none
  | 4 => match b_ld lv A.2.1, b_ld lv A.2.2.1.toNat with
    | some v, some u => bif b_known W u then b_spM W M v else none
    | _, _ => none
  | _ => none
noncomputable def b_acts (T : Nat → Option b_C) (W : b_NF) (M : b_M) (lv : b_Lv) (st : List b_V) : List b_Ac → Option (List (b_NF × b_M))
  | [] => none
  | A :: r => match b_act T W M lv st A with
    | some L => some L
    | none => b_acts T W M lv st r
section B79f
variable {T : Nat → Option b_C} {G : b_G} {fz : List (List Int32)} {ρ : Nat → Int} {W : b_NF} {M : b_M} {σ : m_S} {lv : b_Lv} {st : List b_V} {cl : m_V} {cs : List Value}
theorem b_spM_ok (hW : b_gW W ρ) (hM : b_gM G fz W.1.1 ρ σ M) {v : b_V} {w : Value} (hv : b_gv W.1.1 ρ v w) {L : List (b_NF × b_M)} (h : b_spM W M v = some L) : ∃ q ∈ L, ∃ ρ', b_ext W ρ q.1 ρ' ∧ b_gM G fz q.1.1.1 ρ' σ q.2 := by
  unfold b_spM at h
  cases e : Nat.beq v.1 0 with
  | true =>
    rw [e] at h
    simp only [cond_true] at h
    split at h
    · rename_i K hK
      cases h
      exact b_split_hn hW hM ⟨rfl, b_gv_u hv⟩ hK
    · cases h
  | false => rw [e] at h; cases h
theorem b_peel_ok (hW : b_gW W ρ) (hM : b_gM G fz W.1.1 ρ σ M) {v : b_V} {w : Value} (hv : b_gv W.1.1 ρ v w) {L : List (b_NF × b_M)} (h : b_peel W M v = some L) : ∃ q ∈ L, ∃ ρ', b_ext W ρ q.1 ρ' ∧ b_gM G fz q.1.1.1 ρ' σ q.2 := by
  unfold b_peel at h
  split at h
  · rename_i a b h1 h2
    have hx : b_gx W.1.1 ρ v.2 (b_ev ρ v.2) := ⟨rfl, b_gv_u hv⟩
    have g2 := b_hi_ok hW.1 h2
    cases e : Nat.beq v.1 0 && (decide (a < b) && Nat.beq ((b + 1).toNat &&& b.toNat) 0) with
    | true =>
      rw [e] at h
      cases h
      by_cases c : b_ev ρ v.2 = b
      · obtain ⟨U, k1, k2, k3⟩ := b_learn_ok hW (k := 0) (hx.adc (-b)) (by show b_ev ρ v.2 + -b = 0; omega)
        exact ⟨(U, M), List.mem_append_left _ (List.mem_map.mpr ⟨U, k1, rfl⟩), ρ, b_same k2 k3, hM.up (b_same k2 k3)⟩
      · obtain ⟨U, k1, k2, k3⟩ := b_learn_ok hW (k := 5) (hx.adc (1 - b)) (by show b_ev ρ v.2 + (1 - b) ≤ 0; omega)
        exact ⟨(U, M), List.mem_append_right _ (List.mem_map.mpr ⟨U, k1, rfl⟩), ρ, b_same k2 k3, hM.up (b_same k2 k3)⟩
    | false => rw [e] at h; cases h
  · cases h
theorem b_act_ok {A : b_Ac} (hW : b_gW W ρ) (hH : b_gH T σ) (hM : b_gM G fz W.1.1 ρ σ M) (hf : b_gf W.1.1 ρ lv st cl cs) {L : List (b_NF × b_M)} (h : b_act T W M lv st A = some L) : ∃ q ∈ L, ∃ ρ', b_ext W ρ q.1 ρ' ∧ b_gM G fz q.1.1.1 ρ' σ q.2 := by
  unfold b_act at h
  split at h
  · split at h
    · rename_i v hv
      obtain ⟨w, -, g2⟩ := hf.1 _ _ hv
      exact b_spM_ok hW hM g2 h
    · cases h
  · split at h
    · rename_i v hv
      obtain ⟨w, -, g2⟩ := hf.2.1.get hv
      exact b_spM_ok hW hM g2 h
    · cases h
  · cases e : Nat.blt A.2.1 139 && b_ul W.1.1 A.2.2 with
    | true =>
      rw [e] at h
      rw [Bool.and_eq_true] at e
      simp only [cond_true] at h
      split at h
      · rename_i U hU
        obtain ⟨U1, U2, U3⟩ := U
        obtain ⟨ρ', i, w, g1, g2, g3, g4, g5⟩ := b_get_ok hW hH hM (Nat.blt_eq.mp e.1) ⟨rfl, b_ul_ok e.2⟩ hU
        obtain ⟨q, q1, ρ2, q2, q3⟩ := b_spM_ok g1.2.2 g2 g5 h
        exact ⟨q, q1, ρ2, g1.tr q2, q3⟩
      · cases h
    | false => rw [e] at h; cases h
  · split at h
    · rename_i v hv
      obtain ⟨w, -, g2⟩ := hf.1 _ _ hv
      exact b_peel_ok hW hM g2 h
    · cases h
  · split at h
    · rename_i v u hv hu
      cases e : b_known W u with
      | true =>
        rw [e] at h
        obtain ⟨w, -, g2⟩ := hf.1 _ _ hv
        exact b_spM_ok hW hM g2 h
      | false => rw [e] at h; cases h
    · cases h
  · cases h
theorem b_acts_ok (hW : b_gW W ρ) (hH : b_gH T σ) (hM : b_gM G fz W.1.1 ρ σ M) (hf : b_gf W.1.1 ρ lv st cl cs) : ∀ {l : List b_Ac} {L : List (b_NF × b_M)}, b_acts T W M lv st l = some L → ∃ q ∈ L, ∃ ρ', b_ext W ρ q.1 ρ' ∧ b_gM G fz q.1.1.1 ρ' σ q.2
  | [], _, h => by cases h
  | A :: r, L, h => by
    unfold b_acts at h
    split at h
    · rename_i K hK
      cases h
      exact b_act_ok hW hH hM hf hK
    · exact b_acts_ok hW hH hM hf h
theorem b_hn_ok {tab : Nat → Nat → List b_Ac} : b_HnOk T G fz (fun mid pc W M lv st => b_acts T W M lv st (tab mid pc)) := by
  intro mid pc W M lv st L ρ σ cl cs h hW hH hM hf
  exact b_acts_ok hW hH hM hf h
end B79f
end

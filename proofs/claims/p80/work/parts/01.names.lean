-- ===== PART A: goes FIRST, ahead of the names: the tables' words, and 'selects' of the private methods out of them =====
/-- a private method of a class that the tables say can be made, by its rows of tables_1 -/
def lw_okq (q : MethodName × Nat) : Prop := (q.1.cls ≠ "java/lang/invoke/MethodHandle" ∧ q.1.cls ≠ "java/lang/invoke/VarHandle") ∧ Cond.instantiable q.1.cls q.2 ∈ tables_1 ∧ Cond.privateMethod q.1 ∈ tables_1 ∧ Cond.instanceMethod q.1 ∈ tables_1
theorem lw_p0 : lw_okq (⟨"MotherBench$Reader", "step", "()V"⟩, 9) := ⟨⟨by decide +kernel, by decide +kernel⟩, List.mem_of_getElem? (i := 29) (by decide +kernel), List.mem_of_getElem? (i := 429) (by decide +kernel), List.mem_of_getElem? (i := 430) (by decide +kernel)⟩
theorem lw_p1 : lw_okq (⟨"MotherBench$Reader", "isBlank", "(B)Z"⟩, 9) := ⟨⟨by decide +kernel, by decide +kernel⟩, List.mem_of_getElem? (i := 29) (by decide +kernel), List.mem_of_getElem? (i := 433) (by decide +kernel), List.mem_of_getElem? (i := 434) (by decide +kernel)⟩
theorem lw_p2 : lw_okq (⟨"MotherBench$Reader", "isLetter", "(B)Z"⟩, 9) := ⟨⟨by decide +kernel, by decide +kernel⟩, List.mem_of_getElem? (i := 29) (by decide +kernel), List.mem_of_getElem? (i := 437) (by decide +kernel), List.mem_of_getElem? (i := 438) (by decide +kernel)⟩
theorem lw_p3 : lw_okq (⟨"MotherBench$Reader", "stepWord", "()V"⟩, 9) := ⟨⟨by decide +kernel, by decide +kernel⟩, List.mem_of_getElem? (i := 29) (by decide +kernel), List.mem_of_getElem? (i := 441) (by decide +kernel), List.mem_of_getElem? (i := 442) (by decide +kernel)⟩
theorem lw_p4 : lw_okq (⟨"MotherBench$Reader", "isDigit", "(B)Z"⟩, 9) := ⟨⟨by decide +kernel, by decide +kernel⟩, List.mem_of_getElem? (i := 29) (by decide +kernel), List.mem_of_getElem? (i := 445) (by decide +kernel), List.mem_of_getElem? (i := 446) (by decide +kernel)⟩
theorem lw_p5 : lw_okq (⟨"MotherBench$Reader", "stepNumber", "()V"⟩, 9) := ⟨⟨by decide +kernel, by decide +kernel⟩, List.mem_of_getElem? (i := 29) (by decide +kernel), List.mem_of_getElem? (i := 449) (by decide +kernel), List.mem_of_getElem? (i := 450) (by decide +kernel)⟩
theorem lw_p6 : lw_okq (⟨"MotherBench$Reader", "readLine", "()V"⟩, 9) := ⟨⟨by decide +kernel, by decide +kernel⟩, List.mem_of_getElem? (i := 29) (by decide +kernel), List.mem_of_getElem? (i := 456) (by decide +kernel), List.mem_of_getElem? (i := 457) (by decide +kernel)⟩
theorem lw_p7 : lw_okq (⟨"MotherBench$Reader", "readCircuit", "()V"⟩, 9) := ⟨⟨by decide +kernel, by decide +kernel⟩, List.mem_of_getElem? (i := 29) (by decide +kernel), List.mem_of_getElem? (i := 460) (by decide +kernel), List.mem_of_getElem? (i := 461) (by decide +kernel)⟩
theorem lw_p8 : lw_okq (⟨"MotherBench$Reader", "takeWord", "(Ljava/lang/String;)V"⟩, 9) := ⟨⟨by decide +kernel, by decide +kernel⟩, List.mem_of_getElem? (i := 29) (by decide +kernel), List.mem_of_getElem? (i := 465) (by decide +kernel), List.mem_of_getElem? (i := 466) (by decide +kernel)⟩
theorem lw_p9 : lw_okq (⟨"MotherBench$Reader", "isWord", "(Ljava/lang/String;)Z"⟩, 9) := ⟨⟨by decide +kernel, by decide +kernel⟩, List.mem_of_getElem? (i := 29) (by decide +kernel), List.mem_of_getElem? (i := 469) (by decide +kernel), List.mem_of_getElem? (i := 470) (by decide +kernel)⟩
theorem lw_p10 : lw_okq (⟨"MotherBench$Reader", "accuse", "(II)V"⟩, 9) := ⟨⟨by decide +kernel, by decide +kernel⟩, List.mem_of_getElem? (i := 29) (by decide +kernel), List.mem_of_getElem? (i := 521) (by decide +kernel), List.mem_of_getElem? (i := 522) (by decide +kernel)⟩
theorem lw_p11 : lw_okq (⟨"MotherBench$Reader", "takeNumber", "(II)I"⟩, 9) := ⟨⟨by decide +kernel, by decide +kernel⟩, List.mem_of_getElem? (i := 29) (by decide +kernel), List.mem_of_getElem? (i := 526) (by decide +kernel), List.mem_of_getElem? (i := 527) (by decide +kernel)⟩
theorem lw_p12 : lw_okq (⟨"MotherBench$Reader", "readMother", "()V"⟩, 9) := ⟨⟨by decide +kernel, by decide +kernel⟩, List.mem_of_getElem? (i := 29) (by decide +kernel), List.mem_of_getElem? (i := 533) (by decide +kernel), List.mem_of_getElem? (i := 534) (by decide +kernel)⟩
theorem lw_p13 : lw_okq (⟨"MotherBench$Reader", "readKin", "()V"⟩, 9) := ⟨⟨by decide +kernel, by decide +kernel⟩, List.mem_of_getElem? (i := 29) (by decide +kernel), List.mem_of_getElem? (i := 540) (by decide +kernel), List.mem_of_getElem? (i := 541) (by decide +kernel)⟩
theorem lw_p14 : lw_okq (⟨"MotherBench$Reader", "readCause", "()V"⟩, 9) := ⟨⟨by decide +kernel, by decide +kernel⟩, List.mem_of_getElem? (i := 29) (by decide +kernel), List.mem_of_getElem? (i := 545) (by decide +kernel), List.mem_of_getElem? (i := 546) (by decide +kernel)⟩
theorem lw_p15 : lw_okq (⟨"MotherBench", "refresh", "()V"⟩, 10) := ⟨⟨by decide +kernel, by decide +kernel⟩, List.mem_of_getElem? (i := 21) (by decide +kernel), List.mem_of_getElem? (i := 559) (by decide +kernel), List.mem_of_getElem? (i := 560) (by decide +kernel)⟩
def lw_privs_1 : List (MethodName × Nat) := [(⟨"MotherBench$Reader", "step", "()V"⟩, 9), (⟨"MotherBench$Reader", "isBlank", "(B)Z"⟩, 9), (⟨"MotherBench$Reader", "isLetter", "(B)Z"⟩, 9), (⟨"MotherBench$Reader", "stepWord", "()V"⟩, 9), (⟨"MotherBench$Reader", "isDigit", "(B)Z"⟩, 9), (⟨"MotherBench$Reader", "stepNumber", "()V"⟩, 9), (⟨"MotherBench$Reader", "readLine", "()V"⟩, 9), (⟨"MotherBench$Reader", "readCircuit", "()V"⟩, 9), (⟨"MotherBench$Reader", "takeWord", "(Ljava/lang/String;)V"⟩, 9), (⟨"MotherBench$Reader", "isWord", "(Ljava/lang/String;)Z"⟩, 9), (⟨"MotherBench$Reader", "accuse", "(II)V"⟩, 9), (⟨"MotherBench$Reader", "takeNumber", "(II)I"⟩, 9), (⟨"MotherBench$Reader", "readMother", "()V"⟩, 9), (⟨"MotherBench$Reader", "readKin", "()V"⟩, 9), (⟨"MotherBench$Reader", "readCause", "()V"⟩, 9), (⟨"MotherBench", "refresh", "()V"⟩, 10)]
theorem lw_r1 : ∀ q ∈ lw_privs_1, lw_okq q := List.forall_mem_cons.mpr ⟨lw_p0, List.forall_mem_cons.mpr ⟨lw_p1, List.forall_mem_cons.mpr ⟨lw_p2, List.forall_mem_cons.mpr ⟨lw_p3, List.forall_mem_cons.mpr ⟨lw_p4, List.forall_mem_cons.mpr ⟨lw_p5, List.forall_mem_cons.mpr ⟨lw_p6, List.forall_mem_cons.mpr ⟨lw_p7, List.forall_mem_cons.mpr ⟨lw_p8, List.forall_mem_cons.mpr ⟨lw_p9, List.forall_mem_cons.mpr ⟨lw_p10, List.forall_mem_cons.mpr ⟨lw_p11, List.forall_mem_cons.mpr ⟨lw_p12, List.forall_mem_cons.mpr ⟨lw_p13, List.forall_mem_cons.mpr ⟨lw_p14, List.forall_mem_cons.mpr ⟨lw_p15, fun _ h => absurd h List.not_mem_nil⟩⟩⟩⟩⟩⟩⟩⟩⟩⟩⟩⟩⟩⟩⟩⟩
theorem lw_p16 : lw_okq (⟨"MotherBench$Court", "addEvent", "(III)V"⟩, 19) := ⟨⟨by decide +kernel, by decide +kernel⟩, List.mem_of_getElem? (i := 183) (by decide +kernel), List.mem_of_getElem? (i := 567) (by decide +kernel), List.mem_of_getElem? (i := 568) (by decide +kernel)⟩
theorem lw_p17 : lw_okq (⟨"MotherBench$Court", "choose", "(I)I"⟩, 19) := ⟨⟨by decide +kernel, by decide +kernel⟩, List.mem_of_getElem? (i := 183) (by decide +kernel), List.mem_of_getElem? (i := 585) (by decide +kernel), List.mem_of_getElem? (i := 586) (by decide +kernel)⟩
theorem lw_p18 : lw_okq (⟨"MotherBench$Court", "leastBusy", "(I)I"⟩, 19) := ⟨⟨by decide +kernel, by decide +kernel⟩, List.mem_of_getElem? (i := 183) (by decide +kernel), List.mem_of_getElem? (i := 589) (by decide +kernel), List.mem_of_getElem? (i := 590) (by decide +kernel)⟩
theorem lw_p19 : lw_okq (⟨"MotherBench$Court", "hear", "(III)V"⟩, 19) := ⟨⟨by decide +kernel, by decide +kernel⟩, List.mem_of_getElem? (i := 183) (by decide +kernel), List.mem_of_getElem? (i := 593) (by decide +kernel), List.mem_of_getElem? (i := 594) (by decide +kernel)⟩
theorem lw_p20 : lw_okq (⟨"MotherBench$Court", "changeByLaw", "(III)I"⟩, 19) := ⟨⟨by decide +kernel, by decide +kernel⟩, List.mem_of_getElem? (i := 183) (by decide +kernel), List.mem_of_getElem? (i := 609) (by decide +kernel), List.mem_of_getElem? (i := 610) (by decide +kernel)⟩
theorem lw_p21 : lw_okq (⟨"MotherBench", "isMother", "(I)Z"⟩, 10) := ⟨⟨by decide +kernel, by decide +kernel⟩, List.mem_of_getElem? (i := 21) (by decide +kernel), List.mem_of_getElem? (i := 626) (by decide +kernel), List.mem_of_getElem? (i := 627) (by decide +kernel)⟩
theorem lw_p22 : lw_okq (⟨"MotherBench", "isCause", "(I)Z"⟩, 10) := ⟨⟨by decide +kernel, by decide +kernel⟩, List.mem_of_getElem? (i := 21) (by decide +kernel), List.mem_of_getElem? (i := 638) (by decide +kernel), List.mem_of_getElem? (i := 639) (by decide +kernel)⟩
theorem lw_p23 : lw_okq (⟨"MotherBench$Court", "findingOf", "(II)I"⟩, 19) := ⟨⟨by decide +kernel, by decide +kernel⟩, List.mem_of_getElem? (i := 183) (by decide +kernel), List.mem_of_getElem? (i := 686) (by decide +kernel), List.mem_of_getElem? (i := 687) (by decide +kernel)⟩
theorem lw_p24 : lw_okq (⟨"MotherBench", "isDay", "(I)Z"⟩, 10) := ⟨⟨by decide +kernel, by decide +kernel⟩, List.mem_of_getElem? (i := 21) (by decide +kernel), List.mem_of_getElem? (i := 718) (by decide +kernel), List.mem_of_getElem? (i := 719) (by decide +kernel)⟩
theorem lw_p25 : lw_okq (⟨"MotherBench", "isHearingDay", "(I)Z"⟩, 10) := ⟨⟨by decide +kernel, by decide +kernel⟩, List.mem_of_getElem? (i := 21) (by decide +kernel), List.mem_of_getElem? (i := 832) (by decide +kernel), List.mem_of_getElem? (i := 833) (by decide +kernel)⟩
theorem lw_p26 : lw_okq (⟨"MotherBench$Panels", "isPanel", "(I)Z"⟩, 2) := ⟨⟨by decide +kernel, by decide +kernel⟩, List.mem_of_getElem? (i := 249) (by decide +kernel), List.mem_of_getElem? (i := 890) (by decide +kernel), List.mem_of_getElem? (i := 891) (by decide +kernel)⟩
theorem lw_p27 : lw_okq (⟨"MotherBench$Panels", "letOff", "(II)I"⟩, 2) := ⟨⟨by decide +kernel, by decide +kernel⟩, List.mem_of_getElem? (i := 249) (by decide +kernel), List.mem_of_getElem? (i := 943) (by decide +kernel), List.mem_of_getElem? (i := 944) (by decide +kernel)⟩
theorem lw_p28 : lw_okq (⟨"MotherBench", "gatherSeen", "(II)I"⟩, 10) := ⟨⟨by decide +kernel, by decide +kernel⟩, List.mem_of_getElem? (i := 21) (by decide +kernel), List.mem_of_getElem? (i := 991) (by decide +kernel), List.mem_of_getElem? (i := 992) (by decide +kernel)⟩
theorem lw_p29 : lw_okq (⟨"MotherBench", "rowTrouble", "(I)I"⟩, 10) := ⟨⟨by decide +kernel, by decide +kernel⟩, List.mem_of_getElem? (i := 21) (by decide +kernel), List.mem_of_getElem? (i := 999) (by decide +kernel), List.mem_of_getElem? (i := 1000) (by decide +kernel)⟩
theorem lw_p30 : lw_okq (⟨"MotherBench$Seen", "isAsSeen", "(I)Z"⟩, 5) := ⟨⟨by decide +kernel, by decide +kernel⟩, List.mem_of_getElem? (i := 327) (by decide +kernel), List.mem_of_getElem? (i := 1028) (by decide +kernel), List.mem_of_getElem? (i := 1029) (by decide +kernel)⟩
theorem lw_p31 : lw_okq (⟨"MotherBench$Fraction", "greatestDivisor", "(JJ)J"⟩, 2) := ⟨⟨by decide +kernel, by decide +kernel⟩, List.mem_of_getElem? (i := 272) (by decide +kernel), List.mem_of_getElem? (i := 1121) (by decide +kernel), List.mem_of_getElem? (i := 1122) (by decide +kernel)⟩
def lw_privs_2 : List (MethodName × Nat) := [(⟨"MotherBench$Court", "addEvent", "(III)V"⟩, 19), (⟨"MotherBench$Court", "choose", "(I)I"⟩, 19), (⟨"MotherBench$Court", "leastBusy", "(I)I"⟩, 19), (⟨"MotherBench$Court", "hear", "(III)V"⟩, 19), (⟨"MotherBench$Court", "changeByLaw", "(III)I"⟩, 19), (⟨"MotherBench", "isMother", "(I)Z"⟩, 10), (⟨"MotherBench", "isCause", "(I)Z"⟩, 10), (⟨"MotherBench$Court", "findingOf", "(II)I"⟩, 19), (⟨"MotherBench", "isDay", "(I)Z"⟩, 10), (⟨"MotherBench", "isHearingDay", "(I)Z"⟩, 10), (⟨"MotherBench$Panels", "isPanel", "(I)Z"⟩, 2), (⟨"MotherBench$Panels", "letOff", "(II)I"⟩, 2), (⟨"MotherBench", "gatherSeen", "(II)I"⟩, 10), (⟨"MotherBench", "rowTrouble", "(I)I"⟩, 10), (⟨"MotherBench$Seen", "isAsSeen", "(I)Z"⟩, 5), (⟨"MotherBench$Fraction", "greatestDivisor", "(JJ)J"⟩, 2)]
theorem lw_r2 : ∀ q ∈ lw_privs_2, lw_okq q := List.forall_mem_cons.mpr ⟨lw_p16, List.forall_mem_cons.mpr ⟨lw_p17, List.forall_mem_cons.mpr ⟨lw_p18, List.forall_mem_cons.mpr ⟨lw_p19, List.forall_mem_cons.mpr ⟨lw_p20, List.forall_mem_cons.mpr ⟨lw_p21, List.forall_mem_cons.mpr ⟨lw_p22, List.forall_mem_cons.mpr ⟨lw_p23, List.forall_mem_cons.mpr ⟨lw_p24, List.forall_mem_cons.mpr ⟨lw_p25, List.forall_mem_cons.mpr ⟨lw_p26, List.forall_mem_cons.mpr ⟨lw_p27, List.forall_mem_cons.mpr ⟨lw_p28, List.forall_mem_cons.mpr ⟨lw_p29, List.forall_mem_cons.mpr ⟨lw_p30, List.forall_mem_cons.mpr ⟨lw_p31, fun _ h => absurd h List.not_mem_nil⟩⟩⟩⟩⟩⟩⟩⟩⟩⟩⟩⟩⟩⟩⟩⟩
theorem lw_p32 : lw_okq (⟨"MotherBench", "areTwoCauses", "(II)Z"⟩, 10) := ⟨⟨by decide +kernel, by decide +kernel⟩, List.mem_of_getElem? (i := 21) (by decide +kernel), List.mem_of_getElem? (i := 1136) (by decide +kernel), List.mem_of_getElem? (i := 1137) (by decide +kernel)⟩
theorem lw_p33 : lw_okq (⟨"MotherBench", "isChoice", "(I)Z"⟩, 10) := ⟨⟨by decide +kernel, by decide +kernel⟩, List.mem_of_getElem? (i := 21) (by decide +kernel), List.mem_of_getElem? (i := 1156) (by decide +kernel), List.mem_of_getElem? (i := 1157) (by decide +kernel)⟩
theorem lw_p34 : lw_okq (⟨"MotherBench$Chances", "weightOf", "(I)J"⟩, 2) := ⟨⟨by decide +kernel, by decide +kernel⟩, List.mem_of_getElem? (i := 350) (by decide +kernel), List.mem_of_getElem? (i := 1171) (by decide +kernel), List.mem_of_getElem? (i := 1172) (by decide +kernel)⟩
theorem lw_p35 : lw_okq (⟨"MotherBench$Chances", "weightOfAll", "()J"⟩, 2) := ⟨⟨by decide +kernel, by decide +kernel⟩, List.mem_of_getElem? (i := 350) (by decide +kernel), List.mem_of_getElem? (i := 1177) (by decide +kernel), List.mem_of_getElem? (i := 1178) (by decide +kernel)⟩
theorem lw_p36 : lw_okq (⟨"MotherBench$Rows", "cut", "(JI)J"⟩, 3) := ⟨⟨by decide +kernel, by decide +kernel⟩, List.mem_of_getElem? (i := 310) (by decide +kernel), List.mem_of_getElem? (i := 1289) (by decide +kernel), List.mem_of_getElem? (i := 1290) (by decide +kernel)⟩
theorem lw_p37 : lw_okq (⟨"MotherBench$Rows", "holds", "(III)Z"⟩, 3) := ⟨⟨by decide +kernel, by decide +kernel⟩, List.mem_of_getElem? (i := 310) (by decide +kernel), List.mem_of_getElem? (i := 1305) (by decide +kernel), List.mem_of_getElem? (i := 1306) (by decide +kernel)⟩
theorem lw_p38 : lw_okq (⟨"MotherBenchModel", "four", "(I)V"⟩, 43) := ⟨⟨by decide +kernel, by decide +kernel⟩, List.mem_of_getElem? (i := 1310) (by decide +kernel), List.mem_of_getElem? (i := 1473) (by decide +kernel), List.mem_of_getElem? (i := 1474) (by decide +kernel)⟩
theorem lw_p39 : lw_okq (⟨"MotherBenchModel", "clears", "()V"⟩, 43) := ⟨⟨by decide +kernel, by decide +kernel⟩, List.mem_of_getElem? (i := 1310) (by decide +kernel), List.mem_of_getElem? (i := 1489) (by decide +kernel), List.mem_of_getElem? (i := 1490) (by decide +kernel)⟩
theorem lw_p40 : lw_okq (⟨"MotherBenchModel", "tells", "(II)V"⟩, 43) := ⟨⟨by decide +kernel, by decide +kernel⟩, List.mem_of_getElem? (i := 1310) (by decide +kernel), List.mem_of_getElem? (i := 1493) (by decide +kernel), List.mem_of_getElem? (i := 1494) (by decide +kernel)⟩
theorem lw_p41 : lw_okq (⟨"MotherBenchModel", "begins", "()V"⟩, 43) := ⟨⟨by decide +kernel, by decide +kernel⟩, List.mem_of_getElem? (i := 1310) (by decide +kernel), List.mem_of_getElem? (i := 1497) (by decide +kernel), List.mem_of_getElem? (i := 1498) (by decide +kernel)⟩
theorem lw_p42 : lw_okq (⟨"MotherBenchModel", "next", "()V"⟩, 43) := ⟨⟨by decide +kernel, by decide +kernel⟩, List.mem_of_getElem? (i := 1310) (by decide +kernel), List.mem_of_getElem? (i := 1501) (by decide +kernel), List.mem_of_getElem? (i := 1502) (by decide +kernel)⟩
theorem lw_p43 : lw_okq (⟨"MotherBenchModel", "isByte", "(III)Z"⟩, 43) := ⟨⟨by decide +kernel, by decide +kernel⟩, List.mem_of_getElem? (i := 1310) (by decide +kernel), List.mem_of_getElem? (i := 1505) (by decide +kernel), List.mem_of_getElem? (i := 1506) (by decide +kernel)⟩
theorem lw_p44 : lw_okq (⟨"MotherBenchModel", "isGood", "()Z"⟩, 43) := ⟨⟨by decide +kernel, by decide +kernel⟩, List.mem_of_getElem? (i := 1310) (by decide +kernel), List.mem_of_getElem? (i := 1514) (by decide +kernel), List.mem_of_getElem? (i := 1515) (by decide +kernel)⟩
theorem lw_p45 : lw_okq (⟨"MotherBenchModel", "asks", "(J)V"⟩, 43) := ⟨⟨by decide +kernel, by decide +kernel⟩, List.mem_of_getElem? (i := 1310) (by decide +kernel), List.mem_of_getElem? (i := 1519) (by decide +kernel), List.mem_of_getElem? (i := 1520) (by decide +kernel)⟩
theorem lw_p46 : lw_okq (⟨"MotherBenchModel", "takesWord", "(J)Z"⟩, 43) := ⟨⟨by decide +kernel, by decide +kernel⟩, List.mem_of_getElem? (i := 1310) (by decide +kernel), List.mem_of_getElem? (i := 1523) (by decide +kernel), List.mem_of_getElem? (i := 1524) (by decide +kernel)⟩
theorem lw_p47 : lw_okq (⟨"MotherBenchModel", "is", "(J)Z"⟩, 43) := ⟨⟨by decide +kernel, by decide +kernel⟩, List.mem_of_getElem? (i := 1310) (by decide +kernel), List.mem_of_getElem? (i := 1527) (by decide +kernel), List.mem_of_getElem? (i := 1528) (by decide +kernel)⟩
def lw_privs_3 : List (MethodName × Nat) := [(⟨"MotherBench", "areTwoCauses", "(II)Z"⟩, 10), (⟨"MotherBench", "isChoice", "(I)Z"⟩, 10), (⟨"MotherBench$Chances", "weightOf", "(I)J"⟩, 2), (⟨"MotherBench$Chances", "weightOfAll", "()J"⟩, 2), (⟨"MotherBench$Rows", "cut", "(JI)J"⟩, 3), (⟨"MotherBench$Rows", "holds", "(III)Z"⟩, 3), (⟨"MotherBenchModel", "four", "(I)V"⟩, 43), (⟨"MotherBenchModel", "clears", "()V"⟩, 43), (⟨"MotherBenchModel", "tells", "(II)V"⟩, 43), (⟨"MotherBenchModel", "begins", "()V"⟩, 43), (⟨"MotherBenchModel", "next", "()V"⟩, 43), (⟨"MotherBenchModel", "isByte", "(III)Z"⟩, 43), (⟨"MotherBenchModel", "isGood", "()Z"⟩, 43), (⟨"MotherBenchModel", "asks", "(J)V"⟩, 43), (⟨"MotherBenchModel", "takesWord", "(J)Z"⟩, 43), (⟨"MotherBenchModel", "is", "(J)Z"⟩, 43)]
theorem lw_r3 : ∀ q ∈ lw_privs_3, lw_okq q := List.forall_mem_cons.mpr ⟨lw_p32, List.forall_mem_cons.mpr ⟨lw_p33, List.forall_mem_cons.mpr ⟨lw_p34, List.forall_mem_cons.mpr ⟨lw_p35, List.forall_mem_cons.mpr ⟨lw_p36, List.forall_mem_cons.mpr ⟨lw_p37, List.forall_mem_cons.mpr ⟨lw_p38, List.forall_mem_cons.mpr ⟨lw_p39, List.forall_mem_cons.mpr ⟨lw_p40, List.forall_mem_cons.mpr ⟨lw_p41, List.forall_mem_cons.mpr ⟨lw_p42, List.forall_mem_cons.mpr ⟨lw_p43, List.forall_mem_cons.mpr ⟨lw_p44, List.forall_mem_cons.mpr ⟨lw_p45, List.forall_mem_cons.mpr ⟨lw_p46, List.forall_mem_cons.mpr ⟨lw_p47, fun _ h => absurd h List.not_mem_nil⟩⟩⟩⟩⟩⟩⟩⟩⟩⟩⟩⟩⟩⟩⟩⟩
theorem lw_p48 : lw_okq (⟨"MotherBenchModel", "fails", "(I)V"⟩, 43) := ⟨⟨by decide +kernel, by decide +kernel⟩, List.mem_of_getElem? (i := 1310) (by decide +kernel), List.mem_of_getElem? (i := 1531) (by decide +kernel), List.mem_of_getElem? (i := 1532) (by decide +kernel)⟩
theorem lw_p49 : lw_okq (⟨"MotherBenchModel", "number", "(JII)I"⟩, 43) := ⟨⟨by decide +kernel, by decide +kernel⟩, List.mem_of_getElem? (i := 1310) (by decide +kernel), List.mem_of_getElem? (i := 1536) (by decide +kernel), List.mem_of_getElem? (i := 1537) (by decide +kernel)⟩
theorem lw_p50 : lw_okq (⟨"MotherBenchModel", "number", "(II)I"⟩, 43) := ⟨⟨by decide +kernel, by decide +kernel⟩, List.mem_of_getElem? (i := 1310) (by decide +kernel), List.mem_of_getElem? (i := 1540) (by decide +kernel), List.mem_of_getElem? (i := 1541) (by decide +kernel)⟩
theorem lw_p51 : lw_okq (⟨"MotherBenchModel", "lineHere", "()V"⟩, 43) := ⟨⟨by decide +kernel, by decide +kernel⟩, List.mem_of_getElem? (i := 1310) (by decide +kernel), List.mem_of_getElem? (i := 1546) (by decide +kernel), List.mem_of_getElem? (i := 1547) (by decide +kernel)⟩
theorem lw_p52 : lw_okq (⟨"MotherBenchModel", "isRoom", "(ZII)Z"⟩, 43) := ⟨⟨by decide +kernel, by decide +kernel⟩, List.mem_of_getElem? (i := 1310) (by decide +kernel), List.mem_of_getElem? (i := 1551) (by decide +kernel), List.mem_of_getElem? (i := 1552) (by decide +kernel)⟩
theorem lw_p53 : lw_okq (⟨"MotherBenchModel", "hasRead", "(I)I"⟩, 43) := ⟨⟨by decide +kernel, by decide +kernel⟩, List.mem_of_getElem? (i := 1310) (by decide +kernel), List.mem_of_getElem? (i := 1555) (by decide +kernel), List.mem_of_getElem? (i := 1556) (by decide +kernel)⟩
theorem lw_p54 : lw_okq (⟨"MotherBenchModel", "motherLine", "()V"⟩, 43) := ⟨⟨by decide +kernel, by decide +kernel⟩, List.mem_of_getElem? (i := 1310) (by decide +kernel), List.mem_of_getElem? (i := 1559) (by decide +kernel), List.mem_of_getElem? (i := 1560) (by decide +kernel)⟩
theorem lw_p55 : lw_okq (⟨"MotherBenchModel", "kinLine", "()V"⟩, 43) := ⟨⟨by decide +kernel, by decide +kernel⟩, List.mem_of_getElem? (i := 1310) (by decide +kernel), List.mem_of_getElem? (i := 1566) (by decide +kernel), List.mem_of_getElem? (i := 1567) (by decide +kernel)⟩
theorem lw_p56 : lw_okq (⟨"MotherBenchModel", "areKin", "(II)Z"⟩, 43) := ⟨⟨by decide +kernel, by decide +kernel⟩, List.mem_of_getElem? (i := 1310) (by decide +kernel), List.mem_of_getElem? (i := 1570) (by decide +kernel), List.mem_of_getElem? (i := 1571) (by decide +kernel)⟩
theorem lw_p57 : lw_okq (⟨"MotherBenchModel", "causeLine", "()V"⟩, 43) := ⟨⟨by decide +kernel, by decide +kernel⟩, List.mem_of_getElem? (i := 1310) (by decide +kernel), List.mem_of_getElem? (i := 1575) (by decide +kernel), List.mem_of_getElem? (i := 1576) (by decide +kernel)⟩
theorem lw_p58 : lw_okq (⟨"MotherBenchModel", "ends", "()V"⟩, 43) := ⟨⟨by decide +kernel, by decide +kernel⟩, List.mem_of_getElem? (i := 1310) (by decide +kernel), List.mem_of_getElem? (i := 1582) (by decide +kernel), List.mem_of_getElem? (i := 1583) (by decide +kernel)⟩
theorem lw_p59 : lw_okq (⟨"MotherBenchModel", "isOver", "()V"⟩, 43) := ⟨⟨by decide +kernel, by decide +kernel⟩, List.mem_of_getElem? (i := 1310) (by decide +kernel), List.mem_of_getElem? (i := 1586) (by decide +kernel), List.mem_of_getElem? (i := 1587) (by decide +kernel)⟩
theorem lw_p60 : lw_okq (⟨"MotherBenchModel", "copyCircuit", "(II)V"⟩, 43) := ⟨⟨by decide +kernel, by decide +kernel⟩, List.mem_of_getElem? (i := 1310) (by decide +kernel), List.mem_of_getElem? (i := 1590) (by decide +kernel), List.mem_of_getElem? (i := 1591) (by decide +kernel)⟩
theorem lw_p61 : lw_okq (⟨"MotherBenchModel", "isMother", "(I)Z"⟩, 43) := ⟨⟨by decide +kernel, by decide +kernel⟩, List.mem_of_getElem? (i := 1310) (by decide +kernel), List.mem_of_getElem? (i := 1601) (by decide +kernel), List.mem_of_getElem? (i := 1602) (by decide +kernel)⟩
theorem lw_p62 : lw_okq (⟨"MotherBenchModel", "mothers", "()I"⟩, 43) := ⟨⟨by decide +kernel, by decide +kernel⟩, List.mem_of_getElem? (i := 1310) (by decide +kernel), List.mem_of_getElem? (i := 1605) (by decide +kernel), List.mem_of_getElem? (i := 1606) (by decide +kernel)⟩
theorem lw_p63 : lw_okq (⟨"MotherBenchModel", "kinBits", "(I)I"⟩, 43) := ⟨⟨by decide +kernel, by decide +kernel⟩, List.mem_of_getElem? (i := 1310) (by decide +kernel), List.mem_of_getElem? (i := 1614) (by decide +kernel), List.mem_of_getElem? (i := 1615) (by decide +kernel)⟩
def lw_privs_4 : List (MethodName × Nat) := [(⟨"MotherBenchModel", "fails", "(I)V"⟩, 43), (⟨"MotherBenchModel", "number", "(JII)I"⟩, 43), (⟨"MotherBenchModel", "number", "(II)I"⟩, 43), (⟨"MotherBenchModel", "lineHere", "()V"⟩, 43), (⟨"MotherBenchModel", "isRoom", "(ZII)Z"⟩, 43), (⟨"MotherBenchModel", "hasRead", "(I)I"⟩, 43), (⟨"MotherBenchModel", "motherLine", "()V"⟩, 43), (⟨"MotherBenchModel", "kinLine", "()V"⟩, 43), (⟨"MotherBenchModel", "areKin", "(II)Z"⟩, 43), (⟨"MotherBenchModel", "causeLine", "()V"⟩, 43), (⟨"MotherBenchModel", "ends", "()V"⟩, 43), (⟨"MotherBenchModel", "isOver", "()V"⟩, 43), (⟨"MotherBenchModel", "copyCircuit", "(II)V"⟩, 43), (⟨"MotherBenchModel", "isMother", "(I)Z"⟩, 43), (⟨"MotherBenchModel", "mothers", "()I"⟩, 43), (⟨"MotherBenchModel", "kinBits", "(I)I"⟩, 43)]
theorem lw_r4 : ∀ q ∈ lw_privs_4, lw_okq q := List.forall_mem_cons.mpr ⟨lw_p48, List.forall_mem_cons.mpr ⟨lw_p49, List.forall_mem_cons.mpr ⟨lw_p50, List.forall_mem_cons.mpr ⟨lw_p51, List.forall_mem_cons.mpr ⟨lw_p52, List.forall_mem_cons.mpr ⟨lw_p53, List.forall_mem_cons.mpr ⟨lw_p54, List.forall_mem_cons.mpr ⟨lw_p55, List.forall_mem_cons.mpr ⟨lw_p56, List.forall_mem_cons.mpr ⟨lw_p57, List.forall_mem_cons.mpr ⟨lw_p58, List.forall_mem_cons.mpr ⟨lw_p59, List.forall_mem_cons.mpr ⟨lw_p60, List.forall_mem_cons.mpr ⟨lw_p61, List.forall_mem_cons.mpr ⟨lw_p62, List.forall_mem_cons.mpr ⟨lw_p63, fun _ h => absurd h List.not_mem_nil⟩⟩⟩⟩⟩⟩⟩⟩⟩⟩⟩⟩⟩⟩⟩⟩
theorem lw_p64 : lw_okq (⟨"MotherBenchModel", "isCause", "(J)Z"⟩, 43) := ⟨⟨by decide +kernel, by decide +kernel⟩, List.mem_of_getElem? (i := 1310) (by decide +kernel), List.mem_of_getElem? (i := 1622) (by decide +kernel), List.mem_of_getElem? (i := 1623) (by decide +kernel)⟩
theorem lw_p65 : lw_okq (⟨"MotherBenchModel", "causes", "()I"⟩, 43) := ⟨⟨by decide +kernel, by decide +kernel⟩, List.mem_of_getElem? (i := 1310) (by decide +kernel), List.mem_of_getElem? (i := 1626) (by decide +kernel), List.mem_of_getElem? (i := 1627) (by decide +kernel)⟩
theorem lw_p66 : lw_okq (⟨"MotherBenchModel", "laysNow", "()V"⟩, 43) := ⟨⟨by decide +kernel, by decide +kernel⟩, List.mem_of_getElem? (i := 1310) (by decide +kernel), List.mem_of_getElem? (i := 1635) (by decide +kernel), List.mem_of_getElem? (i := 1636) (by decide +kernel)⟩
theorem lw_p67 : lw_okq (⟨"MotherBenchModel", "lays", "()V"⟩, 43) := ⟨⟨by decide +kernel, by decide +kernel⟩, List.mem_of_getElem? (i := 1310) (by decide +kernel), List.mem_of_getElem? (i := 1639) (by decide +kernel), List.mem_of_getElem? (i := 1640) (by decide +kernel)⟩
theorem lw_p68 : lw_okq (⟨"MotherBenchModel", "runs", "()V"⟩, 43) := ⟨⟨by decide +kernel, by decide +kernel⟩, List.mem_of_getElem? (i := 1310) (by decide +kernel), List.mem_of_getElem? (i := 1643) (by decide +kernel), List.mem_of_getElem? (i := 1644) (by decide +kernel)⟩
theorem lw_p69 : lw_okq (⟨"MotherBenchModel", "days", "()I"⟩, 43) := ⟨⟨by decide +kernel, by decide +kernel⟩, List.mem_of_getElem? (i := 1310) (by decide +kernel), List.mem_of_getElem? (i := 1647) (by decide +kernel), List.mem_of_getElem? (i := 1648) (by decide +kernel)⟩
theorem lw_p70 : lw_okq (⟨"MotherBenchModel", "awayOn", "(I)I"⟩, 43) := ⟨⟨by decide +kernel, by decide +kernel⟩, List.mem_of_getElem? (i := 1310) (by decide +kernel), List.mem_of_getElem? (i := 1651) (by decide +kernel), List.mem_of_getElem? (i := 1652) (by decide +kernel)⟩
theorem lw_p71 : lw_okq (⟨"MotherBenchModel", "hears0", "(III)V"⟩, 43) := ⟨⟨by decide +kernel, by decide +kernel⟩, List.mem_of_getElem? (i := 1310) (by decide +kernel), List.mem_of_getElem? (i := 1658) (by decide +kernel), List.mem_of_getElem? (i := 1659) (by decide +kernel)⟩
theorem lw_p72 : lw_okq (⟨"MotherBenchModel", "benchOf", "(I)I"⟩, 43) := ⟨⟨by decide +kernel, by decide +kernel⟩, List.mem_of_getElem? (i := 1310) (by decide +kernel), List.mem_of_getElem? (i := 1662) (by decide +kernel), List.mem_of_getElem? (i := 1663) (by decide +kernel)⟩
theorem lw_p73 : lw_okq (⟨"MotherBenchModel", "findsOf", "(IIII)I"⟩, 43) := ⟨⟨by decide +kernel, by decide +kernel⟩, List.mem_of_getElem? (i := 1310) (by decide +kernel), List.mem_of_getElem? (i := 1666) (by decide +kernel), List.mem_of_getElem? (i := 1667) (by decide +kernel)⟩
theorem lw_p74 : lw_okq (⟨"MotherBenchModel", "stricter", "(II)V"⟩, 43) := ⟨⟨by decide +kernel, by decide +kernel⟩, List.mem_of_getElem? (i := 1310) (by decide +kernel), List.mem_of_getElem? (i := 1679) (by decide +kernel), List.mem_of_getElem? (i := 1680) (by decide +kernel)⟩
theorem lw_p75 : lw_okq (⟨"MotherBenchModel", "markOf", "(III)I"⟩, 43) := ⟨⟨by decide +kernel, by decide +kernel⟩, List.mem_of_getElem? (i := 1310) (by decide +kernel), List.mem_of_getElem? (i := 1687) (by decide +kernel), List.mem_of_getElem? (i := 1688) (by decide +kernel)⟩
theorem lw_p76 : lw_okq (⟨"MotherBenchModel", "isHeard", "(I)Z"⟩, 43) := ⟨⟨by decide +kernel, by decide +kernel⟩, List.mem_of_getElem? (i := 1310) (by decide +kernel), List.mem_of_getElem? (i := 1691) (by decide +kernel), List.mem_of_getElem? (i := 1692) (by decide +kernel)⟩
theorem lw_p77 : lw_okq (⟨"MotherBenchModel", "apartOf", "(I)I"⟩, 43) := ⟨⟨by decide +kernel, by decide +kernel⟩, List.mem_of_getElem? (i := 1310) (by decide +kernel), List.mem_of_getElem? (i := 1715) (by decide +kernel), List.mem_of_getElem? (i := 1716) (by decide +kernel)⟩
theorem lw_p78 : lw_okq (⟨"MotherBenchModel", "isCircuit", "()Z"⟩, 43) := ⟨⟨by decide +kernel, by decide +kernel⟩, List.mem_of_getElem? (i := 1310) (by decide +kernel), List.mem_of_getElem? (i := 1723) (by decide +kernel), List.mem_of_getElem? (i := 1724) (by decide +kernel)⟩
theorem lw_p79 : lw_okq (⟨"MotherBenchModel", "isDay", "(I)Z"⟩, 43) := ⟨⟨by decide +kernel, by decide +kernel⟩, List.mem_of_getElem? (i := 1310) (by decide +kernel), List.mem_of_getElem? (i := 1731) (by decide +kernel), List.mem_of_getElem? (i := 1732) (by decide +kernel)⟩
def lw_privs_5 : List (MethodName × Nat) := [(⟨"MotherBenchModel", "isCause", "(J)Z"⟩, 43), (⟨"MotherBenchModel", "causes", "()I"⟩, 43), (⟨"MotherBenchModel", "laysNow", "()V"⟩, 43), (⟨"MotherBenchModel", "lays", "()V"⟩, 43), (⟨"MotherBenchModel", "runs", "()V"⟩, 43), (⟨"MotherBenchModel", "days", "()I"⟩, 43), (⟨"MotherBenchModel", "awayOn", "(I)I"⟩, 43), (⟨"MotherBenchModel", "hears0", "(III)V"⟩, 43), (⟨"MotherBenchModel", "benchOf", "(I)I"⟩, 43), (⟨"MotherBenchModel", "findsOf", "(IIII)I"⟩, 43), (⟨"MotherBenchModel", "stricter", "(II)V"⟩, 43), (⟨"MotherBenchModel", "markOf", "(III)I"⟩, 43), (⟨"MotherBenchModel", "isHeard", "(I)Z"⟩, 43), (⟨"MotherBenchModel", "apartOf", "(I)I"⟩, 43), (⟨"MotherBenchModel", "isCircuit", "()Z"⟩, 43), (⟨"MotherBenchModel", "isDay", "(I)Z"⟩, 43)]
theorem lw_r5 : ∀ q ∈ lw_privs_5, lw_okq q := List.forall_mem_cons.mpr ⟨lw_p64, List.forall_mem_cons.mpr ⟨lw_p65, List.forall_mem_cons.mpr ⟨lw_p66, List.forall_mem_cons.mpr ⟨lw_p67, List.forall_mem_cons.mpr ⟨lw_p68, List.forall_mem_cons.mpr ⟨lw_p69, List.forall_mem_cons.mpr ⟨lw_p70, List.forall_mem_cons.mpr ⟨lw_p71, List.forall_mem_cons.mpr ⟨lw_p72, List.forall_mem_cons.mpr ⟨lw_p73, List.forall_mem_cons.mpr ⟨lw_p74, List.forall_mem_cons.mpr ⟨lw_p75, List.forall_mem_cons.mpr ⟨lw_p76, List.forall_mem_cons.mpr ⟨lw_p77, List.forall_mem_cons.mpr ⟨lw_p78, List.forall_mem_cons.mpr ⟨lw_p79, fun _ h => absurd h List.not_mem_nil⟩⟩⟩⟩⟩⟩⟩⟩⟩⟩⟩⟩⟩⟩⟩⟩
theorem lw_p80 : lw_okq (⟨"MotherBenchModel", "hasSat", "(II)Z"⟩, 43) := ⟨⟨by decide +kernel, by decide +kernel⟩, List.mem_of_getElem? (i := 1310) (by decide +kernel), List.mem_of_getElem? (i := 1743) (by decide +kernel), List.mem_of_getElem? (i := 1744) (by decide +kernel)⟩
theorem lw_p81 : lw_okq (⟨"MotherBenchModel", "foundBy", "(II)I"⟩, 43) := ⟨⟨by decide +kernel, by decide +kernel⟩, List.mem_of_getElem? (i := 1310) (by decide +kernel), List.mem_of_getElem? (i := 1755) (by decide +kernel), List.mem_of_getElem? (i := 1756) (by decide +kernel)⟩
theorem lw_p82 : lw_okq (⟨"MotherBenchModel", "dueOn", "(I)I"⟩, 43) := ⟨⟨by decide +kernel, by decide +kernel⟩, List.mem_of_getElem? (i := 1310) (by decide +kernel), List.mem_of_getElem? (i := 1771) (by decide +kernel), List.mem_of_getElem? (i := 1772) (by decide +kernel)⟩
theorem lw_p83 : lw_okq (⟨"MotherBenchModel", "owesOf", "(II)I"⟩, 43) := ⟨⟨by decide +kernel, by decide +kernel⟩, List.mem_of_getElem? (i := 1310) (by decide +kernel), List.mem_of_getElem? (i := 1775) (by decide +kernel), List.mem_of_getElem? (i := 1776) (by decide +kernel)⟩
theorem lw_p84 : lw_okq (⟨"MotherBenchModel", "allNow", "()I"⟩, 43) := ⟨⟨by decide +kernel, by decide +kernel⟩, List.mem_of_getElem? (i := 1310) (by decide +kernel), List.mem_of_getElem? (i := 1795) (by decide +kernel), List.mem_of_getElem? (i := 1796) (by decide +kernel)⟩
theorem lw_p85 : lw_okq (⟨"MotherBenchModel", "sentenceOf", "(I)I"⟩, 43) := ⟨⟨by decide +kernel, by decide +kernel⟩, List.mem_of_getElem? (i := 1310) (by decide +kernel), List.mem_of_getElem? (i := 1799) (by decide +kernel), List.mem_of_getElem? (i := 1800) (by decide +kernel)⟩
theorem lw_p86 : lw_okq (⟨"MotherBenchModel", "oneBy", "(II)I"⟩, 43) := ⟨⟨by decide +kernel, by decide +kernel⟩, List.mem_of_getElem? (i := 1310) (by decide +kernel), List.mem_of_getElem? (i := 1811) (by decide +kernel), List.mem_of_getElem? (i := 1812) (by decide +kernel)⟩
theorem lw_p87 : lw_okq (⟨"MotherBenchModel", "isAhead", "(I)Z"⟩, 43) := ⟨⟨by decide +kernel, by decide +kernel⟩, List.mem_of_getElem? (i := 1310) (by decide +kernel), List.mem_of_getElem? (i := 1831) (by decide +kernel), List.mem_of_getElem? (i := 1832) (by decide +kernel)⟩
theorem lw_p88 : lw_okq (⟨"MotherBenchModel", "beyond", "(II)I"⟩, 43) := ⟨⟨by decide +kernel, by decide +kernel⟩, List.mem_of_getElem? (i := 1310) (by decide +kernel), List.mem_of_getElem? (i := 1847) (by decide +kernel), List.mem_of_getElem? (i := 1848) (by decide +kernel)⟩
theorem lw_p89 : lw_okq (⟨"MotherBenchModel", "isThree", "(I)Z"⟩, 43) := ⟨⟨by decide +kernel, by decide +kernel⟩, List.mem_of_getElem? (i := 1310) (by decide +kernel), List.mem_of_getElem? (i := 1875) (by decide +kernel), List.mem_of_getElem? (i := 1876) (by decide +kernel)⟩
theorem lw_p90 : lw_okq (⟨"MotherBenchModel", "toldFinds", "(II)I"⟩, 43) := ⟨⟨by decide +kernel, by decide +kernel⟩, List.mem_of_getElem? (i := 1310) (by decide +kernel), List.mem_of_getElem? (i := 1886) (by decide +kernel), List.mem_of_getElem? (i := 1887) (by decide +kernel)⟩
theorem lw_p91 : lw_okq (⟨"MotherBenchModel", "markBy", "(II)I"⟩, 43) := ⟨⟨by decide +kernel, by decide +kernel⟩, List.mem_of_getElem? (i := 1310) (by decide +kernel), List.mem_of_getElem? (i := 1894) (by decide +kernel), List.mem_of_getElem? (i := 1895) (by decide +kernel)⟩
theorem lw_p92 : lw_okq (⟨"MotherBenchModel", "setBy", "(II)I"⟩, 43) := ⟨⟨by decide +kernel, by decide +kernel⟩, List.mem_of_getElem? (i := 1310) (by decide +kernel), List.mem_of_getElem? (i := 1898) (by decide +kernel), List.mem_of_getElem? (i := 1899) (by decide +kernel)⟩
theorem lw_p93 : lw_okq (⟨"MotherBenchModel", "middleBy", "(II)I"⟩, 43) := ⟨⟨by decide +kernel, by decide +kernel⟩, List.mem_of_getElem? (i := 1310) (by decide +kernel), List.mem_of_getElem? (i := 1902) (by decide +kernel), List.mem_of_getElem? (i := 1903) (by decide +kernel)⟩
theorem lw_p94 : lw_okq (⟨"MotherBenchModel", "pleaOf", "(I)I"⟩, 43) := ⟨⟨by decide +kernel, by decide +kernel⟩, List.mem_of_getElem? (i := 1310) (by decide +kernel), List.mem_of_getElem? (i := 1926) (by decide +kernel), List.mem_of_getElem? (i := 1927) (by decide +kernel)⟩
theorem lw_p95 : lw_okq (⟨"MotherBenchModel", "whyNot", "(IZ)I"⟩, 43) := ⟨⟨by decide +kernel, by decide +kernel⟩, List.mem_of_getElem? (i := 1310) (by decide +kernel), List.mem_of_getElem? (i := 1946) (by decide +kernel), List.mem_of_getElem? (i := 1947) (by decide +kernel)⟩
def lw_privs_6 : List (MethodName × Nat) := [(⟨"MotherBenchModel", "hasSat", "(II)Z"⟩, 43), (⟨"MotherBenchModel", "foundBy", "(II)I"⟩, 43), (⟨"MotherBenchModel", "dueOn", "(I)I"⟩, 43), (⟨"MotherBenchModel", "owesOf", "(II)I"⟩, 43), (⟨"MotherBenchModel", "allNow", "()I"⟩, 43), (⟨"MotherBenchModel", "sentenceOf", "(I)I"⟩, 43), (⟨"MotherBenchModel", "oneBy", "(II)I"⟩, 43), (⟨"MotherBenchModel", "isAhead", "(I)Z"⟩, 43), (⟨"MotherBenchModel", "beyond", "(II)I"⟩, 43), (⟨"MotherBenchModel", "isThree", "(I)Z"⟩, 43), (⟨"MotherBenchModel", "toldFinds", "(II)I"⟩, 43), (⟨"MotherBenchModel", "markBy", "(II)I"⟩, 43), (⟨"MotherBenchModel", "setBy", "(II)I"⟩, 43), (⟨"MotherBenchModel", "middleBy", "(II)I"⟩, 43), (⟨"MotherBenchModel", "pleaOf", "(I)I"⟩, 43), (⟨"MotherBenchModel", "whyNot", "(IZ)I"⟩, 43)]
theorem lw_r6 : ∀ q ∈ lw_privs_6, lw_okq q := List.forall_mem_cons.mpr ⟨lw_p80, List.forall_mem_cons.mpr ⟨lw_p81, List.forall_mem_cons.mpr ⟨lw_p82, List.forall_mem_cons.mpr ⟨lw_p83, List.forall_mem_cons.mpr ⟨lw_p84, List.forall_mem_cons.mpr ⟨lw_p85, List.forall_mem_cons.mpr ⟨lw_p86, List.forall_mem_cons.mpr ⟨lw_p87, List.forall_mem_cons.mpr ⟨lw_p88, List.forall_mem_cons.mpr ⟨lw_p89, List.forall_mem_cons.mpr ⟨lw_p90, List.forall_mem_cons.mpr ⟨lw_p91, List.forall_mem_cons.mpr ⟨lw_p92, List.forall_mem_cons.mpr ⟨lw_p93, List.forall_mem_cons.mpr ⟨lw_p94, List.forall_mem_cons.mpr ⟨lw_p95, fun _ h => absurd h List.not_mem_nil⟩⟩⟩⟩⟩⟩⟩⟩⟩⟩⟩⟩⟩⟩⟩⟩
theorem lw_p96 : lw_okq (⟨"MotherBenchModel", "laysSeen", "(II)V"⟩, 43) := ⟨⟨by decide +kernel, by decide +kernel⟩, List.mem_of_getElem? (i := 1310) (by decide +kernel), List.mem_of_getElem? (i := 1951) (by decide +kernel), List.mem_of_getElem? (i := 1952) (by decide +kernel)⟩
theorem lw_p97 : lw_okq (⟨"MotherBenchModel", "isSo", "(I)Z"⟩, 43) := ⟨⟨by decide +kernel, by decide +kernel⟩, List.mem_of_getElem? (i := 1310) (by decide +kernel), List.mem_of_getElem? (i := 1955) (by decide +kernel), List.mem_of_getElem? (i := 1956) (by decide +kernel)⟩
theorem lw_p98 : lw_okq (⟨"MotherBenchModel", "seenMany", "()I"⟩, 43) := ⟨⟨by decide +kernel, by decide +kernel⟩, List.mem_of_getElem? (i := 1310) (by decide +kernel), List.mem_of_getElem? (i := 1959) (by decide +kernel), List.mem_of_getElem? (i := 1960) (by decide +kernel)⟩
theorem lw_p99 : lw_okq (⟨"MotherBenchModel", "isSeen", "(I)Z"⟩, 43) := ⟨⟨by decide +kernel, by decide +kernel⟩, List.mem_of_getElem? (i := 1310) (by decide +kernel), List.mem_of_getElem? (i := 1963) (by decide +kernel), List.mem_of_getElem? (i := 1964) (by decide +kernel)⟩
theorem lw_p100 : lw_okq (⟨"MotherBenchModel", "worstBy", "(I)I"⟩, 43) := ⟨⟨by decide +kernel, by decide +kernel⟩, List.mem_of_getElem? (i := 1310) (by decide +kernel), List.mem_of_getElem? (i := 1967) (by decide +kernel), List.mem_of_getElem? (i := 1968) (by decide +kernel)⟩
theorem lw_p101 : lw_okq (⟨"MotherBenchModel", "allBy", "(I)I"⟩, 43) := ⟨⟨by decide +kernel, by decide +kernel⟩, List.mem_of_getElem? (i := 1310) (by decide +kernel), List.mem_of_getElem? (i := 1991) (by decide +kernel), List.mem_of_getElem? (i := 1992) (by decide +kernel)⟩
theorem lw_p102 : lw_okq (⟨"MotherBenchModel", "worthOf", "(I)I"⟩, 43) := ⟨⟨by decide +kernel, by decide +kernel⟩, List.mem_of_getElem? (i := 1310) (by decide +kernel), List.mem_of_getElem? (i := 2007) (by decide +kernel), List.mem_of_getElem? (i := 2008) (by decide +kernel)⟩
theorem lw_p103 : lw_okq (⟨"MotherBenchModel", "areTwo", "(II)Z"⟩, 43) := ⟨⟨by decide +kernel, by decide +kernel⟩, List.mem_of_getElem? (i := 1310) (by decide +kernel), List.mem_of_getElem? (i := 2032) (by decide +kernel), List.mem_of_getElem? (i := 2033) (by decide +kernel)⟩
theorem lw_p104 : lw_okq (⟨"MotherBenchModel", "getsBy", "(IIIII)I"⟩, 43) := ⟨⟨by decide +kernel, by decide +kernel⟩, List.mem_of_getElem? (i := 1310) (by decide +kernel), List.mem_of_getElem? (i := 2036) (by decide +kernel), List.mem_of_getElem? (i := 2037) (by decide +kernel)⟩
theorem lw_p105 : lw_okq (⟨"MotherBenchModel", "weightOf", "(II)J"⟩, 43) := ⟨⟨by decide +kernel, by decide +kernel⟩, List.mem_of_getElem? (i := 1310) (by decide +kernel), List.mem_of_getElem? (i := 2048) (by decide +kernel), List.mem_of_getElem? (i := 2049) (by decide +kernel)⟩
theorem lw_p106 : lw_okq (⟨"MotherBenchModel", "draws", "(J)I"⟩, 43) := ⟨⟨by decide +kernel, by decide +kernel⟩, List.mem_of_getElem? (i := 1310) (by decide +kernel), List.mem_of_getElem? (i := 2069) (by decide +kernel), List.mem_of_getElem? (i := 2070) (by decide +kernel)⟩
theorem lw_p107 : lw_okq (⟨"MotherBenchModel", "does", "(III)V"⟩, 43) := ⟨⟨by decide +kernel, by decide +kernel⟩, List.mem_of_getElem? (i := 1310) (by decide +kernel), List.mem_of_getElem? (i := 2086) (by decide +kernel), List.mem_of_getElem? (i := 2087) (by decide +kernel)⟩
def lw_privs_7 : List (MethodName × Nat) := [(⟨"MotherBenchModel", "laysSeen", "(II)V"⟩, 43), (⟨"MotherBenchModel", "isSo", "(I)Z"⟩, 43), (⟨"MotherBenchModel", "seenMany", "()I"⟩, 43), (⟨"MotherBenchModel", "isSeen", "(I)Z"⟩, 43), (⟨"MotherBenchModel", "worstBy", "(I)I"⟩, 43), (⟨"MotherBenchModel", "allBy", "(I)I"⟩, 43), (⟨"MotherBenchModel", "worthOf", "(I)I"⟩, 43), (⟨"MotherBenchModel", "areTwo", "(II)Z"⟩, 43), (⟨"MotherBenchModel", "getsBy", "(IIIII)I"⟩, 43), (⟨"MotherBenchModel", "weightOf", "(II)J"⟩, 43), (⟨"MotherBenchModel", "draws", "(J)I"⟩, 43), (⟨"MotherBenchModel", "does", "(III)V"⟩, 43)]
theorem lw_r7 : ∀ q ∈ lw_privs_7, lw_okq q := List.forall_mem_cons.mpr ⟨lw_p96, List.forall_mem_cons.mpr ⟨lw_p97, List.forall_mem_cons.mpr ⟨lw_p98, List.forall_mem_cons.mpr ⟨lw_p99, List.forall_mem_cons.mpr ⟨lw_p100, List.forall_mem_cons.mpr ⟨lw_p101, List.forall_mem_cons.mpr ⟨lw_p102, List.forall_mem_cons.mpr ⟨lw_p103, List.forall_mem_cons.mpr ⟨lw_p104, List.forall_mem_cons.mpr ⟨lw_p105, List.forall_mem_cons.mpr ⟨lw_p106, List.forall_mem_cons.mpr ⟨lw_p107, fun _ h => absurd h List.not_mem_nil⟩⟩⟩⟩⟩⟩⟩⟩⟩⟩⟩⟩
def lw_privs : List (MethodName × Nat) := lw_privs_1 ++ (lw_privs_2 ++ (lw_privs_3 ++ (lw_privs_4 ++ (lw_privs_5 ++ (lw_privs_6 ++ (lw_privs_7))))))
def lw_tbl : List Cond := k2_sels lw_privs ++ tables_1
theorem lw_privs_ok : ∀ q ∈ lw_privs, lw_okq q := by
  show ∀ q ∈ lw_privs_1 ++ (lw_privs_2 ++ (lw_privs_3 ++ (lw_privs_4 ++ (lw_privs_5 ++ (lw_privs_6 ++ (lw_privs_7)))))), lw_okq q
  exact List.forall_mem_append.mpr ⟨lw_r1, List.forall_mem_append.mpr ⟨lw_r2, List.forall_mem_append.mpr ⟨lw_r3, List.forall_mem_append.mpr ⟨lw_r4, List.forall_mem_append.mpr ⟨lw_r5, List.forall_mem_append.mpr ⟨lw_r6, lw_r7⟩⟩⟩⟩⟩⟩
def RX0 : String := "MotherBench$Chances"
def TX0 : u_T := fun k => match k with
  | 0 => ("MotherBench$Chances", "trial", "LMotherBench$Trial;", true)
  | _ => ("MotherBench$Chances", "fraction", "LMotherBench$Fraction;", true)
def tyX0 : Nat → FieldType := fun k => match k with
  | 0 => .object "MotherBench$Trial"
  | _ => .object "MotherBench$Fraction"
theorem nmX0 : ∀ a, a < 2 → ∀ b, b < 2 → a ≠ b → (TX0 a).2.1 ≠ (TX0 b).2.1 := by decide +kernel
theorem tyX0_ok : ∀ k, k < 2 → parseFieldDescriptor (TX0 k).2.2.1 = some (tyX0 k) := by decide +kernel
def RX1 : String := "MotherBench$Circuit"
def TX1 : u_T := fun k => match k with
  | 0 => ("MotherBench$Circuit", "lines", "I", false)
  | 1 => ("MotherBench$Circuit", "days", "I", false)
  | 2 => ("MotherBench$Circuit", "law", "I", false)
  | 3 => ("MotherBench$Circuit", "odds", "I", false)
  | 4 => ("MotherBench$Circuit", "mothers", "I", false)
  | 5 => ("MotherBench$Circuit", "kinTold", "I", false)
  | 6 => ("MotherBench$Circuit", "causes", "I", false)
  | 7 => ("MotherBench$Circuit", "acts", "I", false)
  | 8 => ("MotherBench$Circuit", "strict", "[I", true)
  | 9 => ("MotherBench$Circuit", "ways", "[I", true)
  | 10 => ("MotherBench$Circuit", "kin", "[I", true)
  | 11 => ("MotherBench$Circuit", "weighs", "[I", true)
  | 12 => ("MotherBench$Circuit", "signs", "[I", true)
  | 13 => ("MotherBench$Circuit", "at", "[I", true)
  | 14 => ("MotherBench$Circuit", "actAppeals", "[I", true)
  | 15 => ("MotherBench$Circuit", "actWho", "[I", true)
  | _ => ("MotherBench$Circuit", "actDay", "[I", true)
def tyX1 : Nat → FieldType := fun k => match k with
  | 0 => .int
  | 1 => .int
  | 2 => .int
  | 3 => .int
  | 4 => .int
  | 5 => .int
  | 6 => .int
  | 7 => .int
  | 8 => .array .int
  | 9 => .array .int
  | 10 => .array .int
  | 11 => .array .int
  | 12 => .array .int
  | 13 => .array .int
  | 14 => .array .int
  | 15 => .array .int
  | _ => .array .int
theorem nmX1 : ∀ a, a < 17 → ∀ b, b < 17 → a ≠ b → (TX1 a).2.1 ≠ (TX1 b).2.1 := by decide +kernel
theorem tyX1_ok : ∀ k, k < 17 → parseFieldDescriptor (TX1 k).2.2.1 = some (tyX1 k) := by decide +kernel
def RX2 : String := "MotherBench$Court"
def TX2 : u_T := fun k => match k with
  | 0 => ("MotherBench$Court", "told", "LMotherBench$Circuit;", true)
  | 1 => ("MotherBench$Court", "events", "I", false)
  | 2 => ("MotherBench$Court", "eventCause", "[I", true)
  | 3 => ("MotherBench$Court", "eventDay", "[I", true)
  | 4 => ("MotherBench$Court", "eventAppeals", "[I", true)
  | 5 => ("MotherBench$Court", "away", "[I", true)
  | 6 => ("MotherBench$Court", "hearings", "I", false)
  | 7 => ("MotherBench$Court", "hearingCause", "[I", true)
  | 8 => ("MotherBench$Court", "hearingDay", "[I", true)
  | 9 => ("MotherBench$Court", "hearingBench", "[I", true)
  | 10 => ("MotherBench$Court", "hearingSentence", "[I", true)
  | 11 => ("MotherBench$Court", "findings", "[I", true)
  | 12 => ("MotherBench$Court", "latest", "[I", true)
  | 13 => ("MotherBench$Court", "often", "[I", true)
  | 14 => ("MotherBench$Court", "satOf", "[I", true)
  | 15 => ("MotherBench$Court", "strictNow", "[I", true)
  | 16 => ("MotherBench$Court", "satNow", "[I", true)
  | 17 => ("MotherBench$Court", "strictByDay", "[I", true)
  | _ => ("MotherBench$Court", "satByDay", "[I", true)
def tyX2 : Nat → FieldType := fun k => match k with
  | 0 => .object "MotherBench$Circuit"
  | 1 => .int
  | 2 => .array .int
  | 3 => .array .int
  | 4 => .array .int
  | 5 => .array .int
  | 6 => .int
  | 7 => .array .int
  | 8 => .array .int
  | 9 => .array .int
  | 10 => .array .int
  | 11 => .array .int
  | 12 => .array .int
  | 13 => .array .int
  | 14 => .array .int
  | 15 => .array .int
  | 16 => .array .int
  | 17 => .array .int
  | _ => .array .int
theorem nmX2 : ∀ a, a < 19 → ∀ b, b < 19 → a ≠ b → (TX2 a).2.1 ≠ (TX2 b).2.1 := by decide +kernel
theorem tyX2_ok : ∀ k, k < 19 → parseFieldDescriptor (TX2 k).2.2.1 = some (tyX2 k) := by decide +kernel
def RX3 : String := "MotherBench$Fraction"
def TX3 : u_T := fun k => match k with
  | 0 => ("MotherBench$Fraction", "above", "J", false)
  | _ => ("MotherBench$Fraction", "below", "J", false)
def tyX3 : Nat → FieldType := fun k => match k with
  | 0 => .long
  | _ => .long
theorem nmX3 : ∀ a, a < 2 → ∀ b, b < 2 → a ≠ b → (TX3 a).2.1 ≠ (TX3 b).2.1 := by decide +kernel
theorem tyX3_ok : ∀ k, k < 2 → parseFieldDescriptor (TX3 k).2.2.1 = some (tyX3 k) := by decide +kernel
def RX4 : String := "MotherBench$Panels"
def TX4 : u_T := fun k => match k with
  | 0 => ("MotherBench$Panels", "told", "LMotherBench$Circuit;", true)
  | _ => ("MotherBench$Panels", "findings", "[I", true)
def tyX4 : Nat → FieldType := fun k => match k with
  | 0 => .object "MotherBench$Circuit"
  | _ => .array .int
theorem nmX4 : ∀ a, a < 2 → ∀ b, b < 2 → a ≠ b → (TX4 a).2.1 ≠ (TX4 b).2.1 := by decide +kernel
theorem tyX4_ok : ∀ k, k < 2 → parseFieldDescriptor (TX4 k).2.2.1 = some (tyX4 k) := by decide +kernel
def RX5 : String := "MotherBench$Reader"
def TX5 : u_T := fun k => match k with
  | 0 => ("MotherBench$Reader", "tape", "[B", true)
  | 1 => ("MotherBench$Reader", "size", "I", false)
  | 2 => ("MotherBench$Reader", "fault", "I", false)
  | 3 => ("MotherBench$Reader", "faultPlace", "I", false)
  | 4 => ("MotherBench$Reader", "draft", "LMotherBench$Circuit;", true)
  | 5 => ("MotherBench$Reader", "token", "I", false)
  | 6 => ("MotherBench$Reader", "place", "I", false)
  | 7 => ("MotherBench$Reader", "next", "I", false)
  | _ => ("MotherBench$Reader", "value", "I", false)
def tyX5 : Nat → FieldType := fun k => match k with
  | 0 => .array .byte
  | 1 => .int
  | 2 => .int
  | 3 => .int
  | 4 => .object "MotherBench$Circuit"
  | 5 => .int
  | 6 => .int
  | 7 => .int
  | _ => .int
theorem nmX5 : ∀ a, a < 9 → ∀ b, b < 9 → a ≠ b → (TX5 a).2.1 ≠ (TX5 b).2.1 := by decide +kernel
theorem tyX5_ok : ∀ k, k < 9 → parseFieldDescriptor (TX5 k).2.2.1 = some (tyX5 k) := by decide +kernel
def RX6 : String := "MotherBench$Rows"
def TX6 : u_T := fun k => match k with
  | 0 => ("MotherBench$Rows", "values", "[J", true)
  | 1 => ("MotherBench$Rows", "widths", "[I", true)
  | _ => ("MotherBench$Rows", "lengths", "[I", true)
def tyX6 : Nat → FieldType := fun k => match k with
  | 0 => .array .long
  | 1 => .array .int
  | _ => .array .int
theorem nmX6 : ∀ a, a < 3 → ∀ b, b < 3 → a ≠ b → (TX6 a).2.1 ≠ (TX6 b).2.1 := by decide +kernel
theorem tyX6_ok : ∀ k, k < 3 → parseFieldDescriptor (TX6 k).2.2.1 = some (tyX6 k) := by decide +kernel
def RX7 : String := "MotherBench$Seen"
def TX7 : u_T := fun k => match k with
  | 0 => ("MotherBench$Seen", "trial", "LMotherBench$Trial;", true)
  | 1 => ("MotherBench$Seen", "rows", "LMotherBench$Rows;", true)
  | 2 => ("MotherBench$Seen", "fitting", "I", false)
  | 3 => ("MotherBench$Seen", "stricts", "[I", true)
  | _ => ("MotherBench$Seen", "sentences", "[I", true)
def tyX7 : Nat → FieldType := fun k => match k with
  | 0 => .object "MotherBench$Trial"
  | 1 => .object "MotherBench$Rows"
  | 2 => .int
  | 3 => .array .int
  | _ => .array .int
theorem nmX7 : ∀ a, a < 5 → ∀ b, b < 5 → a ≠ b → (TX7 a).2.1 ≠ (TX7 b).2.1 := by decide +kernel
theorem tyX7_ok : ∀ k, k < 5 → parseFieldDescriptor (TX7 k).2.2.1 = some (tyX7 k) := by decide +kernel
def RX8 : String := "MotherBench$Trial"
def TX8 : u_T := fun k => match k with
  | 0 => ("MotherBench$Trial", "told", "LMotherBench$Circuit;", true)
  | 1 => ("MotherBench$Trial", "supposed", "LMotherBench$Circuit;", true)
  | 2 => ("MotherBench$Trial", "court", "LMotherBench$Court;", true)
  | 3 => ("MotherBench$Trial", "fraction", "LMotherBench$Fraction;", true)
  | 4 => ("MotherBench$Trial", "gains", "[I", true)
  | _ => ("MotherBench$Trial", "otherGains", "[I", true)
def tyX8 : Nat → FieldType := fun k => match k with
  | 0 => .object "MotherBench$Circuit"
  | 1 => .object "MotherBench$Circuit"
  | 2 => .object "MotherBench$Court"
  | 3 => .object "MotherBench$Fraction"
  | 4 => .array .int
  | _ => .array .int
theorem nmX8 : ∀ a, a < 6 → ∀ b, b < 6 → a ≠ b → (TX8 a).2.1 ≠ (TX8 b).2.1 := by decide +kernel
theorem tyX8_ok : ∀ k, k < 6 → parseFieldDescriptor (TX8 k).2.2.1 = some (tyX8 k) := by decide +kernel
def RX9 : String := "MotherBench"
def TX9 : u_T := fun k => match k with
  | 0 => ("MotherBench", "reader", "LMotherBench$Reader;", true)
  | 1 => ("MotherBench", "told", "LMotherBench$Circuit;", true)
  | 2 => ("MotherBench", "now", "LMotherBench$Court;", true)
  | 3 => ("MotherBench", "panels", "LMotherBench$Panels;", true)
  | 4 => ("MotherBench", "trial", "LMotherBench$Trial;", true)
  | 5 => ("MotherBench", "seen", "LMotherBench$Seen;", true)
  | 6 => ("MotherBench", "chances", "LMotherBench$Chances;", true)
  | 7 => ("MotherBench", "rows", "LMotherBench$Rows;", true)
  | 8 => ("MotherBench", "images", "[LMotherBench$Circuit;", true)
  | _ => ("MotherBench", "imaged", "I", false)
def tyX9 : Nat → FieldType := fun k => match k with
  | 0 => .object "MotherBench$Reader"
  | 1 => .object "MotherBench$Circuit"
  | 2 => .object "MotherBench$Court"
  | 3 => .object "MotherBench$Panels"
  | 4 => .object "MotherBench$Trial"
  | 5 => .object "MotherBench$Seen"
  | 6 => .object "MotherBench$Chances"
  | 7 => .object "MotherBench$Rows"
  | 8 => .array (.object "MotherBench$Circuit")
  | _ => .int
theorem nmX9 : ∀ a, a < 10 → ∀ b, b < 10 → a ≠ b → (TX9 a).2.1 ≠ (TX9 b).2.1 := by decide +kernel
theorem tyX9_ok : ∀ k, k < 10 → parseFieldDescriptor (TX9 k).2.2.1 = some (tyX9 k) := by decide +kernel
def RX10 : String := "MotherBenchModel"
def TX10 : u_T := fun k => match k with
  | 0 => ("MotherBenchModel", "thrown", "I", false)
  | 1 => ("MotherBenchModel", "width", "[I", true)
  | 2 => ("MotherBenchModel", "many", "[I", true)
  | 3 => ("MotherBenchModel", "cells", "[J", true)
  | 4 => ("MotherBenchModel", "moved", "[J", true)
  | 5 => ("MotherBenchModel", "tape", "[B", true)
  | 6 => ("MotherBenchModel", "taped", "I", false)
  | 7 => ("MotherBenchModel", "spot", "I", false)
  | 8 => ("MotherBenchModel", "token", "I", false)
  | 9 => ("MotherBenchModel", "place", "I", false)
  | 10 => ("MotherBenchModel", "value", "I", false)
  | 11 => ("MotherBenchModel", "word", "J", false)
  | 12 => ("MotherBenchModel", "bad", "I", false)
  | 13 => ("MotherBenchModel", "badPlace", "I", false)
  | 14 => ("MotherBenchModel", "fault", "I", false)
  | 15 => ("MotherBenchModel", "faultPlace", "I", false)
  | 16 => ("MotherBenchModel", "lines", "[I", true)
  | 17 => ("MotherBenchModel", "has", "[I", true)
  | 18 => ("MotherBenchModel", "toldMother", "[I", true)
  | 19 => ("MotherBenchModel", "kinOf", "[I", true)
  | 20 => ("MotherBenchModel", "toldCause", "[I", true)
  | 21 => ("MotherBenchModel", "act", "[I", true)
  | 22 => ("MotherBenchModel", "isKept", "[Z", true)
  | 23 => ("MotherBenchModel", "law", "I", false)
  | 24 => ("MotherBenchModel", "awayAll", "I", false)
  | 25 => ("MotherBenchModel", "unbrought", "I", false)
  | 26 => ("MotherBenchModel", "strictTold", "[I", true)
  | 27 => ("MotherBenchModel", "weighs", "[I", true)
  | 28 => ("MotherBenchModel", "signs", "[I", true)
  | 29 => ("MotherBenchModel", "dayTold", "[I", true)
  | 30 => ("MotherBenchModel", "hearings", "I", false)
  | 31 => ("MotherBenchModel", "heard", "[I", true)
  | 32 => ("MotherBenchModel", "strictAt", "[I", true)
  | 33 => ("MotherBenchModel", "satAt", "[I", true)
  | 34 => ("MotherBenchModel", "strictNow", "[I", true)
  | 35 => ("MotherBenchModel", "satNow", "[I", true)
  | 36 => ("MotherBenchModel", "latest", "[I", true)
  | 37 => ("MotherBenchModel", "everSat", "[I", true)
  | 38 => ("MotherBenchModel", "three", "[I", true)
  | 39 => ("MotherBenchModel", "askBest", "I", false)
  | 40 => ("MotherBenchModel", "askLeaves", "I", false)
  | 41 => ("MotherBenchModel", "seenBits", "J", false)
  | _ => ("MotherBenchModel", "byStrict", "[I", true)
def tyX10 : Nat → FieldType := fun k => match k with
  | 0 => .int
  | 1 => .array .int
  | 2 => .array .int
  | 3 => .array .long
  | 4 => .array .long
  | 5 => .array .byte
  | 6 => .int
  | 7 => .int
  | 8 => .int
  | 9 => .int
  | 10 => .int
  | 11 => .long
  | 12 => .int
  | 13 => .int
  | 14 => .int
  | 15 => .int
  | 16 => .array .int
  | 17 => .array .int
  | 18 => .array .int
  | 19 => .array .int
  | 20 => .array .int
  | 21 => .array .int
  | 22 => .array .boolean
  | 23 => .int
  | 24 => .int
  | 25 => .int
  | 26 => .array .int
  | 27 => .array .int
  | 28 => .array .int
  | 29 => .array .int
  | 30 => .int
  | 31 => .array .int
  | 32 => .array .int
  | 33 => .array .int
  | 34 => .array .int
  | 35 => .array .int
  | 36 => .array .int
  | 37 => .array .int
  | 38 => .array .int
  | 39 => .int
  | 40 => .int
  | 41 => .long
  | _ => .array .int
theorem nmX10 : ∀ a, a < 43 → ∀ b, b < 43 → a ≠ b → (TX10 a).2.1 ≠ (TX10 b).2.1 := by decide +kernel
theorem tyX10_ok : ∀ k, k < 43 → parseFieldDescriptor (TX10 k).2.2.1 = some (tyX10 k) := by decide +kernel
abbrev vwCl : List vw_C := [(RX0, TX0, 2), (RX1, TX1, 17), (RX2, TX2, 19), (RX3, TX3, 2), (RX4, TX4, 2), (RX5, TX5, 9), (RX6, TX6, 3), (RX7, TX7, 5), (RX8, TX8, 6), (RX9, TX9, 10), (RX10, TX10, 43)]
def m_nf (c : Nat) : Nat := match c with
  | 0 => 2
  | 1 => 17
  | 2 => 19
  | 3 => 2
  | 4 => 2
  | 5 => 9
  | 6 => 3
  | 7 => 5
  | 8 => 6
  | 9 => 10
  | 10 => 43
  | _ => 0
def m_tyf (c : Nat) (k : Nat) : FieldType := match c with
  | 0 => tyX0 k
  | 1 => tyX1 k
  | 2 => tyX2 k
  | 3 => tyX3 k
  | 4 => tyX4 k
  | 5 => tyX5 k
  | 6 => tyX6 k
  | 7 => tyX7 k
  | 8 => tyX8 k
  | 9 => tyX9 k
  | 10 => tyX10 k
  | _ => .int
def m_G : List Cond := lw_tbl.filter goodWord
def m_tk (k : Nat) : List Cond := match k with
  | 0 => k2_sels lw_privs
  | 1 => tables_1_1
  | 2 => tables_1_2
  | 3 => tables_1_3
  | 4 => tables_1_4
  | 5 => tables_1_5
  | 6 => tables_1_6
  | 7 => tables_1_7
  | 8 => tables_1_8
  | 9 => tables_1_9
  | _ => []
def m_wd (q : Nat) : Option Cond := (m_tk (q / 1000))[q % 1000]?
theorem m_wd_in {q : Nat} {w : Cond} (h : m_wd q = some w) : w ∈ lw_tbl := by
  have h1 : ∀ k, ∀ z ∈ m_tk k, z ∈ lw_tbl := by
    intro k z hz
    unfold m_tk at hz
    split at hz
    · exact List.mem_append_left _ hz
    · exact List.mem_append_right _ (List.mem_append_left _ hz)
    · exact List.mem_append_right _ (List.mem_append_right _ (List.mem_append_left _ hz))
    · exact List.mem_append_right _ (List.mem_append_right _ (List.mem_append_right _ (List.mem_append_left _ hz)))
    · exact List.mem_append_right _ (List.mem_append_right _ (List.mem_append_right _ (List.mem_append_right _ (List.mem_append_left _ hz))))
    · exact List.mem_append_right _ (List.mem_append_right _ (List.mem_append_right _ (List.mem_append_right _ (List.mem_append_right _ (List.mem_append_left _ hz)))))
    · exact List.mem_append_right _ (List.mem_append_right _ (List.mem_append_right _ (List.mem_append_right _ (List.mem_append_right _ (List.mem_append_right _ (List.mem_append_left _ hz))))))
    · exact List.mem_append_right _ (List.mem_append_right _ (List.mem_append_right _ (List.mem_append_right _ (List.mem_append_right _ (List.mem_append_right _ (List.mem_append_right _ (List.mem_append_left _ hz)))))))
    · exact List.mem_append_right _ (List.mem_append_right _ (List.mem_append_right _ (List.mem_append_right _ (List.mem_append_right _ (List.mem_append_right _ (List.mem_append_right _ (List.mem_append_right _ (List.mem_append_left _ hz))))))))
    · exact List.mem_append_right _ (List.mem_append_right _ (List.mem_append_right _ (List.mem_append_right _ (List.mem_append_right _ (List.mem_append_right _ (List.mem_append_right _ (List.mem_append_right _ (List.mem_append_right _ (hz)))))))))
    · cases hz
  exact h1 _ w (List.mem_of_getElem? h)
def m_pos : List Nat := [1024, 1032, 1038, 1186, 2012, 2025, 2035, 2073, 2090, 2113, 2160, 2164, 2168, 2172, 2176, 2180, 2184, 2187, 2191, 2195, 2199, 2203, 2207, 2211, 2214, 2218, 2222, 2227, 2231, 3043, 3048, 3055, 3062, 3067, 3074, 3081, 3085, 3089, 3093, 3099, 3103, 3107, 3111, 3115, 3119, 3122, 3125, 3131, 3134, 3140, 3144, 3148, 3152, 3156, 3160, 3164, 3168, 3172, 3176, 3180, 3184, 3188, 3192, 3196, 3200, 3204, 3208, 3211, 3218, 3222, 3227, 3231, 3236, 4000, 4004, 4008, 4012, 4016, 4020, 4024, 4028, 4032, 4036, 4040, 4044, 4048, 4052, 4056, 4060, 4064, 4068, 4073, 4077, 4081, 4085, 4090, 4094, 4098, 4102, 4106, 4110, 4114, 4118, 4122, 4126, 4130, 4134, 4138, 4142, 4146, 4150, 4154, 4158, 4163, 4167, 4172, 4177, 4181, 4186, 4190, 4194, 4201, 4205, 4209, 4213, 4217, 4221, 4225, 4229, 4233, 4237, 5007, 5011, 5015, 5019, 5023, 5029, 5033, 5037, 5041, 5045, 5049, 5053, 5058, 5064, 5070, 5075, 5079, 5083, 5087, 5091, 5095, 5099, 5104, 5109, 5113, 5117, 5121, 5125, 5129, 5134, 5139, 5143, 5148, 5156, 5159, 5163, 5166, 5170, 5174, 5178, 5182, 5186, 5190, 5194, 5198, 5204, 5208, 5213, 5219, 5225, 5230, 5235, 5239, 6003, 6007, 6011, 6015, 6019, 6023, 6028, 6036, 6040, 6044, 6050, 6054, 6058, 6063, 6067, 6071, 6075, 6079, 6083, 6087, 6091, 6095, 6099, 6103, 6107, 6113, 7009, 7012, 7016, 7020, 7023, 7027, 7031, 7035, 7039, 7043, 7047, 7051, 7055, 7059, 7063, 7067, 7076, 7081, 7085, 7089, 7093, 7098, 7102, 7108, 7113, 7117, 7121, 7128, 7132, 7137, 7144, 7148, 7152, 7155, 7159, 7163, 7167, 7172, 7176, 7180, 7184, 7188, 7193, 7197, 7201, 7205, 7209, 7213, 7216, 7220, 7224, 7228, 7231, 7234, 7237, 8001, 8005, 8009, 8013, 8017, 8021, 8025, 8029, 8033, 8037, 8041, 8045, 8049, 8053, 8057, 8061, 8065, 8069, 8073, 8077, 8081, 8085, 8089, 8093, 8097, 8101, 8105, 8109, 8113, 8117, 8121, 8125, 8129, 8133, 8137, 8141, 8145, 8149, 8153, 8157, 8161, 8165, 8169, 8173, 8177, 8181, 8185, 8189, 8193, 8197, 8200, 8204, 8208, 8212, 8216, 8220, 8224, 8228, 8232, 8236, 9000, 9004, 9008, 9012, 9016, 9020, 9024, 9028, 9033, 9037, 9041, 9045, 9049, 9053, 9057, 9061, 9065, 9069, 9073, 9077, 9081, 9085, 9089, 9093, 9096, 9100, 9103, 9106, 9110, 9114, 9118, 9122, 9126, 9130, 9134, 9138, 9143, 9146, 9151, 9159, 9164, 9168, 9172, 9176, 9180, 9184, 9189, 9194, 9198]
def m_cw (k : Nat) : Option (MethodName × ByteArray × Nat × Option FieldType) := match m_pos[k]? with
  | some i => match m_wd i with
    | some (.code y b n r) => some (y, b, n, r)
    | _ => none
  | none => none
def m_lk_0 : List (Nat × (Nat × Nat × Int × List Nat)) := [(7, (21, 9, 0, [])), (9, (24, 0, 1, [0, 2, 9])), (13, (24, 10, 0, [5, 6, 9])), (18, (24, 13, 0, [1, 2, 9])), (23, (24, 14, 0, [0, 1, 9])), (28, (24, 49, 0, [1, 2, 9])), (32, (24, 50, 0, [2, 3, 9])), (37, (24, 52, 0, [1, 2, 9])), (41, (24, 53, 0, [2, 3, 9])), (45, (24, 55, 0, [1, 2, 9])), (49, (24, 56, 0, [1, 2, 9])), (53, (24, 58, 0, [2, 3, 9])), (57, (24, 60, 0, [1, 2, 9])), (61, (24, 62, 0, [1, 2, 9])), (65, (24, 64, 0, [1, 2, 9])), (69, (24, 68, 0, [1, 2, 9])), (73, (24, 70, 0, [0, 3, 9])), (77, (24, 72, 0, [2, 3, 9])), (81, (24, 75, 0, [2, 3, 9])), (85, (24, 77, 0, [1, 2, 9])), (89, (24, 79, 0, [1, 2, 9])), (93, (24, 81, 0, [1, 2, 9])), (97, (24, 83, 0, [1, 2, 9])), (101, (24, 85, 0, [2, 3, 9])), (105, (24, 87, 0, [1, 2, 9])), (109, (24, 90, 0, [2, 3, 9])), (113, (24, 91, 0, [1, 3, 9])), (117, (24, 92, 0, [0, 5, 9])), (121, (24, 93, 0, [0, 1, 9])), (125, (24, 95, 0, [0, 4, 9])), (129, (24, 96, 0, [1, 4, 9])), (133, (24, 97, 0, [1, 4, 9])), (137, (24, 98, 0, [0, 3, 9])), (141, (24, 99, 0, [0, 3, 9])), (145, (24, 100, 0, [1, 2, 9])), (149, (24, 103, 0, [1, 2, 9])), (153, (24, 104, 0, [1, 4, 9])), (157, (24, 105, 0, [1, 2, 9])), (161, (24, 107, 0, [1, 2, 9])), (165, (24, 108, 0, [0, 4, 9])), (169, (24, 109, 0, [0, 5, 9])), (173, (24, 110, 0, [1, 2, 9])), (177, (24, 112, 0, [1, 2, 9])), (181, (24, 113, 0, [0, 1, 9])), (185, (24, 116, 0, [2, 3, 9])), (189, (24, 118, 0, [1, 3, 9])), (193, (24, 121, 0, [1, 2, 9])), (197, (24, 122, 0, [1, 3, 9])), (201, (24, 124, 0, [1, 2, 9])), (205, (24, 125, 0, [1, 2, 9])), (209, (24, 128, 0, [1, 3, 9])), (213, (24, 131, 0, [1, 2, 9])), (217, (24, 132, 0, [1, 2, 9])), (221, (24, 134, 0, [0, 1, 9])), (225, (24, 136, 0, [2, 4, 9])), (229, (24, 146, 0, [2, 4, 9])), (233, (24, 148, 0, [2, 4, 9])), (237, (24, 150, 0, [2, 4, 9])), (241, (24, 153, 0, [2, 5, 9])), (245, (24, 154, 0, [1, 3, 9])), (249, (24, 156, 0, [1, 2, 9])), (253, (24, 158, 0, [0, 1, 9])), (257, (24, 160, 0, [1, 2, 9])), (261, (24, 162, 0, [2, 3, 9])), (265, (24, 169, 0, [2, 3, 9])), (269, (24, 174, 0, [4, 5, 9])), (274, (24, 176, 0, [3, 4, 9])), (279, (24, 180, 0, [1, 2, 9])), (284, (24, 182, 0, [2, 3, 9])), (288, (24, 184, 0, [2, 3, 9])), (292, (24, 186, 0, [0, 1, 9])), (296, (24, 187, 0, [0, 2, 9])), (300, (24, 188, 0, [2, 4, 9])), (304, (24, 192, 0, [3, 4, 9])), (308, (24, 194, 0, [2, 4, 9])), (312, (24, 195, 0, [1, 2, 9])), (316, (24, 197, 0, [1, 2, 9])), (320, (24, 198, 0, [1, 2, 9])), (324, (24, 199, 0, [3, 4, 9])), (330, (24, 202, 0, [3, 5, 9])), (335, (24, 205, 0, [5, 6, 9])), (10, (21, 10, 0, [])), (12, (24, 209, 1, [0, 2, 10])), (327, (24, 210, 0, [3, 5, 10])), (334, (24, 213, 0, [3, 5, 10])), (338, (24, 215, 0, [5, 7, 10])), (17, (24, 216, 0, [5, 6, 10])), (22, (24, 218, 0, [1, 2, 10])), (31, (24, 219, 0, [1, 2, 10])), (27, (24, 220, 0, [0, 1, 10])), (36, (24, 244, 0, [2, 3, 10])), (40, (24, 247, 0, [1, 2, 10])), (44, (24, 249, 0, [2, 3, 10])), (48, (24, 252, 0, [1, 4, 10])), (52, (24, 266, 0, [1, 2, 10])), (56, (24, 269, 0, [2, 3, 10])), (60, (24, 270, 0, [1, 2, 10])), (64, (24, 271, 0, [1, 2, 10])), (68, (24, 272, 0, [1, 5, 10])), (72, (24, 273, 0, [1, 2, 10])), (76, (24, 275, 0, [0, 3, 10])), (80, (24, 277, 0, [2, 3, 10])), (84, (24, 279, 0, [2, 3, 10])), (88, (24, 280, 0, [1, 4, 10])), (92, (24, 282, 0, [1, 3, 10])), (96, (24, 283, 0, [1, 4, 10])), (100, (24, 285, 0, [1, 4, 10])), (104, (24, 286, 0, [2, 5, 10])), (108, (24, 287, 0, [1, 2, 10])), (112, (24, 290, 0, [2, 3, 10])), (116, (24, 291, 0, [1, 3, 10])), (120, (24, 292, 0, [0, 3, 10])), (124, (24, 293, 0, [0, 1, 10])), (128, (24, 296, 0, [0, 3, 10])), (132, (24, 297, 0, [1, 2, 10])), (136, (24, 299, 0, [1, 2, 10])), (140, (24, 300, 0, [0, 3, 10])), (144, (24, 301, 0, [0, 3, 10])), (148, (24, 302, 0, [1, 4, 10])), (152, (24, 304, 0, [1, 2, 10])), (156, (24, 305, 0, [1, 4, 10])), (160, (24, 306, 0, [1, 2, 10])), (164, (24, 308, 0, [1, 2, 10])), (168, (24, 309, 0, [0, 3, 10])), (172, (24, 310, 0, [0, 4, 10])), (176, (24, 311, 0, [1, 4, 10])), (180, (24, 312, 0, [1, 2, 10])), (184, (24, 313, 0, [0, 3, 10])), (188, (24, 316, 0, [2, 3, 10])), (192, (24, 318, 0, [1, 2, 10])), (196, (24, 322, 0, [1, 2, 10])), (200, (24, 323, 0, [1, 2, 10])), (204, (24, 324, 0, [1, 2, 10])), (208, (24, 325, 0, [1, 7, 10])), (212, (24, 326, 0, [1, 3, 10])), (216, (24, 328, 0, [1, 2, 10])), (220, (24, 329, 0, [1, 5, 10])), (224, (24, 330, 0, [0, 6, 10])), (228, (24, 331, 0, [2, 4, 10])), (232, (24, 338, 0, [2, 5, 10])), (236, (24, 339, 0, [2, 5, 10])), (240, (24, 340, 0, [2, 4, 10])), (244, (24, 341, 0, [2, 4, 10])), (248, (24, 342, 0, [1, 5, 10])), (252, (24, 344, 0, [1, 2, 10])), (256, (24, 345, 0, [0, 3, 10])), (260, (24, 346, 0, [1, 2, 10])), (264, (24, 348, 0, [2, 7, 10])), (268, (24, 353, 0, [2, 8, 10])), (273, (24, 356, 0, [4, 5, 10])), (278, (24, 357, 0, [3, 4, 10])), (283, (24, 360, 0, [1, 2, 10])), (303, (24, 361, 0, [2, 4, 10])), (307, (24, 364, 0, [3, 6, 10])), (287, (24, 365, 0, [2, 3, 10])), (291, (24, 367, 0, [2, 5, 10])), (295, (24, 368, 0, [0, 1, 10])), (299, (24, 369, 0, [0, 2, 10])), (311, (24, 370, 0, [2, 4, 10])), (315, (24, 371, 0, [1, 4, 10])), (319, (24, 372, 0, [1, 2, 10])), (323, (24, 373, 0, [1, 2, 10])), (328, (1, 0, 4294967295, []))]
def m_lk_1 : List (Nat × (Nat × Nat × Int × List Nat)) := [(3, (25, 0, 0, [])), (9, (21, 5, 0, [])), (11, (24, 1, 4, [0, 1, 5])), (99, (15, 1, 0, [])), (196, (15, 1, 1, [])), (360, (15, 1, 2, [])), (363, (15, 1, 3, [])), (203, (15, 1, 4, [])), (366, (15, 1, 5, [])), (160, (15, 1, 6, [])), (344, (15, 1, 7, [])), (112, (15, 1, 8, [])), (116, (15, 1, 9, [])), (119, (15, 1, 10, [])), (125, (15, 1, 11, [])), (128, (15, 1, 12, [])), (131, (15, 1, 13, [])), (83, (15, 5, 1, [])), (102, (15, 5, 2, [])), (105, (15, 5, 3, [])), (90, (15, 5, 4, [])), (16, (21, 1, 0, [])), (18, (24, 2, 4, [0, 1, 1])), (23, (21, 2, 0, [])), (25, (24, 3, 1, [1, 2, 2])), (134, (15, 2, 13, [])), (221, (15, 2, 14, [])), (32, (21, 4, 0, [])), (34, (24, 4, 1, [1, 2, 4])), (39, (21, 8, 0, [])), (41, (24, 5, 1, [1, 2, 8])), (300, (15, 8, 3, [])), (46, (21, 6, 0, [])), (48, (24, 7, 4, [0, 1, 6])), (53, (21, 7, 0, [])), (55, (24, 8, 1, [2, 3, 7])), (260, (15, 7, 2, [])), (62, (21, 0, 0, [])), (64, (24, 9, 1, [1, 2, 0])), (331, (15, 0, 1, [])), (12, (15, 9, 0, [])), (19, (15, 9, 1, [])), (28, (15, 9, 2, [])), (35, (15, 9, 3, [])), (42, (15, 9, 4, [])), (58, (15, 9, 5, [])), (67, (15, 9, 6, [])), (49, (15, 9, 7, [])), (71, (15, 9, 8, [])), (370, (15, 9, 9, [])), (75, (24, 11, 0, [0, 1, 5])), (79, (24, 12, 0, [1, 3, 5])), (87, (24, 15, 0, [0, 2, 5])), (93, (24, 34, 0, [1, 2, 1])), (96, (24, 35, 0, [0, 1, 9])), (394, (24, 36, 0, [0, 3, 2])), (397, (24, 38, 0, [2, 9, 2])), (108, (24, 51, 0, [1, 2, 9])), (122, (24, 54, 0, [1, 2, 9])), (137, (24, 57, 0, [1, 2, 2])), (141, (24, 59, 0, [2, 3, 2])), (145, (24, 61, 0, [1, 2, 2])), (148, (24, 63, 0, [1, 2, 2])), (151, (24, 65, 0, [1, 4, 2])), (154, (24, 69, 0, [1, 5, 2])), (157, (24, 71, 0, [0, 1, 1])), (163, (24, 40, 0, [1, 2, 2])), (166, (24, 73, 0, [1, 2, 9])), (169, (24, 74, 0, [2, 3, 2])), (172, (24, 76, 0, [2, 3, 2])), (175, (24, 78, 0, [1, 4, 2])), (178, (24, 80, 0, [1, 3, 2])), (181, (24, 82, 0, [1, 4, 2])), (184, (24, 84, 0, [1, 4, 2])), (187, (24, 86, 0, [1, 4, 2])), (190, (24, 88, 0, [1, 4, 2])), (193, (24, 89, 0, [2, 5, 2])), (199, (24, 94, 0, [0, 3, 2])), (206, (24, 101, 0, [1, 2, 9])), (209, (24, 102, 0, [1, 4, 2])), (212, (24, 106, 0, [2, 8, 2])), (215, (24, 111, 0, [1, 4, 2])), (218, (24, 39, 0, [0, 1, 1])), (224, (24, 114, 0, [0, 3, 4])), (227, (24, 117, 0, [2, 3, 4])), (230, (24, 119, 0, [1, 6, 4])), (233, (24, 120, 0, [2, 5, 4])), (236, (24, 123, 0, [1, 6, 4])), (239, (24, 126, 0, [1, 6, 4])), (242, (24, 129, 0, [1, 6, 8])), (245, (24, 67, 2, [1, 1, 99])), (250, (24, 133, 0, [1, 6, 8])), (253, (24, 135, 0, [1, 7, 8])), (257, (24, 137, 0, [2, 4, 9])), (275, (24, 138, 0, [1, 2, 6])), (278, (24, 139, 0, [1, 2, 9])), (380, (24, 140, 0, [1, 2, 6])), (403, (24, 141, 0, [1, 8, 7])), (400, (24, 144, 0, [2, 5, 7])), (263, (24, 147, 0, [0, 1, 7])), (266, (24, 149, 0, [0, 1, 7])), (269, (24, 151, 0, [0, 5, 7])), (272, (24, 152, 0, [1, 6, 7])), (281, (24, 155, 0, [1, 4, 7])), (284, (24, 157, 0, [1, 2, 8])), (287, (24, 159, 0, [0, 5, 8])), (290, (24, 130, 0, [0, 1, 8])), (293, (24, 161, 0, [1, 2, 8])), (296, (0, 0, (-1000000), [])), (297, (24, 163, 0, [1, 9, 8])), (304, (24, 168, 0, [1, 2, 3])), (310, (24, 170, 0, [2, 3, 9])), (314, (24, 171, 0, [2, 6, 8])), (317, (24, 175, 0, [1, 2, 9])), (320, (24, 172, 0, [4, 5, 8])), (324, (24, 173, 0, [2, 3, 8])), (327, (24, 177, 0, [2, 8, 0])), (332, (1, 0, (-2), [])), (334, (24, 181, 0, [0, 6, 0])), (337, (24, 183, 0, [3, 4, 1])), (341, (24, 185, 0, [0, 3, 2])), (347, (24, 189, 0, [1, 2, 0])), (350, (24, 190, 0, [1, 6, 0])), (353, (24, 191, 0, [1, 2, 0])), (356, (24, 193, 0, [3, 6, 0])), (369, (24, 196, 0, [0, 3, 6])), (373, (24, 200, 0, [1, 2, 6])), (376, (24, 201, 0, [3, 5, 6])), (383, (24, 203, 0, [3, 5, 6])), (387, (24, 206, 0, [2, 3, 6])), (390, (24, 207, 0, [5, 6, 6]))]
def m_lk_2 : List (Nat × (Nat × Nat × Int × List Nat)) := [(3, (25, 0, 0, [])), (19, (21, 1, 0, [])), (21, (24, 2, 4, [0, 1, 1])), (47, (15, 1, 0, [])), (91, (15, 1, 1, [])), (95, (15, 1, 2, [])), (99, (15, 1, 3, [])), (101, (15, 1, 4, [])), (113, (15, 1, 5, [])), (118, (15, 1, 6, [])), (106, (15, 1, 8, [])), (111, (15, 1, 9, [])), (116, (15, 1, 10, [])), (123, (15, 1, 11, [])), (127, (15, 1, 12, [])), (131, (15, 1, 13, [])), (11, (15, 5, 0, [])), (26, (15, 5, 1, [])), (32, (15, 5, 2, [])), (15, (15, 5, 3, [])), (22, (15, 5, 4, [])), (41, (15, 5, 5, [])), (72, (15, 5, 6, [])), (35, (15, 5, 7, [])), (133, (15, 5, 8, [])), (29, (24, 16, 0, [0, 1, 1])), (38, (24, 18, 0, [0, 1, 5])), (146, (24, 19, 0, [1, 2, 5])), (150, (24, 20, 0, [1, 2, 5])), (153, (24, 21, 0, [0, 1, 5])), (156, (24, 22, 0, [1, 2, 5])), (159, (24, 23, 0, [0, 1, 5])), (44, (24, 25, 0, [0, 1, 5])), (50, (24, 26, 0, [0, 1, 5])), (81, (24, 27, 0, [1, 2, 5])), (55, (24, 28, 0, [1, 3, 5])), (75, (24, 29, 0, [2, 3, 5])), (87, (24, 30, 0, [2, 4, 5])), (59, (24, 31, 0, [0, 3, 5])), (64, (24, 32, 0, [0, 4, 5])), (69, (24, 33, 0, [0, 2, 5]))]
def m_lk_3 : List (Nat × (Nat × Nat × Int × List Nat)) := [(3, (25, 0, 0, [])), (39, (15, 1, 0, [])), (43, (15, 1, 1, [])), (46, (15, 1, 2, [])), (49, (15, 1, 3, [])), (52, (15, 1, 4, [])), (55, (15, 1, 5, [])), (58, (15, 1, 6, [])), (61, (15, 1, 7, [])), (9, (15, 1, 8, [])), (15, (15, 1, 9, [])), (18, (15, 1, 10, [])), (21, (15, 1, 11, [])), (24, (15, 1, 12, [])), (27, (15, 1, 13, [])), (30, (15, 1, 14, [])), (33, (15, 1, 15, [])), (36, (15, 1, 16, [])), (64, (24, 17, 2, [2, 4, 99])), (70, (26, 0, 0, []))]
def m_lk_4 : List (Nat × (Nat × Nat × Int × List Nat)) := [(68, (15, 1, 1, [])), (156, (15, 1, 2, [])), (134, (15, 1, 4, [])), (73, (15, 1, 6, [])), (83, (15, 1, 7, [])), (104, (15, 1, 8, [])), (131, (15, 1, 10, [])), (164, (15, 1, 12, [])), (76, (15, 1, 13, [])), (89, (15, 1, 14, [])), (92, (15, 1, 15, [])), (86, (15, 1, 16, [])), (3, (25, 0, 0, [])), (60, (15, 2, 0, [])), (64, (15, 2, 1, [])), (9, (15, 2, 2, [])), (15, (15, 2, 3, [])), (18, (15, 2, 4, [])), (21, (15, 2, 5, [])), (95, (15, 2, 6, [])), (24, (15, 2, 7, [])), (27, (15, 2, 8, [])), (30, (15, 2, 9, [])), (33, (15, 2, 10, [])), (36, (15, 2, 11, [])), (39, (15, 2, 12, [])), (42, (15, 2, 13, [])), (45, (15, 2, 14, [])), (48, (15, 2, 15, [])), (51, (15, 2, 16, [])), (54, (15, 2, 17, [])), (57, (15, 2, 18, [])), (79, (24, 37, 0, [3, 4, 2])), (98, (24, 17, 2, [2, 4, 99])), (107, (26, 0, 0, [])), (113, (24, 39, 0, [0, 1, 1])), (117, (24, 40, 0, [1, 2, 2])), (121, (24, 41, 0, [1, 6, 2])), (128, (24, 42, 0, [1, 4, 2])), (125, (24, 43, 0, [3, 9, 2])), (137, (24, 44, 0, [3, 6, 1])), (141, (24, 46, 5, [3, 3, 9])), (144, (24, 47, 0, [3, 4, 2])), (159, (24, 48, 2, [2, 2, 99])), (167, (24, 66, 0, [2, 5, 2])), (176, (24, 67, 2, [1, 1, 99])), (170, (24, 59, 0, [2, 3, 2])), (179, (24, 89, 0, [2, 5, 2])), (173, (24, 61, 0, [1, 2, 2]))]
def m_lk_5 : List (Nat × (Nat × Nat × Int × List Nat)) := [(69, (15, 1, 1, [])), (89, (15, 1, 2, [])), (95, (15, 1, 4, [])), (76, (15, 1, 6, [])), (111, (15, 1, 11, [])), (53, (15, 1, 12, [])), (73, (15, 1, 13, [])), (3, (25, 0, 0, [])), (15, (21, 1, 0, [])), (17, (24, 2, 4, [0, 1, 1])), (21, (21, 2, 0, [])), (23, (24, 3, 1, [1, 2, 2])), (30, (21, 3, 0, [])), (32, (24, 6, 4, [0, 1, 3])), (9, (15, 8, 0, [])), (18, (15, 8, 1, [])), (26, (15, 8, 2, [])), (33, (15, 8, 3, [])), (37, (15, 8, 4, [])), (41, (15, 8, 5, [])), (50, (24, 130, 0, [0, 1, 8])), (44, (24, 34, 0, [1, 2, 1])), (47, (24, 36, 0, [0, 3, 2])), (56, (24, 38, 0, [2, 9, 2])), (60, (24, 61, 0, [1, 2, 2])), (64, (24, 67, 2, [1, 1, 99])), (79, (24, 94, 0, [0, 3, 2])), (92, (24, 157, 0, [1, 2, 8])), (98, (24, 39, 0, [0, 1, 1])), (104, (24, 161, 0, [1, 2, 8])), (107, (24, 164, 0, [2, 7, 3])), (114, (24, 172, 0, [4, 5, 8])), (118, (24, 173, 0, [2, 3, 8]))]
def m_lk_6 : List (Nat × (Nat × Nat × Int × List Nat)) := [(90, (15, 1, 2, [])), (42, (15, 1, 6, [])), (61, (15, 1, 8, [])), (36, (15, 8, 0, [])), (58, (15, 8, 1, [])), (64, (15, 8, 2, [])), (3, (25, 0, 0, [])), (18, (15, 7, 0, [])), (22, (15, 7, 1, [])), (55, (15, 7, 2, [])), (9, (15, 7, 3, [])), (15, (15, 7, 4, [])), (26, (24, 142, 0, [1, 2, 6])), (32, (24, 143, 0, [2, 3, 6])), (48, (1, 0, (-1), [])), (50, (1, 0, 200, [])), (52, (24, 130, 0, [0, 1, 8])), (68, (24, 38, 0, [2, 9, 2])), (74, (24, 145, 0, [1, 4, 7])), (78, (24, 61, 0, [1, 2, 2])), (81, (24, 152, 0, [1, 6, 7]))]
def m_lk_7 : List (Nat × (Nat × Nat × Int × List Nat)) := [(67, (15, 1, 3, [])), (31, (15, 1, 6, [])), (27, (15, 8, 0, [])), (41, (15, 8, 2, [])), (3, (25, 0, 0, [])), (15, (21, 3, 0, [])), (17, (24, 6, 4, [0, 1, 3])), (9, (15, 0, 0, [])), (18, (15, 0, 1, [])), (22, (24, 130, 0, [0, 1, 8])), (37, (24, 178, 0, [1, 5, 0])), (45, (24, 38, 0, [2, 9, 2])), (51, (24, 61, 0, [1, 2, 2])), (55, (24, 179, 0, [0, 4, 0])), (70, (1, 0, 10, [])), (59, (24, 164, 0, [2, 7, 3])), (63, (24, 94, 0, [0, 3, 2])), (72, (0, 0, 2000000000, [])), (73, (1, 0, 1103515245, [])), (75, (1, 0, 12345, [])), (77, (1, 0, 2147483648, [])), (79, (1, 0, 65536, [])), (81, (24, 190, 0, [1, 6, 0])), (84, (24, 40, 0, [1, 2, 2]))]
def m_lk_8 : List (Nat × (Nat × Nat × Int × List Nat)) := [(40, (15, 1, 4, [])), (29, (15, 1, 8, [])), (53, (15, 1, 10, [])), (3, (25, 0, 0, [])), (15, (15, 4, 0, [])), (9, (15, 4, 1, [])), (19, (24, 39, 0, [0, 1, 1])), (25, (24, 115, 0, [1, 3, 4])), (47, (24, 67, 2, [1, 1, 99])), (32, (24, 44, 0, [3, 6, 1])), (36, (24, 120, 0, [2, 5, 4])), (56, (24, 117, 0, [2, 3, 4])), (59, (24, 46, 5, [3, 3, 9])), (44, (24, 127, 0, [2, 6, 4]))]
def m_lk_9 : List (Nat × (Nat × Nat × Int × List Nat)) := [(1, (25, 0, 0, [])), (26, (15, 3, 0, [])), (7, (15, 3, 1, [])), (19, (24, 166, 0, [2, 12, 3]))]
def m_lk_10 : List (Nat × (Nat × Nat × Int × List Nat)) := [(3, (25, 0, 0, [])), (11, (15, 6, 0, [])), (15, (15, 6, 1, [])), (19, (15, 6, 2, [])), (22, (24, 140, 0, [1, 2, 6])), (32, (24, 204, 0, [2, 4, 6])), (36, (24, 208, 0, [3, 4, 6])), (40, (26, 0, 0, []))]
def m_lk_11 : List (Nat × (Nat × Nat × Int × List Nat)) := [(265, (0, 0, 1431655765, [])), (266, (0, 0, 858993459, [])), (267, (0, 0, 252645135, []))]
def m_lk_12 : List (Nat × (Nat × Nat × Int × List Nat)) := [(1, (25, 0, 0, [])), (92, (15, 10, 0, [])), (7, (15, 10, 1, [])), (13, (15, 10, 2, [])), (16, (15, 10, 3, [])), (20, (15, 10, 4, [])), (23, (15, 10, 5, [])), (109, (15, 10, 6, [])), (116, (15, 10, 7, [])), (133, (15, 10, 8, [])), (123, (15, 10, 9, [])), (126, (15, 10, 10, [])), (129, (15, 10, 11, [])), (144, (15, 10, 12, [])), (147, (15, 10, 13, [])), (171, (15, 10, 14, [])), (27, (15, 10, 15, [])), (31, (15, 10, 16, [])), (34, (15, 10, 17, [])), (37, (15, 10, 18, [])), (40, (15, 10, 19, [])), (43, (15, 10, 20, [])), (46, (15, 10, 21, [])), (49, (15, 10, 22, [])), (268, (15, 10, 23, [])), (271, (15, 10, 24, [])), (274, (15, 10, 25, [])), (53, (15, 10, 26, [])), (56, (15, 10, 27, [])), (59, (15, 10, 28, [])), (62, (15, 10, 29, [])), (292, (15, 10, 30, [])), (65, (15, 10, 31, [])), (68, (15, 10, 32, [])), (71, (15, 10, 33, [])), (74, (15, 10, 34, [])), (77, (15, 10, 35, [])), (80, (15, 10, 36, [])), (83, (15, 10, 37, [])), (86, (15, 10, 38, [])), (397, (15, 10, 39, [])), (403, (15, 10, 40, [])), (391, (15, 10, 41, [])), (89, (15, 10, 42, [])), (101, (24, 211, 2, [1, 1, 10])), (95, (1, 0, 3, [])), (97, (24, 212, 2, [3, 6, 10])), (105, (24, 214, 2, [2, 3, 10])), (112, (24, 217, 0, [1, 3, 10])), (218, (24, 221, 0, [0, 2, 10])), (185, (24, 222, 0, [2, 3, 10])), (221, (24, 223, 0, [0, 1, 10])), (154, (24, 224, 0, [0, 2, 10])), (119, (24, 225, 0, [3, 4, 10])), (136, (1, 0, (-1), [])), (138, (1, 0, 27, [])), (140, (1, 0, 96, [])), (142, (0, 0, 100000, [])), (143, (0, 0, 1000000, [])), (224, (24, 226, 0, [0, 1, 10])), (228, (1, 0, 1301042189, [])), (163, (24, 227, 0, [1, 3, 10])), (157, (24, 228, 0, [1, 3, 10])), (150, (24, 229, 0, [1, 3, 10])), (160, (24, 230, 0, [1, 2, 10])), (230, (1, 0, 80155, [])), (180, (24, 231, 0, [3, 5, 10])), (167, (24, 232, 0, [2, 4, 10])), (232, (1, 0, 8798, [])), (234, (1, 0, 298288, [])), (236, (24, 233, 0, [0, 1, 10])), (199, (1, 0, 194907051, [])), (201, (24, 234, 0, [3, 4, 10])), (174, (24, 235, 0, [1, 2, 10])), (205, (24, 236, 0, [0, 3, 10])), (178, (1, 0, 283619009, [])), (183, (1, 0, 454132, [])), (208, (1, 0, 8276, [])), (210, (24, 237, 0, [0, 2, 10])), (189, (24, 238, 0, [2, 6, 10])), (213, (1, 0, 1629833, [])), (215, (24, 239, 0, [0, 2, 10])), (193, (1, 0, 332864551, [])), (195, (1, 0, 10280026, [])), (197, (1, 0, 47, [])), (239, (24, 240, 0, [0, 1, 10])), (242, (24, 241, 0, [0, 1, 10])), (245, (24, 242, 0, [2, 3, 10])), (248, (24, 243, 2, [4, 5, 10])), (325, (24, 245, 0, [1, 2, 10])), (252, (24, 246, 0, [0, 1, 10])), (328, (1, 0, 4, [])), (280, (24, 248, 0, [1, 4, 10])), (265, (24, 250, 0, [1, 3, 10])), (256, (24, 251, 0, [0, 1, 10])), (330, (1, 0, 2, [])), (332, (24, 253, 0, [0, 1, 10])), (313, (24, 254, 0, [0, 2, 10])), (316, (24, 255, 0, [0, 5, 10])), (262, (24, 256, 0, [0, 1, 10])), (306, (24, 257, 0, [1, 4, 10])), (277, (24, 258, 2, [2, 2, 10])), (309, (24, 259, 0, [3, 8, 10])), (289, (24, 260, 0, [1, 7, 10])), (295, (24, 261, 0, [4, 7, 10])), (283, (24, 262, 2, [2, 2, 10])), (299, (24, 263, 2, [3, 3, 10])), (286, (24, 264, 2, [2, 2, 10])), (303, (24, 265, 0, [2, 7, 10])), (335, (24, 267, 0, [3, 4, 10])), (319, (24, 268, 0, [1, 2, 10])), (338, (24, 274, 0, [1, 3, 10])), (259, (24, 276, 0, [0, 1, 10])), (341, (24, 278, 0, [1, 2, 10])), (344, (24, 281, 0, [2, 3, 10])), (347, (24, 284, 0, [2, 5, 10])), (353, (24, 288, 0, [1, 4, 10])), (350, (24, 289, 0, [2, 5, 10])), (356, (24, 294, 0, [0, 3, 10])), (322, (24, 295, 0, [1, 2, 10])), (359, (24, 298, 0, [2, 5, 10])), (362, (24, 303, 0, [1, 2, 10])), (365, (24, 307, 0, [2, 7, 10])), (371, (24, 314, 0, [1, 3, 10])), (368, (24, 315, 2, [1, 3, 10])), (374, (24, 317, 0, [2, 3, 10])), (383, (24, 319, 0, [2, 4, 10])), (380, (24, 320, 0, [2, 5, 10])), (377, (24, 321, 0, [2, 5, 10])), (386, (24, 327, 0, [1, 6, 10])), (412, (24, 332, 0, [2, 5, 10])), (389, (1, 0, 200, [])), (416, (24, 333, 0, [2, 5, 10])), (394, (24, 334, 0, [1, 3, 10])), (400, (24, 335, 0, [0, 3, 10])), (409, (24, 336, 0, [1, 2, 10])), (406, (24, 337, 0, [1, 6, 10])), (419, (24, 343, 0, [1, 2, 10])), (422, (24, 347, 0, [1, 2, 10])), (432, (24, 349, 2, [1, 1, 10])), (435, (0, 0, (-1000000), [])), (425, (24, 350, 2, [1, 1, 10])), (436, (24, 351, 2, [3, 5, 10])), (428, (24, 352, 2, [2, 4, 10])), (440, (24, 354, 0, [2, 3, 10])), (443, (24, 355, 0, [5, 6, 10])), (452, (24, 358, 0, [2, 8, 10])), (450, (1, 0, 10, [])), (447, (24, 359, 2, [2, 3, 10])), (456, (1, 0, (-2), [])), (468, (24, 362, 2, [1, 1, 10])), (466, (1, 0, 2000000000, [])), (471, (24, 363, 0, [1, 7, 10])), (458, (1, 0, 1103515245, [])), (460, (1, 0, 12345, [])), (462, (1, 0, 2147483648, [])), (464, (1, 0, 65536, [])), (475, (1, 0, 20, [])), (477, (24, 366, 0, [3, 5, 10])), (480, (1, 0, 15, [])), (482, (1, 0, 6, []))]
def m_lko : List (String × List (Nat × (Nat × Nat × Int × List Nat))) := [("MotherBenchLaw", m_lk_0), ("MotherBench", m_lk_1), ("MotherBench$Reader", m_lk_2), ("MotherBench$Circuit", m_lk_3), ("MotherBench$Court", m_lk_4), ("MotherBench$Trial", m_lk_5), ("MotherBench$Seen", m_lk_6), ("MotherBench$Chances", m_lk_7), ("MotherBench$Panels", m_lk_8), ("MotherBench$Fraction", m_lk_9), ("MotherBench$Rows", m_lk_10), ("java/lang/Integer", m_lk_11), ("MotherBenchModel", m_lk_12)]
def m_lk (o : String) (i : Nat) : Option (Nat × Nat × Int × List Nat) := match m_lko.lookup o with
  | some t => t.lookup i
  | none => none

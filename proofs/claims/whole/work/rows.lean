section
-- ===== PART A: goes FIRST, ahead of the names: the tables' words, and 'selects' of the private methods out of them =====
/-- a private method of a class that the tables say can be made, by its rows of tables_1 -/
def lw_okq (q : MethodName × Nat) : Prop := (q.1.cls ≠ "java/lang/invoke/MethodHandle" ∧ q.1.cls ≠ "java/lang/invoke/VarHandle") ∧ Cond.instantiable q.1.cls q.2 ∈ tables_1 ∧ Cond.privateMethod q.1 ∈ tables_1 ∧ Cond.instanceMethod q.1 ∈ tables_1
theorem lw_p0 : lw_okq (⟨"Judgefold", "testCountOf", "(LJudgefold$Run;)I"⟩, 14) := ⟨⟨by decide +kernel, by decide +kernel⟩, List.mem_of_getElem? (i := 24) (by decide +kernel), List.mem_of_getElem? (i := 348) (by decide +kernel), List.mem_of_getElem? (i := 349) (by decide +kernel)⟩
theorem lw_p1 : lw_okq (⟨"Judgefold", "isRankedAnew", "(Z)Z"⟩, 14) := ⟨⟨by decide +kernel, by decide +kernel⟩, List.mem_of_getElem? (i := 24) (by decide +kernel), List.mem_of_getElem? (i := 367) (by decide +kernel), List.mem_of_getElem? (i := 368) (by decide +kernel)⟩
theorem lw_p2 : lw_okq (⟨"Judgefold$Board", "clear", "()V"⟩, 7) := ⟨⟨by decide +kernel, by decide +kernel⟩, List.mem_of_getElem? (i := 170) (by decide +kernel), List.mem_of_getElem? (i := 375) (by decide +kernel), List.mem_of_getElem? (i := 376) (by decide +kernel)⟩
theorem lw_p3 : lw_okq (⟨"Judgefold$Board", "count", "(LJudgefold$Run;)V"⟩, 7) := ⟨⟨by decide +kernel, by decide +kernel⟩, List.mem_of_getElem? (i := 170) (by decide +kernel), List.mem_of_getElem? (i := 379) (by decide +kernel), List.mem_of_getElem? (i := 380) (by decide +kernel)⟩
theorem lw_p4 : lw_okq (⟨"Judgefold$Board", "putInOrder", "()V"⟩, 7) := ⟨⟨by decide +kernel, by decide +kernel⟩, List.mem_of_getElem? (i := 170) (by decide +kernel), List.mem_of_getElem? (i := 393) (by decide +kernel), List.mem_of_getElem? (i := 394) (by decide +kernel)⟩
theorem lw_p5 : lw_okq (⟨"Judgefold$Board", "isAhead", "(II)Z"⟩, 7) := ⟨⟨by decide +kernel, by decide +kernel⟩, List.mem_of_getElem? (i := 170) (by decide +kernel), List.mem_of_getElem? (i := 397) (by decide +kernel), List.mem_of_getElem? (i := 398) (by decide +kernel)⟩
theorem lw_p6 : lw_okq (⟨"Judgefold", "boardOf", "(Z)LJudgefold$Board;"⟩, 14) := ⟨⟨by decide +kernel, by decide +kernel⟩, List.mem_of_getElem? (i := 24) (by decide +kernel), List.mem_of_getElem? (i := 401) (by decide +kernel), List.mem_of_getElem? (i := 402) (by decide +kernel)⟩
theorem lw_p7 : lw_okq (⟨"Judgefold", "areBalloonsEarned", "()Z"⟩, 14) := ⟨⟨by decide +kernel, by decide +kernel⟩, List.mem_of_getElem? (i := 24) (by decide +kernel), List.mem_of_getElem? (i := 409) (by decide +kernel), List.mem_of_getElem? (i := 410) (by decide +kernel)⟩
theorem lw_p8 : lw_okq (⟨"Judgefold", "areOutputsAnew", "()Z"⟩, 14) := ⟨⟨by decide +kernel, by decide +kernel⟩, List.mem_of_getElem? (i := 24) (by decide +kernel), List.mem_of_getElem? (i := 419) (by decide +kernel), List.mem_of_getElem? (i := 420) (by decide +kernel)⟩
theorem lw_p9 : lw_okq (⟨"Judgefold$Machine", "reset", "()V"⟩, 7) := ⟨⟨by decide +kernel, by decide +kernel⟩, List.mem_of_getElem? (i := 83) (by decide +kernel), List.mem_of_getElem? (i := 427) (by decide +kernel), List.mem_of_getElem? (i := 428) (by decide +kernel)⟩
theorem lw_p10 : lw_okq (⟨"Judgefold$Machine", "doNextStep", "(LJudgefold$Program;LJudgefold$Numbers;)V"⟩, 7) := ⟨⟨by decide +kernel, by decide +kernel⟩, List.mem_of_getElem? (i := 83) (by decide +kernel), List.mem_of_getElem? (i := 431) (by decide +kernel), List.mem_of_getElem? (i := 432) (by decide +kernel)⟩
theorem lw_p11 : lw_okq (⟨"Judgefold$Machine", "takeInput", "(ILJudgefold$Numbers;)V"⟩, 7) := ⟨⟨by decide +kernel, by decide +kernel⟩, List.mem_of_getElem? (i := 83) (by decide +kernel), List.mem_of_getElem? (i := 435) (by decide +kernel), List.mem_of_getElem? (i := 436) (by decide +kernel)⟩
theorem lw_p12 : lw_okq (⟨"Judgefold$Machine", "putOut", "(I)V"⟩, 7) := ⟨⟨by decide +kernel, by decide +kernel⟩, List.mem_of_getElem? (i := 83) (by decide +kernel), List.mem_of_getElem? (i := 439) (by decide +kernel), List.mem_of_getElem? (i := 440) (by decide +kernel)⟩
theorem lw_p13 : lw_okq (⟨"Judgefold$Machine", "divide", "(II)V"⟩, 7) := ⟨⟨by decide +kernel, by decide +kernel⟩, List.mem_of_getElem? (i := 83) (by decide +kernel), List.mem_of_getElem? (i := 443) (by decide +kernel), List.mem_of_getElem? (i := 444) (by decide +kernel)⟩
theorem lw_p14 : lw_okq (⟨"Judgefold$Machine", "goIf", "(ZII)V"⟩, 7) := ⟨⟨by decide +kernel, by decide +kernel⟩, List.mem_of_getElem? (i := 83) (by decide +kernel), List.mem_of_getElem? (i := 447) (by decide +kernel), List.mem_of_getElem? (i := 448) (by decide +kernel)⟩
theorem lw_p15 : lw_okq (⟨"java/lang/Throwable", "fillInStackTrace", "(I)Ljava/lang/Throwable;"⟩, 6) := ⟨⟨by decide +kernel, by decide +kernel⟩, List.mem_of_getElem? (i := 522) (by decide +kernel), List.mem_of_getElem? (i := 520) (by decide +kernel), List.mem_of_getElem? (i := 521) (by decide +kernel)⟩
def lw_privs_1 : List (MethodName × Nat) := [(⟨"Judgefold", "testCountOf", "(LJudgefold$Run;)I"⟩, 14), (⟨"Judgefold", "isRankedAnew", "(Z)Z"⟩, 14), (⟨"Judgefold$Board", "clear", "()V"⟩, 7), (⟨"Judgefold$Board", "count", "(LJudgefold$Run;)V"⟩, 7), (⟨"Judgefold$Board", "putInOrder", "()V"⟩, 7), (⟨"Judgefold$Board", "isAhead", "(II)Z"⟩, 7), (⟨"Judgefold", "boardOf", "(Z)LJudgefold$Board;"⟩, 14), (⟨"Judgefold", "areBalloonsEarned", "()Z"⟩, 14), (⟨"Judgefold", "areOutputsAnew", "()Z"⟩, 14), (⟨"Judgefold$Machine", "reset", "()V"⟩, 7), (⟨"Judgefold$Machine", "doNextStep", "(LJudgefold$Program;LJudgefold$Numbers;)V"⟩, 7), (⟨"Judgefold$Machine", "takeInput", "(ILJudgefold$Numbers;)V"⟩, 7), (⟨"Judgefold$Machine", "putOut", "(I)V"⟩, 7), (⟨"Judgefold$Machine", "divide", "(II)V"⟩, 7), (⟨"Judgefold$Machine", "goIf", "(ZII)V"⟩, 7), (⟨"java/lang/Throwable", "fillInStackTrace", "(I)Ljava/lang/Throwable;"⟩, 6)]
theorem lw_r1 : ∀ q ∈ lw_privs_1, lw_okq q := List.forall_mem_cons.mpr ⟨lw_p0, List.forall_mem_cons.mpr ⟨lw_p1, List.forall_mem_cons.mpr ⟨lw_p2, List.forall_mem_cons.mpr ⟨lw_p3, List.forall_mem_cons.mpr ⟨lw_p4, List.forall_mem_cons.mpr ⟨lw_p5, List.forall_mem_cons.mpr ⟨lw_p6, List.forall_mem_cons.mpr ⟨lw_p7, List.forall_mem_cons.mpr ⟨lw_p8, List.forall_mem_cons.mpr ⟨lw_p9, List.forall_mem_cons.mpr ⟨lw_p10, List.forall_mem_cons.mpr ⟨lw_p11, List.forall_mem_cons.mpr ⟨lw_p12, List.forall_mem_cons.mpr ⟨lw_p13, List.forall_mem_cons.mpr ⟨lw_p14, List.forall_mem_cons.mpr ⟨lw_p15, fun _ h => absurd h List.not_mem_nil⟩⟩⟩⟩⟩⟩⟩⟩⟩⟩⟩⟩⟩⟩⟩⟩
theorem lw_p16 : lw_okq (⟨"Judgefold", "hasProblem", "(I)Z"⟩, 14) := ⟨⟨by decide +kernel, by decide +kernel⟩, List.mem_of_getElem? (i := 24) (by decide +kernel), List.mem_of_getElem? (i := 633) (by decide +kernel), List.mem_of_getElem? (i := 634) (by decide +kernel)⟩
theorem lw_p17 : lw_okq (⟨"Judgefold", "judgeAnew", "(II)I"⟩, 14) := ⟨⟨by decide +kernel, by decide +kernel⟩, List.mem_of_getElem? (i := 24) (by decide +kernel), List.mem_of_getElem? (i := 658) (by decide +kernel), List.mem_of_getElem? (i := 659) (by decide +kernel)⟩
theorem lw_p18 : lw_okq (⟨"Judgefold", "judge", "(LJudgefold$Run;I)V"⟩, 14) := ⟨⟨by decide +kernel, by decide +kernel⟩, List.mem_of_getElem? (i := 24) (by decide +kernel), List.mem_of_getElem? (i := 662) (by decide +kernel), List.mem_of_getElem? (i := 663) (by decide +kernel)⟩
theorem lw_p19 : lw_okq (⟨"Judgefold$Store", "find", "([II)I"⟩, 4) := ⟨⟨by decide +kernel, by decide +kernel⟩, List.mem_of_getElem? (i := 115) (by decide +kernel), List.mem_of_getElem? (i := 674) (by decide +kernel), List.mem_of_getElem? (i := 675) (by decide +kernel)⟩
theorem lw_p20 : lw_okq (⟨"Judgefold$Store", "firstFree", "()I"⟩, 4) := ⟨⟨by decide +kernel, by decide +kernel⟩, List.mem_of_getElem? (i := 115) (by decide +kernel), List.mem_of_getElem? (i := 679) (by decide +kernel), List.mem_of_getElem? (i := 680) (by decide +kernel)⟩
theorem lw_p21 : lw_okq (⟨"Judgefold$Store", "fill", "(I[II)V"⟩, 4) := ⟨⟨by decide +kernel, by decide +kernel⟩, List.mem_of_getElem? (i := 115) (by decide +kernel), List.mem_of_getElem? (i := 683) (by decide +kernel), List.mem_of_getElem? (i := 684) (by decide +kernel)⟩
theorem lw_p22 : lw_okq (⟨"Judgefold", "recountBoards", "()V"⟩, 14) := ⟨⟨by decide +kernel, by decide +kernel⟩, List.mem_of_getElem? (i := 24) (by decide +kernel), List.mem_of_getElem? (i := 691) (by decide +kernel), List.mem_of_getElem? (i := 692) (by decide +kernel)⟩
theorem lw_p23 : lw_okq (⟨"Judgefold$Balloons", "takeAway", "(II)V"⟩, 6) := ⟨⟨by decide +kernel, by decide +kernel⟩, List.mem_of_getElem? (i := 137) (by decide +kernel), List.mem_of_getElem? (i := 701) (by decide +kernel), List.mem_of_getElem? (i := 702) (by decide +kernel)⟩
theorem lw_p24 : lw_okq (⟨"Judgefold$Balloons", "leaveQueue", "(II)V"⟩, 6) := ⟨⟨by decide +kernel, by decide +kernel⟩, List.mem_of_getElem? (i := 137) (by decide +kernel), List.mem_of_getElem? (i := 705) (by decide +kernel), List.mem_of_getElem? (i := 706) (by decide +kernel)⟩
theorem lw_p25 : lw_okq (⟨"Judgefold$Balloons", "dropFromQueue", "(III)V"⟩, 6) := ⟨⟨by decide +kernel, by decide +kernel⟩, List.mem_of_getElem? (i := 137) (by decide +kernel), List.mem_of_getElem? (i := 709) (by decide +kernel), List.mem_of_getElem? (i := 710) (by decide +kernel)⟩
theorem lw_p26 : lw_okq (⟨"Judgefold$Balloons", "enqueue", "(II)V"⟩, 6) := ⟨⟨by decide +kernel, by decide +kernel⟩, List.mem_of_getElem? (i := 137) (by decide +kernel), List.mem_of_getElem? (i := 717) (by decide +kernel), List.mem_of_getElem? (i := 718) (by decide +kernel)⟩
theorem lw_p27 : lw_okq (⟨"Judgefold", "hasTeam", "(I)Z"⟩, 14) := ⟨⟨by decide +kernel, by decide +kernel⟩, List.mem_of_getElem? (i := 24) (by decide +kernel), List.mem_of_getElem? (i := 754) (by decide +kernel), List.mem_of_getElem? (i := 755) (by decide +kernel)⟩
theorem lw_p28 : lw_okq (⟨"Judgefold", "lastMinute", "()I"⟩, 14) := ⟨⟨by decide +kernel, by decide +kernel⟩, List.mem_of_getElem? (i := 24) (by decide +kernel), List.mem_of_getElem? (i := 758) (by decide +kernel), List.mem_of_getElem? (i := 759) (by decide +kernel)⟩
theorem lw_p29 : lw_okq (⟨"Judgefold", "judgeByAll", "(LJudgefold$Run;)V"⟩, 14) := ⟨⟨by decide +kernel, by decide +kernel⟩, List.mem_of_getElem? (i := 24) (by decide +kernel), List.mem_of_getElem? (i := 767) (by decide +kernel), List.mem_of_getElem? (i := 768) (by decide +kernel)⟩
theorem lw_p30 : lw_okq (⟨"Judgefold", "hasRun", "(I)Z"⟩, 14) := ⟨⟨by decide +kernel, by decide +kernel⟩, List.mem_of_getElem? (i := 24) (by decide +kernel), List.mem_of_getElem? (i := 778) (by decide +kernel), List.mem_of_getElem? (i := 779) (by decide +kernel)⟩
theorem lw_p31 : lw_okq (⟨"Judgefold", "hasTestOfRun", "(II)Z"⟩, 14) := ⟨⟨by decide +kernel, by decide +kernel⟩, List.mem_of_getElem? (i := 24) (by decide +kernel), List.mem_of_getElem? (i := 796) (by decide +kernel), List.mem_of_getElem? (i := 797) (by decide +kernel)⟩
def lw_privs_2 : List (MethodName × Nat) := [(⟨"Judgefold", "hasProblem", "(I)Z"⟩, 14), (⟨"Judgefold", "judgeAnew", "(II)I"⟩, 14), (⟨"Judgefold", "judge", "(LJudgefold$Run;I)V"⟩, 14), (⟨"Judgefold$Store", "find", "([II)I"⟩, 4), (⟨"Judgefold$Store", "firstFree", "()I"⟩, 4), (⟨"Judgefold$Store", "fill", "(I[II)V"⟩, 4), (⟨"Judgefold", "recountBoards", "()V"⟩, 14), (⟨"Judgefold$Balloons", "takeAway", "(II)V"⟩, 6), (⟨"Judgefold$Balloons", "leaveQueue", "(II)V"⟩, 6), (⟨"Judgefold$Balloons", "dropFromQueue", "(III)V"⟩, 6), (⟨"Judgefold$Balloons", "enqueue", "(II)V"⟩, 6), (⟨"Judgefold", "hasTeam", "(I)Z"⟩, 14), (⟨"Judgefold", "lastMinute", "()I"⟩, 14), (⟨"Judgefold", "judgeByAll", "(LJudgefold$Run;)V"⟩, 14), (⟨"Judgefold", "hasRun", "(I)Z"⟩, 14), (⟨"Judgefold", "hasTestOfRun", "(II)Z"⟩, 14)]
theorem lw_r2 : ∀ q ∈ lw_privs_2, lw_okq q := List.forall_mem_cons.mpr ⟨lw_p16, List.forall_mem_cons.mpr ⟨lw_p17, List.forall_mem_cons.mpr ⟨lw_p18, List.forall_mem_cons.mpr ⟨lw_p19, List.forall_mem_cons.mpr ⟨lw_p20, List.forall_mem_cons.mpr ⟨lw_p21, List.forall_mem_cons.mpr ⟨lw_p22, List.forall_mem_cons.mpr ⟨lw_p23, List.forall_mem_cons.mpr ⟨lw_p24, List.forall_mem_cons.mpr ⟨lw_p25, List.forall_mem_cons.mpr ⟨lw_p26, List.forall_mem_cons.mpr ⟨lw_p27, List.forall_mem_cons.mpr ⟨lw_p28, List.forall_mem_cons.mpr ⟨lw_p29, List.forall_mem_cons.mpr ⟨lw_p30, List.forall_mem_cons.mpr ⟨lw_p31, fun _ h => absurd h List.not_mem_nil⟩⟩⟩⟩⟩⟩⟩⟩⟩⟩⟩⟩⟩⟩⟩⟩
theorem lw_p32 : lw_okq (⟨"Judgefold", "countPending", "(II)I"⟩, 14) := ⟨⟨by decide +kernel, by decide +kernel⟩, List.mem_of_getElem? (i := 24) (by decide +kernel), List.mem_of_getElem? (i := 914) (by decide +kernel), List.mem_of_getElem? (i := 915) (by decide +kernel)⟩
theorem lw_p33 : lw_okq (⟨"Judgefold", "lowestPendingTeam", "()I"⟩, 14) := ⟨⟨by decide +kernel, by decide +kernel⟩, List.mem_of_getElem? (i := 24) (by decide +kernel), List.mem_of_getElem? (i := 925) (by decide +kernel), List.mem_of_getElem? (i := 926) (by decide +kernel)⟩
theorem lw_p34 : lw_okq (⟨"Judgefold", "lowestPendingProblem", "(I)I"⟩, 14) := ⟨⟨by decide +kernel, by decide +kernel⟩, List.mem_of_getElem? (i := 24) (by decide +kernel), List.mem_of_getElem? (i := 929) (by decide +kernel), List.mem_of_getElem? (i := 930) (by decide +kernel)⟩
theorem lw_p35 : lw_okq (⟨"Judgefold", "openRuns", "(II)V"⟩, 14) := ⟨⟨by decide +kernel, by decide +kernel⟩, List.mem_of_getElem? (i := 24) (by decide +kernel), List.mem_of_getElem? (i := 933) (by decide +kernel), List.mem_of_getElem? (i := 934) (by decide +kernel)⟩
theorem lw_p36 : lw_okq (⟨"JudgefoldModel", "fails", "(I)Z"⟩, 38) := ⟨⟨by decide +kernel, by decide +kernel⟩, List.mem_of_getElem? (i := 1002) (by decide +kernel), List.mem_of_getElem? (i := 1138) (by decide +kernel), List.mem_of_getElem? (i := 1139) (by decide +kernel)⟩
theorem lw_p37 : lw_okq (⟨"JudgefoldModel", "isNoProblem", "(I)Z"⟩, 38) := ⟨⟨by decide +kernel, by decide +kernel⟩, List.mem_of_getElem? (i := 1002) (by decide +kernel), List.mem_of_getElem? (i := 1158) (by decide +kernel), List.mem_of_getElem? (i := 1159) (by decide +kernel)⟩
theorem lw_p38 : lw_okq (⟨"JudgefoldModel", "lays", "(II)V"⟩, 38) := ⟨⟨by decide +kernel, by decide +kernel⟩, List.mem_of_getElem? (i := 1002) (by decide +kernel), List.mem_of_getElem? (i := 1162) (by decide +kernel), List.mem_of_getElem? (i := 1163) (by decide +kernel)⟩
theorem lw_p39 : lw_okq (⟨"JudgefoldModel", "judgesAnew", "(III)I"⟩, 38) := ⟨⟨by decide +kernel, by decide +kernel⟩, List.mem_of_getElem? (i := 1002) (by decide +kernel), List.mem_of_getElem? (i := 1166) (by decide +kernel), List.mem_of_getElem? (i := 1167) (by decide +kernel)⟩
theorem lw_p40 : lw_okq (⟨"JudgefoldModel", "verdictOf", "(I)C"⟩, 38) := ⟨⟨by decide +kernel, by decide +kernel⟩, List.mem_of_getElem? (i := 1002) (by decide +kernel), List.mem_of_getElem? (i := 1170) (by decide +kernel), List.mem_of_getElem? (i := 1171) (by decide +kernel)⟩
theorem lw_p41 : lw_okq (⟨"JudgefoldModel", "failedOf", "(I)I"⟩, 38) := ⟨⟨by decide +kernel, by decide +kernel⟩, List.mem_of_getElem? (i := 1002) (by decide +kernel), List.mem_of_getElem? (i := 1174) (by decide +kernel), List.mem_of_getElem? (i := 1175) (by decide +kernel)⟩
theorem lw_p42 : lw_okq (⟨"JudgefoldModel", "judges", "(II)V"⟩, 38) := ⟨⟨by decide +kernel, by decide +kernel⟩, List.mem_of_getElem? (i := 1002) (by decide +kernel), List.mem_of_getElem? (i := 1178) (by decide +kernel), List.mem_of_getElem? (i := 1179) (by decide +kernel)⟩
theorem lw_p43 : lw_okq (⟨"JudgefoldModel", "isExpected", "(II)Z"⟩, 38) := ⟨⟨by decide +kernel, by decide +kernel⟩, List.mem_of_getElem? (i := 1002) (by decide +kernel), List.mem_of_getElem? (i := 1182) (by decide +kernel), List.mem_of_getElem? (i := 1183) (by decide +kernel)⟩
theorem lw_p44 : lw_okq (⟨"JudgefoldModel", "tells", "(III)C"⟩, 38) := ⟨⟨by decide +kernel, by decide +kernel⟩, List.mem_of_getElem? (i := 1002) (by decide +kernel), List.mem_of_getElem? (i := 1186) (by decide +kernel), List.mem_of_getElem? (i := 1187) (by decide +kernel)⟩
theorem lw_p45 : lw_okq (⟨"JudgefoldModel", "reckons", "(CII)C"⟩, 38) := ⟨⟨by decide +kernel, by decide +kernel⟩, List.mem_of_getElem? (i := 1002) (by decide +kernel), List.mem_of_getElem? (i := 1190) (by decide +kernel), List.mem_of_getElem? (i := 1191) (by decide +kernel)⟩
theorem lw_p46 : lw_okq (⟨"JudgefoldModel", "calls", "(I)V"⟩, 38) := ⟨⟨by decide +kernel, by decide +kernel⟩, List.mem_of_getElem? (i := 1002) (by decide +kernel), List.mem_of_getElem? (i := 1194) (by decide +kernel), List.mem_of_getElem? (i := 1195) (by decide +kernel)⟩
theorem lw_p47 : lw_okq (⟨"JudgefoldModel", "hasSolved", "(II)Z"⟩, 38) := ⟨⟨by decide +kernel, by decide +kernel⟩, List.mem_of_getElem? (i := 1002) (by decide +kernel), List.mem_of_getElem? (i := 1198) (by decide +kernel), List.mem_of_getElem? (i := 1199) (by decide +kernel)⟩
def lw_privs_3 : List (MethodName × Nat) := [(⟨"Judgefold", "countPending", "(II)I"⟩, 14), (⟨"Judgefold", "lowestPendingTeam", "()I"⟩, 14), (⟨"Judgefold", "lowestPendingProblem", "(I)I"⟩, 14), (⟨"Judgefold", "openRuns", "(II)V"⟩, 14), (⟨"JudgefoldModel", "fails", "(I)Z"⟩, 38), (⟨"JudgefoldModel", "isNoProblem", "(I)Z"⟩, 38), (⟨"JudgefoldModel", "lays", "(II)V"⟩, 38), (⟨"JudgefoldModel", "judgesAnew", "(III)I"⟩, 38), (⟨"JudgefoldModel", "verdictOf", "(I)C"⟩, 38), (⟨"JudgefoldModel", "failedOf", "(I)I"⟩, 38), (⟨"JudgefoldModel", "judges", "(II)V"⟩, 38), (⟨"JudgefoldModel", "isExpected", "(II)Z"⟩, 38), (⟨"JudgefoldModel", "tells", "(III)C"⟩, 38), (⟨"JudgefoldModel", "reckons", "(CII)C"⟩, 38), (⟨"JudgefoldModel", "calls", "(I)V"⟩, 38), (⟨"JudgefoldModel", "hasSolved", "(II)Z"⟩, 38)]
theorem lw_r3 : ∀ q ∈ lw_privs_3, lw_okq q := List.forall_mem_cons.mpr ⟨lw_p32, List.forall_mem_cons.mpr ⟨lw_p33, List.forall_mem_cons.mpr ⟨lw_p34, List.forall_mem_cons.mpr ⟨lw_p35, List.forall_mem_cons.mpr ⟨lw_p36, List.forall_mem_cons.mpr ⟨lw_p37, List.forall_mem_cons.mpr ⟨lw_p38, List.forall_mem_cons.mpr ⟨lw_p39, List.forall_mem_cons.mpr ⟨lw_p40, List.forall_mem_cons.mpr ⟨lw_p41, List.forall_mem_cons.mpr ⟨lw_p42, List.forall_mem_cons.mpr ⟨lw_p43, List.forall_mem_cons.mpr ⟨lw_p44, List.forall_mem_cons.mpr ⟨lw_p45, List.forall_mem_cons.mpr ⟨lw_p46, List.forall_mem_cons.mpr ⟨lw_p47, fun _ h => absurd h List.not_mem_nil⟩⟩⟩⟩⟩⟩⟩⟩⟩⟩⟩⟩⟩⟩⟩⟩
theorem lw_p48 : lw_okq (⟨"JudgefoldModel", "gives", "(I)V"⟩, 38) := ⟨⟨by decide +kernel, by decide +kernel⟩, List.mem_of_getElem? (i := 1002) (by decide +kernel), List.mem_of_getElem? (i := 1202) (by decide +kernel), List.mem_of_getElem? (i := 1203) (by decide +kernel)⟩
theorem lw_p49 : lw_okq (⟨"JudgefoldModel", "waitingAt", "(II)I"⟩, 38) := ⟨⟨by decide +kernel, by decide +kernel⟩, List.mem_of_getElem? (i := 1002) (by decide +kernel), List.mem_of_getElem? (i := 1206) (by decide +kernel), List.mem_of_getElem? (i := 1207) (by decide +kernel)⟩
theorem lw_p50 : lw_okq (⟨"JudgefoldModel", "sends", "(II)V"⟩, 38) := ⟨⟨by decide +kernel, by decide +kernel⟩, List.mem_of_getElem? (i := 1002) (by decide +kernel), List.mem_of_getElem? (i := 1210) (by decide +kernel), List.mem_of_getElem? (i := 1211) (by decide +kernel)⟩
theorem lw_p51 : lw_okq (⟨"JudgefoldModel", "isNoTeam", "(I)Z"⟩, 38) := ⟨⟨by decide +kernel, by decide +kernel⟩, List.mem_of_getElem? (i := 1002) (by decide +kernel), List.mem_of_getElem? (i := 1230) (by decide +kernel), List.mem_of_getElem? (i := 1231) (by decide +kernel)⟩
theorem lw_p52 : lw_okq (⟨"JudgefoldModel", "isNoRun", "(I)Z"⟩, 38) := ⟨⟨by decide +kernel, by decide +kernel⟩, List.mem_of_getElem? (i := 1002) (by decide +kernel), List.mem_of_getElem? (i := 1238) (by decide +kernel), List.mem_of_getElem? (i := 1239) (by decide +kernel)⟩
theorem lw_p53 : lw_okq (⟨"JudgefoldModel", "isNoTest", "(II)Z"⟩, 38) := ⟨⟨by decide +kernel, by decide +kernel⟩, List.mem_of_getElem? (i := 1002) (by decide +kernel), List.mem_of_getElem? (i := 1250) (by decide +kernel), List.mem_of_getElem? (i := 1251) (by decide +kernel)⟩
theorem lw_p54 : lw_okq (⟨"JudgefoldModel", "isFirst", "(II)Z"⟩, 38) := ⟨⟨by decide +kernel, by decide +kernel⟩, List.mem_of_getElem? (i := 1002) (by decide +kernel), List.mem_of_getElem? (i := 1270) (by decide +kernel), List.mem_of_getElem? (i := 1271) (by decide +kernel)⟩
theorem lw_p55 : lw_okq (⟨"JudgefoldModel", "areAlike", "(IIII)Z"⟩, 38) := ⟨⟨by decide +kernel, by decide +kernel⟩, List.mem_of_getElem? (i := 1002) (by decide +kernel), List.mem_of_getElem? (i := 1274) (by decide +kernel), List.mem_of_getElem? (i := 1275) (by decide +kernel)⟩
theorem lw_p56 : lw_okq (⟨"JudgefoldModel", "isPending", "(I)Z"⟩, 38) := ⟨⟨by decide +kernel, by decide +kernel⟩, List.mem_of_getElem? (i := 1002) (by decide +kernel), List.mem_of_getElem? (i := 1313) (by decide +kernel), List.mem_of_getElem? (i := 1314) (by decide +kernel)⟩
theorem lw_p57 : lw_okq (⟨"JudgefoldModel", "pendingOf", "(II)I"⟩, 38) := ⟨⟨by decide +kernel, by decide +kernel⟩, List.mem_of_getElem? (i := 1002) (by decide +kernel), List.mem_of_getElem? (i := 1321) (by decide +kernel), List.mem_of_getElem? (i := 1322) (by decide +kernel)⟩
theorem lw_p58 : lw_okq (⟨"JudgefoldModel", "pendingIn", "(I)I"⟩, 38) := ⟨⟨by decide +kernel, by decide +kernel⟩, List.mem_of_getElem? (i := 1002) (by decide +kernel), List.mem_of_getElem? (i := 1329) (by decide +kernel), List.mem_of_getElem? (i := 1330) (by decide +kernel)⟩
theorem lw_p59 : lw_okq (⟨"JudgefoldModel", "isAhead", "(IIZ)Z"⟩, 38) := ⟨⟨by decide +kernel, by decide +kernel⟩, List.mem_of_getElem? (i := 1002) (by decide +kernel), List.mem_of_getElem? (i := 1333) (by decide +kernel), List.mem_of_getElem? (i := 1334) (by decide +kernel)⟩
theorem lw_p60 : lw_okq (⟨"JudgefoldModel", "solvedBy", "(IZ)I"⟩, 38) := ⟨⟨by decide +kernel, by decide +kernel⟩, List.mem_of_getElem? (i := 1002) (by decide +kernel), List.mem_of_getElem? (i := 1337) (by decide +kernel), List.mem_of_getElem? (i := 1338) (by decide +kernel)⟩
theorem lw_p61 : lw_okq (⟨"JudgefoldModel", "firstOf", "(IIZ)I"⟩, 38) := ⟨⟨by decide +kernel, by decide +kernel⟩, List.mem_of_getElem? (i := 1002) (by decide +kernel), List.mem_of_getElem? (i := 1341) (by decide +kernel), List.mem_of_getElem? (i := 1342) (by decide +kernel)⟩
theorem lw_p62 : lw_okq (⟨"JudgefoldModel", "penaltyOf", "(IZ)I"⟩, 38) := ⟨⟨by decide +kernel, by decide +kernel⟩, List.mem_of_getElem? (i := 1002) (by decide +kernel), List.mem_of_getElem? (i := 1345) (by decide +kernel), List.mem_of_getElem? (i := 1346) (by decide +kernel)⟩
theorem lw_p63 : lw_okq (⟨"JudgefoldModel", "latestOf", "(IZ)I"⟩, 38) := ⟨⟨by decide +kernel, by decide +kernel⟩, List.mem_of_getElem? (i := 1002) (by decide +kernel), List.mem_of_getElem? (i := 1349) (by decide +kernel), List.mem_of_getElem? (i := 1350) (by decide +kernel)⟩
def lw_privs_4 : List (MethodName × Nat) := [(⟨"JudgefoldModel", "gives", "(I)V"⟩, 38), (⟨"JudgefoldModel", "waitingAt", "(II)I"⟩, 38), (⟨"JudgefoldModel", "sends", "(II)V"⟩, 38), (⟨"JudgefoldModel", "isNoTeam", "(I)Z"⟩, 38), (⟨"JudgefoldModel", "isNoRun", "(I)Z"⟩, 38), (⟨"JudgefoldModel", "isNoTest", "(II)Z"⟩, 38), (⟨"JudgefoldModel", "isFirst", "(II)Z"⟩, 38), (⟨"JudgefoldModel", "areAlike", "(IIII)Z"⟩, 38), (⟨"JudgefoldModel", "isPending", "(I)Z"⟩, 38), (⟨"JudgefoldModel", "pendingOf", "(II)I"⟩, 38), (⟨"JudgefoldModel", "pendingIn", "(I)I"⟩, 38), (⟨"JudgefoldModel", "isAhead", "(IIZ)Z"⟩, 38), (⟨"JudgefoldModel", "solvedBy", "(IZ)I"⟩, 38), (⟨"JudgefoldModel", "firstOf", "(IIZ)I"⟩, 38), (⟨"JudgefoldModel", "penaltyOf", "(IZ)I"⟩, 38), (⟨"JudgefoldModel", "latestOf", "(IZ)I"⟩, 38)]
theorem lw_r4 : ∀ q ∈ lw_privs_4, lw_okq q := List.forall_mem_cons.mpr ⟨lw_p48, List.forall_mem_cons.mpr ⟨lw_p49, List.forall_mem_cons.mpr ⟨lw_p50, List.forall_mem_cons.mpr ⟨lw_p51, List.forall_mem_cons.mpr ⟨lw_p52, List.forall_mem_cons.mpr ⟨lw_p53, List.forall_mem_cons.mpr ⟨lw_p54, List.forall_mem_cons.mpr ⟨lw_p55, List.forall_mem_cons.mpr ⟨lw_p56, List.forall_mem_cons.mpr ⟨lw_p57, List.forall_mem_cons.mpr ⟨lw_p58, List.forall_mem_cons.mpr ⟨lw_p59, List.forall_mem_cons.mpr ⟨lw_p60, List.forall_mem_cons.mpr ⟨lw_p61, List.forall_mem_cons.mpr ⟨lw_p62, List.forall_mem_cons.mpr ⟨lw_p63, fun _ h => absurd h List.not_mem_nil⟩⟩⟩⟩⟩⟩⟩⟩⟩⟩⟩⟩⟩⟩⟩⟩
theorem lw_p64 : lw_okq (⟨"JudgefoldModel", "rankOf", "(IZ)I"⟩, 38) := ⟨⟨by decide +kernel, by decide +kernel⟩, List.mem_of_getElem? (i := 1002) (by decide +kernel), List.mem_of_getElem? (i := 1365) (by decide +kernel), List.mem_of_getElem? (i := 1366) (by decide +kernel)⟩
def lw_privs_5 : List (MethodName × Nat) := [(⟨"JudgefoldModel", "rankOf", "(IZ)I"⟩, 38)]
theorem lw_r5 : ∀ q ∈ lw_privs_5, lw_okq q := List.forall_mem_cons.mpr ⟨lw_p64, fun _ h => absurd h List.not_mem_nil⟩
def lw_privs : List (MethodName × Nat) := lw_privs_1 ++ (lw_privs_2 ++ (lw_privs_3 ++ (lw_privs_4 ++ (lw_privs_5))))
def lw_tbl : List Cond := k2_sels lw_privs ++ tables_1
theorem lw_privs_ok : ∀ q ∈ lw_privs, lw_okq q := by
  show ∀ q ∈ lw_privs_1 ++ (lw_privs_2 ++ (lw_privs_3 ++ (lw_privs_4 ++ (lw_privs_5)))), lw_okq q
  exact List.forall_mem_append.mpr ⟨lw_r1, List.forall_mem_append.mpr ⟨lw_r2, List.forall_mem_append.mpr ⟨lw_r3, List.forall_mem_append.mpr ⟨lw_r4, lw_r5⟩⟩⟩⟩
/-- the streams that the claim lets the run draw from -/
abbrev lw_cs : List Choice := [Jvm.Choice.named "NaN.bits"]
theorem lw_bits : nanBits ∈ lw_cs := by first | decide | exact List.mem_cons_self | simp [lw_cs, nanBits]
-- ===== end of PART A; then your names; then what follows =====
end
section
/-! ===== BEGIN words of one list among another's, by their places ===== -/
theorem goodIn_r {big : List Cond} (ws : List Cond) (ps : List Nat) (hp : ws = ps.filterMap (fun i => big[i]?)) (h : ws.all goodWord = true) : GoodIn big ws := by
  intro w hw
  have h1 := List.all_eq_true.mp h w hw
  rw [hp] at hw
  obtain ⟨i, -, hi⟩ := List.mem_filterMap.mp hw
  have hm : w ∈ big := by first | exact List.mem_of_getElem? hi | exact List.getElem?_mem hi
  exact ⟨hm, good_of_word h1⟩
theorem goodIn_app {big a b : List Cond} (ha : GoodIn big a) (hb : GoodIn big b) : GoodIn big (a ++ b) := fun w h => (List.mem_append.mp h).elim (ha w) (hb w)
theorem goodIn_ca {big a b : List Cond} {c : Cond} (ha : GoodIn big (c :: a)) (hb : GoodIn big b) : GoodIn big (c :: (a ++ b)) := fun w h => (List.mem_cons.mp h).elim (fun e => ha w (List.mem_cons.mpr (Or.inl e))) (fun h => (List.mem_append.mp h).elim (fun h => ha w (List.mem_cons.mpr (Or.inr h))) (hb w))
theorem goodIn_sub {big ws : List Cond} (hm : ∀ w ∈ ws, w ∈ big) (h : ws.all goodWord = true) : GoodIn big ws := fun w hw => ⟨hm w hw, good_of_word (List.all_eq_true.mp h w hw)⟩
/-! ===== END ===== -/

/-! ===== BEGIN exceptions that leave a method, and their catching by the caller (launches without stack traces) ===== -/
section VXA
/-! The laws vx_back, vx_callV, vx_callS, vx_callSW, vx_throw0, vx_throwS follow proofs of the library, with one case more: JvmDerived/Free/Laws.lean (Back.of_free), Shelf42/LK1.lean (callV, callS), Shelf/KitTraced.lean (throwNew0V, throwNewS). -/
/-- where a method has thrown q: the class by its name, the cell, what was written, the world -/
def vx_T (XC : String → State → State → Prop) (st : State) (q : Addr) (t : State) (mc ms : Nat) (free : Addr → Prop) : Prop :=
  ∃ (E : String) (ce : Cell) (L : List Loc), XC E st t ∧ t.heap[q]? = some ce ∧ ce.vm = .none ∧ st.vm.findClass E = some ce.cls ∧ st.WarmedH t.vm ∧ st.sameButNew ({ t with vm := st.vm } : State) L mc ms ∧ ∀ z ∈ L, free z.base
def vx_Q (Qc : Array Value → State → Outcome → State → Prop) (XC : String → State → State → Prop) (mc ms : Nat) (free : Addr → Prop) : Array Value → State → Outcome → State → Prop := fun a st o t =>
  (Qc a st o t ∧ ∃ L, FrameEnd st o t L mc ms ∧ ∀ q ∈ L, free q.base) ∨ ∃ q, o = .threw q ∧ vx_T XC st q t mc ms free
/-- a callee that returns or throws -/
def vx_Met (l : Launch) (y : MethodName) (ws : List Cond) (rm : Room) (Pc : Array Value → State → Prop) (Qc : Array Value → State → Outcome → State → Prop) (XC : String → State → State → Prop) (mc ms : Nat) (free : Addr → Prop) : Prop :=
  MetFree l y (headSpec ws rm) Pc (fun _ _ _ _ _ => True) (vx_Q Qc XC mc ms free)
def vx_Post (XC : String → State → State → Prop) (mc ms : Nat) (free : Addr → Prop) : Pt → Array Value → Addr → Pt → Prop := fun A a q B =>
  ∃ (g : JFrame) (mk : MethodId) (t : State) (L : List Loc) (E : String) (ce : Cell), B.U.heap = t.heap ∧ B.U.vm = t.vm ∧ XC E (A.U.calling g mk a) t ∧ t.heap[q]? = some ce ∧ ce.vm = .none ∧ A.U.vm.findClass E = some ce.cls ∧ B.locs = A.locs ++ L ∧ (∀ z ∈ L, free z.base) ∧ B.cells = A.cells + mc ∧ B.slots = A.slots + ms
def vx_Back (l : Launch) (R : Room) (p : Program) (e : Env) (below : List Frame) (s : State) (sargs : Array Value) (y : MethodName) (len W9 : Nat)
    (Pre : Pt → Array Value → Prop) (Post : Pt → Array Value → Option Value → Pt → Prop) (PostX : Pt → Array Value → Addr → Pt → Prop) : Prop :=
  ∀ (m : MethodId) (meth : Method) (c : Code) (A : Pt) (g : JFrame) (ig : Instr) (mk : MethodId) (a : Array Value),
    Stand p l e R s m sargs below meth c A.U A.locs A.cells A.slots → g.method = m → g.locals.size = c.maxLocals → decode c.code g.pc = .ok (ig, len) →
    2 * g.monitorRoom + (g.stack.map fun v => v.category).sum ≤ W9 → A.U.methodNamed? y = some mk → Pre A a →
    (∃ (v : Option Value) (B : Pt), Stand p l e R s m sargs below meth c B.U B.locs B.cells B.slots ∧ Post A a v B ∧
      Steps p.tables e below (doInvoke e (A.U.setTop g) [] mk a).1 (B.U.setTop { g with pc := g.pc + len, stack := v.toList ++ g.stack })) ∨
    (∃ (q : Addr) (B : Pt), Stand p l e R s m sargs below meth c B.U B.locs B.cells B.slots ∧ PostX A a q B ∧
      Steps p.tables e below (doInvoke e (A.U.setTop g) [] mk a).1 ((B.U.setTop g).pushFrame (.throwing q)))
section Payer
variable {l : Launch} {R : Room} {p : Program} {e : Env} {below : List Frame} {s : State} {sargs : Array Value} {y : MethodName} {len W9 : Nat}
theorem vx_back {ws : List Cond} {rm : Room} {Pc : Array Value → State → Prop} {Qc : Array Value → State → Outcome → State → Prop} {XC : String → State → State → Prop} {mc ms : Nat} {free : Addr → Prop} {bytes : ByteArray} {maxL : Nat} {ret : Option FieldType}
    (hM : vx_Met l y ws rm Pc Qc XC mc ms free) (hblind : FrameBlind Pc) (hrc : rm.cells = mc) (hrs : rm.slots = ms)
    (hframes : rm.frames + 1 ≤ R.frames) (hlocals : W9 + (maxL + 11) + rm.locals ≤ R.locals)
    (hws : ∀ w ∈ ws, ∀ a' U, s.WarmedH U.vm → w.before a' U = true) (hcode : Cond.code y bytes maxL ret ∈ ws) (hinit : ∀ a' U, s.WarmedH U.vm → (Cond.initialized y.cls).before a' U = true) :
    vx_Back l R p e below s sargs y len W9 (PreOf R mc ms Pc) (PostOf Qc mc ms free) (vx_Post XC mc ms free) := by
  intro m meth c A g ig mk a X hg hsize hdg hW hn hp
  have h1 : (headSpec ws rm).pre.before a A.U = true := atoms_intro fun w hw => hws w hw _ _ X.warmed
  have h2 : (Cond.code y bytes maxL ret).before a A.U = true := hws _ hcode _ _ X.warmed
  have h3 : (Cond.initialized y.cls).before a A.U = true := hinit _ _ X.warmed
  have h4 : A.cells + (headSpec ws rm).room.cells ≤ R.cells := by rw [show (headSpec ws rm).room.cells = mc from hrc]; exact hp.1
  have h5 : A.slots + (headSpec ws rm).room.slots ≤ R.slots := by rw [show (headSpec ws rm).room.slots = ms from hrs]; exact hp.2.1
  have hPc : Pc a (A.U.calling g mk a) := hblind _ _ _ _ hp.2.2
  obtain ⟨U, Ls, c0, s0⟩ := A
  dsimp only [Pt.U, Pt.locs, Pt.cells, Pt.slots] at h1 h2 h3 h4 h5 X hn hPc ⊢
  obtain ⟨methY, cY, hmY, hcY, -, hlY, -, -, -, -⟩ := Cond.code_spec hn h2
  obtain ⟨kY, hkY, -⟩ := className_of_methodNamed hn
  have hinitY : kY.init = .initialized := Cond.initialized_spec (findClass_of_methodNamed hn) hkY h3
  have h : At U g.method c below := by rw [hg]; exact X.here
  have hlocals9 : W9 + (maxL + 11) + (headSpec ws rm).room.locals ≤ R.locals := hlocals
  have happ : (headSpec ws rm).appliesLoose y e.platform (U.calling g mk a) = true :=
    Spec.appliesLoose_calling (g := g) h hdg hn hkY hinitY
      (X.room_calling (g := g) (R' := (headSpec ws rm).room) hsize hmY hcY hframes (by rw [hlY]; omega) h4 h5) h1
  obtain ⟨mid, hmid⟩ := h.above
  have hfr : (U.setTop g).frames = (.java g :: mid) ++ below := by rw [State.frames_setTop' g h.top, hmid]; rfl
  obtain ⟨o, s₂, hsteps, -, hend, hq⟩ := Steps.callFree hM p X.admits X.cas X.clock (acts := []) hfr happ hPc trivial
  have hq' : vx_Q Qc XC mc ms free a (U.calling g mk a) o s₂ := hq
  rw [State.frames_setTop' g h.top] at hend
  obtain ⟨g₀, hg0⟩ := Option.isSome_iff_exists.mp h.top
  obtain ⟨r, hr⟩ := State.topJava?_eq_some.mp hg0
  have hr' : (({ U with heap := s₂.heap, slotsUsed := s₂.slotsUsed } : State).setVm s₂.vm).frames = .java g₀ :: r := hr
  rcases hq' with ⟨hqc, L, hfe, hL⟩ | ⟨q, rfl, E, ce, L, hx, hce, hcv, hcl, hW₂, hsm, hL⟩
  · obtain ⟨⟨v, rfl⟩, hW₂, e2, q2, q3, q4, q5, q6⟩ := id hfe
    have e3 : s₂ = ({ (U.calling g mk a).setFrames s₂.frames with heap := s₂.heap, slotsUsed := s₂.slotsUsed } : State).setVm s₂.vm := by
      have : s₂ = ({ s₂ with vm := (U.calling g mk a).vm } : State).setVm s₂.vm := rfl
      rw [e2] at this
      exact this
    obtain ⟨c₂, i₂, len₂, hc₂, hd₂, hf₂⟩ := hend
    have hW' : U.WarmedH s₂.vm := hW₂
    have hcc : c₂ = c := by
      have h1 : s₂.code? g.method = U.code? g.method := by
        rw [State.code?_eq, State.code?_eq, hW'.alike.method?]
      exact Option.some.inj (hc₂.symm.trans (h1.trans h.code))
    subst hcc
    have hlen : len₂ = len := by rw [hdg] at hd₂; cases hd₂; rfl
    subst hlen
    have hs₂ : s₂ = (({ U with heap := s₂.heap, slotsUsed := s₂.slotsUsed } : State).setVm s₂.vm).setTop { g with pc := g.pc + len₂, stack := v.toList ++ g.stack } := by
      refine e3.trans ?_
      rw [hf₂, State.calling_eq h.top, State.setFrames_setFrames, State.setTop_of_frames _ hr', hr]
      rfl
    have hsame : U.sameButNew ({ U with heap := s₂.heap, slotsUsed := s₂.slotsUsed } : State) L mc ms := by
      refine ⟨?_, q2, q3, q4, q5, q6⟩
      obtain ⟨t, ht, -⟩ := State.frames_cons hr
      show ({ U with heap := s₂.heap, slotsUsed := s₂.slotsUsed } : State) = { U.setFrames U.frames with heap := s₂.heap, slotsUsed := s₂.slotsUsed }
      rw [State.setFrames_self ht]
    subst hg
    refine Or.inl ⟨v, ⟨(({ U with heap := s₂.heap, slotsUsed := s₂.slotsUsed } : State).setVm s₂.vm), Ls ++ L, c0 + mc, s0 + ms⟩,
      ⟨X.admits, X.cas, X.clock, X.frames, X.room, X.hears, X.method, X.code, (X.here.setHeapUsed s₂.heap s₂.slotsUsed).setVm hW'.alike, X.tail, State.WarmedH.trans X.warmed hW', X.limits, X.bytes, X.same.trans (hsame.setVm s.vm)⟩,
      ⟨g, mk, s₂, L, rfl, rfl, hqc, rfl, hL, rfl, rfl⟩, ?_⟩
    show Steps p.tables e below _ ((({ U with heap := s₂.heap, slotsUsed := s₂.slotsUsed } : State).setVm s₂.vm).setTop { g with pc := g.pc + len₂, stack := v.toList ++ g.stack })
    rw [← hs₂]
    exact hsteps
  · obtain ⟨e2, q2, q3, q4, q5, q6⟩ := id hsm
    have e3 : s₂ = ({ (U.calling g mk a).setFrames s₂.frames with heap := s₂.heap, slotsUsed := s₂.slotsUsed } : State).setVm s₂.vm := by
      have : s₂ = ({ s₂ with vm := (U.calling g mk a).vm } : State).setVm s₂.vm := rfl
      rw [e2] at this
      exact this
    have hf₂ : s₂.frames = .throwing q :: .java g :: U.frames.tail := hend
    have hW' : U.WarmedH s₂.vm := hW₂
    have hs₂ : s₂ = ((({ U with heap := s₂.heap, slotsUsed := s₂.slotsUsed } : State).setVm s₂.vm).setTop g).pushFrame (.throwing q) := by
      refine e3.trans ?_
      rw [hf₂, State.calling_eq h.top, State.setFrames_setFrames, State.pushFrame, State.frames_setTop _ hr', State.setTop_of_frames _ hr', State.setFrames_setFrames, hr]
      rfl
    have hsame : U.sameButNew ({ U with heap := s₂.heap, slotsUsed := s₂.slotsUsed } : State) L mc ms := by
      refine ⟨?_, q2, q3, q4, q5, q6⟩
      obtain ⟨t, ht, -⟩ := State.frames_cons hr
      show ({ U with heap := s₂.heap, slotsUsed := s₂.slotsUsed } : State) = { U.setFrames U.frames with heap := s₂.heap, slotsUsed := s₂.slotsUsed }
      rw [State.setFrames_self ht]
    subst hg
    refine Or.inr ⟨q, ⟨(({ U with heap := s₂.heap, slotsUsed := s₂.slotsUsed } : State).setVm s₂.vm), Ls ++ L, c0 + mc, s0 + ms⟩,
      ⟨X.admits, X.cas, X.clock, X.frames, X.room, X.hears, X.method, X.code, (X.here.setHeapUsed s₂.heap s₂.slotsUsed).setVm hW'.alike, X.tail, State.WarmedH.trans X.warmed hW', X.limits, X.bytes, X.same.trans (hsame.setVm s.vm)⟩,
      ⟨g, mk, s₂, L, E, ce, rfl, rfl, hx, hce, hcv, hcl, rfl, hL, rfl, rfl⟩, ?_⟩
    show Steps p.tables e below _ (((({ U with heap := s₂.heap, slotsUsed := s₂.slotsUsed } : State).setVm s₂.vm).setTop g).pushFrame (.throwing q))
    rw [← hs₂]
    exact hsteps
end Payer
section Calls
variable {p : Program} {l : Launch} {e : Env} {R : Room} {s : State} {m : MethodId} {args : Array Value} {below : List Frame} {meth : Method} {c : Code} {T : State} {locs : List Loc} {cells slots : Nat}
theorem vx_callV (X : Stand p l e R s m args below meth c T locs cells slots) (hexec : p.tables.exec = Jvm.exec) {own C : String} {index : Nat} {y : MethodName} {bytes : ByteArray} {maxL : Nat} {ret : Option FieldType}
    (hown : s.vm.findClass own = some m.cls) (hlink : (Cond.methodLink own index y).before args s = true) (hinst : (Cond.instanceMethod y).before args s = true) (hsel : (Cond.selects C y y).before args s = true)
    (hcode : (Cond.code y bytes maxL ret).before args s = true) (hy : y.cls ≠ "java/lang/invoke/MethodHandle" ∧ y.cls ≠ "java/lang/invoke/VarHandle")
    {W9 : Nat} {Pre : Pt → Array Value → Prop} {Post : Pt → Array Value → Option Value → Pt → Prop} {PostX : Pt → Array Value → Addr → Pt → Prop} (hK : vx_Back l R p e below s args y 3 W9 Pre Post PostX)
    {b : Addr} {cellB : Cell} (hcell : T.heap[b]? = some cellB) (hobj : cellB.vm.isStatics = false) (hcls : s.vm.findClass C = some cellB.cls)
    {g : JFrame} (hg : g.method = m) (hsize : g.locals.size = c.maxLocals) {argsL rest : List Value} (hlen : ∀ sig, parseMethodDescriptor y.desc = some sig → argsL.length = sig.parameters.length)
    (hstack : g.stack = argsL.reverse ++ .ref b :: rest) (hW : 2 * g.monitorRoom + (rest.map fun v => v.category).sum ≤ W9) (hdg : decode c.code g.pc = .ok (.invokevirtual index, 3))
    (hpre : ∀ vm₁, s.WarmedH vm₁ → Pre ⟨T.setVm vm₁, locs, cells, slots⟩ (Value.ref b :: argsL).toArray) :
    (∃ (v : Option Value) (vm₁ : Vm) (B : Pt), s.WarmedH vm₁ ∧ Stand p l e R s m args below meth c B.U B.locs B.cells B.slots ∧ Post ⟨T.setVm vm₁, locs, cells, slots⟩ (Value.ref b :: argsL).toArray v B ∧
      ∀ target, Steps p.tables e below (B.U.setTop { g with pc := g.pc + 3, stack := v.toList ++ rest }) target → Steps p.tables e below (T.setTop g) target) ∨
    (∃ (q : Addr) (vm₁ : Vm) (B : Pt), s.WarmedH vm₁ ∧ Stand p l e R s m args below meth c B.U B.locs B.cells B.slots ∧ PostX ⟨T.setVm vm₁, locs, cells, slots⟩ (Value.ref b :: argsL).toArray q B ∧
      Steps p.tables e below (T.setTop g) ((B.U.setTop { g with stack := rest }).pushFrame (.throwing q))) := by
  obtain ⟨mk, methM, hnamed, hmethM, hstM, habM⟩ := Cond.instanceMethod_spec hinst
  obtain ⟨methM', cM, hmethM', -, -, -, -, -, -, hsigM⟩ := Cond.code_spec hnamed hcode
  cases hmethM.symm.trans hmethM'
  obtain ⟨c2, r2, m2, q1, q2, q3, q4, kP, hkP, hkPi⟩ := Cond.selects_spec hsel
  cases hcls.symm.trans q1
  cases (State.methodFound?_of_named hnamed hy).symm.trans q2
  cases hnamed.symm.trans q3
  have hselP : selectMethod e.platform s.vm cellB.cls mk = .method mk := by rw [Launch.admits_selectMethod X.admits]; exact q4
  obtain ⟨vm₁, X₁, hstep₁⟩ := X.invokevirtual hexec hown hlink hnamed hmethM hstM hkP hkPi hy (a := b) (cell := cellB) hcell
    (fun z h => by rw [h] at hobj; cases hobj) hselP hmethM habM hkP hkPi (g := g) hg (argsL := argsL) (rest := rest) (hlen _ hsigM) hstack hdg
  rcases hK m meth c ⟨T.setVm vm₁, locs, cells, slots⟩ { g with stack := rest } (.invokevirtual index) mk (Value.ref b :: argsL).toArray X₁ hg hsize hdg hW (X₁.named hnamed) (hpre vm₁ X₁.warmed) with ⟨v, B, X', hpost, hsteps⟩ | ⟨q, B, X', hpost, hsteps⟩
  · exact Or.inl ⟨v, vm₁, B, X₁.warmed, X', hpost, fun target h => hstep₁ _ fun acts => by rw [doInvoke_state]; exact hsteps.trans h⟩
  · exact Or.inr ⟨q, vm₁, B, X₁.warmed, X', hpost, hstep₁ _ fun acts => by rw [doInvoke_state]; exact hsteps⟩
theorem vx_callS (X : Stand p l e R s m args below meth c T locs cells slots) (hexec : p.tables.exec = Jvm.exec) {own : String} {index : Nat} {y : MethodName} {bytes : ByteArray} {maxL : Nat} {ret : Option FieldType}
    (hown : s.vm.findClass own = some m.cls) (hlink : (Cond.methodLink own index y).before args s = true) (hstat : (Cond.static y).before args s = true) (hinit : (Cond.initialized y.cls).before args s = true)
    (hcode : (Cond.code y bytes maxL ret).before args s = true) (hy : y.cls ≠ "java/lang/invoke/MethodHandle" ∧ y.cls ≠ "java/lang/invoke/VarHandle")
    {W9 : Nat} {Pre : Pt → Array Value → Prop} {Post : Pt → Array Value → Option Value → Pt → Prop} {PostX : Pt → Array Value → Addr → Pt → Prop} (hK : vx_Back l R p e below s args y 3 W9 Pre Post PostX)
    {g : JFrame} (hg : g.method = m) (hsize : g.locals.size = c.maxLocals) {argsL rest : List Value} (hlen : ∀ sig, parseMethodDescriptor y.desc = some sig → argsL.length = sig.parameters.length)
    (hstack : g.stack = argsL.reverse ++ rest) (hW : 2 * g.monitorRoom + (rest.map fun v => v.category).sum ≤ W9) (hdg : decode c.code g.pc = .ok (.invokestatic index, 3))
    (hpre : ∀ vm₁, s.WarmedH vm₁ → Pre ⟨T.setVm vm₁, locs, cells, slots⟩ argsL.toArray) :
    (∃ (v : Option Value) (vm₁ : Vm) (B : Pt), s.WarmedH vm₁ ∧ Stand p l e R s m args below meth c B.U B.locs B.cells B.slots ∧ Post ⟨T.setVm vm₁, locs, cells, slots⟩ argsL.toArray v B ∧
      ∀ target, Steps p.tables e below (B.U.setTop { g with pc := g.pc + 3, stack := v.toList ++ rest }) target → Steps p.tables e below (T.setTop g) target) ∨
    (∃ (q : Addr) (vm₁ : Vm) (B : Pt), s.WarmedH vm₁ ∧ Stand p l e R s m args below meth c B.U B.locs B.cells B.slots ∧ PostX ⟨T.setVm vm₁, locs, cells, slots⟩ argsL.toArray q B ∧
      Steps p.tables e below (T.setTop g) ((B.U.setTop { g with stack := rest }).pushFrame (.throwing q))) := by
  obtain ⟨mk, hnamed⟩ := Cond.code_named hcode
  obtain ⟨methM, cM, hmethM, -, -, -, -, -, -, hsigM⟩ := Cond.code_spec hnamed hcode
  have hstatic : methM.isStatic = true := Cond.static_spec hnamed hmethM hstat
  obtain ⟨kP, hkP, -⟩ := className_of_methodNamed hnamed
  have hinitP : kP.init = .initialized := Cond.initialized_spec (findClass_of_methodNamed hnamed) hkP hinit
  obtain ⟨vm₁, X₁, hstep₁⟩ := X.invokestatic hexec hown hlink hnamed hmethM hstatic hkP hinitP hy (g := g) hg (argsL := argsL) (rest := rest) (hlen _ hsigM) hstack hdg
  rcases hK m meth c ⟨T.setVm vm₁, locs, cells, slots⟩ { g with stack := rest } (.invokestatic index) mk argsL.toArray X₁ hg hsize hdg hW (X₁.named hnamed) (hpre vm₁ X₁.warmed) with ⟨v, B, X', hpost, hsteps⟩ | ⟨q, B, X', hpost, hsteps⟩
  · exact Or.inl ⟨v, vm₁, B, X₁.warmed, X', hpost, fun target h => hstep₁ _ fun acts => by rw [doInvoke_state]; exact hsteps.trans h⟩
  · exact Or.inr ⟨q, vm₁, B, X₁.warmed, X', hpost, hstep₁ _ fun acts => by rw [doInvoke_state]; exact hsteps⟩
end Calls
theorem vx_cls {s : State} {T : State} {vm₁ : Vm} {E : String} {k : ClassId} (hW : s.WarmedH vm₁) (h : (T.setVm vm₁).vm.findClass E = some k) : s.vm.findClass E = some k := by
  have h1 : vm₁.findClass E = some k := h
  rw [hW.alike.findClass] at h1
  exact h1
/-- the method's frame g, with q thrown over it -/
def vx_W (p : Program) (l : Launch) (e : Env) (R : Room) (s : State) (m : MethodId) (args : Array Value) (below : List Frame) (meth : Method) (c : Code) (H : Heap) (locs : List Loc) (cells slots : Nat) (Q : State → Prop) (g : JFrame) (q : Addr) : Prop :=
  ∀ T : State, T.heap = H → Stand p l e R s m args below meth c T locs cells slots → ∃ t, Steps p.tables e below ((T.setTop g).pushFrame (.throwing q)) t ∧ Q t
def vx_Run (p : Program) (l : Launch) (e : Env) (R : Room) (s : State) (m : MethodId) (args : Array Value) (below : List Frame) (meth : Method) (c : Code) (H : Heap) (locs : List Loc) (cells slots mc ms : Nat) (g : JFrame) (rest : List Value) (Qa : State → Outcome → State → Prop) (XC : String → State → State → Prop) (free : Addr → Prop) : Prop :=
  ∀ T : State, T.heap = H → Stand p l e R s m args below meth c T locs cells slots →
    (∃ (v : Option Value) (st₀ t T' : State) (L : List Loc), st₀.heap = H ∧ Stand p l e R s m args below meth c T' (locs ++ L) (cells + mc) (slots + ms) ∧ (∀ q ∈ L, free q.base) ∧ T'.heap = t.heap ∧ T'.vm = t.vm ∧ Qa st₀ (.returned v) t ∧
      Goes p e below T g T' { g with pc := g.pc + 3, stack := v.toList ++ rest }) ∨
    (∃ (q : Addr) (st₀ t T' : State) (L : List Loc) (E : String) (ce : Cell), st₀.heap = H ∧ Stand p l e R s m args below meth c T' (locs ++ L) (cells + mc) (slots + ms) ∧ (∀ z ∈ L, free z.base) ∧ T'.heap = t.heap ∧ T'.vm = t.vm ∧ XC E st₀ t ∧ t.heap[q]? = some ce ∧ ce.vm = .none ∧ s.vm.findClass E = some ce.cls ∧
      Steps p.tables e below (T.setTop g) ((T'.setTop { g with stack := rest }).pushFrame (.throwing q)))
def vx_X {S : Type} (px : S → Prop) (B : String → S → State → Prop) (A : Nat → Prop) : String → State → State → Prop := fun E st t => ∃ u : S, px u ∧ B E u t ∧ va_F A st t
section Runs
variable {p : Program} {l : Launch} {e : Env} {R : Room} {s : State} {m : MethodId} {args : Array Value} {below : List Frame} {meth : Method} {c : Code} {H : Heap} {locs : List Loc} {cells slots : Nat}
variable {y : MethodName} {bytes cc : ByteArray} {maxL nL mc ms n index : Nat} {ret : Option FieldType} {ws : List Cond} {rm : Room} {Pc : Array Value → State → Prop} {Qc : Array Value → State → Outcome → State → Prop} {XC : String → State → State → Prop} {free : Addr → Prop} {Ts : List Cond} {own C : String} {b : Addr} {As rest : List Value} {g : JFrame}
theorem vx_callBack (cb : CallB R s args own index y bytes maxL ret ws rm mc ms n) (hM : vx_Met l y ws rm Pc Qc XC mc ms free) (hbl : FrameBlind Pc) : vx_Back l R p e below s args y 3 8 (PreOf R mc ms Pc) (PostOf Qc mc ms free) (vx_Post XC mc ms free) := by
  obtain ⟨hrc, hrs, hfr, hlo, hws, hcw, -, hini, -⟩ := cb
  exact vx_back (bytes := bytes) (maxL := maxL) (ret := ret) hM hbl hrc hrs hfr hlo hws hcw (fun a' U hW => word_at hW (Or.inl (by first | rfl | simp [Cond.onTables, Cond.keeps, Cond.steady])) hini)
theorem vx_runV (S : CallFix p m c cc nL s args Ts own) (hM : vx_Met l y ws rm Pc Qc XC mc ms free) (cw : CallW R s args own C index y bytes maxL ret ws rm mc ms n) (hp : PreV s H C b Pc As)
    (hg : g.method = m) (hn : As.length = n) (hsize : g.locals.size = nL) (hstack : g.stack = As.reverse ++ .ref b :: rest) (hW : 2 * g.monitorRoom + (rest.map fun v => v.category).sum ≤ 8) (hdg : decode cc g.pc = .ok (.invokevirtual index, 3)) (hf : cells + mc ≤ R.cells ∧ slots + ms ≤ R.slots) :
    vx_Run p l e R s m args below meth c H locs cells slots mc ms g rest (Qc (Value.ref b :: As).toArray) XC free := by
  have hK : vx_Back l R p e below s args y 3 8 (PreOf R mc ms Pc) (PostOf Qc mc ms free) (vx_Post XC mc ms free) := vx_callBack cw.1 hM hp.1
  obtain ⟨⟨-, -, -, -, -, -, hcode, -, hy, hlen, hl⟩, hin, hse⟩ := cw
  obtain ⟨hx, hb, hml, ho, -⟩ := S
  obtain ⟨-, ⟨cellB, hcB, hoB, hclB⟩, hPc⟩ := hp
  intro T hT X
  rcases vx_callV X hx (C := C) (bytes := bytes) (maxL := maxL) (ret := ret) ho hl hin hse hcode hy hK (by rw [hT]; exact hcB) hoB hclB hg (hsize.trans hml.symm) (argsL := As) (rest := rest) (fun sig h => hn.trans (hlen sig h)) hstack hW (by rw [hb]; exact hdg)
    (fun vm₁ hW₁ => ⟨hf.1, hf.2, hPc (T.setVm vm₁) hT hW₁⟩) with ⟨v, vm₁, ⟨U', l2, c2, s2⟩, hW₁, X', ⟨g', mk, t, L, e1, e2, hq, h1, hL, h2, h3⟩, st⟩ | ⟨q, vm₁, ⟨U', l2, c2, s2⟩, hW₁, X', ⟨g', mk, t, L, E, ce, e1, e2, hq, hce, hcv, hcl, h1, hL, h2, h3⟩, st⟩
  · dsimp only [Pt.U, Pt.locs, Pt.cells, Pt.slots] at X' e1 e2 h1 h2 h3 st
    subst h1; subst h2; subst h3
    exact Or.inl ⟨v, (T.setVm vm₁).calling g' mk (Value.ref b :: As).toArray, t, U', L, hT, X', hL, e1, e2, hq, st⟩
  · dsimp only [Pt.U, Pt.locs, Pt.cells, Pt.slots] at X' e1 e2 h1 h2 h3 st hcl
    subst h1; subst h2; subst h3
    exact Or.inr ⟨q, (T.setVm vm₁).calling g' mk (Value.ref b :: As).toArray, t, U', L, E, ce, hT, X', hL, e1, e2, hq, hce, hcv, vx_cls hW₁ hcl, st⟩
theorem vx_runS (S : CallFix p m c cc nL s args Ts own) (hM : vx_Met l y ws rm Pc Qc XC mc ms free) (cw : CallB R s args own index y bytes maxL ret ws rm mc ms n ∧ (Cond.static y).before args s = true) (hp : PreS s H Pc As)
    (hg : g.method = m) (hn : As.length = n) (hsize : g.locals.size = nL) (hstack : g.stack = As.reverse ++ rest) (hW : 2 * g.monitorRoom + (rest.map fun v => v.category).sum ≤ 8) (hdg : decode cc g.pc = .ok (.invokestatic index, 3)) (hf : cells + mc ≤ R.cells ∧ slots + ms ≤ R.slots) :
    vx_Run p l e R s m args below meth c H locs cells slots mc ms g rest (Qc As.toArray) XC free := by
  have hK : vx_Back l R p e below s args y 3 8 (PreOf R mc ms Pc) (PostOf Qc mc ms free) (vx_Post XC mc ms free) := vx_callBack cw.1 hM hp.1
  obtain ⟨⟨-, -, -, -, -, -, hcode, hini, hy, hlen, hl⟩, hstt⟩ := cw
  obtain ⟨hx, hb, hml, ho, -⟩ := S
  intro T hT X
  rcases vx_callS X hx (bytes := bytes) (maxL := maxL) (ret := ret) ho hl hstt hini hcode hy hK hg (hsize.trans hml.symm) (argsL := As) (rest := rest) (fun sig h => hn.trans (hlen sig h)) hstack hW (by rw [hb]; exact hdg)
    (fun vm₁ hW₁ => ⟨hf.1, hf.2, hp.2 (T.setVm vm₁) hT hW₁⟩) with ⟨v, vm₁, ⟨U', l2, c2, s2⟩, hW₁, X', ⟨g', mk, t, L, e1, e2, hq, h1, hL, h2, h3⟩, st⟩ | ⟨q, vm₁, ⟨U', l2, c2, s2⟩, hW₁, X', ⟨g', mk, t, L, E, ce, e1, e2, hq, hce, hcv, hcl, h1, hL, h2, h3⟩, st⟩
  · dsimp only [Pt.U, Pt.locs, Pt.cells, Pt.slots] at X' e1 e2 h1 h2 h3 st
    subst h1; subst h2; subst h3
    exact Or.inl ⟨v, (T.setVm vm₁).calling g' mk As.toArray, t, U', L, hT, X', hL, e1, e2, hq, st⟩
  · dsimp only [Pt.U, Pt.locs, Pt.cells, Pt.slots] at X' e1 e2 h1 h2 h3 st hcl
    subst h1; subst h2; subst h3
    exact Or.inr ⟨q, (T.setVm vm₁).calling g' mk As.toArray, t, U', L, E, ce, hT, X', hL, e1, e2, hq, hce, hcv, vx_cls hW₁ hcl, st⟩
end Runs
section Rows
variable {p : Program} {l : Launch} {e : Env} {R : Room} {s : State} {m : MethodId} {args : Array Value} {below : List Frame} {meth : Method} {c : Code} {H : Heap} {locs : List Loc} {cells slots : Nat} {Q : State → Prop}
variable {mc ms : Nat} {free : Addr → Prop} {A0 A1 : Nat → Prop} {H0 : Heap} {a : Array Value} {pc : Nat} {ls : Array Slot} {st0 rest : List Value}
theorem vx_keep {st₀ t T' : State} {L : List Loc} (h0 : st₀.heap = H) (e1 : T'.heap = t.heap) (hS : va_S A0 H0 H locs) (hA : ∀ q, q < H.size → A1 q → A0 q) (hf : ∀ q, free q → A0 q) (hL : ∀ q ∈ L, free q.base) (hF : va_F A1 st₀ t) :
    H.size ≤ T'.heap.size ∧ (∀ q : Nat, q < H.size → ¬ A1 q → T'.heap[q]? = H[q]?) ∧ va_S A0 H0 T'.heap (locs ++ L) := by
  obtain ⟨hz, hk⟩ := hF
  rw [h0] at hz hk
  exact ⟨by rw [e1]; exact hz, fun q h1 h2 => by rw [e1]; exact hk q h1 h2,
    ⟨Nat.le_trans hS.1 (by rw [e1]; exact hz), fun q h1 h2 => by rw [e1, hk q (Nat.lt_of_lt_of_le h1 hS.1) (fun z => h2 (hA q (Nat.lt_of_lt_of_le h1 hS.1) z))]; exact hS.2.1 q h1 h2, fun q hq => by
      rcases List.mem_append.mp hq with h | h
      · exact hS.2.2 q h
      · exact hf _ (hL q h)⟩⟩
theorem vx_calli {S SX : Type} {post : Int32 → S → Prop} {px : SX → Prop} {B : S → State → Prop} {BX : String → SX → State → Prop} {AX : Nat → Prop} (hr : vx_Run p l e R s m args below meth c H locs cells slots mc ms (F0 m pc ls st0) rest (va_Qi post B A1 a) (vx_X px BX AX) free) (hS : va_S A0 H0 H locs) (hA : ∀ q, q < H.size → A1 q → A0 q) (hf : ∀ q, free q → A0 q) (hAX : ∀ q, q < H.size → AX q → A0 q)
    (kx : ∀ (E : String) (ce : Cell) (q9 : Addr) (u : SX) (t : State) (H1 : Heap) (locs1 : List Loc), t.heap = H1 → s.vm.Alike t.vm → px u → BX E u t → H.size ≤ H1.size → (∀ q : Nat, q < H.size → ¬ AX q → H1[q]? = H[q]?) → va_S A0 H0 H1 locs1 → H1[q9]? = some ce → ce.vm = .none → s.vm.findClass E = some ce.cls → vx_W p l e R s m args below meth c H1 locs1 (cells + mc) (slots + ms) Q (F0 m pc ls rest) q9)
    (kk : ∀ (r : Int32) (u : S) (t : State) (H1 : Heap) (locs1 : List Loc), t.heap = H1 → s.vm.Alike t.vm → post r u → B u t → H.size ≤ H1.size → (∀ q : Nat, q < H.size → ¬ A1 q → H1[q]? = H[q]?) → va_S A0 H0 H1 locs1 → W p l e R s m args below meth c H1 locs1 (cells + mc) (slots + ms) Q (F0 m (pc + 3) ls (.int r :: rest))) : W p l e R s m args below meth c H locs cells slots Q (F0 m pc ls st0) := by
  intro T hT X
  rcases hr T hT X with ⟨v, st₀, t, T', L, h0, X', hL, e1, e2, ⟨⟨r, u, hv, hp, hb⟩, hF⟩, st⟩ | ⟨q, st₀, t, T', L, E, ce, h0, X', hL, e1, e2, ⟨u, hp, hb, hF⟩, hce, hcv, hcl, st⟩
  · cases hv
    obtain ⟨k1, k2, k3⟩ := vx_keep h0 e1 hS hA hf hL hF
    obtain ⟨t2, a1, b1⟩ := kk r u t T'.heap (locs ++ L) e1.symm (by rw [← e2]; exact X'.warmed.alike) hp hb k1 k2 k3 T' rfl X'
    exact ⟨t2, st t2 a1, b1⟩
  · obtain ⟨k1, k2, k3⟩ := vx_keep h0 e1 hS hAX hf hL hF
    obtain ⟨t2, a1, b1⟩ := kx E ce q u t T'.heap (locs ++ L) e1.symm (by rw [← e2]; exact X'.warmed.alike) hp hb k1 k2 k3 (by rw [e1]; exact hce) hcv hcl T' rfl X'
    exact ⟨t2, st.trans a1, b1⟩
theorem vx_calll {S SX : Type} {post : Int64 → S → Prop} {px : SX → Prop} {B : S → State → Prop} {BX : String → SX → State → Prop} {AX : Nat → Prop} (hr : vx_Run p l e R s m args below meth c H locs cells slots mc ms (F0 m pc ls st0) rest (va_Ql post B A1 a) (vx_X px BX AX) free) (hS : va_S A0 H0 H locs) (hA : ∀ q, q < H.size → A1 q → A0 q) (hf : ∀ q, free q → A0 q) (hAX : ∀ q, q < H.size → AX q → A0 q)
    (kx : ∀ (E : String) (ce : Cell) (q9 : Addr) (u : SX) (t : State) (H1 : Heap) (locs1 : List Loc), t.heap = H1 → s.vm.Alike t.vm → px u → BX E u t → H.size ≤ H1.size → (∀ q : Nat, q < H.size → ¬ AX q → H1[q]? = H[q]?) → va_S A0 H0 H1 locs1 → H1[q9]? = some ce → ce.vm = .none → s.vm.findClass E = some ce.cls → vx_W p l e R s m args below meth c H1 locs1 (cells + mc) (slots + ms) Q (F0 m pc ls rest) q9)
    (kk : ∀ (r : Int64) (u : S) (t : State) (H1 : Heap) (locs1 : List Loc), t.heap = H1 → s.vm.Alike t.vm → post r u → B u t → H.size ≤ H1.size → (∀ q : Nat, q < H.size → ¬ A1 q → H1[q]? = H[q]?) → va_S A0 H0 H1 locs1 → W p l e R s m args below meth c H1 locs1 (cells + mc) (slots + ms) Q (F0 m (pc + 3) ls (.long r :: rest))) : W p l e R s m args below meth c H locs cells slots Q (F0 m pc ls st0) := by
  intro T hT X
  rcases hr T hT X with ⟨v, st₀, t, T', L, h0, X', hL, e1, e2, ⟨⟨r, u, hv, hp, hb⟩, hF⟩, st⟩ | ⟨q, st₀, t, T', L, E, ce, h0, X', hL, e1, e2, ⟨u, hp, hb, hF⟩, hce, hcv, hcl, st⟩
  · cases hv
    obtain ⟨k1, k2, k3⟩ := vx_keep h0 e1 hS hA hf hL hF
    obtain ⟨t2, a1, b1⟩ := kk r u t T'.heap (locs ++ L) e1.symm (by rw [← e2]; exact X'.warmed.alike) hp hb k1 k2 k3 T' rfl X'
    exact ⟨t2, st t2 a1, b1⟩
  · obtain ⟨k1, k2, k3⟩ := vx_keep h0 e1 hS hAX hf hL hF
    obtain ⟨t2, a1, b1⟩ := kx E ce q u t T'.heap (locs ++ L) e1.symm (by rw [← e2]; exact X'.warmed.alike) hp hb k1 k2 k3 (by rw [e1]; exact hce) hcv hcl T' rfl X'
    exact ⟨t2, st.trans a1, b1⟩
theorem vx_callf {S SX : Type} {post : UInt32 → S → Prop} {px : SX → Prop} {B : S → State → Prop} {BX : String → SX → State → Prop} {AX : Nat → Prop} (hr : vx_Run p l e R s m args below meth c H locs cells slots mc ms (F0 m pc ls st0) rest (va_Qf post B A1 a) (vx_X px BX AX) free) (hS : va_S A0 H0 H locs) (hA : ∀ q, q < H.size → A1 q → A0 q) (hf : ∀ q, free q → A0 q) (hAX : ∀ q, q < H.size → AX q → A0 q)
    (kx : ∀ (E : String) (ce : Cell) (q9 : Addr) (u : SX) (t : State) (H1 : Heap) (locs1 : List Loc), t.heap = H1 → s.vm.Alike t.vm → px u → BX E u t → H.size ≤ H1.size → (∀ q : Nat, q < H.size → ¬ AX q → H1[q]? = H[q]?) → va_S A0 H0 H1 locs1 → H1[q9]? = some ce → ce.vm = .none → s.vm.findClass E = some ce.cls → vx_W p l e R s m args below meth c H1 locs1 (cells + mc) (slots + ms) Q (F0 m pc ls rest) q9)
    (kk : ∀ (r : UInt32) (u : S) (t : State) (H1 : Heap) (locs1 : List Loc), t.heap = H1 → s.vm.Alike t.vm → post r u → B u t → H.size ≤ H1.size → (∀ q : Nat, q < H.size → ¬ A1 q → H1[q]? = H[q]?) → va_S A0 H0 H1 locs1 → W p l e R s m args below meth c H1 locs1 (cells + mc) (slots + ms) Q (F0 m (pc + 3) ls (.float r :: rest))) : W p l e R s m args below meth c H locs cells slots Q (F0 m pc ls st0) := by
  intro T hT X
  rcases hr T hT X with ⟨v, st₀, t, T', L, h0, X', hL, e1, e2, ⟨⟨r, u, hv, hp, hb⟩, hF⟩, st⟩ | ⟨q, st₀, t, T', L, E, ce, h0, X', hL, e1, e2, ⟨u, hp, hb, hF⟩, hce, hcv, hcl, st⟩
  · cases hv
    obtain ⟨k1, k2, k3⟩ := vx_keep h0 e1 hS hA hf hL hF
    obtain ⟨t2, a1, b1⟩ := kk r u t T'.heap (locs ++ L) e1.symm (by rw [← e2]; exact X'.warmed.alike) hp hb k1 k2 k3 T' rfl X'
    exact ⟨t2, st t2 a1, b1⟩
  · obtain ⟨k1, k2, k3⟩ := vx_keep h0 e1 hS hAX hf hL hF
    obtain ⟨t2, a1, b1⟩ := kx E ce q u t T'.heap (locs ++ L) e1.symm (by rw [← e2]; exact X'.warmed.alike) hp hb k1 k2 k3 (by rw [e1]; exact hce) hcv hcl T' rfl X'
    exact ⟨t2, st.trans a1, b1⟩
theorem vx_calld {S SX : Type} {post : UInt64 → S → Prop} {px : SX → Prop} {B : S → State → Prop} {BX : String → SX → State → Prop} {AX : Nat → Prop} (hr : vx_Run p l e R s m args below meth c H locs cells slots mc ms (F0 m pc ls st0) rest (va_Qd post B A1 a) (vx_X px BX AX) free) (hS : va_S A0 H0 H locs) (hA : ∀ q, q < H.size → A1 q → A0 q) (hf : ∀ q, free q → A0 q) (hAX : ∀ q, q < H.size → AX q → A0 q)
    (kx : ∀ (E : String) (ce : Cell) (q9 : Addr) (u : SX) (t : State) (H1 : Heap) (locs1 : List Loc), t.heap = H1 → s.vm.Alike t.vm → px u → BX E u t → H.size ≤ H1.size → (∀ q : Nat, q < H.size → ¬ AX q → H1[q]? = H[q]?) → va_S A0 H0 H1 locs1 → H1[q9]? = some ce → ce.vm = .none → s.vm.findClass E = some ce.cls → vx_W p l e R s m args below meth c H1 locs1 (cells + mc) (slots + ms) Q (F0 m pc ls rest) q9)
    (kk : ∀ (r : UInt64) (u : S) (t : State) (H1 : Heap) (locs1 : List Loc), t.heap = H1 → s.vm.Alike t.vm → post r u → B u t → H.size ≤ H1.size → (∀ q : Nat, q < H.size → ¬ A1 q → H1[q]? = H[q]?) → va_S A0 H0 H1 locs1 → W p l e R s m args below meth c H1 locs1 (cells + mc) (slots + ms) Q (F0 m (pc + 3) ls (.double r :: rest))) : W p l e R s m args below meth c H locs cells slots Q (F0 m pc ls st0) := by
  intro T hT X
  rcases hr T hT X with ⟨v, st₀, t, T', L, h0, X', hL, e1, e2, ⟨⟨r, u, hv, hp, hb⟩, hF⟩, st⟩ | ⟨q, st₀, t, T', L, E, ce, h0, X', hL, e1, e2, ⟨u, hp, hb, hF⟩, hce, hcv, hcl, st⟩
  · cases hv
    obtain ⟨k1, k2, k3⟩ := vx_keep h0 e1 hS hA hf hL hF
    obtain ⟨t2, a1, b1⟩ := kk r u t T'.heap (locs ++ L) e1.symm (by rw [← e2]; exact X'.warmed.alike) hp hb k1 k2 k3 T' rfl X'
    exact ⟨t2, st t2 a1, b1⟩
  · obtain ⟨k1, k2, k3⟩ := vx_keep h0 e1 hS hAX hf hL hF
    obtain ⟨t2, a1, b1⟩ := kx E ce q u t T'.heap (locs ++ L) e1.symm (by rw [← e2]; exact X'.warmed.alike) hp hb k1 k2 k3 (by rw [e1]; exact hce) hcv hcl T' rfl X'
    exact ⟨t2, st.trans a1, b1⟩
theorem vx_callv {S SX : Type} {post : S → Prop} {px : SX → Prop} {B : S → State → Prop} {BX : String → SX → State → Prop} {AX : Nat → Prop} (hr : vx_Run p l e R s m args below meth c H locs cells slots mc ms (F0 m pc ls st0) rest (va_Qv post B A1 a) (vx_X px BX AX) free) (hS : va_S A0 H0 H locs) (hA : ∀ q, q < H.size → A1 q → A0 q) (hf : ∀ q, free q → A0 q) (hAX : ∀ q, q < H.size → AX q → A0 q)
    (kx : ∀ (E : String) (ce : Cell) (q9 : Addr) (u : SX) (t : State) (H1 : Heap) (locs1 : List Loc), t.heap = H1 → s.vm.Alike t.vm → px u → BX E u t → H.size ≤ H1.size → (∀ q : Nat, q < H.size → ¬ AX q → H1[q]? = H[q]?) → va_S A0 H0 H1 locs1 → H1[q9]? = some ce → ce.vm = .none → s.vm.findClass E = some ce.cls → vx_W p l e R s m args below meth c H1 locs1 (cells + mc) (slots + ms) Q (F0 m pc ls rest) q9)
    (kk : ∀ (u : S) (t : State) (H1 : Heap) (locs1 : List Loc), t.heap = H1 → s.vm.Alike t.vm → post u → B u t → H.size ≤ H1.size → (∀ q : Nat, q < H.size → ¬ A1 q → H1[q]? = H[q]?) → va_S A0 H0 H1 locs1 → W p l e R s m args below meth c H1 locs1 (cells + mc) (slots + ms) Q (F0 m (pc + 3) ls (rest))) : W p l e R s m args below meth c H locs cells slots Q (F0 m pc ls st0) := by
  intro T hT X
  rcases hr T hT X with ⟨v, st₀, t, T', L, h0, X', hL, e1, e2, ⟨⟨u, hv, hp, hb⟩, hF⟩, st⟩ | ⟨q, st₀, t, T', L, E, ce, h0, X', hL, e1, e2, ⟨u, hp, hb, hF⟩, hce, hcv, hcl, st⟩
  · cases hv
    obtain ⟨k1, k2, k3⟩ := vx_keep h0 e1 hS hA hf hL hF
    obtain ⟨t2, a1, b1⟩ := kk u t T'.heap (locs ++ L) e1.symm (by rw [← e2]; exact X'.warmed.alike) hp hb k1 k2 k3 T' rfl X'
    exact ⟨t2, st t2 a1, b1⟩
  · obtain ⟨k1, k2, k3⟩ := vx_keep h0 e1 hS hAX hf hL hF
    obtain ⟨t2, a1, b1⟩ := kx E ce q u t T'.heap (locs ++ L) e1.symm (by rw [← e2]; exact X'.warmed.alike) hp hb k1 k2 k3 (by rw [e1]; exact hce) hcv hcl T' rfl X'
    exact ⟨t2, st.trans a1, b1⟩
/-- caught by the row x of this method's table; the rows ahead don't take it -/
theorem vx_catch {own name : String} {E : String} {ce : Cell} {q : Addr} (hown : s.vm.findClass own = some m.cls) (pre : List ExceptionTableEntry) (x : ExceptionTableEntry) (suf : List ExceptionTableEntry) (hsplit : c.exceptionTable.toList = pre ++ x :: suf)
    (hpass : ∀ z ∈ pre, covers z pc = false ∨ (z.catchType ≠ 0 ∧ ∃ nm : String, (Cond.classLink own z.catchType nm).before args s = true ∧ va_Nc E nm s)) (hx : covers x pc = true) (h0 : x.catchType ≠ 0)
    (hlink : (Cond.classLink own x.catchType name).before args s = true) (hcast : (Cond.castable E name).before args s = true) (hcell : H[q]? = some ce) (hv : ce.vm = .none) (hcl : s.vm.findClass E = some ce.cls)
    (kk : W p l e R s m args below meth c H locs cells slots Q (F0 m x.handlerPc ls [.ref q])) : vx_W p l e R s m args below meth c H locs cells slots Q (F0 m pc ls rest) q := by
  intro T hT X
  have hpl : e.platform.magicAccessors = ({} : Platform).magicAccessors := by rw [X.admits.platform]
  obtain ⟨c3, c4, hc3, hc4, hasg⟩ := Cond.castable_spec hcast
  cases Option.some.inj (hc3.symm.trans hcl)
  obtain ⟨c5, hc5, hcl5⟩ := Cond.classLink_spec hown hlink e.platform hpl
  cases Option.some.inj (hc4.symm.trans hc5)
  obtain ⟨vm', X', st⟩ := X.thenCaughtThrough q (g := F0 m pc ls rest) rfl (Steps.refl _) (by rw [hT]; exact hcell) (by rw [hv]; rfl) (by obtain ⟨k9, h9, -⟩ := Vm.findClass_spec hcl; exact ⟨k9, h9⟩) pre x suf hsplit
    (fun z hz => by
      rcases hpass z hz with h | ⟨hz0, nm, hl1, hn1⟩
      · exact Or.inl h
      · obtain ⟨c6, hc6, hcl6⟩ := Cond.classLink_spec hown hl1 e.platform hpl
        obtain ⟨a8, b8, h1, h2, h3⟩ := hn1
        cases Option.some.inj (h1.symm.trans hcl)
        cases Option.some.inj (h2.symm.trans hc6)
        exact Or.inr ⟨hz0, _, hcl6, h3⟩) hx (Or.inr ⟨h0, c4, hcl5, hasg⟩)
  obtain ⟨t, a1, b1⟩ := kk (T.setVm vm') hT X'
  exact ⟨t, st.trans a1, b1⟩
end Rows
section Ends
variable {p : Program} {l : Launch} {e : Env} {R : Room} {s : State} {m : MethodId} {args : Array Value} {below : List Frame} {meth : Method} {c : Code} {H : Heap} {locs : List Loc} {cells slots : Nat} {Q : State → Prop}
variable {mc ms : Nat} {free : Addr → Prop} {A0 A1 : Nat → Prop} {H0 : Heap} {a : Array Value} {ls : Array Slot} {st0 rest : List Value}
variable {Qc : Array Value → State → Outcome → State → Prop} {XC : String → State → State → Prop}
/-- what a body that may throw owes at its end -/
def vx_MQ (below : List Frame) (Qc : Array Value → State → Outcome → State → Prop) (XC : String → State → State → Prop) (a : Array Value) (s : State) (mc ms : Nat) (free : Addr → Prop) : State → Prop := fun t =>
  ∃ o, t.status = .running ∧ Ended t below o ∧ vx_Q Qc XC mc ms free a s o t
theorem vx_ret {g : JFrame} {mc ms : Nat} (k : W p l e R s m args below meth c H locs cells slots (MQ below Qc args s mc ms free) g) : W p l e R s m args below meth c H locs cells slots (vx_MQ below Qc XC args s mc ms free) g := by
  intro T hT X
  obtain ⟨t, a1, o, b1, b2, b3, b4⟩ := k T hT X
  exact ⟨t, a1, o, b1, b2, Or.inl ⟨b3, b4⟩⟩
/-- not caught here: it goes on to the caller -/
theorem vx_widen {g : JFrame} {q : Addr} {k n : Nat} (h1 : cells ≤ k) (h2 : slots ≤ n) (kk : vx_W p l e R s m args below meth c H locs k n Q g q) : vx_W p l e R s m args below meth c H locs cells slots Q g q := fun T hT X => kk T hT (stand_widen X h1 h2)
theorem vx_out {pc : Nat} {E : String} {ce : Cell} {q : Addr} {mc ms : Nat} (hout : ∀ x ∈ c.exceptionTable.toList, covers x pc = false) (hlocks : meth.locks = false) (hcell : H[q]? = some ce) (hv : ce.vm = .none) (hcl : s.vm.findClass E = some ce.cls)
    (hx : ∀ t : State, t.heap = H → s.vm.Alike t.vm → XC E s t) (hf : ∀ z ∈ locs, free z.base) (hc : cells ≤ mc) (hs : slots ≤ ms) :
    vx_W p l e R s m args below meth c H locs cells slots (vx_MQ below Qc XC args s mc ms free) (F0 m pc ls rest) q := by
  intro T hT X
  obtain ⟨st1, hrun, hend, hW, hsm⟩ := X.leaveThrown q (g := F0 m pc ls rest) rfl rfl rfl hout hlocks
  have hcell9 : (T.setFrames (.throwing q :: below)).heap[q]? = some ce := by
    show T.heap[q]? = some ce
    rw [hT]; exact hcell
  exact ⟨_, st1, .threw q, hrun, hend, Or.inr ⟨q, rfl, E, ce, locs, hx _ hT hW.alike, hcell9, hv, hcl, hW, hsm.mono hc hs, hf⟩⟩
theorem vx_frame {U : State} {k n : Nat} (h : s.sameButNew ({ U with vm := s.vm } : State) locs k n) : s.heap.size ≤ U.heap.size ∧ ∀ q : Nat, q < s.heap.size → (∀ z ∈ locs, z.base ≠ q) → U.heap[q]? = s.heap[q]? := by
  obtain ⟨-, h2, -, -, -, h6⟩ := h
  refine ⟨h2, fun q hq hz => ?_⟩
  obtain ⟨c9, e1, e2, e3, e4⟩ := h6 q _ (Array.getElem?_eq_getElem hq)
  have hs : c9.slots = (s.heap[q]).slots := Array.ext_getElem? fun i => e4 i fun hm => hz _ hm rfl
  have h9 : c9 = s.heap[q] := by
    rw [hs] at e2
    exact e2
  have e5 : U.heap[q]? = some c9 := e1
  rw [e5, h9, Array.getElem?_eq_getElem hq]
/-- the words of a throw but the four that speak of the heap -/
def vx_no (w : Cond) : Bool := decide (w ≠ .isRef (.static Bundle.tN "UNASSIGNED_STACK" Bundle.steD)) && decide (w ≠ .isRef (.static Bundle.tN "SUPPRESSED_SENTINEL" Bundle.listD)) && decide (w ≠ .laysStatic Bundle.tN "UNASSIGNED_STACK" Bundle.steD) && decide (w ≠ .laysStatic Bundle.tN "SUPPRESSED_SENTINEL" Bundle.listD)
def vx_at0 (own : String) (ic : Nat) (X : String) (names : List String) : List Cond := (Bundle.ownAtoms0 own ic X names).filter vx_no
def vx_atS (own : String) (ic : Nat) (X : String) (names : List String) : List Cond := (Bundle.ownAtoms own ic X names).filter vx_no
/-- a word that the tables alone decide, or a good one -/
def vx_ot (w : Cond) : Bool := w.onTables || goodWord w
theorem vx_ot_at {args a' : Array Value} {s U : State} {w : Cond} (hW : s.WarmedH U.vm) (hvm : s.vm = U.vm) (hg : vx_ot w = true) (h : w.before args s = true) : w.before a' U = true := by
  simp only [vx_ot, Bool.or_eq_true] at hg
  rcases hg with hg | hg
  · exact va_tabs hg hvm h
  · exact word_at hW (good_of_word hg) h
/-- a list's words: the good ones out of the method's own list, the others by premises of their own -/
theorem vx_hat {args : Array Value} {s : State} {L B : List Cond} (h1 : ∀ w ∈ L.filter goodWord, w.before args s = true) (h2 : ∀ w ∈ L.filter (fun w => !goodWord w), w ∈ B) (h3 : ∀ w ∈ B, w.before args s = true) : ∀ w ∈ L, w.before args s = true := by
  intro w hw
  by_cases g : goodWord w = true
  · exact h1 w (List.mem_filter.mpr ⟨hw, g⟩)
  · refine h3 w (h2 w (List.mem_filter.mpr ⟨hw, ?_⟩))
    show (!goodWord w) = true
    cases hgw : goodWord w
    · rfl
    · exact absurd hgw g
theorem vx_c {args : Array Value} {s : State} {w : Cond} {B : List Cond} (h : w.before args s = true) (t : ∀ w ∈ B, w.before args s = true) : ∀ w' ∈ w :: B, w'.before args s = true := fun w' h' => (List.mem_cons.mp h').elim (fun e => by rw [e]; exact h) (t w')
theorem vx_n {args : Array Value} {s : State} : ∀ w ∈ ([] : List Cond), w.before args s = true := fun _ h => nomatch h
theorem vx_own {args : Array Value} {s : State} {L : List Cond} (h1 : ∀ w ∈ L.filter vx_no, w.before args s = true)
    (hU : (Cond.isRef (.static Bundle.tN "UNASSIGNED_STACK" Bundle.steD)).before args s = true) (hN : (Cond.isRef (.static Bundle.tN "SUPPRESSED_SENTINEL" Bundle.listD)).before args s = true)
    (lU : (Cond.laysStatic Bundle.tN "UNASSIGNED_STACK" Bundle.steD).before args s = true) (lN : (Cond.laysStatic Bundle.tN "SUPPRESSED_SENTINEL" Bundle.listD).before args s = true) : ∀ w ∈ L, w.before args s = true := by
  intro w hw
  by_cases e1 : w = .isRef (.static Bundle.tN "UNASSIGNED_STACK" Bundle.steD)
  · rw [e1]; exact hU
  · by_cases e2 : w = .isRef (.static Bundle.tN "SUPPRESSED_SENTINEL" Bundle.listD)
    · rw [e2]; exact hN
    · by_cases e3 : w = .laysStatic Bundle.tN "UNASSIGNED_STACK" Bundle.steD
      · rw [e3]; exact lU
      · by_cases e4 : w = .laysStatic Bundle.tN "SUPPRESSED_SENTINEL" Bundle.listD
        · rw [e4]; exact lN
        · exact h1 w (List.mem_filter.mpr ⟨hw, by unfold vx_no; rw [decide_eq_true e1, decide_eq_true e2, decide_eq_true e3, decide_eq_true e4]; rfl⟩)
/-- where a static field lies, its class's statics cell in H -/
def vx_L (C n d : String) (A : Nat → Prop) (U : State) (H : Heap) : Prop := ∃ (c : ClassId) (k : Class) (i : Nat) (f : Field) (a : Nat) (cell : Cell), U.vm.findClass C = some c ∧ U.fieldFound? C n d = some (c, k, i, f) ∧ f.isStatic = true ∧ k.statics = some a ∧ H[a]? = some cell ∧ cell.vm.isStatics = true ∧ cell.cls = c ∧ f.slot < cell.slots.size ∧ k.staticTypes[f.slot]? = some f.type ∧ ¬ A a
theorem vx_L.moved {C n d : String} {A : Nat → Prop} {u U : State} {H : Heap} (hvm : u.vm.Alike U.vm) (h : vx_L C n d A u H) : vx_L C n d A U H := by
  obtain ⟨c, k, i, f, a, cell, h1, h2, h3, h4, h5, h6, h7, h8, h9, h10⟩ := h
  obtain ⟨k', hi', he⟩ := State.fieldFound?_setVm hvm h2
  exact ⟨c, k', i, f, a, cell, by rw [hvm.findClass]; exact h1, hi', h3, by rw [he]; exact h4, h5, h6, h7, h8, by rw [he]; exact h9, h10⟩
theorem vx_L.kept {C n d : String} {A : Nat → Prop} {U : State} {H H1 : Heap} (h : vx_L C n d A U H) (hq : ∀ a : Nat, a < H.size → ¬ A a → H1[a]? = H[a]?) : vx_L C n d A U H1 := by
  obtain ⟨c, k, i, f, a, cell, h1, h2, h3, h4, h5, h6, h7, h8, h9, h10⟩ := h
  exact ⟨c, k, i, f, a, cell, h1, h2, h3, h4, by rw [hq a (Array.getElem?_eq_some_iff.mp h5).1 h10]; exact h5, h6, h7, h8, h9, h10⟩
theorem vx_L.narrow {C n d : String} {A B : Nat → Prop} {U : State} {H : Heap} (h : vx_L C n d A U H) (hAB : ∀ q, B q → A q) : vx_L C n d B U H := by
  obtain ⟨c, k, i, f, a, cell, h1, h2, h3, h4, h5, h6, h7, h8, h9, h10⟩ := h
  exact ⟨c, k, i, f, a, cell, h1, h2, h3, h4, h5, h6, h7, h8, h9, fun z => h10 (hAB _ z)⟩
theorem vx_L.word {C n d : String} {A : Nat → Prop} {s : State} {args : Array Value} (h : vx_L C n d A s s.heap) : (Cond.laysStatic C n d).before args s = true := by
  obtain ⟨c, k, i, f, a, cell, h1, h2, h3, h4, h5, h6, h7, h8, h9, -⟩ := h
  show (Cond.laysStatic C n d).holds args s none s [] = true
  exact Cond.laysStatic_of h1 h2 h3 h4 h5 h6 h7 h8 h9
/-- .. and what it holds: null or some reference -/
def vx_Zq (C n d : String) (A : Nat → Prop) (U : State) (H : Heap) : Prop := va_Zq C n d A U H ∧ vx_L C n d A U H
theorem vx_Zq.moved {C n d : String} {A : Nat → Prop} {u U : State} {H : Heap} (hvm : u.vm.Alike U.vm) (h : vx_Zq C n d A u H) : vx_Zq C n d A U H := ⟨va_Zq.moved hvm h.1, vx_L.moved hvm h.2⟩
theorem vx_Zq.kept {C n d : String} {A : Nat → Prop} {U : State} {H H1 : Heap} (h : vx_Zq C n d A U H) (hq : ∀ a : Nat, a < H.size → ¬ A a → H1[a]? = H[a]?) : vx_Zq C n d A U H1 := ⟨va_Zq.kept h.1 hq, vx_L.kept h.2 hq⟩
theorem vx_Zq.narrow {C n d : String} {A B : Nat → Prop} {U : State} {H : Heap} (h : vx_Zq C n d A U H) (hAB : ∀ q, B q → A q) : vx_Zq C n d B U H := ⟨va_Zq.narrow h.1 hAB, vx_L.narrow h.2 hAB⟩
theorem vx_Zqof {args : Array Value} {s : State} {C n d : String} {A : Nat → Prop} (hl : (Cond.laysStatic C n d).before args s = true) (hini : (Cond.initialized C).before args s = true) (h : (Cond.isRef (.static C n d)).before args s = true) (hA : ∀ a : Nat, a < s.heap.size → ¬ A a) : vx_Zq C n d A s s.heap := by
  refine ⟨va_Zqof hl hini h hA, ?_⟩
  obtain ⟨c, k, i, f, a, cell, h1, h2, h3, h4, h5, h6, h7, h8, h9⟩ := Cond.laysStatic_spec hl
  exact ⟨c, k, i, f, a, cell, h1, h2, h3, h4, h5, h6, h7, h8, h9, hA a (Array.getElem?_eq_some_iff.mp h5).1⟩
theorem vx_isRef {C n d : String} {v : Value} {A : Nat → Prop} {s : State} {args : Array Value} (h : va_Z C n d v A s s.heap) (hv : v.isRef = true) : (Cond.isRef (.static C n d)).before args s = true := by
  obtain ⟨cf, kf, fi, f, a, cell, h1, h2, h3, h4, h5, h6, h7, -⟩ := h
  have he : (Term.static C n d).eval args s none [] s = some v := by
    simp [Term.eval, State.fieldNamed?, h1, h2, h4, h5, h6, h7]
  simp only [Cond.before, Cond.holds, Cond.value, he]
  cases v <;> simp_all [Value.isRef]
theorem vx_isRefq {C n d : String} {A : Nat → Prop} {s : State} {args : Array Value} (h : va_Zq C n d A s s.heap) : (Cond.isRef (.static C n d)).before args s = true := by
  rcases h with h | ⟨t, h⟩
  · exact vx_isRef h rfl
  · exact vx_isRef h rfl
/-- the same frame, seen from here: as if the method were called anew in this heap -/
theorem vx_rebase {T : State} (X : Stand p l e R s m args below meth c T locs cells slots) {R' : Room} (hf : R'.frames ≤ R.frames) (hl : R'.locals ≤ R.locals) (hc : cells + R'.cells ≤ R.cells) (hs : slots + R'.slots ≤ R.slots) :
    Stand p l e R' ((T.setVm s.vm).setFrames (.invoking m args :: below)) m args below meth c T [] 0 0 := by
  have htop : (T.setVm s.vm).topJava?.isSome := X.here.top
  have hF : ((T.setVm s.vm).setFrames (.invoking m args :: below)).frames = .invoking m args :: below := State.frames_setFrames _ (State.cur_lt_of_top htop)
  obtain ⟨g₀, hg0⟩ := Option.isSome_iff_exists.mp htop
  obtain ⟨r, hr⟩ := State.topJava?_eq_some.mp hg0
  have hl9 : e.platform.stackLimits (T.setVm s.vm).me = e.platform.stackLimits s.me := X.limits
  have hb9 : (T.setVm s.vm).me.stackBytes = s.me.stackBytes := X.bytes
  refine ⟨X.admits, X.cas, X.clock, hF, ?_, X.hears, X.method, X.code, X.here, X.tail, X.warmed, ?_, ?_, ?_⟩
  · have h := X.room
    have hU : ((T.setVm s.vm).setFrames (.invoking m args :: below)).localsInUse = s.localsInUse := by
      rw [State.localsInUse_invoking hF (meth := meth) (c := c) X.method X.code, State.localsInUse_invoking X.frames X.method X.code]
    simp only [State.hasRoom, Bool.and_eq_true, decide_eq_true_eq] at h ⊢
    obtain ⟨⟨⟨⟨h1, h2, h3, h4, h5, h6⟩, h7⟩, h8⟩, h9⟩ := h
    rw [X.frames, List.length_cons] at h2 h3
    have q1 := X.heapSize
    have q2 := X.used
    simp only [hF, hU, List.length_cons, State.stackLimits_setFrames, State.stackBytes_setFrames, hl9, hb9]
    refine ⟨⟨⟨⟨by omega, by omega, by omega, by omega, by omega, h6⟩, ?_⟩, ?_⟩, X.book⟩
    · show T.heap.size + R'.cells ≤ e.platform.maxCells
      omega
    · show T.slotsUsed + R'.slots ≤ e.platform.maxSlots
      omega
  · rw [State.stackLimits_setFrames]; rfl
  · rw [State.stackBytes_setFrames]; rfl
  · refine ⟨?_, Nat.le_refl _, Nat.le_refl _, ?_, ?_, fun a c9 h9 => ⟨c9, h9, rfl, rfl, fun _ _ => rfl⟩⟩
    · obtain ⟨t, ht, -⟩ := State.frames_cons hr
      show T.setVm s.vm = { ((T.setVm s.vm).setFrames (.invoking m args :: below)).setFrames (T.setVm s.vm).frames with heap := T.heap, slotsUsed := T.slotsUsed }
      rw [State.setFrames_setFrames, State.setFrames_self ht]
      rfl
    · show T.slotsUsed = T.slotsUsed + ((T.heap.toList.drop T.heap.size).map (·.slots.size)).sum
      rw [List.drop_eq_nil_of_le (Nat.le_of_eq Array.length_toList)]
      rfl
    · show ((T.heap.toList.drop T.heap.size).map (·.slots.size)).sum ≤ 0
      rw [List.drop_eq_nil_of_le (Nat.le_of_eq Array.length_toList)]
      exact Nat.le_refl _
/-- 'throw new E()': new; dup; invokespecial; athrow -/
theorem vx_throw0 {cc : ByteArray} {pc : Nat} (hexec : p.tables.exec = Jvm.exec) (hb : c.code = cc) (hl : l.stackTraces = false) {own cls : String} {names : List String} {ik ic mc ms : Nat} {A : Nat → Prop}
    (hown : s.vm.findClass own = some m.cls) (hcls : Bundle.fit cls = true) (hnames : ∀ n ∈ names, Bundle.fit n = true)
    (hk : (Cond.classLink own ik cls).before args s = true) (hini : (Cond.initialized cls).before args s = true) (hat : ∀ w ∈ vx_at0 own ic cls names, w.before args s = true)
    (hgood : ∀ w ∈ Cond.classLink own ik cls :: Cond.initialized cls :: vx_at0 own ic cls names, vx_ot w = true)
    (hU : vx_Zq Bundle.tN "UNASSIGNED_STACK" Bundle.steD A s s.heap) (hN : vx_Zq Bundle.tN "SUPPRESSED_SENTINEL" Bundle.listD A s s.heap) (hS : va_S A s.heap H locs) (hsize : ls.size = c.maxLocals)
    (d0 : decode cc pc = .ok (.new ik, 3)) (d3 : decode cc (pc + 3) = .ok (.dup, 1)) (d4 : decode cc (pc + 4) = .ok (.invokespecial ic, 3)) (d7 : decode cc (pc + 7) = .ok (.athrow, 1))
    (hout : ∀ x ∈ c.exceptionTable.toList, covers x (pc + 7) = false)
    (hRframes : names.length + 3 < R.frames) (hRlocals : (rest.map fun v => v.category).sum + (13 * (names.length + 1) + 42) ≤ R.locals) (hRcells : cells + 1 ≤ R.cells) (hRslots : slots + 6 ≤ R.slots) (hlocks : meth.locks = false)
    (hx : ∀ t : State, s.vm.Alike t.vm → H.size ≤ t.heap.size → (∀ q : Nat, q < H.size → t.heap[q]? = H[q]?) → XC cls s t)
    (hf : ∀ z ∈ locs, free z.base) (hc : cells + 1 ≤ mc) (hs : slots + 6 ≤ ms) :
    W p l e R s m args below meth c H locs cells slots (vx_MQ below Qc XC args s mc ms free) (F0 m pc ls rest) := by
  intro T hT X
  have htr : e.platform.stackTraces = false := (show e.platform.stackTraces = l.stackTraces by rw [X.admits.platform]).trans hl
  have Y := vx_rebase X (R' := { frames := R.frames, locals := R.locals, cells := 1, slots := 6 }) (Nat.le_refl _) (Nat.le_refl _) hRcells hRslots
  obtain ⟨s', hA⟩ : ∃ z, z = (T.setVm s.vm).setFrames (.invoking m args :: below) := ⟨_, rfl⟩
  rw [← hA] at Y
  have hvm : s'.vm = s.vm := by rw [hA]; rfl
  have hhp : s'.heap = H := by rw [hA]; exact hT
  have hW0 : s.WarmedH s'.vm := by rw [hvm]; exact State.WarmedH.refl s
  have hat' : ∀ w ∈ vx_at0 own ic cls names, w.before args s' = true := fun w hw => vx_ot_at hW0 hvm.symm (hgood w (List.mem_cons_of_mem _ (List.mem_cons_of_mem _ hw))) (hat w hw)
  have hk' : (Cond.classLink own ik cls).before args s' = true := vx_ot_at hW0 hvm.symm (hgood _ List.mem_cons_self) hk
  have hini' : (Cond.initialized cls).before args s' = true := vx_ot_at hW0 hvm.symm (hgood _ (List.mem_cons_of_mem _ List.mem_cons_self)) hini
  have hU' : vx_Zq Bundle.tN "UNASSIGNED_STACK" Bundle.steD A s' s'.heap := by rw [hhp]; exact vx_Zq.moved hW0.alike (hU.kept hS.2.1)
  have hN' : vx_Zq Bundle.tN "SUPPRESSED_SENTINEL" Bundle.listD A s' s'.heap := by rw [hhp]; exact vx_Zq.moved hW0.alike (hN.kept hS.2.1)
  have h : ∀ w ∈ Bundle.ownAtoms0 own ic cls names, w.before args s' = true := vx_own hat' (vx_isRefq hU'.1) (vx_isRefq hN'.1) hU'.2.word hN'.2.word
  have hown' : s'.vm.findClass own = some m.cls := by rw [hvm]; exact hown
  have hins : (Cond.instantiable cls 6).before args s' = true := h _ (by simp [Bundle.ownAtoms0])
  obtain ⟨vm₁, cX, kX, hfX, hkX, -, -, X₁, st1⟩ := Y.newCold hexec (own := own) (C := cls) (index := ik) (n := 6) hown' hk' hins hini'
    (g := F0 m pc ls rest) rfl (by rw [hb]; exact d0) (Nat.le_refl _) (Nat.le_refl _)
  generalize hT1 : (T.setVm vm₁).pushCell { cls := cX, slots := kX.instanceTypes.map defaultValue, vm := .none } = T1 at X₁ st1
  have hcat : (Value.ref T.heap.size).category = 1 := rfl
  have hcellA : T1.heap[T.heap.size]? = some (freshCell cX kX) := by rw [← hT1]; exact State.heap_pushCell_size _ _
  have d3' : decode c.code (pc + 3) = .ok (.dup, 1) := by rw [hb]; exact d3
  obtain ⟨U, hsteps, hrun, hend, hW, hsame, ce, hce, hO⟩ := X₁.ctorThrow0 hexec htr (own := own) (cls := cls) (names := names) (ic := ic) hown' hcls hnames h (fun x hx => nomatch hx) hfX hkX hcellA (by rw [hhp, hT]; exact Nat.le_refl _)
    (g := { method := m, pc := pc + 4, locals := ls, stack := .ref T.heap.size :: .ref T.heap.size :: rest, locked := none }) rfl hsize rfl rfl (rest := rest) rfl
    (by rw [hb]; exact d4) (by rw [hb]; exact d7) hout hRframes (by simp only [List.map_cons, List.sum_cons, hcat]; omega) hlocks
  obtain ⟨f1, f2⟩ := vx_frame hsame
  rw [hhp] at f1 f2
  have hWs : s.WarmedH U.vm := State.WarmedH.trans hW0 hW
  have hcl : s.vm.findClass cls = some ce.cls := by
    have h9 := hO.cls
    rw [hvm] at h9
    exact h9
  have hall : s.sameButNew ({ U with vm := s.vm } : State) locs mc ms := by
    subst hA
    obtain ⟨e1, e2⟩ := hsame
    rw [State.setFrames_setFrames] at e1
    have h2 : (T.setVm s.vm).sameButNew ({ U with vm := s.vm } : State) [] (0 + 1) (0 + 6) := ⟨e1, e2⟩
    have h3 := X.same.trans h2
    rw [List.append_nil] at h3
    exact h3.mono hc hs
  refine ⟨U, ?_, .threw T.heap.size, hrun, hend, Or.inr ⟨T.heap.size, rfl, cls, ce, locs, hx U hWs.alike f1 (fun q hq => f2 q hq (fun z hz => nomatch hz)), hce, hO.vm, hcl, hWs, hall, hf⟩⟩
  refine st1 _ ?_
  show Steps p.tables e below (T1.setTop { method := m, pc := pc + 3, locals := ls, stack := .ref T.heap.size :: rest, locked := none }) _
  jvm_step X₁.here [X₁.here.top, hexec, d3', Value.category]
  exact hsteps
/-- 'throw new E("text")': new; dup; ldc; invokespecial; athrow -/
theorem vx_throwS {cc : ByteArray} {pc : Nat} (hexec : p.tables.exec = Jvm.exec) (hb : c.code = cc) (hl : l.stackTraces = false) {own cls text : String} {names : List String} {ik is ic mc ms sa : Nat} {A : Nat → Prop}
    (hown : s.vm.findClass own = some m.cls) (hcls : Bundle.fit cls = true) (hnames : ∀ n ∈ names, Bundle.fit n = true)
    (hk : (Cond.classLink own ik cls).before args s = true) (hini : (Cond.initialized cls).before args s = true) (hstr : vk_R own is text sa s) (hat : ∀ w ∈ vx_atS own ic cls names, w.before args s = true)
    (hgood : ∀ w ∈ Cond.classLink own ik cls :: Cond.initialized cls :: vx_atS own ic cls names, vx_ot w = true)
    (hU : vx_Zq Bundle.tN "UNASSIGNED_STACK" Bundle.steD A s s.heap) (hN : vx_Zq Bundle.tN "SUPPRESSED_SENTINEL" Bundle.listD A s s.heap) (hS : va_S A s.heap H locs) (hsize : ls.size = c.maxLocals)
    (d0 : decode cc pc = .ok (.new ik, 3)) (d3 : decode cc (pc + 3) = .ok (.dup, 1)) (d4 : decode cc (pc + 4) = .ok (.ldc is, 2)) (d6 : decode cc (pc + 6) = .ok (.invokespecial ic, 3)) (d9 : decode cc (pc + 9) = .ok (.athrow, 1))
    (hout : ∀ x ∈ c.exceptionTable.toList, covers x (pc + 9) = false)
    (hRframes : names.length + 3 < R.frames) (hRlocals : (rest.map fun v => v.category).sum + (13 * (names.length + 1) + 43) ≤ R.locals) (hRcells : cells + 1 ≤ R.cells) (hRslots : slots + 6 ≤ R.slots) (hlocks : meth.locks = false)
    (hx : ∀ t : State, s.vm.Alike t.vm → H.size ≤ t.heap.size → (∀ q : Nat, q < H.size → t.heap[q]? = H[q]?) → XC cls s t)
    (hf : ∀ z ∈ locs, free z.base) (hc : cells + 1 ≤ mc) (hs : slots + 6 ≤ ms) :
    W p l e R s m args below meth c H locs cells slots (vx_MQ below Qc XC args s mc ms free) (F0 m pc ls rest) := by
  intro T hT X
  have htr : e.platform.stackTraces = false := (show e.platform.stackTraces = l.stackTraces by rw [X.admits.platform]).trans hl
  have Y := vx_rebase X (R' := { frames := R.frames, locals := R.locals, cells := 1, slots := 6 }) (Nat.le_refl _) (Nat.le_refl _) hRcells hRslots
  obtain ⟨s', hA⟩ : ∃ z, z = (T.setVm s.vm).setFrames (.invoking m args :: below) := ⟨_, rfl⟩
  rw [← hA] at Y
  have hvm : s'.vm = s.vm := by rw [hA]; rfl
  have hhp : s'.heap = H := by rw [hA]; exact hT
  have hW0 : s.WarmedH s'.vm := by rw [hvm]; exact State.WarmedH.refl s
  have hat' : ∀ w ∈ vx_atS own ic cls names, w.before args s' = true := fun w hw => vx_ot_at hW0 hvm.symm (hgood w (List.mem_cons_of_mem _ (List.mem_cons_of_mem _ hw))) (hat w hw)
  have hk' : (Cond.classLink own ik cls).before args s' = true := vx_ot_at hW0 hvm.symm (hgood _ List.mem_cons_self) hk
  have hini' : (Cond.initialized cls).before args s' = true := vx_ot_at hW0 hvm.symm (hgood _ (List.mem_cons_of_mem _ List.mem_cons_self)) hini
  have hU' : vx_Zq Bundle.tN "UNASSIGNED_STACK" Bundle.steD A s' s'.heap := by rw [hhp]; exact vx_Zq.moved hW0.alike (hU.kept hS.2.1)
  have hN' : vx_Zq Bundle.tN "SUPPRESSED_SENTINEL" Bundle.listD A s' s'.heap := by rw [hhp]; exact vx_Zq.moved hW0.alike (hN.kept hS.2.1)
  have h : ∀ w ∈ Bundle.ownAtoms own ic cls names, w.before args s' = true := vx_own hat' (vx_isRefq hU'.1) (vx_isRefq hN'.1) hU'.2.word hN'.2.word
  have hown' : s'.vm.findClass own = some m.cls := by rw [hvm]; exact hown
  have hins : (Cond.instantiable cls 6).before args s' = true := h _ (by simp [Bundle.ownAtoms])
  obtain ⟨vm₁, cX, kX, hfX, hkX, -, -, X₁, st1⟩ := Y.newCold hexec (own := own) (C := cls) (index := ik) (n := 6) hown' hk' hins hini'
    (g := F0 m pc ls rest) rfl (by rw [hb]; exact d0) (Nat.le_refl _) (Nat.le_refl _)
  generalize hT1 : (T.setVm vm₁).pushCell { cls := cX, slots := kX.instanceTypes.map defaultValue, vm := .none } = T1 at X₁ st1
  have hcat : (Value.ref T.heap.size).category = 1 := rfl
  have hcellA : T1.heap[T.heap.size]? = some (freshCell cX kX) := by rw [← hT1]; exact State.heap_pushCell_size _ _
  have d3' : decode c.code (pc + 3) = .ok (.dup, 1) := by rw [hb]; exact d3
  have d4' : decode c.code (pc + 4) = .ok (.ldc is, 2) := by rw [hb]; exact d4
  have hstr' : vk_R own is text sa s' := vk_R.warm hW0 hstr
  obtain ⟨U, hsteps, hrun, hend, hW, hsame, ce, hce, hO⟩ := X₁.ctorThrowS hexec htr (own := own) (cls := cls) (names := names) (ic := ic) hown' hcls hnames h (fun x hx => nomatch hx) hfX hkX hcellA (by rw [hhp, hT]; exact Nat.le_refl _) (msg := .ref sa) rfl
    (g := { method := m, pc := pc + 6, locals := ls, stack := .ref sa :: .ref T.heap.size :: .ref T.heap.size :: rest, locked := none }) rfl hsize rfl rfl (rest := rest) rfl
    (by rw [hb]; exact d6) (by rw [hb]; exact d9) hout hRframes (by simp only [List.map_cons, List.sum_cons, hcat]; omega) hlocks
  obtain ⟨f1, f2⟩ := vx_frame hsame
  rw [hhp] at f1 f2
  have hWs : s.WarmedH U.vm := State.WarmedH.trans hW0 hW
  have hcl : s.vm.findClass cls = some ce.cls := by
    have h9 := hO.cls
    rw [hvm] at h9
    exact h9
  have hall : s.sameButNew ({ U with vm := s.vm } : State) locs mc ms := by
    subst hA
    obtain ⟨e1, e2⟩ := hsame
    rw [State.setFrames_setFrames] at e1
    have h2 : (T.setVm s.vm).sameButNew ({ U with vm := s.vm } : State) [] (0 + 1) (0 + 6) := ⟨e1, e2⟩
    have h3 := X.same.trans h2
    rw [List.append_nil] at h3
    exact h3.mono hc hs
  refine ⟨U, ?_, .threw T.heap.size, hrun, hend, Or.inr ⟨T.heap.size, rfl, cls, ce, locs, hx U hWs.alike f1 (fun q hq => f2 q hq (fun z hz => nomatch hz)), hce, hO.vm, hcl, hWs, hall, hf⟩⟩
  refine st1 _ ?_
  show Steps p.tables e below (T1.setTop { method := m, pc := pc + 3, locals := ls, stack := .ref T.heap.size :: rest, locked := none }) _
  jvm_step X₁.here [X₁.here.top, hexec, d3', Value.category]
  exact X₁.ldcString hexec (own := own) (text := text) (index := is) (a := sa) hown' hstr'.1 hstr'.2
    (g := { method := m, pc := pc + 4, locals := ls, stack := .ref T.heap.size :: .ref T.heap.size :: rest, locked := none }) rfl d4' _ hsteps
/-- 'throw new E("text")', the text by a wide index -/
theorem vx_throwSW {cc : ByteArray} {pc : Nat} (hexec : p.tables.exec = Jvm.exec) (hb : c.code = cc) (hl : l.stackTraces = false) {own cls text : String} {names : List String} {ik is ic mc ms sa : Nat} {A : Nat → Prop}
    (hown : s.vm.findClass own = some m.cls) (hcls : Bundle.fit cls = true) (hnames : ∀ n ∈ names, Bundle.fit n = true)
    (hk : (Cond.classLink own ik cls).before args s = true) (hini : (Cond.initialized cls).before args s = true) (hstr : vk_R own is text sa s) (hat : ∀ w ∈ vx_atS own ic cls names, w.before args s = true)
    (hgood : ∀ w ∈ Cond.classLink own ik cls :: Cond.initialized cls :: vx_atS own ic cls names, vx_ot w = true)
    (hU : vx_Zq Bundle.tN "UNASSIGNED_STACK" Bundle.steD A s s.heap) (hN : vx_Zq Bundle.tN "SUPPRESSED_SENTINEL" Bundle.listD A s s.heap) (hS : va_S A s.heap H locs) (hsize : ls.size = c.maxLocals)
    (d0 : decode cc pc = .ok (.new ik, 3)) (d3 : decode cc (pc + 3) = .ok (.dup, 1)) (d4 : decode cc (pc + 4) = .ok (.ldc_w is, 3)) (d7 : decode cc (pc + 7) = .ok (.invokespecial ic, 3)) (d10 : decode cc (pc + 10) = .ok (.athrow, 1))
    (hout : ∀ x ∈ c.exceptionTable.toList, covers x (pc + 10) = false)
    (hRframes : names.length + 3 < R.frames) (hRlocals : (rest.map fun v => v.category).sum + (13 * (names.length + 1) + 43) ≤ R.locals) (hRcells : cells + 1 ≤ R.cells) (hRslots : slots + 6 ≤ R.slots) (hlocks : meth.locks = false)
    (hx : ∀ t : State, s.vm.Alike t.vm → H.size ≤ t.heap.size → (∀ q : Nat, q < H.size → t.heap[q]? = H[q]?) → XC cls s t)
    (hf : ∀ z ∈ locs, free z.base) (hc : cells + 1 ≤ mc) (hs : slots + 6 ≤ ms) :
    W p l e R s m args below meth c H locs cells slots (vx_MQ below Qc XC args s mc ms free) (F0 m pc ls rest) := by
  intro T hT X
  have htr : e.platform.stackTraces = false := (show e.platform.stackTraces = l.stackTraces by rw [X.admits.platform]).trans hl
  have Y := vx_rebase X (R' := { frames := R.frames, locals := R.locals, cells := 1, slots := 6 }) (Nat.le_refl _) (Nat.le_refl _) hRcells hRslots
  obtain ⟨s', hA⟩ : ∃ z, z = (T.setVm s.vm).setFrames (.invoking m args :: below) := ⟨_, rfl⟩
  rw [← hA] at Y
  have hvm : s'.vm = s.vm := by rw [hA]; rfl
  have hhp : s'.heap = H := by rw [hA]; exact hT
  have hW0 : s.WarmedH s'.vm := by rw [hvm]; exact State.WarmedH.refl s
  have hat' : ∀ w ∈ vx_atS own ic cls names, w.before args s' = true := fun w hw => vx_ot_at hW0 hvm.symm (hgood w (List.mem_cons_of_mem _ (List.mem_cons_of_mem _ hw))) (hat w hw)
  have hk' : (Cond.classLink own ik cls).before args s' = true := vx_ot_at hW0 hvm.symm (hgood _ List.mem_cons_self) hk
  have hini' : (Cond.initialized cls).before args s' = true := vx_ot_at hW0 hvm.symm (hgood _ (List.mem_cons_of_mem _ List.mem_cons_self)) hini
  have hU' : vx_Zq Bundle.tN "UNASSIGNED_STACK" Bundle.steD A s' s'.heap := by rw [hhp]; exact vx_Zq.moved hW0.alike (hU.kept hS.2.1)
  have hN' : vx_Zq Bundle.tN "SUPPRESSED_SENTINEL" Bundle.listD A s' s'.heap := by rw [hhp]; exact vx_Zq.moved hW0.alike (hN.kept hS.2.1)
  have h : ∀ w ∈ Bundle.ownAtoms own ic cls names, w.before args s' = true := vx_own hat' (vx_isRefq hU'.1) (vx_isRefq hN'.1) hU'.2.word hN'.2.word
  have hown' : s'.vm.findClass own = some m.cls := by rw [hvm]; exact hown
  have hins : (Cond.instantiable cls 6).before args s' = true := h _ (by simp [Bundle.ownAtoms])
  obtain ⟨vm₁, cX, kX, hfX, hkX, -, -, X₁, st1⟩ := Y.newCold hexec (own := own) (C := cls) (index := ik) (n := 6) hown' hk' hins hini'
    (g := F0 m pc ls rest) rfl (by rw [hb]; exact d0) (Nat.le_refl _) (Nat.le_refl _)
  generalize hT1 : (T.setVm vm₁).pushCell { cls := cX, slots := kX.instanceTypes.map defaultValue, vm := .none } = T1 at X₁ st1
  have hcat : (Value.ref T.heap.size).category = 1 := rfl
  have hcellA : T1.heap[T.heap.size]? = some (freshCell cX kX) := by rw [← hT1]; exact State.heap_pushCell_size _ _
  have d3' : decode c.code (pc + 3) = .ok (.dup, 1) := by rw [hb]; exact d3
  have d4' : decode c.code (pc + 4) = .ok (.ldc_w is, 3) := by rw [hb]; exact d4
  have hstr' : vk_R own is text sa s' := vk_R.warm hW0 hstr
  obtain ⟨U, hsteps, hrun, hend, hW, hsame, ce, hce, hO⟩ := X₁.ctorThrowS hexec htr (own := own) (cls := cls) (names := names) (ic := ic) hown' hcls hnames h (fun x hx => nomatch hx) hfX hkX hcellA (by rw [hhp, hT]; exact Nat.le_refl _) (msg := .ref sa) rfl
    (g := { method := m, pc := pc + 7, locals := ls, stack := .ref sa :: .ref T.heap.size :: .ref T.heap.size :: rest, locked := none }) rfl hsize rfl rfl (rest := rest) rfl
    (by rw [hb]; exact d7) (by rw [hb]; exact d10) hout hRframes (by simp only [List.map_cons, List.sum_cons, hcat]; omega) hlocks
  obtain ⟨f1, f2⟩ := vx_frame hsame
  rw [hhp] at f1 f2
  have hWs : s.WarmedH U.vm := State.WarmedH.trans hW0 hW
  have hcl : s.vm.findClass cls = some ce.cls := by
    have h9 := hO.cls
    rw [hvm] at h9
    exact h9
  have hall : s.sameButNew ({ U with vm := s.vm } : State) locs mc ms := by
    subst hA
    obtain ⟨e1, e2⟩ := hsame
    rw [State.setFrames_setFrames] at e1
    have h2 : (T.setVm s.vm).sameButNew ({ U with vm := s.vm } : State) [] (0 + 1) (0 + 6) := ⟨e1, e2⟩
    have h3 := X.same.trans h2
    rw [List.append_nil] at h3
    exact h3.mono hc hs
  refine ⟨U, ?_, .threw T.heap.size, hrun, hend, Or.inr ⟨T.heap.size, rfl, cls, ce, locs, hx U hWs.alike f1 (fun q hq => f2 q hq (fun z hz => nomatch hz)), hce, hO.vm, hcl, hWs, hall, hf⟩⟩
  refine st1 _ ?_
  show Steps p.tables e below (T1.setTop { method := m, pc := pc + 3, locals := ls, stack := .ref T.heap.size :: rest, locked := none }) _
  jvm_step X₁.here [X₁.here.top, hexec, d3', Value.category]
  exact X₁.ldcStringW hexec (own := own) (text := text) (index := is) (a := sa) hown' hstr'.1 hstr'.2
    (g := { method := m, pc := pc + 4, locals := ls, stack := .ref T.heap.size :: .ref T.heap.size :: rest, locked := none }) rfl d4' _ hsteps
end Ends
section Bodies
variable {l : Launch}
theorem vx_ofW {y : MethodName} {ws ws' : List Cond} {rm : Room} {Pc : Array Value → State → Prop} {Qc : Array Value → State → Outcome → State → Prop} {XC : String → State → State → Prop} {mc ms : Nat} {free : Addr → Prop} {cc : ByteArray} {maxL : Nat} {ret : Option FieldType}
    (hy : plainName y.cls = true) (hw : ws = Cond.code y cc maxL ret :: ws')
    (body : ∀ p e s m args below meth c s₁, BodyLoose p l y (headSpec ws rm) cc maxL ret e s m args below meth c s₁ → c.maxLocals = maxL → (∀ x ∈ c.exceptionTable.toList, False) → Pc args s →
      W p l e (headSpec ws rm).room s m args below meth c s.heap [] 0 0 (vx_MQ below Qc XC args s mc ms free) (entryFrame m args maxL)) : vx_Met l y ws rm Pc Qc XC mc ms free := by
  refine MetFree.of_bodyS (code := cc) (maxLocals := maxL) (ret := ret) hy ?_ ?_
  · intro args s m h hn
    obtain ⟨meth, c, h1, h2, h3, h4, h5, h6, -, -⟩ := Cond.code_spec hn (atoms_spec (ws := ws) h _ (by rw [hw]; exact List.mem_cons_self))
    exact ⟨meth, c, h1, h2, h3, h4, h5, h6⟩
  · intro p e s m args below meth c s₁ B hml hP _
    have hh0 : s₁.heap = s.heap := by rw [B.state]; rfl
    have ht : ∀ x ∈ c.exceptionTable.toList, False := by
      obtain ⟨meth9, c9, h1, h2, -, -, -, -, h7, -⟩ := Cond.code_spec B.named (atoms_spec (ws := ws) B.pre _ (by rw [hw]; exact List.mem_cons_self))
      cases Option.some.inj (h1.symm.trans B.method)
      cases Option.some.inj (h2.symm.trans (Stand.of_body B).code)
      intro x hx
      rw [Array.isEmpty_iff.mp h7] at hx
      cases hx
    obtain ⟨t, a1, o, b1, b2, b3⟩ := body p e s m args below meth c s₁ B hml ht hP s₁ hh0 (Stand.of_body B)
    exact ⟨t, o, a1, b1, b2, b3⟩
/-- the table of a body with handlers -/
theorem vx_table {p : Program} {x y : MethodName} {S : Spec} {cc bytes : ByteArray} {maxL maxL' : Nat} {ret ret' : Option FieldType} {e : Env} {s s₁ : State} {m : MethodId} {args : Array Value} {below : List Frame} {meth : Method} {c : Code} {hh : List (Nat × Nat × Nat × Nat)}
    (B : BodyLoose p l y S cc maxL ret e s m args below meth c s₁) (h : (Cond.codeWith y bytes maxL' ret' hh).before args s = true) : c.exceptionTable.toList = tableOf hh := by
  obtain ⟨m9, meth9, c9, hn9, h1, h2, -, -, h6, -⟩ := Cond.codeWith_spec h
  cases Option.some.inj (hn9.symm.trans B.named)
  cases Option.some.inj (h1.symm.trans B.method)
  cases Option.some.inj (h2.symm.trans (Stand.of_body B).code)
  rw [← h6, table_eq]
end Bodies
end VXA
/-! ===== END ===== -/
/-! ===== BEGIN a static call of a method with an exception table ===== -/
section VXS
variable {p : Program} {l : Launch} {e : Env} {R : Room} {s : State} {m : MethodId} {args : Array Value} {below : List Frame} {meth : Method} {c : Code} {T : State} {H : Heap} {locs : List Loc} {cells slots : Nat}
abbrev vx_CSW (R : Room) (s : State) (args : Array Value) (own : String) (index : Nat) (y : MethodName) (bytes : ByteArray) (maxL : Nat) (ret : Option FieldType) (hh : List (Nat × Nat × Nat × Nat)) (ws : List Cond) (rm : Room) (mc ms n : Nat) : Prop :=
  (rm.cells = mc ∧ rm.slots = ms ∧ rm.frames + 1 ≤ R.frames ∧ 8 + (maxL + 11) + rm.locals ≤ R.locals ∧ (∀ w ∈ ws, ∀ (a' : Array Value) (U : State), s.WarmedH U.vm → w.before a' U = true) ∧ Cond.codeWith y bytes maxL ret hh ∈ ws) ∧
  (Cond.codeWith y bytes maxL ret hh).before args s = true ∧ (Cond.initialized y.cls).before args s = true ∧ (y.cls ≠ "java/lang/invoke/MethodHandle" ∧ y.cls ≠ "java/lang/invoke/VarHandle") ∧
  (∀ sig, parseMethodDescriptor y.desc = some sig → n = sig.parameters.length) ∧ (Cond.methodLink own index y).before args s = true ∧ (Cond.static y).before args s = true
theorem vx_cwSW {own : String} {index maxL mc ms : Nat} {y : MethodName} {bytes : ByteArray} {ret : Option FieldType} {hh : List (Nat × Nat × Nat × Nat)} {Ts ws ws' : List Cond} {rm : Room} (n : Nat) (ht : ∀ w ∈ Ts, w.before args s = true) (hT : GoodIn Ts (va_wsS own index y ws)) (hw : ws = Cond.codeWith y bytes maxL ret hh :: ws') (hrc : rm.cells = mc) (hrs : rm.slots = ms)
    (hd : y.cls ≠ "java/lang/invoke/MethodHandle" ∧ y.cls ≠ "java/lang/invoke/VarHandle" ∧ (parseMethodDescriptor y.desc).map (fun d => d.parameters.length) = some n) (hR : rm.frames + 1 ≤ R.frames ∧ 8 + (maxL + 11) + rm.locals ≤ R.locals) :
    vx_CSW R s args own index y bytes maxL ret hh ws rm mc ms n := by
  have ok : ∀ w ∈ va_wsS own index y ws, w.before args s = true := fun w h => ht w (hT w h).1
  have hG : GoodIn Ts ws := fun w h => hT w (by unfold va_wsS; exact List.mem_append_right _ h)
  have hc : Cond.codeWith y bytes maxL ret hh ∈ ws := by rw [hw]; exact List.mem_cons_self
  refine ⟨⟨hrc, hrs, hR.1, hR.2, pay_in ht hG, hc⟩, ht _ (hG _ hc).1, ok _ (by simp [va_wsS]), ⟨hd.1, hd.2.1⟩, fun sig h => ?_, ok _ (by simp [va_wsS]), ok _ (by simp [va_wsS])⟩
  have h2 := hd.2.2
  rw [h] at h2
  exact (Option.some.inj h2).symm
theorem vx_callSW (X : Stand p l e R s m args below meth c T locs cells slots) (hexec : p.tables.exec = Jvm.exec) {own : String} {index : Nat} {y : MethodName} {bytes : ByteArray} {maxL : Nat} {ret : Option FieldType} {hh : List (Nat × Nat × Nat × Nat)}
    (hown : s.vm.findClass own = some m.cls) (hlink : (Cond.methodLink own index y).before args s = true) (hstat : (Cond.static y).before args s = true) (hinit : (Cond.initialized y.cls).before args s = true)
    (hcode : (Cond.codeWith y bytes maxL ret hh).before args s = true) (hy : y.cls ≠ "java/lang/invoke/MethodHandle" ∧ y.cls ≠ "java/lang/invoke/VarHandle")
    {W9 : Nat} {Pre : Pt → Array Value → Prop} {Post : Pt → Array Value → Option Value → Pt → Prop} (hK : Back l R p e below s args y 3 W9 Pre Post)
    {g : JFrame} (hg : g.method = m) (hsize : g.locals.size = c.maxLocals) {argsL rest : List Value} (hlen : ∀ sig, parseMethodDescriptor y.desc = some sig → argsL.length = sig.parameters.length)
    (hstack : g.stack = argsL.reverse ++ rest) (hW : 2 * g.monitorRoom + (rest.map fun v => v.category).sum ≤ W9) (hdg : decode c.code g.pc = .ok (.invokestatic index, 3))
    (hpre : ∀ vm₁, s.WarmedH vm₁ → Pre ⟨T.setVm vm₁, locs, cells, slots⟩ argsL.toArray) :
    ∃ (v : Option Value) (vm₁ : Vm) (B : Pt), s.WarmedH vm₁ ∧ Stand p l e R s m args below meth c B.U B.locs B.cells B.slots ∧ Post ⟨T.setVm vm₁, locs, cells, slots⟩ argsL.toArray v B ∧
      ∀ target, Steps p.tables e below (B.U.setTop { g with pc := g.pc + 3, stack := v.toList ++ rest }) target → Steps p.tables e below (T.setTop g) target := by
  obtain ⟨mk, methM, cM, hnamed, hmethM, -, -, -, -, -, -, hsigM⟩ := Cond.codeWith_spec hcode
  have hstatic : methM.isStatic = true := Cond.static_spec hnamed hmethM hstat
  obtain ⟨kP, hkP, -⟩ := className_of_methodNamed hnamed
  have hinitP : kP.init = .initialized := Cond.initialized_spec (findClass_of_methodNamed hnamed) hkP hinit
  obtain ⟨vm₁, X₁, hstep₁⟩ := X.invokestatic hexec hown hlink hnamed hmethM hstatic hkP hinitP hy (g := g) hg (argsL := argsL) (rest := rest) (hlen _ hsigM) hstack hdg
  obtain ⟨v, B, X', hpost, hsteps⟩ := hK m meth c ⟨T.setVm vm₁, locs, cells, slots⟩ { g with stack := rest } (.invokestatic index) mk argsL.toArray X₁ hg hsize hdg hW (X₁.named hnamed) (hpre vm₁ X₁.warmed)
  exact ⟨v, vm₁, B, X₁.warmed, X', hpost, fun target h => hstep₁ _ fun acts => by rw [doInvoke_state]; exact hsteps.trans h⟩
theorem vx_runSW {y : MethodName} {bytes cc : ByteArray} {maxL nL mc ms n index : Nat} {ret : Option FieldType} {hh : List (Nat × Nat × Nat × Nat)} {ws : List Cond} {rm : Room} {Pc : Array Value → State → Prop} {Qc : Array Value → State → Outcome → State → Prop} {free : Addr → Prop} {Ts : List Cond} {own : String} {As rest : List Value} {g : JFrame}
    (S : CallFix p m c cc nL s args Ts own) (hM : Met l y ws rm Pc Qc mc ms free) (cw : vx_CSW R s args own index y bytes maxL ret hh ws rm mc ms n) (hp : PreS s H Pc As)
    (hg : g.method = m) (hn : As.length = n) (hsize : g.locals.size = nL) (hstack : g.stack = As.reverse ++ rest) (hW : 2 * g.monitorRoom + (rest.map fun v => v.category).sum ≤ 8) (hdg : decode cc g.pc = .ok (.invokestatic index, 3)) (hf : cells + mc ≤ R.cells ∧ slots + ms ≤ R.slots) :
    va_Run p l e R s m args below meth c H locs cells slots mc ms g rest (Qc As.toArray) (free) := by
  obtain ⟨⟨hrc, hrs, hfr, hlo, hws, hcw⟩, hcode, hini, hy, hlen, hl, hstt⟩ := cw
  have hK : Back l R p e below s args y 3 8 (PreOf R mc ms Pc) (PostOf Qc mc ms free) := va_backW (hh := hh) (bytes := bytes) (maxL := maxL) (ret := ret) hM hp.1 hrc hrs hfr hlo hws hcw (fun a' U hW => word_at hW (Or.inl (by first | rfl | simp [Cond.onTables, Cond.keeps, Cond.steady])) hini)
  obtain ⟨hx, hb, hml, ho, -⟩ := S
  intro T hT X
  obtain ⟨v, vm₁, ⟨U', l2, c2, s2⟩, hW₁, X', ⟨g', mk, t, L, e1, e2, hq, h1, hL, h2, h3⟩, st⟩ := vx_callSW X hx (hh := hh) (bytes := bytes) (maxL := maxL) (ret := ret) ho hl hstt hini hcode hy hK hg (hsize.trans hml.symm) (argsL := As) (rest := rest) (fun sig h => hn.trans (hlen sig h)) hstack hW (by rw [hb]; exact hdg)
    (fun vm₁ hW₁ => ⟨hf.1, hf.2, hp.2 (T.setVm vm₁) hT hW₁⟩)
  dsimp only [Pt.U, Pt.locs, Pt.cells, Pt.slots] at X' e1 e2 h1 h2 h3 st
  subst h1; subst h2; subst h3
  exact ⟨v, (T.setVm vm₁).calling g' mk As.toArray, t, U', L, hT, X', hL, e1, e2, hq, st⟩
/-- not caught here, past rows that name other classes: it goes on to the caller -/
theorem vx_outP {p : Program} {l : Launch} {e : Env} {R : Room} {s : State} {m : MethodId} {args : Array Value} {below : List Frame} {meth : Method} {c : Code} {H : Heap} {locs : List Loc} {cells slots : Nat} {free : Addr → Prop} {ls : Array Slot} {rest : List Value} {Qc : Array Value → State → Outcome → State → Prop} {XC : String → State → State → Prop}
    {pc : Nat} {own E : String} {ce : Cell} {q : Addr} {mc ms : Nat} (hown : s.vm.findClass own = some m.cls) (hlocks : meth.locks = false)
    (hpass : ∀ z ∈ c.exceptionTable.toList, covers z pc = false ∨ (z.catchType ≠ 0 ∧ ∃ nm : String, (Cond.classLink own z.catchType nm).before args s = true ∧ va_Nc E nm s)) (hcell : H[q]? = some ce) (hv : ce.vm = .none) (hcl : s.vm.findClass E = some ce.cls)
    (hx : ∀ t : State, t.heap = H → s.vm.Alike t.vm → XC E s t) (hf : ∀ z ∈ locs, free z.base) (hc : cells ≤ mc) (hs : slots ≤ ms) :
    vx_W p l e R s m args below meth c H locs cells slots (vx_MQ below Qc XC args s mc ms free) (F0 m pc ls rest) q := by
  intro T hT X
  have hpl : e.platform.magicAccessors = ({} : Platform).magicAccessors := by rw [X.admits.platform]
  obtain ⟨vm', hW', X', st⟩ := X.outThrough hlocks q (g := F0 m pc ls rest) rfl rfl rfl (cell := ce) (by rw [hT]; exact hcell) (by rw [hv]; rfl)
    (by obtain ⟨k9, h9, -⟩ := Vm.findClass_spec hcl; exact ⟨k9, h9⟩) (fun z hz => by
      rcases hpass z hz with h | ⟨hz0, nm, hl1, hn1⟩
      · exact Or.inl h
      · obtain ⟨c6, hc6, hcl6⟩ := Cond.classLink_spec hown hl1 e.platform hpl
        obtain ⟨a8, b8, h1, h2, h3⟩ := hn1
        cases Option.some.inj (h1.symm.trans hcl)
        cases Option.some.inj (h2.symm.trans hc6)
        exact Or.inr ⟨hz0, _, hcl6, h3⟩)
  obtain ⟨g₀, hfr⟩ := X'.frames_eq
  have hcell9 : ((T.setVm vm').setFrames (.throwing q :: below)).heap[q]? = some ce := by
    show T.heap[q]? = some ce
    rw [hT]; exact hcell
  have hend : Ended ((T.setVm vm').setFrames (.throwing q :: below)) below (.threw q) := State.frames_setFrames _ (State.cur_lt_of_frames hfr)
  refine ⟨(T.setVm vm').setFrames (.throwing q :: below), ?_, .threw q, X'.here.running, hend, Or.inr ⟨q, rfl, E, ce, locs, hx _ hT (X'.ends _).1.alike, hcell9, hv, hcl, (X'.ends _).1, (X'.ends _).2.mono hc hs, hf⟩⟩
  rw [X.pushThrowing_eq]
  exact st
/-- a thing of a world lies in the heap -/
theorem vx_lt {D : va_G} {cl : List vw_C} {ws : va_W} {H1 : Heap} (h : va_P D cl ws H1) {k : Nat} {q : Nat × va_E} (hk : ws[k]? = some q) : q.1 < H1.size := (h k q hk).lt
end VXS
/-! ===== END ===== -/
/-! ===== BEGIN methods with a table of their own: called by a name, returning or throwing ===== -/
section VXH
/-! vx_backW, vx_callVX, vx_callSX, vx_callVW, vx_runVW, vx_runVX, vx_runSX, vx_ofWH follow the same proofs as their sisters above (Free/Laws.lean, Shelf42/LK1.lean); vx_outP calls Shelf42/NT130.lean (outThrough). -/
section
variable {l : Launch} {R : Room} {p : Program} {e : Env} {below : List Frame} {s : State} {sargs : Array Value} {y : MethodName} {len W9 : Nat}
theorem vx_backW {ws : List Cond} {rm : Room} {Pc : Array Value → State → Prop} {Qc : Array Value → State → Outcome → State → Prop} {XC : String → State → State → Prop} {mc ms : Nat} {free : Addr → Prop} {bytes : ByteArray} {maxL : Nat} {ret : Option FieldType} {hh : List (Nat × Nat × Nat × Nat)}
    (hM : vx_Met l y ws rm Pc Qc XC mc ms free) (hblind : FrameBlind Pc) (hrc : rm.cells = mc) (hrs : rm.slots = ms)
    (hframes : rm.frames + 1 ≤ R.frames) (hlocals : W9 + (maxL + 11) + rm.locals ≤ R.locals)
    (hws : ∀ w ∈ ws, ∀ a' U, s.WarmedH U.vm → w.before a' U = true) (hcode : Cond.codeWith y bytes maxL ret hh ∈ ws) (hinit : ∀ a' U, s.WarmedH U.vm → (Cond.initialized y.cls).before a' U = true) :
    vx_Back l R p e below s sargs y len W9 (PreOf R mc ms Pc) (PostOf Qc mc ms free) (vx_Post XC mc ms free) := by
  intro m meth c A g ig mk a X hg hsize hdg hW hn hp
  have h1 : (headSpec ws rm).pre.before a A.U = true := atoms_intro fun w hw => hws w hw _ _ X.warmed
  have h2 : (Cond.codeWith y bytes maxL ret hh).before a A.U = true := hws _ hcode _ _ X.warmed
  have h3 : (Cond.initialized y.cls).before a A.U = true := hinit _ _ X.warmed
  have h4 : A.cells + (headSpec ws rm).room.cells ≤ R.cells := by rw [show (headSpec ws rm).room.cells = mc from hrc]; exact hp.1
  have h5 : A.slots + (headSpec ws rm).room.slots ≤ R.slots := by rw [show (headSpec ws rm).room.slots = ms from hrs]; exact hp.2.1
  have hPc : Pc a (A.U.calling g mk a) := hblind _ _ _ _ hp.2.2
  obtain ⟨U, Ls, c0, s0⟩ := A
  dsimp only [Pt.U, Pt.locs, Pt.cells, Pt.slots] at h1 h2 h3 h4 h5 X hn hPc ⊢
  obtain ⟨m9, methY, cY, hn9, hmY, hcY, -, hlY, -⟩ := Cond.codeWith_spec h2
  cases Option.some.inj (hn9.symm.trans hn)
  obtain ⟨kY, hkY, -⟩ := className_of_methodNamed hn
  have hinitY : kY.init = .initialized := Cond.initialized_spec (findClass_of_methodNamed hn) hkY h3
  have h : At U g.method c below := by rw [hg]; exact X.here
  have hlocals9 : W9 + (maxL + 11) + (headSpec ws rm).room.locals ≤ R.locals := hlocals
  have happ : (headSpec ws rm).appliesLoose y e.platform (U.calling g mk a) = true :=
    Spec.appliesLoose_calling (g := g) h hdg hn hkY hinitY
      (X.room_calling (g := g) (R' := (headSpec ws rm).room) hsize hmY hcY hframes (by rw [hlY]; omega) h4 h5) h1
  obtain ⟨mid, hmid⟩ := h.above
  have hfr : (U.setTop g).frames = (.java g :: mid) ++ below := by rw [State.frames_setTop' g h.top, hmid]; rfl
  obtain ⟨o, s₂, hsteps, -, hend, hq⟩ := Steps.callFree hM p X.admits X.cas X.clock (acts := []) hfr happ hPc trivial
  have hq' : vx_Q Qc XC mc ms free a (U.calling g mk a) o s₂ := hq
  rw [State.frames_setTop' g h.top] at hend
  obtain ⟨g₀, hg0⟩ := Option.isSome_iff_exists.mp h.top
  obtain ⟨r, hr⟩ := State.topJava?_eq_some.mp hg0
  have hr' : (({ U with heap := s₂.heap, slotsUsed := s₂.slotsUsed } : State).setVm s₂.vm).frames = .java g₀ :: r := hr
  rcases hq' with ⟨hqc, L, hfe, hL⟩ | ⟨q, rfl, E, ce, L, hx, hce, hcv, hcl, hW₂, hsm, hL⟩
  · obtain ⟨⟨v, rfl⟩, hW₂, e2, q2, q3, q4, q5, q6⟩ := id hfe
    have e3 : s₂ = ({ (U.calling g mk a).setFrames s₂.frames with heap := s₂.heap, slotsUsed := s₂.slotsUsed } : State).setVm s₂.vm := by
      have : s₂ = ({ s₂ with vm := (U.calling g mk a).vm } : State).setVm s₂.vm := rfl
      rw [e2] at this
      exact this
    obtain ⟨c₂, i₂, len₂, hc₂, hd₂, hf₂⟩ := hend
    have hW' : U.WarmedH s₂.vm := hW₂
    have hcc : c₂ = c := by
      have h1 : s₂.code? g.method = U.code? g.method := by
        rw [State.code?_eq, State.code?_eq, hW'.alike.method?]
      exact Option.some.inj (hc₂.symm.trans (h1.trans h.code))
    subst hcc
    have hlen : len₂ = len := by rw [hdg] at hd₂; cases hd₂; rfl
    subst hlen
    have hs₂ : s₂ = (({ U with heap := s₂.heap, slotsUsed := s₂.slotsUsed } : State).setVm s₂.vm).setTop { g with pc := g.pc + len₂, stack := v.toList ++ g.stack } := by
      refine e3.trans ?_
      rw [hf₂, State.calling_eq h.top, State.setFrames_setFrames, State.setTop_of_frames _ hr', hr]
      rfl
    have hsame : U.sameButNew ({ U with heap := s₂.heap, slotsUsed := s₂.slotsUsed } : State) L mc ms := by
      refine ⟨?_, q2, q3, q4, q5, q6⟩
      obtain ⟨t, ht, -⟩ := State.frames_cons hr
      show ({ U with heap := s₂.heap, slotsUsed := s₂.slotsUsed } : State) = { U.setFrames U.frames with heap := s₂.heap, slotsUsed := s₂.slotsUsed }
      rw [State.setFrames_self ht]
    subst hg
    refine Or.inl ⟨v, ⟨(({ U with heap := s₂.heap, slotsUsed := s₂.slotsUsed } : State).setVm s₂.vm), Ls ++ L, c0 + mc, s0 + ms⟩,
      ⟨X.admits, X.cas, X.clock, X.frames, X.room, X.hears, X.method, X.code, (X.here.setHeapUsed s₂.heap s₂.slotsUsed).setVm hW'.alike, X.tail, State.WarmedH.trans X.warmed hW', X.limits, X.bytes, X.same.trans (hsame.setVm s.vm)⟩,
      ⟨g, mk, s₂, L, rfl, rfl, hqc, rfl, hL, rfl, rfl⟩, ?_⟩
    show Steps p.tables e below _ ((({ U with heap := s₂.heap, slotsUsed := s₂.slotsUsed } : State).setVm s₂.vm).setTop { g with pc := g.pc + len₂, stack := v.toList ++ g.stack })
    rw [← hs₂]
    exact hsteps
  · obtain ⟨e2, q2, q3, q4, q5, q6⟩ := id hsm
    have e3 : s₂ = ({ (U.calling g mk a).setFrames s₂.frames with heap := s₂.heap, slotsUsed := s₂.slotsUsed } : State).setVm s₂.vm := by
      have : s₂ = ({ s₂ with vm := (U.calling g mk a).vm } : State).setVm s₂.vm := rfl
      rw [e2] at this
      exact this
    have hf₂ : s₂.frames = .throwing q :: .java g :: U.frames.tail := hend
    have hW' : U.WarmedH s₂.vm := hW₂
    have hs₂ : s₂ = ((({ U with heap := s₂.heap, slotsUsed := s₂.slotsUsed } : State).setVm s₂.vm).setTop g).pushFrame (.throwing q) := by
      refine e3.trans ?_
      rw [hf₂, State.calling_eq h.top, State.setFrames_setFrames, State.pushFrame, State.frames_setTop _ hr', State.setTop_of_frames _ hr', State.setFrames_setFrames, hr]
      rfl
    have hsame : U.sameButNew ({ U with heap := s₂.heap, slotsUsed := s₂.slotsUsed } : State) L mc ms := by
      refine ⟨?_, q2, q3, q4, q5, q6⟩
      obtain ⟨t, ht, -⟩ := State.frames_cons hr
      show ({ U with heap := s₂.heap, slotsUsed := s₂.slotsUsed } : State) = { U.setFrames U.frames with heap := s₂.heap, slotsUsed := s₂.slotsUsed }
      rw [State.setFrames_self ht]
    subst hg
    refine Or.inr ⟨q, ⟨(({ U with heap := s₂.heap, slotsUsed := s₂.slotsUsed } : State).setVm s₂.vm), Ls ++ L, c0 + mc, s0 + ms⟩,
      ⟨X.admits, X.cas, X.clock, X.frames, X.room, X.hears, X.method, X.code, (X.here.setHeapUsed s₂.heap s₂.slotsUsed).setVm hW'.alike, X.tail, State.WarmedH.trans X.warmed hW', X.limits, X.bytes, X.same.trans (hsame.setVm s.vm)⟩,
      ⟨g, mk, s₂, L, E, ce, rfl, rfl, hx, hce, hcv, hcl, rfl, hL, rfl, rfl⟩, ?_⟩
    show Steps p.tables e below _ (((({ U with heap := s₂.heap, slotsUsed := s₂.slotsUsed } : State).setVm s₂.vm).setTop g).pushFrame (.throwing q))
    rw [← hs₂]
    exact hsteps
end
variable {p : Program} {l : Launch} {e : Env} {R : Room} {s : State} {m : MethodId} {args : Array Value} {below : List Frame} {meth : Method} {c : Code} {T : State} {H : Heap} {locs : List Loc} {cells slots : Nat}
theorem vx_callVX (X : Stand p l e R s m args below meth c T locs cells slots) (hexec : p.tables.exec = Jvm.exec) {own C : String} {index : Nat} {y : MethodName} {bytes : ByteArray} {maxL : Nat} {ret : Option FieldType} {hh : List (Nat × Nat × Nat × Nat)}
    (hown : s.vm.findClass own = some m.cls) (hlink : (Cond.methodLink own index y).before args s = true) (hinst : (Cond.instanceMethod y).before args s = true) (hsel : (Cond.selects C y y).before args s = true)
    (hcode : (Cond.codeWith y bytes maxL ret hh).before args s = true) (hy : y.cls ≠ "java/lang/invoke/MethodHandle" ∧ y.cls ≠ "java/lang/invoke/VarHandle")
    {W9 : Nat} {Pre : Pt → Array Value → Prop} {Post : Pt → Array Value → Option Value → Pt → Prop} {PostX : Pt → Array Value → Addr → Pt → Prop} (hK : vx_Back l R p e below s args y 3 W9 Pre Post PostX)
    {b : Addr} {cellB : Cell} (hcell : T.heap[b]? = some cellB) (hobj : cellB.vm.isStatics = false) (hcls : s.vm.findClass C = some cellB.cls)
    {g : JFrame} (hg : g.method = m) (hsize : g.locals.size = c.maxLocals) {argsL rest : List Value} (hlen : ∀ sig, parseMethodDescriptor y.desc = some sig → argsL.length = sig.parameters.length)
    (hstack : g.stack = argsL.reverse ++ .ref b :: rest) (hW : 2 * g.monitorRoom + (rest.map fun v => v.category).sum ≤ W9) (hdg : decode c.code g.pc = .ok (.invokevirtual index, 3))
    (hpre : ∀ vm₁, s.WarmedH vm₁ → Pre ⟨T.setVm vm₁, locs, cells, slots⟩ (Value.ref b :: argsL).toArray) :
    (∃ (v : Option Value) (vm₁ : Vm) (B : Pt), s.WarmedH vm₁ ∧ Stand p l e R s m args below meth c B.U B.locs B.cells B.slots ∧ Post ⟨T.setVm vm₁, locs, cells, slots⟩ (Value.ref b :: argsL).toArray v B ∧
      ∀ target, Steps p.tables e below (B.U.setTop { g with pc := g.pc + 3, stack := v.toList ++ rest }) target → Steps p.tables e below (T.setTop g) target) ∨
    (∃ (q : Addr) (vm₁ : Vm) (B : Pt), s.WarmedH vm₁ ∧ Stand p l e R s m args below meth c B.U B.locs B.cells B.slots ∧ PostX ⟨T.setVm vm₁, locs, cells, slots⟩ (Value.ref b :: argsL).toArray q B ∧
      Steps p.tables e below (T.setTop g) ((B.U.setTop { g with stack := rest }).pushFrame (.throwing q))) := by
  obtain ⟨mk, methM, hnamed, hmethM, hstM, habM⟩ := Cond.instanceMethod_spec hinst
  obtain ⟨m8, methM', cM, hn8, hmethM', -, -, -, -, -, -, hsigM⟩ := Cond.codeWith_spec hcode
  cases Option.some.inj (hn8.symm.trans hnamed)
  cases hmethM.symm.trans hmethM'
  obtain ⟨c2, r2, m2, q1, q2, q3, q4, kP, hkP, hkPi⟩ := Cond.selects_spec hsel
  cases hcls.symm.trans q1
  cases (State.methodFound?_of_named hnamed hy).symm.trans q2
  cases hnamed.symm.trans q3
  have hselP : selectMethod e.platform s.vm cellB.cls mk = .method mk := by rw [Launch.admits_selectMethod X.admits]; exact q4
  obtain ⟨vm₁, X₁, hstep₁⟩ := X.invokevirtual hexec hown hlink hnamed hmethM hstM hkP hkPi hy (a := b) (cell := cellB) hcell
    (fun z h => by rw [h] at hobj; cases hobj) hselP hmethM habM hkP hkPi (g := g) hg (argsL := argsL) (rest := rest) (hlen _ hsigM) hstack hdg
  rcases hK m meth c ⟨T.setVm vm₁, locs, cells, slots⟩ { g with stack := rest } (.invokevirtual index) mk (Value.ref b :: argsL).toArray X₁ hg hsize hdg hW (X₁.named hnamed) (hpre vm₁ X₁.warmed) with ⟨v, B, X', hpost, hsteps⟩ | ⟨q, B, X', hpost, hsteps⟩
  · exact Or.inl ⟨v, vm₁, B, X₁.warmed, X', hpost, fun target h => hstep₁ _ fun acts => by rw [doInvoke_state]; exact hsteps.trans h⟩
  · exact Or.inr ⟨q, vm₁, B, X₁.warmed, X', hpost, hstep₁ _ fun acts => by rw [doInvoke_state]; exact hsteps⟩
theorem vx_callSX (X : Stand p l e R s m args below meth c T locs cells slots) (hexec : p.tables.exec = Jvm.exec) {own : String} {index : Nat} {y : MethodName} {bytes : ByteArray} {maxL : Nat} {ret : Option FieldType} {hh : List (Nat × Nat × Nat × Nat)}
    (hown : s.vm.findClass own = some m.cls) (hlink : (Cond.methodLink own index y).before args s = true) (hstat : (Cond.static y).before args s = true) (hinit : (Cond.initialized y.cls).before args s = true)
    (hcode : (Cond.codeWith y bytes maxL ret hh).before args s = true) (hy : y.cls ≠ "java/lang/invoke/MethodHandle" ∧ y.cls ≠ "java/lang/invoke/VarHandle")
    {W9 : Nat} {Pre : Pt → Array Value → Prop} {Post : Pt → Array Value → Option Value → Pt → Prop} {PostX : Pt → Array Value → Addr → Pt → Prop} (hK : vx_Back l R p e below s args y 3 W9 Pre Post PostX)
    {g : JFrame} (hg : g.method = m) (hsize : g.locals.size = c.maxLocals) {argsL rest : List Value} (hlen : ∀ sig, parseMethodDescriptor y.desc = some sig → argsL.length = sig.parameters.length)
    (hstack : g.stack = argsL.reverse ++ rest) (hW : 2 * g.monitorRoom + (rest.map fun v => v.category).sum ≤ W9) (hdg : decode c.code g.pc = .ok (.invokestatic index, 3))
    (hpre : ∀ vm₁, s.WarmedH vm₁ → Pre ⟨T.setVm vm₁, locs, cells, slots⟩ argsL.toArray) :
    (∃ (v : Option Value) (vm₁ : Vm) (B : Pt), s.WarmedH vm₁ ∧ Stand p l e R s m args below meth c B.U B.locs B.cells B.slots ∧ Post ⟨T.setVm vm₁, locs, cells, slots⟩ argsL.toArray v B ∧
      ∀ target, Steps p.tables e below (B.U.setTop { g with pc := g.pc + 3, stack := v.toList ++ rest }) target → Steps p.tables e below (T.setTop g) target) ∨
    (∃ (q : Addr) (vm₁ : Vm) (B : Pt), s.WarmedH vm₁ ∧ Stand p l e R s m args below meth c B.U B.locs B.cells B.slots ∧ PostX ⟨T.setVm vm₁, locs, cells, slots⟩ argsL.toArray q B ∧
      Steps p.tables e below (T.setTop g) ((B.U.setTop { g with stack := rest }).pushFrame (.throwing q))) := by
  obtain ⟨mk, methM, cM, hnamed, hmethM, -, -, -, -, -, -, hsigM⟩ := Cond.codeWith_spec hcode
  have hstatic : methM.isStatic = true := Cond.static_spec hnamed hmethM hstat
  obtain ⟨kP, hkP, -⟩ := className_of_methodNamed hnamed
  have hinitP : kP.init = .initialized := Cond.initialized_spec (findClass_of_methodNamed hnamed) hkP hinit
  obtain ⟨vm₁, X₁, hstep₁⟩ := X.invokestatic hexec hown hlink hnamed hmethM hstatic hkP hinitP hy (g := g) hg (argsL := argsL) (rest := rest) (hlen _ hsigM) hstack hdg
  rcases hK m meth c ⟨T.setVm vm₁, locs, cells, slots⟩ { g with stack := rest } (.invokestatic index) mk argsL.toArray X₁ hg hsize hdg hW (X₁.named hnamed) (hpre vm₁ X₁.warmed) with ⟨v, B, X', hpost, hsteps⟩ | ⟨q, B, X', hpost, hsteps⟩
  · exact Or.inl ⟨v, vm₁, B, X₁.warmed, X', hpost, fun target h => hstep₁ _ fun acts => by rw [doInvoke_state]; exact hsteps.trans h⟩
  · exact Or.inr ⟨q, vm₁, B, X₁.warmed, X', hpost, hstep₁ _ fun acts => by rw [doInvoke_state]; exact hsteps⟩
theorem vx_callVW (X : Stand p l e R s m args below meth c T locs cells slots) (hexec : p.tables.exec = Jvm.exec) {own C : String} {index : Nat} {y : MethodName} {bytes : ByteArray} {maxL : Nat} {ret : Option FieldType} {hh : List (Nat × Nat × Nat × Nat)}
    (hown : s.vm.findClass own = some m.cls) (hlink : (Cond.methodLink own index y).before args s = true) (hinst : (Cond.instanceMethod y).before args s = true) (hsel : (Cond.selects C y y).before args s = true)
    (hcode : (Cond.codeWith y bytes maxL ret hh).before args s = true) (hy : y.cls ≠ "java/lang/invoke/MethodHandle" ∧ y.cls ≠ "java/lang/invoke/VarHandle")
    {W9 : Nat} {Pre : Pt → Array Value → Prop} {Post : Pt → Array Value → Option Value → Pt → Prop} (hK : Back l R p e below s args y 3 W9 Pre Post)
    {b : Addr} {cellB : Cell} (hcell : T.heap[b]? = some cellB) (hobj : cellB.vm.isStatics = false) (hcls : s.vm.findClass C = some cellB.cls)
    {g : JFrame} (hg : g.method = m) (hsize : g.locals.size = c.maxLocals) {argsL rest : List Value} (hlen : ∀ sig, parseMethodDescriptor y.desc = some sig → argsL.length = sig.parameters.length)
    (hstack : g.stack = argsL.reverse ++ .ref b :: rest) (hW : 2 * g.monitorRoom + (rest.map fun v => v.category).sum ≤ W9) (hdg : decode c.code g.pc = .ok (.invokevirtual index, 3))
    (hpre : ∀ vm₁, s.WarmedH vm₁ → Pre ⟨T.setVm vm₁, locs, cells, slots⟩ (Value.ref b :: argsL).toArray) :
    ∃ (v : Option Value) (vm₁ : Vm) (B : Pt), s.WarmedH vm₁ ∧ Stand p l e R s m args below meth c B.U B.locs B.cells B.slots ∧ Post ⟨T.setVm vm₁, locs, cells, slots⟩ (Value.ref b :: argsL).toArray v B ∧
      ∀ target, Steps p.tables e below (B.U.setTop { g with pc := g.pc + 3, stack := v.toList ++ rest }) target → Steps p.tables e below (T.setTop g) target := by
  obtain ⟨mk, methM, hnamed, hmethM, hstM, habM⟩ := Cond.instanceMethod_spec hinst
  obtain ⟨m8, methM', cM, hn8, hmethM', -, -, -, -, -, -, hsigM⟩ := Cond.codeWith_spec hcode
  cases Option.some.inj (hn8.symm.trans hnamed)
  cases hmethM.symm.trans hmethM'
  obtain ⟨c2, r2, m2, q1, q2, q3, q4, kP, hkP, hkPi⟩ := Cond.selects_spec hsel
  cases hcls.symm.trans q1
  cases (State.methodFound?_of_named hnamed hy).symm.trans q2
  cases hnamed.symm.trans q3
  have hselP : selectMethod e.platform s.vm cellB.cls mk = .method mk := by rw [Launch.admits_selectMethod X.admits]; exact q4
  obtain ⟨vm₁, X₁, hstep₁⟩ := X.invokevirtual hexec hown hlink hnamed hmethM hstM hkP hkPi hy (a := b) (cell := cellB) hcell
    (fun z h => by rw [h] at hobj; cases hobj) hselP hmethM habM hkP hkPi (g := g) hg (argsL := argsL) (rest := rest) (hlen _ hsigM) hstack hdg
  obtain ⟨v, B, X', hpost, hsteps⟩ := hK m meth c ⟨T.setVm vm₁, locs, cells, slots⟩ { g with stack := rest } (.invokevirtual index) mk (Value.ref b :: argsL).toArray X₁ hg hsize hdg hW (X₁.named hnamed) (hpre vm₁ X₁.warmed)
  exact ⟨v, vm₁, B, X₁.warmed, X', hpost, fun target h => hstep₁ _ fun acts => by rw [doInvoke_state]; exact hsteps.trans h⟩
abbrev vx_CVW (R : Room) (s : State) (args : Array Value) (own C : String) (index : Nat) (y : MethodName) (bytes : ByteArray) (maxL : Nat) (ret : Option FieldType) (hh : List (Nat × Nat × Nat × Nat)) (ws : List Cond) (rm : Room) (mc ms n : Nat) : Prop :=
  (rm.cells = mc ∧ rm.slots = ms ∧ rm.frames + 1 ≤ R.frames ∧ 8 + (maxL + 11) + rm.locals ≤ R.locals ∧ (∀ w ∈ ws, ∀ (a' : Array Value) (U : State), s.WarmedH U.vm → w.before a' U = true) ∧ Cond.codeWith y bytes maxL ret hh ∈ ws) ∧
  (Cond.codeWith y bytes maxL ret hh).before args s = true ∧ (Cond.initialized y.cls).before args s = true ∧ (y.cls ≠ "java/lang/invoke/MethodHandle" ∧ y.cls ≠ "java/lang/invoke/VarHandle") ∧
  (∀ sig, parseMethodDescriptor y.desc = some sig → n = sig.parameters.length) ∧ (Cond.methodLink own index y).before args s = true ∧ (Cond.instanceMethod y).before args s = true ∧ (Cond.selects C y y).before args s = true
theorem vx_cwVW {own C : String} {index maxL mc ms : Nat} {y : MethodName} {bytes : ByteArray} {ret : Option FieldType} {hh : List (Nat × Nat × Nat × Nat)} {Ts ws ws' : List Cond} {rm : Room} (n : Nat) (ht : ∀ w ∈ Ts, w.before args s = true) (hT : GoodIn Ts (wsV own index C y ws)) (hw : ws = Cond.codeWith y bytes maxL ret hh :: ws') (hrc : rm.cells = mc) (hrs : rm.slots = ms)
    (hd : y.cls = C ∧ y.cls ≠ "java/lang/invoke/MethodHandle" ∧ y.cls ≠ "java/lang/invoke/VarHandle" ∧ (parseMethodDescriptor y.desc).map (fun d => d.parameters.length) = some n) (hR : rm.frames + 1 ≤ R.frames ∧ 8 + (maxL + 11) + rm.locals ≤ R.locals) :
    vx_CVW R s args own C index y bytes maxL ret hh ws rm mc ms n := by
  obtain ⟨hC, hd⟩ := hd
  subst hC
  have ok : ∀ w ∈ wsV own index y.cls y ws, w.before args s = true := fun w h => ht w (hT w h).1
  have hG : GoodIn Ts ws := fun w h => hT w (by unfold wsV; exact List.mem_append_right _ h)
  have hc : Cond.codeWith y bytes maxL ret hh ∈ ws := by rw [hw]; exact List.mem_cons_self
  refine ⟨⟨hrc, hrs, hR.1, hR.2, pay_in ht hG, hc⟩, ht _ (hG _ hc).1, ok _ (by simp [wsV]), ⟨hd.1, hd.2.1⟩, fun sig h => ?_, ok _ (by simp [wsV]), ok _ (by simp [wsV]), ok _ (by simp [wsV])⟩
  have h2 := hd.2.2
  rw [h] at h2
  exact (Option.some.inj h2).symm
theorem vx_runVW {y : MethodName} {bytes cc : ByteArray} {maxL nL mc ms n index : Nat} {ret : Option FieldType} {hh : List (Nat × Nat × Nat × Nat)} {ws : List Cond} {rm : Room} {Pc : Array Value → State → Prop} {Qc : Array Value → State → Outcome → State → Prop} {free : Addr → Prop} {Ts : List Cond} {own C : String} {b : Addr} {As rest : List Value} {g : JFrame}
    (S : CallFix p m c cc nL s args Ts own) (hM : Met l y ws rm Pc Qc mc ms free) (cw : vx_CVW R s args own C index y bytes maxL ret hh ws rm mc ms n) (hp : PreV s H C b Pc As)
    (hg : g.method = m) (hn : As.length = n) (hsize : g.locals.size = nL) (hstack : g.stack = As.reverse ++ .ref b :: rest) (hW : 2 * g.monitorRoom + (rest.map fun v => v.category).sum ≤ 8) (hdg : decode cc g.pc = .ok (.invokevirtual index, 3)) (hf : cells + mc ≤ R.cells ∧ slots + ms ≤ R.slots) :
    va_Run p l e R s m args below meth c H locs cells slots mc ms g rest (Qc (Value.ref b :: As).toArray) free := by
  obtain ⟨⟨hrc, hrs, hfr, hlo, hws, hcw⟩, hcode, hini, hy, hlen, hl, hin, hse⟩ := cw
  have hK : Back l R p e below s args y 3 8 (PreOf R mc ms Pc) (PostOf Qc mc ms free) := va_backW (hh := hh) (bytes := bytes) (maxL := maxL) (ret := ret) hM hp.1 hrc hrs hfr hlo hws hcw (fun a' U hW => word_at hW (Or.inl (by first | rfl | simp [Cond.onTables, Cond.keeps, Cond.steady])) hini)
  obtain ⟨hx, hb, hml, ho, -⟩ := S
  obtain ⟨-, ⟨cellB, hcB, hoB, hclB⟩, hPc⟩ := hp
  intro T hT X
  obtain ⟨v, vm₁, ⟨U', l2, c2, s2⟩, hW₁, X', ⟨g', mk, t, L, e1, e2, hq, h1, hL, h2, h3⟩, st⟩ := vx_callVW X hx (C := C) (hh := hh) (bytes := bytes) (maxL := maxL) (ret := ret) ho hl hin hse hcode hy hK (by rw [hT]; exact hcB) hoB hclB hg (hsize.trans hml.symm) (argsL := As) (rest := rest) (fun sig h => hn.trans (hlen sig h)) hstack hW (by rw [hb]; exact hdg)
    (fun vm₁ hW₁ => ⟨hf.1, hf.2, hPc (T.setVm vm₁) hT hW₁⟩)
  dsimp only [Pt.U, Pt.locs, Pt.cells, Pt.slots] at X' e1 e2 h1 h2 h3 st
  subst h1; subst h2; subst h3
  exact ⟨v, (T.setVm vm₁).calling g' mk (Value.ref b :: As).toArray, t, U', L, hT, X', hL, e1, e2, hq, st⟩
section
variable {y : MethodName} {bytes cc : ByteArray} {maxL nL mc ms n index : Nat} {ret : Option FieldType} {ws : List Cond} {rm : Room} {Pc : Array Value → State → Prop} {Qc : Array Value → State → Outcome → State → Prop} {XC : String → State → State → Prop} {free : Addr → Prop} {Ts : List Cond} {own C : String} {b : Addr} {As rest : List Value} {g : JFrame}
theorem vx_runVX {hh : List (Nat × Nat × Nat × Nat)} (S : CallFix p m c cc nL s args Ts own) (hM : vx_Met l y ws rm Pc Qc XC mc ms free) (cw : vx_CVW R s args own C index y bytes maxL ret hh ws rm mc ms n) (hp : PreV s H C b Pc As)
    (hg : g.method = m) (hn : As.length = n) (hsize : g.locals.size = nL) (hstack : g.stack = As.reverse ++ .ref b :: rest) (hW : 2 * g.monitorRoom + (rest.map fun v => v.category).sum ≤ 8) (hdg : decode cc g.pc = .ok (.invokevirtual index, 3)) (hf : cells + mc ≤ R.cells ∧ slots + ms ≤ R.slots) :
    vx_Run p l e R s m args below meth c H locs cells slots mc ms g rest (Qc (Value.ref b :: As).toArray) XC free := by
  obtain ⟨⟨hrc, hrs, hfr, hlo, hws, hcw⟩, hcode, hini, hy, hlen, hl, hin, hse⟩ := cw
  have hK : vx_Back l R p e below s args y 3 8 (PreOf R mc ms Pc) (PostOf Qc mc ms free) (vx_Post XC mc ms free) := vx_backW (hh := hh) (bytes := bytes) (maxL := maxL) (ret := ret) hM hp.1 hrc hrs hfr hlo hws hcw (fun a' U hW => word_at hW (Or.inl (by first | rfl | simp [Cond.onTables, Cond.keeps, Cond.steady])) hini)
  obtain ⟨hx, hb, hml, ho, -⟩ := S
  obtain ⟨-, ⟨cellB, hcB, hoB, hclB⟩, hPc⟩ := hp
  intro T hT X
  rcases vx_callVX X hx (C := C) (hh := hh) (bytes := bytes) (maxL := maxL) (ret := ret) ho hl hin hse hcode hy hK (by rw [hT]; exact hcB) hoB hclB hg (hsize.trans hml.symm) (argsL := As) (rest := rest) (fun sig h => hn.trans (hlen sig h)) hstack hW (by rw [hb]; exact hdg)
    (fun vm₁ hW₁ => ⟨hf.1, hf.2, hPc (T.setVm vm₁) hT hW₁⟩) with ⟨v, vm₁, ⟨U', l2, c2, s2⟩, hW₁, X', ⟨g', mk, t, L, e1, e2, hq, h1, hL, h2, h3⟩, st⟩ | ⟨q, vm₁, ⟨U', l2, c2, s2⟩, hW₁, X', ⟨g', mk, t, L, E, ce, e1, e2, hq, hce, hcv, hcl, h1, hL, h2, h3⟩, st⟩
  · dsimp only [Pt.U, Pt.locs, Pt.cells, Pt.slots] at X' e1 e2 h1 h2 h3 st
    subst h1; subst h2; subst h3
    exact Or.inl ⟨v, (T.setVm vm₁).calling g' mk (Value.ref b :: As).toArray, t, U', L, hT, X', hL, e1, e2, hq, st⟩
  · dsimp only [Pt.U, Pt.locs, Pt.cells, Pt.slots] at X' e1 e2 h1 h2 h3 st hcl
    subst h1; subst h2; subst h3
    exact Or.inr ⟨q, (T.setVm vm₁).calling g' mk (Value.ref b :: As).toArray, t, U', L, E, ce, hT, X', hL, e1, e2, hq, hce, hcv, vx_cls hW₁ hcl, st⟩
theorem vx_runSX {hh : List (Nat × Nat × Nat × Nat)} (S : CallFix p m c cc nL s args Ts own) (hM : vx_Met l y ws rm Pc Qc XC mc ms free) (cw : vx_CSW R s args own index y bytes maxL ret hh ws rm mc ms n) (hp : PreS s H Pc As)
    (hg : g.method = m) (hn : As.length = n) (hsize : g.locals.size = nL) (hstack : g.stack = As.reverse ++ rest) (hW : 2 * g.monitorRoom + (rest.map fun v => v.category).sum ≤ 8) (hdg : decode cc g.pc = .ok (.invokestatic index, 3)) (hf : cells + mc ≤ R.cells ∧ slots + ms ≤ R.slots) :
    vx_Run p l e R s m args below meth c H locs cells slots mc ms g rest (Qc As.toArray) XC free := by
  obtain ⟨⟨hrc, hrs, hfr, hlo, hws, hcw⟩, hcode, hini, hy, hlen, hl, hstt⟩ := cw
  have hK : vx_Back l R p e below s args y 3 8 (PreOf R mc ms Pc) (PostOf Qc mc ms free) (vx_Post XC mc ms free) := vx_backW (hh := hh) (bytes := bytes) (maxL := maxL) (ret := ret) hM hp.1 hrc hrs hfr hlo hws hcw (fun a' U hW => word_at hW (Or.inl (by first | rfl | simp [Cond.onTables, Cond.keeps, Cond.steady])) hini)
  obtain ⟨hx, hb, hml, ho, -⟩ := S
  intro T hT X
  rcases vx_callSX X hx (hh := hh) (bytes := bytes) (maxL := maxL) (ret := ret) ho hl hstt hini hcode hy hK hg (hsize.trans hml.symm) (argsL := As) (rest := rest) (fun sig h => hn.trans (hlen sig h)) hstack hW (by rw [hb]; exact hdg)
    (fun vm₁ hW₁ => ⟨hf.1, hf.2, hp.2 (T.setVm vm₁) hT hW₁⟩) with ⟨v, vm₁, ⟨U', l2, c2, s2⟩, hW₁, X', ⟨g', mk, t, L, e1, e2, hq, h1, hL, h2, h3⟩, st⟩ | ⟨q, vm₁, ⟨U', l2, c2, s2⟩, hW₁, X', ⟨g', mk, t, L, E, ce, e1, e2, hq, hce, hcv, hcl, h1, hL, h2, h3⟩, st⟩
  · dsimp only [Pt.U, Pt.locs, Pt.cells, Pt.slots] at X' e1 e2 h1 h2 h3 st
    subst h1; subst h2; subst h3
    exact Or.inl ⟨v, (T.setVm vm₁).calling g' mk As.toArray, t, U', L, hT, X', hL, e1, e2, hq, st⟩
  · dsimp only [Pt.U, Pt.locs, Pt.cells, Pt.slots] at X' e1 e2 h1 h2 h3 st hcl
    subst h1; subst h2; subst h3
    exact Or.inr ⟨q, (T.setVm vm₁).calling g' mk As.toArray, t, U', L, E, ce, hT, X', hL, e1, e2, hq, hce, hcv, vx_cls hW₁ hcl, st⟩
end
end VXH
theorem vx_ofWH {l : Launch} {y : MethodName} {ws ws' : List Cond} {rm : Room} {Pc : Array Value → State → Prop} {Qc : Array Value → State → Outcome → State → Prop} {XC : String → State → State → Prop} {mc ms : Nat} {free : Addr → Prop} {cc : ByteArray} {maxL : Nat} {ret : Option FieldType} {hh : List (Nat × Nat × Nat × Nat)}
    (hy : plainName y.cls = true) (hw : ws = Cond.codeWith y cc maxL ret hh :: ws')
    (body : ∀ p e s m args below meth c s₁, BodyLoose p l y (headSpec ws rm) cc maxL ret e s m args below meth c s₁ → c.maxLocals = maxL → Pc args s →
      W p l e (headSpec ws rm).room s m args below meth c s.heap [] 0 0 (vx_MQ below Qc XC args s mc ms free) (entryFrame m args maxL)) : vx_Met l y ws rm Pc Qc XC mc ms free := by
  refine MetFree.of_bodyS (code := cc) (maxLocals := maxL) (ret := ret) hy ?_ ?_
  · intro args s m h hn
    obtain ⟨m9, meth, c, hn9, h1, h2, h3, h4, -, h5, h6, -⟩ := Cond.codeWith_spec (atoms_spec (ws := ws) h _ (by rw [hw]; exact List.mem_cons_self))
    cases hn.symm.trans hn9
    exact ⟨meth, c, h1, h2, h3, h4, h5, h6⟩
  · intro p e s m args below meth c s₁ B hml hP _
    have hh0 : s₁.heap = s.heap := by rw [B.state]; rfl
    obtain ⟨t, a1, o, b1, b2, b3⟩ := body p e s m args below meth c s₁ B hml hP s₁ hh0 (Stand.of_body B)
    exact ⟨t, o, a1, b1, b2, b3⟩
/-! ===== END ===== -/
end
section

def RX0 : String := "Judgefold$Balloons"
def TX0 : u_T := fun k => match k with
  | 0 => ("Judgefold$Balloons", "states", "[C", true)
  | 1 => ("Judgefold$Balloons", "queues", "[[I", true)
  | 2 => ("Judgefold$Balloons", "queueSizes", "[I", true)
  | 3 => ("Judgefold$Balloons", "stocks", "[I", true)
  | 4 => ("Judgefold$Balloons", "outCounts", "[I", true)
  | _ => ("Judgefold$Balloons", "callBacks", "I", false)
def tyX0 : Nat → FieldType := fun k => match k with
  | 0 => .array .char
  | 1 => .array (.array .int)
  | 2 => .array .int
  | 3 => .array .int
  | 4 => .array .int
  | _ => .int
abbrev wsX00 : List Cond := u_ws RX0 TX0 6
theorem nmX0 : ∀ a, a < 6 → ∀ b, b < 6 → a ≠ b → (TX0 a).2.1 ≠ (TX0 b).2.1 := by decide +kernel
theorem tyX0_ok : ∀ k, k < 6 → parseFieldDescriptor (TX0 k).2.2.1 = some (tyX0 k) := by decide +kernel
abbrev cX0_init : ByteArray := prog_2_method_1_code
def yX0_init : MethodName := ⟨RX0, "<init>", "()V"⟩
abbrev cX0_follow : ByteArray := prog_2_method_2_code
def yX0_follow : MethodName := ⟨RX0, "follow", "(LJudgefold$Board;II)V"⟩
abbrev cX0_serve : ByteArray := prog_2_method_3_code
def yX0_serve : MethodName := ⟨RX0, "serve", "(I)V"⟩
abbrev cX0_isStockLeftOver : ByteArray := prog_2_method_4_code
def yX0_isStockLeftOver : MethodName := ⟨RX0, "isStockLeftOver", "()Z"⟩
abbrev cX0_takeAway : ByteArray := prog_2_method_5_code
def yX0_takeAway : MethodName := ⟨RX0, "takeAway", "(II)V"⟩
abbrev cX0_enqueue : ByteArray := prog_2_method_6_code
def yX0_enqueue : MethodName := ⟨RX0, "enqueue", "(II)V"⟩
abbrev cX0_leaveQueue : ByteArray := prog_2_method_7_code
def yX0_leaveQueue : MethodName := ⟨RX0, "leaveQueue", "(II)V"⟩
abbrev cX0_dropFromQueue : ByteArray := prog_2_method_8_code
def yX0_dropFromQueue : MethodName := ⟨RX0, "dropFromQueue", "(III)V"⟩
def RX1 : String := "Judgefold$Board"
def TX1 : u_T := fun k => match k with
  | 0 => ("Judgefold$Board", "failures", "[I", true)
  | 1 => ("Judgefold$Board", "firstMinutes", "[I", true)
  | 2 => ("Judgefold$Board", "solvedCounts", "[I", true)
  | 3 => ("Judgefold$Board", "penalties", "[I", true)
  | 4 => ("Judgefold$Board", "latestMinutes", "[I", true)
  | 5 => ("Judgefold$Board", "order", "[I", true)
  | _ => ("Judgefold$Board", "teamCount", "I", false)
def tyX1 : Nat → FieldType := fun k => match k with
  | 0 => .array .int
  | 1 => .array .int
  | 2 => .array .int
  | 3 => .array .int
  | 4 => .array .int
  | 5 => .array .int
  | _ => .int
abbrev wsX10 : List Cond := u_ws RX1 TX1 7
theorem nmX1 : ∀ a, a < 7 → ∀ b, b < 7 → a ≠ b → (TX1 a).2.1 ≠ (TX1 b).2.1 := by decide +kernel
theorem tyX1_ok : ∀ k, k < 7 → parseFieldDescriptor (TX1 k).2.2.1 = some (tyX1 k) := by decide +kernel
abbrev cX1_init : ByteArray := prog_3_method_1_code
def yX1_init : MethodName := ⟨RX1, "<init>", "()V"⟩
abbrev cX1_recount : ByteArray := prog_3_method_2_code
def yX1_recount : MethodName := ⟨RX1, "recount", "([LJudgefold$Run;IIZ)V"⟩
abbrev cX1_hasSolved : ByteArray := prog_3_method_3_code
def yX1_hasSolved : MethodName := ⟨RX1, "hasSolved", "(I)Z"⟩
abbrev cX1_rankOf : ByteArray := prog_3_method_4_code
def yX1_rankOf : MethodName := ⟨RX1, "rankOf", "(I)I"⟩
abbrev cX1_isLike : ByteArray := prog_3_method_5_code
def yX1_isLike : MethodName := ⟨RX1, "isLike", "(LJudgefold$Board;)Z"⟩
abbrev cX1_clear : ByteArray := prog_3_method_6_code
def yX1_clear : MethodName := ⟨RX1, "clear", "()V"⟩
abbrev cX1_count : ByteArray := prog_3_method_7_code
def yX1_count : MethodName := ⟨RX1, "count", "(LJudgefold$Run;)V"⟩
abbrev cX1_putInOrder : ByteArray := prog_3_method_8_code
def yX1_putInOrder : MethodName := ⟨RX1, "putInOrder", "()V"⟩
abbrev cX1_isAhead : ByteArray := prog_3_method_9_code
def yX1_isAhead : MethodName := ⟨RX1, "isAhead", "(II)Z"⟩
def RX2 : String := "Judgefold$Machine"
def TX2 : u_T := fun k => match k with
  | 0 => ("Judgefold$Machine", "places", "[I", true)
  | 1 => ("Judgefold$Machine", "output", "[I", true)
  | 2 => ("Judgefold$Machine", "outputSize", "I", false)
  | 3 => ("Judgefold$Machine", "inputsTaken", "I", false)
  | 4 => ("Judgefold$Machine", "nextStep", "I", false)
  | 5 => ("Judgefold$Machine", "stepsDone", "I", false)
  | _ => ("Judgefold$Machine", "ending", "C", false)
def tyX2 : Nat → FieldType := fun k => match k with
  | 0 => .array .int
  | 1 => .array .int
  | 2 => .int
  | 3 => .int
  | 4 => .int
  | 5 => .int
  | _ => .char
abbrev wsX20 : List Cond := u_ws RX2 TX2 7
theorem nmX2 : ∀ a, a < 7 → ∀ b, b < 7 → a ≠ b → (TX2 a).2.1 ≠ (TX2 b).2.1 := by decide +kernel
theorem tyX2_ok : ∀ k, k < 7 → parseFieldDescriptor (TX2 k).2.2.1 = some (tyX2 k) := by decide +kernel
abbrev cX2_init : ByteArray := prog_4_method_1_code
def yX2_init : MethodName := ⟨RX2, "<init>", "()V"⟩
abbrev cX2_execute : ByteArray := prog_4_method_2_code
def yX2_execute : MethodName := ⟨RX2, "execute", "(LJudgefold$Program;LJudgefold$Numbers;I)V"⟩
abbrev cX2_reset : ByteArray := prog_4_method_3_code
def yX2_reset : MethodName := ⟨RX2, "reset", "()V"⟩
abbrev cX2_doNextStep : ByteArray := prog_4_method_4_code
def yX2_doNextStep : MethodName := ⟨RX2, "doNextStep", "(LJudgefold$Program;LJudgefold$Numbers;)V"⟩
abbrev cX2_takeInput : ByteArray := prog_4_method_5_code
def yX2_takeInput : MethodName := ⟨RX2, "takeInput", "(ILJudgefold$Numbers;)V"⟩
abbrev cX2_putOut : ByteArray := prog_4_method_6_code
def yX2_putOut : MethodName := ⟨RX2, "putOut", "(I)V"⟩
abbrev cX2_divide : ByteArray := prog_4_method_7_code
def yX2_divide : MethodName := ⟨RX2, "divide", "(II)V"⟩
abbrev cX2_goIf : ByteArray := prog_4_method_8_code
def yX2_goIf : MethodName := ⟨RX2, "goIf", "(ZII)V"⟩
def RX3 : String := "Judgefold$Numbers"
def TX3 : u_T := fun k => match k with
  | 0 => ("Judgefold$Numbers", "input", "[I", true)
  | 1 => ("Judgefold$Numbers", "expected", "[I", true)
  | 2 => ("Judgefold$Numbers", "inputSize", "I", false)
  | _ => ("Judgefold$Numbers", "expectedSize", "I", false)
def tyX3 : Nat → FieldType := fun k => match k with
  | 0 => .array .int
  | 1 => .array .int
  | 2 => .int
  | _ => .int
abbrev wsX30 : List Cond := u_ws RX3 TX3 4
theorem nmX3 : ∀ a, a < 4 → ∀ b, b < 4 → a ≠ b → (TX3 a).2.1 ≠ (TX3 b).2.1 := by decide +kernel
theorem tyX3_ok : ∀ k, k < 4 → parseFieldDescriptor (TX3 k).2.2.1 = some (tyX3 k) := by decide +kernel
abbrev cX3_init : ByteArray := prog_5_method_1_code
def yX3_init : MethodName := ⟨RX3, "<init>", "()V"⟩
abbrev cX3_hasRoom : ByteArray := prog_5_method_2_code
def yX3_hasRoom : MethodName := ⟨RX3, "hasRoom", "(Z)Z"⟩
abbrev cX3_append : ByteArray := prog_5_method_3_code
def yX3_append : MethodName := ⟨RX3, "append", "(IZ)I"⟩
abbrev cX3_clear : ByteArray := prog_5_method_4_code
def yX3_clear : MethodName := ⟨RX3, "clear", "()I"⟩
abbrev cX3_copyFrom : ByteArray := prog_5_method_5_code
def yX3_copyFrom : MethodName := ⟨RX3, "copyFrom", "(LJudgefold$Numbers;)V"⟩
abbrev cX3_isExpected : ByteArray := prog_5_method_6_code
def yX3_isExpected : MethodName := ⟨RX3, "isExpected", "([II)Z"⟩
def RX4 : String := "Judgefold$Problem"
def TX4 : u_T := fun k => match k with
  | 0 => ("Judgefold$Problem", "contents", "[LJudgefold$Numbers;", true)
  | 1 => ("Judgefold$Problem", "colour", "I", false)
  | 2 => ("Judgefold$Problem", "limit", "I", false)
  | _ => ("Judgefold$Problem", "testCount", "I", false)
def tyX4 : Nat → FieldType := fun k => match k with
  | 0 => .array (.object "Judgefold$Numbers")
  | 1 => .int
  | 2 => .int
  | _ => .int
abbrev wsX40 : List Cond := u_ws RX4 TX4 4
theorem nmX4 : ∀ a, a < 4 → ∀ b, b < 4 → a ≠ b → (TX4 a).2.1 ≠ (TX4 b).2.1 := by decide +kernel
theorem tyX4_ok : ∀ k, k < 4 → parseFieldDescriptor (TX4 k).2.2.1 = some (tyX4 k) := by decide +kernel
abbrev cX4_init : ByteArray := prog_6_method_1_code
def yX4_init : MethodName := ⟨RX4, "<init>", "()V"⟩
abbrev cX4_hasTest : ByteArray := prog_6_method_2_code
def yX4_hasTest : MethodName := ⟨RX4, "hasTest", "(I)Z"⟩
def RX5 : String := "Judgefold$Program"
def TX5 : u_T := fun k => match k with
  | 0 => ("Judgefold$Program", "letters", "[C", true)
  | 1 => ("Judgefold$Program", "firsts", "[I", true)
  | 2 => ("Judgefold$Program", "seconds", "[I", true)
  | _ => ("Judgefold$Program", "size", "I", false)
def tyX5 : Nat → FieldType := fun k => match k with
  | 0 => .array .char
  | 1 => .array .int
  | 2 => .array .int
  | _ => .int
abbrev wsX50 : List Cond := u_ws RX5 TX5 4
theorem nmX5 : ∀ a, a < 4 → ∀ b, b < 4 → a ≠ b → (TX5 a).2.1 ≠ (TX5 b).2.1 := by decide +kernel
theorem tyX5_ok : ∀ k, k < 4 → parseFieldDescriptor (TX5 k).2.2.1 = some (tyX5 k) := by decide +kernel
abbrev cX5_init : ByteArray := prog_7_method_1_code
def yX5_init : MethodName := ⟨RX5, "<init>", "()V"⟩
abbrev cX5_append : ByteArray := prog_7_method_2_code
def yX5_append : MethodName := ⟨RX5, "append", "(CII)V"⟩
abbrev cX5_clear : ByteArray := prog_7_method_3_code
def yX5_clear : MethodName := ⟨RX5, "clear", "()I"⟩
abbrev cX5_copyFrom : ByteArray := prog_7_method_4_code
def yX5_copyFrom : MethodName := ⟨RX5, "copyFrom", "(LJudgefold$Program;)V"⟩
def RX6 : String := "Judgefold$Run"
def TX6 : u_T := fun k => match k with
  | 0 => ("Judgefold$Run", "program", "LJudgefold$Program;", true)
  | 1 => ("Judgefold$Run", "endings", "[C", true)
  | 2 => ("Judgefold$Run", "stepCounts", "[I", true)
  | 3 => ("Judgefold$Run", "slots", "[I", true)
  | 4 => ("Judgefold$Run", "team", "I", false)
  | 5 => ("Judgefold$Run", "problem", "I", false)
  | 6 => ("Judgefold$Run", "minute", "I", false)
  | 7 => ("Judgefold$Run", "isPending", "Z", false)
  | 8 => ("Judgefold$Run", "verdict", "C", false)
  | _ => ("Judgefold$Run", "failedTest", "I", false)
def tyX6 : Nat → FieldType := fun k => match k with
  | 0 => .object "Judgefold$Program"
  | 1 => .array .char
  | 2 => .array .int
  | 3 => .array .int
  | 4 => .int
  | 5 => .int
  | 6 => .int
  | 7 => .boolean
  | 8 => .char
  | _ => .int
abbrev wsX60 : List Cond := u_ws RX6 TX6 10
theorem nmX6 : ∀ a, a < 10 → ∀ b, b < 10 → a ≠ b → (TX6 a).2.1 ≠ (TX6 b).2.1 := by decide +kernel
theorem tyX6_ok : ∀ k, k < 10 → parseFieldDescriptor (TX6 k).2.2.1 = some (tyX6 k) := by decide +kernel
abbrev cX6_init : ByteArray := prog_8_method_1_code
def yX6_init : MethodName := ⟨RX6, "<init>", "()V"⟩
abbrev cX6_conclude : ByteArray := prog_8_method_2_code
def yX6_conclude : MethodName := ⟨RX6, "conclude", "(I)V"⟩
def RX7 : String := "Judgefold$Store"
def TX7 : u_T := fun k => match k with
  | 0 => ("Judgefold$Store", "numbers", "[I", true)
  | 1 => ("Judgefold$Store", "sizes", "[I", true)
  | 2 => ("Judgefold$Store", "users", "[I", true)
  | _ => ("Judgefold$Store", "usedSlots", "I", false)
def tyX7 : Nat → FieldType := fun k => match k with
  | 0 => .array .int
  | 1 => .array .int
  | 2 => .array .int
  | _ => .int
abbrev wsX70 : List Cond := u_ws RX7 TX7 4
theorem nmX7 : ∀ a, a < 4 → ∀ b, b < 4 → a ≠ b → (TX7 a).2.1 ≠ (TX7 b).2.1 := by decide +kernel
theorem tyX7_ok : ∀ k, k < 4 → parseFieldDescriptor (TX7 k).2.2.1 = some (tyX7 k) := by decide +kernel
abbrev cX7_init : ByteArray := prog_9_method_1_code
def yX7_init : MethodName := ⟨RX7, "<init>", "()V"⟩
abbrev cX7_keep : ByteArray := prog_9_method_2_code
def yX7_keep : MethodName := ⟨RX7, "keep", "([II)I"⟩
abbrev cX7_release : ByteArray := prog_9_method_3_code
def yX7_release : MethodName := ⟨RX7, "release", "(I)V"⟩
abbrev cX7_numberAt : ByteArray := prog_9_method_4_code
def yX7_numberAt : MethodName := ⟨RX7, "numberAt", "(II)I"⟩
abbrev cX7_isAlike : ByteArray := prog_9_method_5_code
def yX7_isAlike : MethodName := ⟨RX7, "isAlike", "(I[II)Z"⟩
abbrev cX7_addTo : ByteArray := prog_9_method_6_code
def yX7_addTo : MethodName := ⟨RX7, "addTo", "(JI)J"⟩
abbrev cX7_find : ByteArray := prog_9_method_7_code
def yX7_find : MethodName := ⟨RX7, "find", "([II)I"⟩
abbrev cX7_firstFree : ByteArray := prog_9_method_8_code
def yX7_firstFree : MethodName := ⟨RX7, "firstFree", "()I"⟩
abbrev cX7_fill : ByteArray := prog_9_method_9_code
def yX7_fill : MethodName := ⟨RX7, "fill", "(I[II)V"⟩
def RX8 : String := "Judgefold"
def TX8 : u_T := fun k => match k with
  | 0 => ("Judgefold", "typedProgram", "LJudgefold$Program;", true)
  | 1 => ("Judgefold", "typedNumbers", "LJudgefold$Numbers;", true)
  | 2 => ("Judgefold", "problems", "[LJudgefold$Problem;", true)
  | 3 => ("Judgefold", "runs", "[LJudgefold$Run;", true)
  | 4 => ("Judgefold", "machine", "LJudgefold$Machine;", true)
  | 5 => ("Judgefold", "store", "LJudgefold$Store;", true)
  | 6 => ("Judgefold", "balloons", "LJudgefold$Balloons;", true)
  | 7 => ("Judgefold", "trueBoard", "LJudgefold$Board;", true)
  | 8 => ("Judgefold", "publicBoard", "LJudgefold$Board;", true)
  | 9 => ("Judgefold", "freshBoard", "LJudgefold$Board;", true)
  | 10 => ("Judgefold", "problemCount", "I", false)
  | 11 => ("Judgefold", "teamCount", "I", false)
  | 12 => ("Judgefold", "runCount", "I", false)
  | _ => ("Judgefold", "freezeMinute", "I", false)
def tyX8 : Nat → FieldType := fun k => match k with
  | 0 => .object "Judgefold$Program"
  | 1 => .object "Judgefold$Numbers"
  | 2 => .array (.object "Judgefold$Problem")
  | 3 => .array (.object "Judgefold$Run")
  | 4 => .object "Judgefold$Machine"
  | 5 => .object "Judgefold$Store"
  | 6 => .object "Judgefold$Balloons"
  | 7 => .object "Judgefold$Board"
  | 8 => .object "Judgefold$Board"
  | 9 => .object "Judgefold$Board"
  | 10 => .int
  | 11 => .int
  | 12 => .int
  | _ => .int
abbrev wsX80 : List Cond := u_ws RX8 TX8 14
theorem nmX8 : ∀ a, a < 14 → ∀ b, b < 14 → a ≠ b → (TX8 a).2.1 ≠ (TX8 b).2.1 := by decide +kernel
theorem tyX8_ok : ∀ k, k < 14 → parseFieldDescriptor (TX8 k).2.2.1 = some (tyX8 k) := by decide +kernel
abbrev cX8_init : ByteArray := prog_1_method_1_code
def yX8_init : MethodName := ⟨RX8, "<init>", "()V"⟩
abbrev cX8_step : ByteArray := prog_1_method_2_code
def yX8_step : MethodName := ⟨RX8, "step", "(CII)I"⟩
abbrev cX8_number : ByteArray := prog_1_method_3_code
def yX8_number : MethodName := ⟨RX8, "number", "(IZ)I"⟩
abbrev cX8_wipe : ByteArray := prog_1_method_4_code
def yX8_wipe : MethodName := ⟨RX8, "wipe", "(Z)I"⟩
abbrev cX8_problem : ByteArray := prog_1_method_5_code
def yX8_problem : MethodName := ⟨RX8, "problem", "(II)I"⟩
abbrev cX8_test : ByteArray := prog_1_method_6_code
def yX8_test : MethodName := ⟨RX8, "test", "(I)I"⟩
abbrev cX8_fix : ByteArray := prog_1_method_7_code
def yX8_fix : MethodName := ⟨RX8, "fix", "(II)I"⟩
abbrev cX8_tests : ByteArray := prog_1_method_8_code
def yX8_tests : MethodName := ⟨RX8, "tests", "(I)I"⟩
abbrev cX8_team : ByteArray := prog_1_method_9_code
def yX8_team : MethodName := ⟨RX8, "team", "()I"⟩
abbrev cX8_submit : ByteArray := prog_1_method_10_code
def yX8_submit : MethodName := ⟨RX8, "submit", "(III)I"⟩
abbrev cX8_verdict : ByteArray := prog_1_method_11_code
def yX8_verdict : MethodName := ⟨RX8, "verdict", "(I)C"⟩
abbrev cX8_failed : ByteArray := prog_1_method_12_code
def yX8_failed : MethodName := ⟨RX8, "failed", "(I)I"⟩
abbrev cX8_ended : ByteArray := prog_1_method_13_code
def yX8_ended : MethodName := ⟨RX8, "ended", "(II)C"⟩
abbrev cX8_steps : ByteArray := prog_1_method_14_code
def yX8_steps : MethodName := ⟨RX8, "steps", "(II)I"⟩
abbrev cX8_outputs : ByteArray := prog_1_method_15_code
def yX8_outputs : MethodName := ⟨RX8, "outputs", "(II)I"⟩
abbrev cX8_output : ByteArray := prog_1_method_16_code
def yX8_output : MethodName := ⟨RX8, "output", "(III)I"⟩
abbrev cX8_kept : ByteArray := prog_1_method_17_code
def yX8_kept : MethodName := ⟨RX8, "kept", "()I"⟩
abbrev cX8_sharing : ByteArray := prog_1_method_18_code
def yX8_sharing : MethodName := ⟨RX8, "sharing", "(II)I"⟩
abbrev cX8_stock : ByteArray := prog_1_method_19_code
def yX8_stock : MethodName := ⟨RX8, "stock", "(II)I"⟩
abbrev cX8_inStock : ByteArray := prog_1_method_20_code
def yX8_inStock : MethodName := ⟨RX8, "inStock", "(I)I"⟩
abbrev cX8_out : ByteArray := prog_1_method_21_code
def yX8_out : MethodName := ⟨RX8, "out", "(I)I"⟩
abbrev cX8_balloon : ByteArray := prog_1_method_22_code
def yX8_balloon : MethodName := ⟨RX8, "balloon", "(II)C"⟩
abbrev cX8_waiting : ByteArray := prog_1_method_23_code
def yX8_waiting : MethodName := ⟨RX8, "waiting", "(II)I"⟩
abbrev cX8_calledBack : ByteArray := prog_1_method_24_code
def yX8_calledBack : MethodName := ⟨RX8, "calledBack", "()I"⟩
abbrev cX8_freeze : ByteArray := prog_1_method_25_code
def yX8_freeze : MethodName := ⟨RX8, "freeze", "(I)I"⟩
abbrev cX8_pending : ByteArray := prog_1_method_26_code
def yX8_pending : MethodName := ⟨RX8, "pending", "(II)I"⟩
abbrev cX8_open : ByteArray := prog_1_method_27_code
def yX8_open : MethodName := ⟨RX8, "open", "()I"⟩
abbrev cX8_solved : ByteArray := prog_1_method_28_code
def yX8_solved : MethodName := ⟨RX8, "solved", "(IZ)I"⟩
abbrev cX8_penalty : ByteArray := prog_1_method_29_code
def yX8_penalty : MethodName := ⟨RX8, "penalty", "(IZ)I"⟩
abbrev cX8_rank : ByteArray := prog_1_method_30_code
def yX8_rank : MethodName := ⟨RX8, "rank", "(IZ)I"⟩
abbrev cX8_ranked : ByteArray := prog_1_method_31_code
def yX8_ranked : MethodName := ⟨RX8, "ranked", "(IZ)I"⟩
abbrev cX8_acceptedShare : ByteArray := prog_1_method_32_code
def yX8_acceptedShare : MethodName := ⟨RX8, "acceptedShare", "()F"⟩
abbrev cX8_meanSteps : ByteArray := prog_1_method_33_code
def yX8_meanSteps : MethodName := ⟨RX8, "meanSteps", "()D"⟩
abbrev cX8_checksum : ByteArray := prog_1_method_34_code
def yX8_checksum : MethodName := ⟨RX8, "checksum", "()J"⟩
abbrev cX8_isTrue : ByteArray := prog_1_method_35_code
def yX8_isTrue : MethodName := ⟨RX8, "isTrue", "()Z"⟩
abbrev cX8_isWithin : ByteArray := prog_1_method_36_code
def yX8_isWithin : MethodName := ⟨RX8, "isWithin", "(III)Z"⟩
abbrev cX8_isPlace : ByteArray := prog_1_method_37_code
def yX8_isPlace : MethodName := ⟨RX8, "isPlace", "(I)Z"⟩
abbrev cX8_isNumber : ByteArray := prog_1_method_38_code
def yX8_isNumber : MethodName := ⟨RX8, "isNumber", "(I)Z"⟩
abbrev cX8_isColour : ByteArray := prog_1_method_39_code
def yX8_isColour : MethodName := ⟨RX8, "isColour", "(I)Z"⟩
abbrev cX8_isStep : ByteArray := prog_1_method_40_code
def yX8_isStep : MethodName := ⟨RX8, "isStep", "(CII)Z"⟩
abbrev cX8_spotOf : ByteArray := prog_1_method_41_code
def yX8_spotOf : MethodName := ⟨RX8, "spotOf", "(II)I"⟩
abbrev cX8_teamOf : ByteArray := prog_1_method_42_code
def yX8_teamOf : MethodName := ⟨RX8, "teamOf", "(I)I"⟩
abbrev cX8_hasProblem : ByteArray := prog_1_method_43_code
def yX8_hasProblem : MethodName := ⟨RX8, "hasProblem", "(I)Z"⟩
abbrev cX8_hasTeam : ByteArray := prog_1_method_44_code
def yX8_hasTeam : MethodName := ⟨RX8, "hasTeam", "(I)Z"⟩
abbrev cX8_hasRun : ByteArray := prog_1_method_45_code
def yX8_hasRun : MethodName := ⟨RX8, "hasRun", "(I)Z"⟩
abbrev cX8_hasTestOfRun : ByteArray := prog_1_method_46_code
def yX8_hasTestOfRun : MethodName := ⟨RX8, "hasTestOfRun", "(II)Z"⟩
abbrev cX8_testCountOf : ByteArray := prog_1_method_47_code
def yX8_testCountOf : MethodName := ⟨RX8, "testCountOf", "(LJudgefold$Run;)I"⟩
abbrev cX8_lastMinute : ByteArray := prog_1_method_48_code
def yX8_lastMinute : MethodName := ⟨RX8, "lastMinute", "()I"⟩
abbrev cX8_boardOf : ByteArray := prog_1_method_49_code
def yX8_boardOf : MethodName := ⟨RX8, "boardOf", "(Z)LJudgefold$Board;"⟩
abbrev cX8_recountBoards : ByteArray := prog_1_method_50_code
def yX8_recountBoards : MethodName := ⟨RX8, "recountBoards", "()V"⟩
abbrev cX8_judgeByAll : ByteArray := prog_1_method_51_code
def yX8_judgeByAll : MethodName := ⟨RX8, "judgeByAll", "(LJudgefold$Run;)V"⟩
abbrev cX8_judge : ByteArray := prog_1_method_52_code
def yX8_judge : MethodName := ⟨RX8, "judge", "(LJudgefold$Run;I)V"⟩
abbrev cX8_judgeAnew : ByteArray := prog_1_method_53_code
def yX8_judgeAnew : MethodName := ⟨RX8, "judgeAnew", "(II)I"⟩
abbrev cX8_countPending : ByteArray := prog_1_method_54_code
def yX8_countPending : MethodName := ⟨RX8, "countPending", "(II)I"⟩
abbrev cX8_lowestPendingProblem : ByteArray := prog_1_method_55_code
def yX8_lowestPendingProblem : MethodName := ⟨RX8, "lowestPendingProblem", "(I)I"⟩
abbrev cX8_lowestPendingTeam : ByteArray := prog_1_method_56_code
def yX8_lowestPendingTeam : MethodName := ⟨RX8, "lowestPendingTeam", "()I"⟩
abbrev cX8_openRuns : ByteArray := prog_1_method_57_code
def yX8_openRuns : MethodName := ⟨RX8, "openRuns", "(II)V"⟩
abbrev cX8_isRankedAnew : ByteArray := prog_1_method_58_code
def yX8_isRankedAnew : MethodName := ⟨RX8, "isRankedAnew", "(Z)Z"⟩
abbrev cX8_areBalloonsEarned : ByteArray := prog_1_method_59_code
def yX8_areBalloonsEarned : MethodName := ⟨RX8, "areBalloonsEarned", "()Z"⟩
abbrev cX8_areOutputsAnew : ByteArray := prog_1_method_60_code
def yX8_areOutputsAnew : MethodName := ⟨RX8, "areOutputsAnew", "()Z"⟩
def RX9 : String := "JudgefoldModel"
def TX9 : u_T := fun k => match k with
  | 0 => ("JudgefoldModel", "code", "I", false)
  | 1 => ("JudgefoldModel", "steps", "I", false)
  | 2 => ("JudgefoldModel", "letter", "[C", true)
  | 3 => ("JudgefoldModel", "stepA", "[I", true)
  | 4 => ("JudgefoldModel", "stepB", "[I", true)
  | 5 => ("JudgefoldModel", "inputs", "I", false)
  | 6 => ("JudgefoldModel", "expecteds", "I", false)
  | 7 => ("JudgefoldModel", "input", "[I", true)
  | 8 => ("JudgefoldModel", "expected", "[I", true)
  | 9 => ("JudgefoldModel", "problems", "I", false)
  | 10 => ("JudgefoldModel", "colour", "[I", true)
  | 11 => ("JudgefoldModel", "limit", "[I", true)
  | 12 => ("JudgefoldModel", "tests", "[I", true)
  | 13 => ("JudgefoldModel", "testInput", "[I", true)
  | 14 => ("JudgefoldModel", "testInputs", "[I", true)
  | 15 => ("JudgefoldModel", "testExpected", "[I", true)
  | 16 => ("JudgefoldModel", "testExpecteds", "[I", true)
  | 17 => ("JudgefoldModel", "teams", "I", false)
  | 18 => ("JudgefoldModel", "runs", "I", false)
  | 19 => ("JudgefoldModel", "team", "[I", true)
  | 20 => ("JudgefoldModel", "problem", "[I", true)
  | 21 => ("JudgefoldModel", "minute", "[I", true)
  | 22 => ("JudgefoldModel", "length", "[I", true)
  | 23 => ("JudgefoldModel", "runLetter", "[C", true)
  | 24 => ("JudgefoldModel", "runA", "[I", true)
  | 25 => ("JudgefoldModel", "runB", "[I", true)
  | 26 => ("JudgefoldModel", "end", "[C", true)
  | 27 => ("JudgefoldModel", "done", "[I", true)
  | 28 => ("JudgefoldModel", "output", "[I", true)
  | 29 => ("JudgefoldModel", "outputs", "[I", true)
  | 30 => ("JudgefoldModel", "place", "[I", true)
  | 31 => ("JudgefoldModel", "balloon", "[C", true)
  | 32 => ("JudgefoldModel", "since", "[I", true)
  | 33 => ("JudgefoldModel", "stock", "[I", true)
  | 34 => ("JudgefoldModel", "stamp", "I", false)
  | 35 => ("JudgefoldModel", "called", "I", false)
  | 36 => ("JudgefoldModel", "frozen", "I", false)
  | _ => ("JudgefoldModel", "isOpened", "[Z", true)
def tyX9 : Nat → FieldType := fun k => match k with
  | 0 => .int
  | 1 => .int
  | 2 => .array .char
  | 3 => .array .int
  | 4 => .array .int
  | 5 => .int
  | 6 => .int
  | 7 => .array .int
  | 8 => .array .int
  | 9 => .int
  | 10 => .array .int
  | 11 => .array .int
  | 12 => .array .int
  | 13 => .array .int
  | 14 => .array .int
  | 15 => .array .int
  | 16 => .array .int
  | 17 => .int
  | 18 => .int
  | 19 => .array .int
  | 20 => .array .int
  | 21 => .array .int
  | 22 => .array .int
  | 23 => .array .char
  | 24 => .array .int
  | 25 => .array .int
  | 26 => .array .char
  | 27 => .array .int
  | 28 => .array .int
  | 29 => .array .int
  | 30 => .array .int
  | 31 => .array .char
  | 32 => .array .int
  | 33 => .array .int
  | 34 => .int
  | 35 => .int
  | 36 => .int
  | _ => .array .boolean
abbrev wsX90 : List Cond := u_ws RX9 TX9 38
theorem nmX9 : ∀ a, a < 38 → ∀ b, b < 38 → a ≠ b → (TX9 a).2.1 ≠ (TX9 b).2.1 := by decide +kernel
theorem tyX9_ok : ∀ k, k < 38 → parseFieldDescriptor (TX9 k).2.2.1 = some (tyX9 k) := by decide +kernel
abbrev cX9_init : ByteArray := prog_11_method_1_code
def yX9_init : MethodName := ⟨RX9, "<init>", "()V"⟩
abbrev cX9_thrown : ByteArray := prog_11_method_2_code
def yX9_thrown : MethodName := ⟨RX9, "thrown", "()I"⟩
abbrev cX9_fails : ByteArray := prog_11_method_3_code
def yX9_fails : MethodName := ⟨RX9, "fails", "(I)Z"⟩
abbrev cX9_in : ByteArray := prog_11_method_4_code
def yX9_in : MethodName := ⟨RX9, "in", "(III)Z"⟩
abbrev cX9_isStep : ByteArray := prog_11_method_5_code
def yX9_isStep : MethodName := ⟨RX9, "isStep", "(CII)Z"⟩
abbrev cX9_step : ByteArray := prog_11_method_6_code
def yX9_step : MethodName := ⟨RX9, "step", "(CII)I"⟩
abbrev cX9_number : ByteArray := prog_11_method_7_code
def yX9_number : MethodName := ⟨RX9, "number", "(IZ)I"⟩
abbrev cX9_wipe : ByteArray := prog_11_method_8_code
def yX9_wipe : MethodName := ⟨RX9, "wipe", "(Z)I"⟩
abbrev cX9_isNoProblem : ByteArray := prog_11_method_9_code
def yX9_isNoProblem : MethodName := ⟨RX9, "isNoProblem", "(I)Z"⟩
abbrev cX9_isNoTeam : ByteArray := prog_11_method_10_code
def yX9_isNoTeam : MethodName := ⟨RX9, "isNoTeam", "(I)Z"⟩
abbrev cX9_isNoRun : ByteArray := prog_11_method_11_code
def yX9_isNoRun : MethodName := ⟨RX9, "isNoRun", "(I)Z"⟩
abbrev cX9_problem : ByteArray := prog_11_method_12_code
def yX9_problem : MethodName := ⟨RX9, "problem", "(II)I"⟩
abbrev cX9_lays : ByteArray := prog_11_method_13_code
def yX9_lays : MethodName := ⟨RX9, "lays", "(II)V"⟩
abbrev cX9_test : ByteArray := prog_11_method_14_code
def yX9_test : MethodName := ⟨RX9, "test", "(I)I"⟩
abbrev cX9_fix : ByteArray := prog_11_method_15_code
def yX9_fix : MethodName := ⟨RX9, "fix", "(II)I"⟩
abbrev cX9_tests : ByteArray := prog_11_method_16_code
def yX9_tests : MethodName := ⟨RX9, "tests", "(I)I"⟩
abbrev cX9_judges : ByteArray := prog_11_method_17_code
def yX9_judges : MethodName := ⟨RX9, "judges", "(II)V"⟩
abbrev cX9_tells : ByteArray := prog_11_method_18_code
def yX9_tells : MethodName := ⟨RX9, "tells", "(III)C"⟩
abbrev cX9_reckons : ByteArray := prog_11_method_19_code
def yX9_reckons : MethodName := ⟨RX9, "reckons", "(CII)C"⟩
abbrev cX9_isExpected : ByteArray := prog_11_method_20_code
def yX9_isExpected : MethodName := ⟨RX9, "isExpected", "(II)Z"⟩
abbrev cX9_failedOf : ByteArray := prog_11_method_21_code
def yX9_failedOf : MethodName := ⟨RX9, "failedOf", "(I)I"⟩
abbrev cX9_verdictOf : ByteArray := prog_11_method_22_code
def yX9_verdictOf : MethodName := ⟨RX9, "verdictOf", "(I)C"⟩
abbrev cX9_judgesAnew : ByteArray := prog_11_method_23_code
def yX9_judgesAnew : MethodName := ⟨RX9, "judgesAnew", "(III)I"⟩
abbrev cX9_hasSolved : ByteArray := prog_11_method_24_code
def yX9_hasSolved : MethodName := ⟨RX9, "hasSolved", "(II)Z"⟩
abbrev cX9_calls : ByteArray := prog_11_method_25_code
def yX9_calls : MethodName := ⟨RX9, "calls", "(I)V"⟩
abbrev cX9_sends : ByteArray := prog_11_method_26_code
def yX9_sends : MethodName := ⟨RX9, "sends", "(II)V"⟩
abbrev cX9_waitingAt : ByteArray := prog_11_method_27_code
def yX9_waitingAt : MethodName := ⟨RX9, "waitingAt", "(II)I"⟩
abbrev cX9_gives : ByteArray := prog_11_method_28_code
def yX9_gives : MethodName := ⟨RX9, "gives", "(I)V"⟩
abbrev cX9_team : ByteArray := prog_11_method_29_code
def yX9_team : MethodName := ⟨RX9, "team", "()I"⟩
abbrev cX9_submit : ByteArray := prog_11_method_30_code
def yX9_submit : MethodName := ⟨RX9, "submit", "(III)I"⟩
abbrev cX9_verdict : ByteArray := prog_11_method_31_code
def yX9_verdict : MethodName := ⟨RX9, "verdict", "(I)C"⟩
abbrev cX9_failed : ByteArray := prog_11_method_32_code
def yX9_failed : MethodName := ⟨RX9, "failed", "(I)I"⟩
abbrev cX9_isNoTest : ByteArray := prog_11_method_33_code
def yX9_isNoTest : MethodName := ⟨RX9, "isNoTest", "(II)Z"⟩
abbrev cX9_ended : ByteArray := prog_11_method_34_code
def yX9_ended : MethodName := ⟨RX9, "ended", "(II)C"⟩
abbrev cX9_steps : ByteArray := prog_11_method_35_code
def yX9_steps : MethodName := ⟨RX9, "steps", "(II)I"⟩
abbrev cX9_outputs : ByteArray := prog_11_method_36_code
def yX9_outputs : MethodName := ⟨RX9, "outputs", "(II)I"⟩
abbrev cX9_output : ByteArray := prog_11_method_37_code
def yX9_output : MethodName := ⟨RX9, "output", "(III)I"⟩
abbrev cX9_areAlike : ByteArray := prog_11_method_38_code
def yX9_areAlike : MethodName := ⟨RX9, "areAlike", "(IIII)Z"⟩
abbrev cX9_kept : ByteArray := prog_11_method_39_code
def yX9_kept : MethodName := ⟨RX9, "kept", "()I"⟩
abbrev cX9_isFirst : ByteArray := prog_11_method_40_code
def yX9_isFirst : MethodName := ⟨RX9, "isFirst", "(II)Z"⟩
abbrev cX9_sharing : ByteArray := prog_11_method_41_code
def yX9_sharing : MethodName := ⟨RX9, "sharing", "(II)I"⟩
abbrev cX9_isNoColour : ByteArray := prog_11_method_42_code
def yX9_isNoColour : MethodName := ⟨RX9, "isNoColour", "(I)Z"⟩
abbrev cX9_stock : ByteArray := prog_11_method_43_code
def yX9_stock : MethodName := ⟨RX9, "stock", "(II)I"⟩
abbrev cX9_inStock : ByteArray := prog_11_method_44_code
def yX9_inStock : MethodName := ⟨RX9, "inStock", "(I)I"⟩
abbrev cX9_out : ByteArray := prog_11_method_45_code
def yX9_out : MethodName := ⟨RX9, "out", "(I)I"⟩
abbrev cX9_balloon : ByteArray := prog_11_method_46_code
def yX9_balloon : MethodName := ⟨RX9, "balloon", "(II)C"⟩
abbrev cX9_waiting : ByteArray := prog_11_method_47_code
def yX9_waiting : MethodName := ⟨RX9, "waiting", "(II)I"⟩
abbrev cX9_calledBack : ByteArray := prog_11_method_48_code
def yX9_calledBack : MethodName := ⟨RX9, "calledBack", "()I"⟩
abbrev cX9_isPending : ByteArray := prog_11_method_49_code
def yX9_isPending : MethodName := ⟨RX9, "isPending", "(I)Z"⟩
abbrev cX9_pendingOf : ByteArray := prog_11_method_50_code
def yX9_pendingOf : MethodName := ⟨RX9, "pendingOf", "(II)I"⟩
abbrev cX9_freeze : ByteArray := prog_11_method_51_code
def yX9_freeze : MethodName := ⟨RX9, "freeze", "(I)I"⟩
abbrev cX9_pending : ByteArray := prog_11_method_52_code
def yX9_pending : MethodName := ⟨RX9, "pending", "(II)I"⟩
abbrev cX9_pendingIn : ByteArray := prog_11_method_53_code
def yX9_pendingIn : MethodName := ⟨RX9, "pendingIn", "(I)I"⟩
abbrev cX9_open : ByteArray := prog_11_method_54_code
def yX9_open : MethodName := ⟨RX9, "open", "()I"⟩
abbrev cX9_firstOf : ByteArray := prog_11_method_55_code
def yX9_firstOf : MethodName := ⟨RX9, "firstOf", "(IIZ)I"⟩
abbrev cX9_solvedBy : ByteArray := prog_11_method_56_code
def yX9_solvedBy : MethodName := ⟨RX9, "solvedBy", "(IZ)I"⟩
abbrev cX9_penaltyOf : ByteArray := prog_11_method_57_code
def yX9_penaltyOf : MethodName := ⟨RX9, "penaltyOf", "(IZ)I"⟩
abbrev cX9_latestOf : ByteArray := prog_11_method_58_code
def yX9_latestOf : MethodName := ⟨RX9, "latestOf", "(IZ)I"⟩
abbrev cX9_isAhead : ByteArray := prog_11_method_59_code
def yX9_isAhead : MethodName := ⟨RX9, "isAhead", "(IIZ)Z"⟩
abbrev cX9_rankOf : ByteArray := prog_11_method_60_code
def yX9_rankOf : MethodName := ⟨RX9, "rankOf", "(IZ)I"⟩
abbrev cX9_solved : ByteArray := prog_11_method_61_code
def yX9_solved : MethodName := ⟨RX9, "solved", "(IZ)I"⟩
abbrev cX9_penalty : ByteArray := prog_11_method_62_code
def yX9_penalty : MethodName := ⟨RX9, "penalty", "(IZ)I"⟩
abbrev cX9_rank : ByteArray := prog_11_method_63_code
def yX9_rank : MethodName := ⟨RX9, "rank", "(IZ)I"⟩
abbrev cX9_ranked : ByteArray := prog_11_method_64_code
def yX9_ranked : MethodName := ⟨RX9, "ranked", "(IZ)I"⟩
abbrev cX9_acceptedShare : ByteArray := prog_11_method_65_code
def yX9_acceptedShare : MethodName := ⟨RX9, "acceptedShare", "()F"⟩
abbrev cX9_meanSteps : ByteArray := prog_11_method_66_code
def yX9_meanSteps : MethodName := ⟨RX9, "meanSteps", "()D"⟩
abbrev cX9_checksum : ByteArray := prog_11_method_67_code
def yX9_checksum : MethodName := ⟨RX9, "checksum", "()J"⟩
abbrev cX9_isTrue : ByteArray := prog_11_method_68_code
def yX9_isTrue : MethodName := ⟨RX9, "isTrue", "()Z"⟩
def RJx145de : String := "java/io/Serializable"
def TJx145de : u_T := fun k => match k with
  | _ => ("", "", "", false)
def tyJx145de : Nat → FieldType := fun k => match k with
  | _ => .int
abbrev wsJx145de0 : List Cond := u_ws RJx145de TJx145de 0
theorem nmJx145de : ∀ a, a < 0 → ∀ b, b < 0 → a ≠ b → (TJx145de a).2.1 ≠ (TJx145de b).2.1 := by decide +kernel
theorem tyJx145de_ok : ∀ k, k < 0 → parseFieldDescriptor (TJx145de k).2.2.1 = some (tyJx145de k) := by decide +kernel
def RJx00060 : String := "java/lang/ArrayIndexOutOfBoundsException"
def TJx00060 : u_T := fun k => match k with
  | 0 => ("java/lang/Throwable", "backtrace", "Ljava/lang/Object;", false)
  | 1 => ("java/lang/Throwable", "detailMessage", "Ljava/lang/String;", false)
  | 2 => ("java/lang/Throwable", "cause", "Ljava/lang/Throwable;", false)
  | 3 => ("java/lang/Throwable", "stackTrace", "[Ljava/lang/StackTraceElement;", false)
  | 4 => ("java/lang/Throwable", "depth", "I", false)
  | _ => ("java/lang/Throwable", "suppressedExceptions", "Ljava/util/List;", false)
def tyJx00060 : Nat → FieldType := fun k => match k with
  | 0 => .object "java/lang/Object"
  | 1 => .object "java/lang/String"
  | 2 => .object "java/lang/Throwable"
  | 3 => .array (.object "java/lang/StackTraceElement")
  | 4 => .int
  | _ => .object "java/util/List"
abbrev wsJx000600 : List Cond := u_ws RJx00060 TJx00060 6
theorem nmJx00060 : ∀ a, a < 6 → ∀ b, b < 6 → a ≠ b → (TJx00060 a).2.1 ≠ (TJx00060 b).2.1 := by decide +kernel
theorem tyJx00060_ok : ∀ k, k < 6 → parseFieldDescriptor (TJx00060 k).2.2.1 = some (tyJx00060 k) := by decide +kernel
abbrev cJx00060_init_a7421 : ByteArray := prog_14_method_2_code
def yJx00060_init_a7421 : MethodName := ⟨RJx00060, "<init>", "(Ljava/lang/String;)V"⟩
def RJ9 : String := "java/lang/Math"
def TJ9 : u_T := fun k => match k with
  | _ => ("", "", "", false)
def tyJ9 : Nat → FieldType := fun k => match k with
  | _ => .int
abbrev wsJ90 : List Cond := u_ws RJ9 TJ9 0
theorem nmJ9 : ∀ a, a < 0 → ∀ b, b < 0 → a ≠ b → (TJ9 a).2.1 ≠ (TJ9 b).2.1 := by decide +kernel
theorem tyJ9_ok : ∀ k, k < 0 → parseFieldDescriptor (TJ9 k).2.2.1 = some (tyJ9 k) := by decide +kernel
abbrev cJ9_max_7cf53 : ByteArray := prog_19_method_65_code
def yJ9_max_7cf53 : MethodName := ⟨RJ9, "max", "(II)I"⟩
def RJ0 : String := "java/lang/String"
def TJ0 : u_T := fun k => match k with
  | 0 => ("java/lang/String", "value", "[B", true)
  | _ => ("java/lang/String", "coder", "B", true)
def tyJ0 : Nat → FieldType := fun k => match k with
  | 0 => .array .byte
  | _ => .byte
abbrev wsJ00 : List Cond := u_ws RJ0 TJ0 2
theorem nmJ0 : ∀ a, a < 2 → ∀ b, b < 2 → a ≠ b → (TJ0 a).2.1 ≠ (TJ0 b).2.1 := by decide +kernel
theorem tyJ0_ok : ∀ k, k < 2 → parseFieldDescriptor (TJ0 k).2.2.1 = some (tyJ0 k) := by decide +kernel
def RL : String := "JudgefoldLaw"
abbrev cL_step : ByteArray := method_3_code
def yL_step : MethodName := ⟨RL, "step", "(LJudgefold;CII[J)I"⟩
abbrev cL_number : ByteArray := method_4_code
def yL_number : MethodName := ⟨RL, "number", "(LJudgefold;IZ[J)I"⟩
abbrev cL_problem : ByteArray := method_5_code
def yL_problem : MethodName := ⟨RL, "problem", "(LJudgefold;II[J)I"⟩
abbrev cL_test : ByteArray := method_6_code
def yL_test : MethodName := ⟨RL, "test", "(LJudgefold;I[J)I"⟩
abbrev cL_fix : ByteArray := method_7_code
def yL_fix : MethodName := ⟨RL, "fix", "(LJudgefold;II[J)I"⟩
abbrev cL_tests : ByteArray := method_8_code
def yL_tests : MethodName := ⟨RL, "tests", "(LJudgefold;I[J)I"⟩
abbrev cL_team : ByteArray := method_9_code
def yL_team : MethodName := ⟨RL, "team", "(LJudgefold;[J)I"⟩
abbrev cL_submit : ByteArray := method_10_code
def yL_submit : MethodName := ⟨RL, "submit", "(LJudgefold;III[J)I"⟩
abbrev cL_verdict : ByteArray := method_11_code
def yL_verdict : MethodName := ⟨RL, "verdict", "(LJudgefold;I[J)I"⟩
abbrev cL_failed : ByteArray := method_12_code
def yL_failed : MethodName := ⟨RL, "failed", "(LJudgefold;I[J)I"⟩
abbrev cL_ended : ByteArray := method_13_code
def yL_ended : MethodName := ⟨RL, "ended", "(LJudgefold;II[J)I"⟩
abbrev cL_steps : ByteArray := method_14_code
def yL_steps : MethodName := ⟨RL, "steps", "(LJudgefold;II[J)I"⟩
abbrev cL_outputs : ByteArray := method_15_code
def yL_outputs : MethodName := ⟨RL, "outputs", "(LJudgefold;II[J)I"⟩
abbrev cL_output : ByteArray := method_16_code
def yL_output : MethodName := ⟨RL, "output", "(LJudgefold;III[J)I"⟩
abbrev cL_sharing : ByteArray := method_17_code
def yL_sharing : MethodName := ⟨RL, "sharing", "(LJudgefold;II[J)I"⟩
abbrev cL_stock : ByteArray := method_18_code
def yL_stock : MethodName := ⟨RL, "stock", "(LJudgefold;II[J)I"⟩
abbrev cL_inStock : ByteArray := method_19_code
def yL_inStock : MethodName := ⟨RL, "inStock", "(LJudgefold;I[J)I"⟩
abbrev cL_out : ByteArray := method_20_code
def yL_out : MethodName := ⟨RL, "out", "(LJudgefold;I[J)I"⟩
abbrev cL_balloon : ByteArray := method_21_code
def yL_balloon : MethodName := ⟨RL, "balloon", "(LJudgefold;II[J)I"⟩
abbrev cL_waiting : ByteArray := method_22_code
def yL_waiting : MethodName := ⟨RL, "waiting", "(LJudgefold;II[J)I"⟩
abbrev cL_freeze : ByteArray := method_23_code
def yL_freeze : MethodName := ⟨RL, "freeze", "(LJudgefold;I[J)I"⟩
abbrev cL_pending : ByteArray := method_24_code
def yL_pending : MethodName := ⟨RL, "pending", "(LJudgefold;II[J)I"⟩
abbrev cL_open : ByteArray := method_25_code
def yL_open : MethodName := ⟨RL, "open", "(LJudgefold;[J)I"⟩
abbrev cL_solved : ByteArray := method_26_code
def yL_solved : MethodName := ⟨RL, "solved", "(LJudgefold;IZ[J)I"⟩
abbrev cL_penalty : ByteArray := method_27_code
def yL_penalty : MethodName := ⟨RL, "penalty", "(LJudgefold;IZ[J)I"⟩
abbrev cL_rank : ByteArray := method_28_code
def yL_rank : MethodName := ⟨RL, "rank", "(LJudgefold;IZ[J)I"⟩
abbrev cL_ranked : ByteArray := method_29_code
def yL_ranked : MethodName := ⟨RL, "ranked", "(LJudgefold;IZ[J)I"⟩
abbrev cL_acceptedShare : ByteArray := method_30_code
def yL_acceptedShare : MethodName := ⟨RL, "acceptedShare", "(LJudgefold;[D)I"⟩
abbrev cL_meanSteps : ByteArray := method_31_code
def yL_meanSteps : MethodName := ⟨RL, "meanSteps", "(LJudgefold;[D)I"⟩
abbrev cL_law : ByteArray := code
def yL_law : MethodName := ⟨RL, "law", "([I)Z"⟩
def wsL_law0_r1 : List Cond := [Cond.classLink RL 8 RX8, Cond.instantiable RX8 14, Cond.initialized RX8, Cond.classLink RL 119 RX9, Cond.instantiable RX9 38, Cond.initialized RX9, Cond.arrayClass .long, Cond.arrayClass .double, Cond.methodLink RL 118 yX8_init, Cond.instanceMethod yX8_init, Cond.code yX8_init cX8_init 2 none, Cond.methodLink RX8 3 objectInit, Cond.instanceMethod objectInit, Cond.code objectInit ⟨#[0xb1]⟩ 1 none, Cond.classLink RX8 9 RX5, Cond.instantiable RX5 4, Cond.initialized RX5, Cond.fieldLink RX8 12 "Judgefold" "typedProgram" "LJudgefold$Program;", Cond.classLink RX8 16 RX3, Cond.instantiable RX3 4, Cond.initialized RX3, Cond.fieldLink RX8 19 "Judgefold" "typedNumbers" "LJudgefold$Numbers;", Cond.classLink RX8 23 RX4, Cond.fieldLink RX8 25 "Judgefold" "problems" "[LJudgefold$Problem;"]
def wsL_law0_r2 : List Cond := [Cond.classLink RX8 29 RX6, Cond.fieldLink RX8 31 "Judgefold" "runs" "[LJudgefold$Run;", Cond.classLink RX8 35 RX2, Cond.instantiable RX2 7, Cond.initialized RX2, Cond.fieldLink RX8 38 "Judgefold" "machine" "LJudgefold$Machine;", Cond.classLink RX8 42 RX7, Cond.instantiable RX7 4, Cond.initialized RX7, Cond.fieldLink RX8 45 "Judgefold" "store" "LJudgefold$Store;", Cond.classLink RX8 49 RX0, Cond.instantiable RX0 6, Cond.initialized RX0, Cond.fieldLink RX8 52 "Judgefold" "balloons" "LJudgefold$Balloons;", Cond.classLink RX8 56 RX1, Cond.instantiable RX1 7, Cond.initialized RX1, Cond.fieldLink RX8 59 "Judgefold" "trueBoard" "LJudgefold$Board;", Cond.fieldLink RX8 63 "Judgefold" "publicBoard" "LJudgefold$Board;", Cond.fieldLink RX8 66 "Judgefold" "freshBoard" "LJudgefold$Board;", Cond.fieldLink RX8 69 "Judgefold" "problemCount" "I", Cond.fieldLink RX8 73 "Judgefold" "teamCount" "I", Cond.fieldLink RX8 76 "Judgefold" "runCount" "I", Cond.fieldLink RX8 79 "Judgefold" "freezeMinute" "I"]
def wsL_law0_r3 : List Cond := [Cond.instantiable RX4 4, Cond.initialized RX4, Cond.instantiable RX6 10, Cond.initialized RX6, Cond.instanceMethod yX5_init, Cond.code yX5_init cX5_init 1 none, Cond.methodLink RX5 3 objectInit, Cond.arrayClass .char, Cond.fieldLink RX5 9 "Judgefold$Program" "letters" "[C", Cond.arrayClass .int, Cond.fieldLink RX5 15 "Judgefold$Program" "firsts" "[I", Cond.fieldLink RX5 19 "Judgefold$Program" "seconds" "[I", Cond.fieldLink RX5 22 "Judgefold$Program" "size" "I", Cond.instanceMethod yX3_init, Cond.code yX3_init cX3_init 1 none, Cond.methodLink RX3 3 objectInit, Cond.fieldLink RX3 9 "Judgefold$Numbers" "input" "[I", Cond.fieldLink RX3 15 "Judgefold$Numbers" "expected" "[I", Cond.fieldLink RX3 18 "Judgefold$Numbers" "inputSize" "I", Cond.fieldLink RX3 22 "Judgefold$Numbers" "expectedSize" "I", Cond.instanceMethod yX2_init, Cond.code yX2_init cX2_init 1 none, Cond.methodLink RX2 3 objectInit, Cond.fieldLink RX2 9 "Judgefold$Machine" "places" "[I"]
def wsL_law0_r4 : List Cond := [Cond.fieldLink RX2 15 "Judgefold$Machine" "output" "[I", Cond.fieldLink RX2 18 "Judgefold$Machine" "outputSize" "I", Cond.fieldLink RX2 22 "Judgefold$Machine" "inputsTaken" "I", Cond.fieldLink RX2 25 "Judgefold$Machine" "nextStep" "I", Cond.fieldLink RX2 28 "Judgefold$Machine" "stepsDone" "I", Cond.fieldLink RX2 31 "Judgefold$Machine" "ending" "C", Cond.instanceMethod yX7_init, Cond.code yX7_init cX7_init 1 none, Cond.methodLink RX7 3 objectInit, Cond.fieldLink RX7 9 "Judgefold$Store" "numbers" "[I", Cond.fieldLink RX7 15 "Judgefold$Store" "sizes" "[I", Cond.fieldLink RX7 18 "Judgefold$Store" "users" "[I", Cond.fieldLink RX7 21 "Judgefold$Store" "usedSlots" "I", Cond.methodLink RX8 51 yX0_init, Cond.instanceMethod yX0_init, Cond.code yX0_init cX0_init 2 none, Cond.methodLink RX0 3 objectInit, Cond.fieldLink RX0 9 "Judgefold$Balloons" "states" "[C", Cond.classLink RX0 15 "[[I", Cond.fieldLink RX0 17 "Judgefold$Balloons" "queues" "[[I", Cond.fieldLink RX0 20 "Judgefold$Balloons" "queueSizes" "[I", Cond.fieldLink RX0 24 "Judgefold$Balloons" "stocks" "[I", Cond.fieldLink RX0 27 "Judgefold$Balloons" "outCounts" "[I", Cond.fieldLink RX0 30 "Judgefold$Balloons" "callBacks" "I"]
def wsL_law0_r5 : List Cond := [Cond.instanceMethod yX1_init, Cond.code yX1_init cX1_init 1 none, Cond.methodLink RX1 3 objectInit, Cond.fieldLink RX1 9 "Judgefold$Board" "failures" "[I", Cond.fieldLink RX1 15 "Judgefold$Board" "firstMinutes" "[I", Cond.fieldLink RX1 18 "Judgefold$Board" "solvedCounts" "[I", Cond.fieldLink RX1 21 "Judgefold$Board" "penalties" "[I", Cond.fieldLink RX1 24 "Judgefold$Board" "latestMinutes" "[I", Cond.fieldLink RX1 27 "Judgefold$Board" "order" "[I", Cond.fieldLink RX1 30 "Judgefold$Board" "teamCount" "I", Cond.methodLink RX8 82 yX4_init, Cond.instanceMethod yX4_init, Cond.code yX4_init cX4_init 2 none, Cond.methodLink RX4 3 objectInit, Cond.classLink RX4 9 RX3, Cond.fieldLink RX4 11 "Judgefold$Problem" "contents" "[LJudgefold$Numbers;", Cond.fieldLink RX4 17 "Judgefold$Problem" "colour" "I", Cond.fieldLink RX4 21 "Judgefold$Problem" "limit" "I", Cond.fieldLink RX4 24 "Judgefold$Problem" "testCount" "I", Cond.methodLink RX8 83 yX6_init, Cond.instanceMethod yX6_init, Cond.code yX6_init cX6_init 2 none, Cond.methodLink RX6 3 objectInit, Cond.classLink RX6 9 RX5]
def wsL_law0_r6 : List Cond := [Cond.fieldLink RX6 12 "Judgefold$Run" "program" "LJudgefold$Program;", Cond.fieldLink RX6 18 "Judgefold$Run" "endings" "[C", Cond.fieldLink RX6 22 "Judgefold$Run" "stepCounts" "[I", Cond.fieldLink RX6 26 "Judgefold$Run" "slots" "[I", Cond.fieldLink RX6 29 "Judgefold$Run" "team" "I", Cond.fieldLink RX6 33 "Judgefold$Run" "problem" "I", Cond.fieldLink RX6 36 "Judgefold$Run" "minute" "I", Cond.fieldLink RX6 39 "Judgefold$Run" "isPending" "Z", Cond.fieldLink RX6 43 "Judgefold$Run" "verdict" "C", Cond.fieldLink RX6 47 "Judgefold$Run" "failedTest" "I", Cond.methodLink RL 121 yX9_init, Cond.instanceMethod yX9_init, Cond.code yX9_init cX9_init 1 none, Cond.methodLink RX9 1 objectInit, Cond.fieldLink RX9 7 "JudgefoldModel" "letter" "[C", Cond.fieldLink RX9 13 "JudgefoldModel" "stepA" "[I", Cond.fieldLink RX9 17 "JudgefoldModel" "stepB" "[I", Cond.fieldLink RX9 20 "JudgefoldModel" "input" "[I", Cond.fieldLink RX9 23 "JudgefoldModel" "expected" "[I", Cond.fieldLink RX9 26 "JudgefoldModel" "colour" "[I", Cond.fieldLink RX9 29 "JudgefoldModel" "limit" "[I", Cond.fieldLink RX9 32 "JudgefoldModel" "tests" "[I", Cond.fieldLink RX9 35 "JudgefoldModel" "testInput" "[I", Cond.fieldLink RX9 38 "JudgefoldModel" "testInputs" "[I"]
def wsL_law0_r7 : List Cond := [Cond.fieldLink RX9 41 "JudgefoldModel" "testExpected" "[I", Cond.fieldLink RX9 44 "JudgefoldModel" "testExpecteds" "[I", Cond.fieldLink RX9 47 "JudgefoldModel" "team" "[I", Cond.fieldLink RX9 50 "JudgefoldModel" "problem" "[I", Cond.fieldLink RX9 53 "JudgefoldModel" "minute" "[I", Cond.fieldLink RX9 56 "JudgefoldModel" "length" "[I", Cond.fieldLink RX9 59 "JudgefoldModel" "runLetter" "[C", Cond.fieldLink RX9 62 "JudgefoldModel" "runA" "[I", Cond.fieldLink RX9 65 "JudgefoldModel" "runB" "[I", Cond.fieldLink RX9 68 "JudgefoldModel" "end" "[C", Cond.fieldLink RX9 71 "JudgefoldModel" "done" "[I", Cond.fieldLink RX9 74 "JudgefoldModel" "output" "[I", Cond.fieldLink RX9 77 "JudgefoldModel" "outputs" "[I", Cond.fieldLink RX9 80 "JudgefoldModel" "place" "[I", Cond.fieldLink RX9 83 "JudgefoldModel" "balloon" "[C", Cond.fieldLink RX9 86 "JudgefoldModel" "since" "[I", Cond.fieldLink RX9 89 "JudgefoldModel" "stock" "[I", Cond.fieldLink RX9 92 "JudgefoldModel" "frozen" "I", Cond.arrayClass .boolean, Cond.fieldLink RX9 96 "JudgefoldModel" "isOpened" "[Z", Cond.methodLink RL 122 yL_step, Cond.static yL_step, Cond.initialized RL, Cond.codeWith yL_step cL_step 6 (some .int) [(0, 12, 15, 13), (0, 12, 19, 15)]]
def wsL_law0_r8 : List Cond := [Cond.classLink RL 13 "java/lang/IllegalArgumentException", Cond.classLink RL 15 "java/lang/IllegalStateException", Cond.methodLink RL 7 yX8_step, Cond.instanceMethod yX8_step, Cond.selects RX8 yX8_step yX8_step, Cond.code yX8_step cX8_step 4 (some .int), Cond.classLink RX8 88 "java/lang/IllegalArgumentException", Cond.initialized "java/lang/IllegalArgumentException", Cond.classLink RX8 94 "java/lang/IllegalStateException", Cond.initialized "java/lang/IllegalStateException", Cond.fieldLink RX8 91 "Judgefold$Program" "size" "I", Cond.methodLink RX8 84 yX8_isStep, Cond.static yX8_isStep, Cond.code yX8_isStep cX8_isStep 3 (some .boolean), Cond.methodLink RX8 322 yX8_isPlace, Cond.static yX8_isPlace, Cond.code yX8_isPlace cX8_isPlace 1 (some .boolean), Cond.methodLink RX8 120 yX8_isWithin, Cond.static yX8_isWithin, Cond.code yX8_isWithin cX8_isWithin 3 (some .boolean), Cond.methodLink RX8 101 yX8_isNumber, Cond.static yX8_isNumber, Cond.code yX8_isNumber cX8_isNumber 1 (some .boolean), Cond.methodLink RX8 97 yX5_append]
def wsL_law0_r9 : List Cond := [Cond.instanceMethod yX5_append, Cond.selects RX5 yX5_append yX5_append, Cond.code yX5_append cX5_append 4 none, Cond.methodLink RL 127 yX9_step, Cond.instanceMethod yX9_step, Cond.selects RX9 yX9_step yX9_step, Cond.code yX9_step cX9_step 4 (some .int), Cond.fieldLink RX9 111 "JudgefoldModel" "steps" "I", Cond.methodLink RX9 107 yX9_isStep, Cond.static yX9_isStep, Cond.code yX9_isStep cX9_isStep 3 (some .boolean), Cond.methodLink RX9 103 yX9_in, Cond.static yX9_in, Cond.code yX9_in cX9_in 3 (some .boolean), Cond.methodLink RX9 114 yX9_fails, Cond.instanceMethod yX9_fails, Cond.selects RX9 yX9_fails yX9_fails, Cond.code yX9_fails cX9_fails 2 (some .boolean), Cond.fieldLink RX9 100 "JudgefoldModel" "code" "I", Cond.methodLink RL 128 yX9_thrown, Cond.instanceMethod yX9_thrown, Cond.selects RX9 yX9_thrown yX9_thrown, Cond.code yX9_thrown cX9_thrown 1 (some .int), Cond.methodLink RL 131 yL_number]
def wsL_law0_r10 : List Cond := [Cond.static yL_number, Cond.codeWith yL_number cL_number 5 (some .int) [(0, 10, 13, 13), (0, 10, 17, 15)], Cond.methodLink RL 17 yX8_number, Cond.instanceMethod yX8_number, Cond.selects RX8 yX8_number yX8_number, Cond.code yX8_number cX8_number 3 (some .int), Cond.methodLink RX8 105 yX3_hasRoom, Cond.instanceMethod yX3_hasRoom, Cond.selects RX3 yX3_hasRoom yX3_hasRoom, Cond.code yX3_hasRoom cX3_hasRoom 2 (some .boolean), Cond.methodLink RX8 109 yX3_append, Cond.instanceMethod yX3_append, Cond.selects RX3 yX3_append yX3_append, Cond.code yX3_append cX3_append 3 (some .int), Cond.methodLink RX3 25 yX3_hasRoom, Cond.methodLink RL 134 yX9_number, Cond.instanceMethod yX9_number, Cond.selects RX9 yX9_number yX9_number, Cond.code yX9_number cX9_number 3 (some .int), Cond.fieldLink RX9 118 "JudgefoldModel" "expecteds" "I", Cond.fieldLink RX9 121 "JudgefoldModel" "inputs" "I", Cond.methodLink RL 135 yX8_wipe, Cond.instanceMethod yX8_wipe, Cond.selects RX8 yX8_wipe yX8_wipe]
def wsL_law0_r11 : List Cond := [Cond.code yX8_wipe cX8_wipe 2 (some .int), Cond.methodLink RX8 112 yX5_clear, Cond.instanceMethod yX5_clear, Cond.selects RX5 yX5_clear yX5_clear, Cond.code yX5_clear cX5_clear 2 (some .int), Cond.methodLink RX8 116 yX3_clear, Cond.instanceMethod yX3_clear, Cond.selects RX3 yX3_clear yX3_clear, Cond.code yX3_clear cX3_clear 2 (some .int), Cond.methodLink RL 139 yX9_wipe, Cond.instanceMethod yX9_wipe, Cond.selects RX9 yX9_wipe yX9_wipe, Cond.code yX9_wipe cX9_wipe 3 (some .int), Cond.methodLink RL 140 yL_problem, Cond.static yL_problem, Cond.codeWith yL_problem cL_problem 5 (some .int) [(0, 10, 13, 13), (0, 10, 17, 15)], Cond.methodLink RL 21 yX8_problem, Cond.instanceMethod yX8_problem, Cond.selects RX8 yX8_problem yX8_problem, Cond.code yX8_problem cX8_problem 3 (some .int), Cond.fieldLink RX8 124 "Judgefold$Problem" "colour" "I", Cond.fieldLink RX8 127 "Judgefold$Problem" "limit" "I", Cond.methodLink RX8 117 yX8_isColour, Cond.static yX8_isColour]
def wsL_law0_r12 : List Cond := [Cond.code yX8_isColour cX8_isColour 1 (some .boolean), Cond.methodLink RL 143 yX9_problem, Cond.instanceMethod yX9_problem, Cond.selects RX9 yX9_problem yX9_problem, Cond.code yX9_problem cX9_problem 3 (some .int), Cond.fieldLink RX9 124 "JudgefoldModel" "problems" "I", Cond.methodLink RL 144 yL_test, Cond.static yL_test, Cond.codeWith yL_test cL_test 4 (some .int) [(0, 9, 12, 29), (0, 9, 15, 15)], Cond.classLink RL 29 "java/lang/IndexOutOfBoundsException", Cond.methodLink RL 25 yX8_test, Cond.instanceMethod yX8_test, Cond.selects RX8 yX8_test yX8_test, Cond.code yX8_test cX8_test 3 (some .int), Cond.classLink RX8 133 "java/lang/IndexOutOfBoundsException", Cond.initialized "java/lang/IndexOutOfBoundsException", Cond.fieldLink RX8 136 "Judgefold$Problem" "testCount" "I", Cond.fieldLink RX8 139 "Judgefold$Problem" "contents" "[LJudgefold$Numbers;", Cond.methodLink RX8 130 yX8_hasProblem, Cond.instanceMethod yX8_hasProblem, Cond.selects RX8 yX8_hasProblem yX8_hasProblem, Cond.code yX8_hasProblem cX8_hasProblem 2 (some .boolean), Cond.methodLink RX8 143 yX3_copyFrom, Cond.instanceMethod yX3_copyFrom]
def wsL_law0_r13 : List Cond := [Cond.selects RX3 yX3_copyFrom yX3_copyFrom, Cond.code yX3_copyFrom cX3_copyFrom 3 none, Cond.methodLink RX3 29 yX3_clear, Cond.methodLink RX3 33 yX3_append, Cond.methodLink RX8 147 yX8_judgeAnew, Cond.instanceMethod yX8_judgeAnew, Cond.selects RX8 yX8_judgeAnew yX8_judgeAnew, Cond.code yX8_judgeAnew cX8_judgeAnew 6 (some .int), Cond.fieldLink RX8 166 "Judgefold$Run" "problem" "I", Cond.fieldLink RX8 193 "Judgefold$Run" "verdict" "C", Cond.methodLink RX8 329 yX8_judge, Cond.instanceMethod yX8_judge, Cond.selects RX8 yX8_judge yX8_judge, Cond.code yX8_judge cX8_judge 4 none, Cond.fieldLink RX8 176 "Judgefold$Run" "program" "LJudgefold$Program;", Cond.fieldLink RX8 215 "Judgefold$Run" "slots" "[I", Cond.fieldLink RX8 343 "Judgefold$Machine" "output" "[I", Cond.fieldLink RX8 346 "Judgefold$Machine" "outputSize" "I", Cond.fieldLink RX8 204 "Judgefold$Run" "endings" "[C", Cond.fieldLink RX8 353 "Judgefold$Machine" "ending" "C", Cond.fieldLink RX8 208 "Judgefold$Run" "stepCounts" "[I", Cond.fieldLink RX8 356 "Judgefold$Machine" "stepsDone" "I", Cond.methodLink RX8 336 yX2_execute, Cond.instanceMethod yX2_execute]
def wsL_law0_r14 : List Cond := [Cond.selects RX2 yX2_execute yX2_execute, Cond.code yX2_execute cX2_execute 5 none, Cond.fieldLink RX2 38 "Judgefold$Program" "size" "I", Cond.methodLink RX2 35 yX2_reset, Cond.instanceMethod yX2_reset, Cond.selects RX2 yX2_reset yX2_reset, Cond.code yX2_reset cX2_reset 2 none, Cond.methodLink RX2 43 yX2_doNextStep, Cond.instanceMethod yX2_doNextStep, Cond.selects RX2 yX2_doNextStep yX2_doNextStep, Cond.code yX2_doNextStep cX2_doNextStep 6 none, Cond.fieldLink RX2 53 "Judgefold$Program" "letters" "[C", Cond.fieldLink RX2 57 "Judgefold$Program" "firsts" "[I", Cond.fieldLink RX2 60 "Judgefold$Program" "seconds" "[I", Cond.methodLink RX2 63 yX2_takeInput, Cond.instanceMethod yX2_takeInput, Cond.selects RX2 yX2_takeInput yX2_takeInput, Cond.code yX2_takeInput cX2_takeInput 3 none, Cond.fieldLink RX2 79 "Judgefold$Numbers" "inputSize" "I", Cond.fieldLink RX2 82 "Judgefold$Numbers" "input" "[I", Cond.methodLink RX2 67 yX2_putOut, Cond.instanceMethod yX2_putOut, Cond.selects RX2 yX2_putOut yX2_putOut, Cond.code yX2_putOut cX2_putOut 2 none]
def wsL_law0_r15 : List Cond := [Cond.methodLink RX2 71 yX2_divide, Cond.instanceMethod yX2_divide, Cond.selects RX2 yX2_divide yX2_divide, Cond.code yX2_divide cX2_divide 3 none, Cond.methodLink RX2 75 yX2_goIf, Cond.instanceMethod yX2_goIf, Cond.selects RX2 yX2_goIf yX2_goIf, Cond.code yX2_goIf cX2_goIf 4 none, Cond.methodLink RX2 47 yX3_isExpected, Cond.instanceMethod yX3_isExpected, Cond.selects RX3 yX3_isExpected yX3_isExpected, Cond.code yX3_isExpected cX3_isExpected 4 (some .boolean), Cond.methodLink RX8 340 yX7_release, Cond.instanceMethod yX7_release, Cond.selects RX7 yX7_release yX7_release, Cond.code yX7_release cX7_release 2 none, Cond.methodLink RX8 349 yX7_keep, Cond.instanceMethod yX7_keep, Cond.selects RX7 yX7_keep yX7_keep, Cond.code yX7_keep cX7_keep 4 (some .int), Cond.methodLink RX7 25 yX7_find, Cond.instanceMethod yX7_find, Cond.selects RX7 yX7_find yX7_find, Cond.code yX7_find cX7_find 4 (some .int)]
def wsL_law0_r16 : List Cond := [Cond.methodLink RX7 43 yX7_isAlike, Cond.instanceMethod yX7_isAlike, Cond.selects RX7 yX7_isAlike yX7_isAlike, Cond.code yX7_isAlike cX7_isAlike 5 (some .boolean), Cond.methodLink RX7 37 yX7_numberAt, Cond.instanceMethod yX7_numberAt, Cond.selects RX7 yX7_numberAt yX7_numberAt, Cond.code yX7_numberAt cX7_numberAt 3 (some .int), Cond.methodLink RX7 29 yX7_firstFree, Cond.instanceMethod yX7_firstFree, Cond.selects RX7 yX7_firstFree yX7_firstFree, Cond.code yX7_firstFree cX7_firstFree 2 (some .int), Cond.methodLink RX7 33 yX7_fill, Cond.instanceMethod yX7_fill, Cond.selects RX7 yX7_fill yX7_fill, Cond.code yX7_fill cX7_fill 5 none, Cond.methodLink RX8 333 yX6_conclude, Cond.instanceMethod yX6_conclude, Cond.selects RX6 yX6_conclude yX6_conclude, Cond.code yX6_conclude cX6_conclude 3 none, Cond.methodLink RX8 154 yX8_recountBoards, Cond.instanceMethod yX8_recountBoards, Cond.selects RX8 yX8_recountBoards yX8_recountBoards, Cond.code yX8_recountBoards cX8_recountBoards 1 none]
def wsL_law0_r17 : List Cond := [Cond.methodLink RX8 325 yX1_recount, Cond.instanceMethod yX1_recount, Cond.selects RX1 yX1_recount yX1_recount, Cond.code yX1_recount cX1_recount 6 none, Cond.fieldLink RX1 37 "Judgefold$Run" "isPending" "Z", Cond.methodLink RX1 34 yX1_clear, Cond.instanceMethod yX1_clear, Cond.selects RX1 yX1_clear yX1_clear, Cond.code yX1_clear cX1_clear 2 none, Cond.methodLink RX1 43 yX1_count, Cond.instanceMethod yX1_count, Cond.selects RX1 yX1_count yX1_count, Cond.code yX1_count cX1_count 3 none, Cond.fieldLink RX1 50 "Judgefold$Run" "team" "I", Cond.fieldLink RX1 53 "Judgefold$Run" "problem" "I", Cond.fieldLink RX1 64 "Judgefold$Run" "verdict" "C", Cond.fieldLink RX1 68 "Judgefold$Run" "minute" "I", Cond.methodLink RX1 71 Lib.Math.max.name, Cond.static Lib.Math.max.name, Cond.initialized "java/lang/Math", Cond.code Lib.Math.max.name Lib.Math.max.code 2 (some .int), Cond.static yX8_spotOf, Cond.code yX8_spotOf cX8_spotOf 2 (some .int), Cond.methodLink RX1 60 yX1_hasSolved]
def wsL_law0_r18 : List Cond := [Cond.instanceMethod yX1_hasSolved, Cond.selects RX1 yX1_hasSolved yX1_hasSolved, Cond.code yX1_hasSolved cX1_hasSolved 2 (some .boolean), Cond.methodLink RX1 47 yX1_putInOrder, Cond.instanceMethod yX1_putInOrder, Cond.selects RX1 yX1_putInOrder yX1_putInOrder, Cond.code yX1_putInOrder cX1_putInOrder 3 none, Cond.methodLink RX1 76 yX1_isAhead, Cond.instanceMethod yX1_isAhead, Cond.selects RX1 yX1_isAhead yX1_isAhead, Cond.code yX1_isAhead cX1_isAhead 3 (some .boolean), Cond.methodLink RX8 186 yX0_follow, Cond.instanceMethod yX0_follow, Cond.selects RX0 yX0_follow yX0_follow, Cond.code yX0_follow cX0_follow 6 none, Cond.fieldLink RX0 34 "Judgefold$Board" "teamCount" "I", Cond.methodLink RX0 43 yX1_hasSolved, Cond.methodLink RX0 47 yX0_takeAway, Cond.instanceMethod yX0_takeAway, Cond.selects RX0 yX0_takeAway yX0_takeAway, Cond.code yX0_takeAway cX0_takeAway 3 none, Cond.methodLink RX0 62 yX0_leaveQueue, Cond.instanceMethod yX0_leaveQueue, Cond.selects RX0 yX0_leaveQueue yX0_leaveQueue]
def wsL_law0_r19 : List Cond := [Cond.code yX0_leaveQueue cX0_leaveQueue 4 none, Cond.methodLink RX0 58 yX0_dropFromQueue, Cond.instanceMethod yX0_dropFromQueue, Cond.selects RX0 yX0_dropFromQueue yX0_dropFromQueue, Cond.code yX0_dropFromQueue cX0_dropFromQueue 6 none, Cond.methodLink RX0 51 yX0_serve, Cond.instanceMethod yX0_serve, Cond.selects RX0 yX0_serve yX0_serve, Cond.code yX0_serve cX0_serve 3 none, Cond.methodLink RX0 55 yX0_enqueue, Cond.instanceMethod yX0_enqueue, Cond.selects RX0 yX0_enqueue yX0_enqueue, Cond.code yX0_enqueue cX0_enqueue 3 none, Cond.methodLink RL 147 yX9_test, Cond.instanceMethod yX9_test, Cond.selects RX9 yX9_test yX9_test, Cond.code yX9_test cX9_test 3 (some .int), Cond.methodLink RX9 133 yX9_isNoProblem, Cond.instanceMethod yX9_isNoProblem, Cond.selects RX9 yX9_isNoProblem yX9_isNoProblem, Cond.code yX9_isNoProblem cX9_isNoProblem 2 (some .boolean), Cond.methodLink RX9 136 yX9_lays, Cond.instanceMethod yX9_lays, Cond.selects RX9 yX9_lays yX9_lays]
def wsL_law0_r20 : List Cond := [Cond.code yX9_lays cX9_lays 4 none, Cond.methodLink RX9 140 yX9_judgesAnew, Cond.instanceMethod yX9_judgesAnew, Cond.selects RX9 yX9_judgesAnew yX9_judgesAnew, Cond.code yX9_judgesAnew cX9_judgesAnew 8 (some .int), Cond.fieldLink RX9 130 "JudgefoldModel" "runs" "I", Cond.methodLink RX9 160 yX9_verdictOf, Cond.instanceMethod yX9_verdictOf, Cond.selects RX9 yX9_verdictOf yX9_verdictOf, Cond.code yX9_verdictOf cX9_verdictOf 3 (some .char), Cond.methodLink RX9 156 yX9_failedOf, Cond.instanceMethod yX9_failedOf, Cond.selects RX9 yX9_failedOf yX9_failedOf, Cond.code yX9_failedOf cX9_failedOf 3 (some .int), Cond.methodLink RX9 164 yX9_judges, Cond.instanceMethod yX9_judges, Cond.selects RX9 yX9_judges yX9_judges, Cond.code yX9_judges cX9_judges 11 none, Cond.methodLink RX9 144 yX9_isExpected, Cond.instanceMethod yX9_isExpected, Cond.selects RX9 yX9_isExpected yX9_isExpected, Cond.code yX9_isExpected cX9_isExpected 6 (some .boolean), Cond.methodLink RX9 148 yX9_tells, Cond.instanceMethod yX9_tells]
def wsL_law0_r21 : List Cond := [Cond.selects RX9 yX9_tells yX9_tells, Cond.code yX9_tells cX9_tells 4 (some .char), Cond.methodLink RX9 152 yX9_reckons, Cond.instanceMethod yX9_reckons, Cond.selects RX9 yX9_reckons yX9_reckons, Cond.code yX9_reckons cX9_reckons 4 (some .char), Cond.methodLink RX9 167 yX9_calls, Cond.instanceMethod yX9_calls, Cond.selects RX9 yX9_calls yX9_calls, Cond.code yX9_calls cX9_calls 3 none, Cond.fieldLink RX9 127 "JudgefoldModel" "teams" "I", Cond.fieldLink RX9 174 "JudgefoldModel" "called" "I", Cond.methodLink RX9 171 yX9_hasSolved, Cond.instanceMethod yX9_hasSolved, Cond.selects RX9 yX9_hasSolved yX9_hasSolved, Cond.code yX9_hasSolved cX9_hasSolved 5 (some .boolean), Cond.methodLink RX9 177 yX9_gives, Cond.instanceMethod yX9_gives, Cond.selects RX9 yX9_gives yX9_gives, Cond.code yX9_gives cX9_gives 3 none, Cond.methodLink RX9 186 yX9_waitingAt, Cond.instanceMethod yX9_waitingAt, Cond.selects RX9 yX9_waitingAt yX9_waitingAt, Cond.code yX9_waitingAt cX9_waitingAt 9 (some .int)]
def wsL_law0_r22 : List Cond := [Cond.methodLink RX9 180 yX9_sends, Cond.instanceMethod yX9_sends, Cond.selects RX9 yX9_sends yX9_sends, Cond.code yX9_sends cX9_sends 3 none, Cond.fieldLink RX9 183 "JudgefoldModel" "stamp" "I", Cond.methodLink RL 148 yL_fix, Cond.static yL_fix, Cond.codeWith yL_fix cL_fix 5 (some .int) [(0, 10, 13, 29)], Cond.methodLink RL 31 yX8_fix, Cond.instanceMethod yX8_fix, Cond.selects RX8 yX8_fix yX8_fix, Cond.code yX8_fix cX8_fix 3 (some .int), Cond.methodLink RX8 151 yX4_hasTest, Cond.instanceMethod yX4_hasTest, Cond.selects RX4 yX4_hasTest yX4_hasTest, Cond.code yX4_hasTest cX4_hasTest 2 (some .boolean), Cond.methodLink RL 150 yX9_fix, Cond.instanceMethod yX9_fix, Cond.selects RX9 yX9_fix yX9_fix, Cond.code yX9_fix cX9_fix 3 (some .int), Cond.methodLink RL 151 yL_tests, Cond.static yL_tests, Cond.codeWith yL_tests cL_tests 4 (some .int) [(0, 9, 12, 29)], Cond.methodLink RL 34 yX8_tests]
def wsL_law0_r23 : List Cond := [Cond.instanceMethod yX8_tests, Cond.selects RX8 yX8_tests yX8_tests, Cond.code yX8_tests cX8_tests 2 (some .int), Cond.methodLink RL 153 yX9_tests, Cond.instanceMethod yX9_tests, Cond.selects RX9 yX9_tests yX9_tests, Cond.code yX9_tests cX9_tests 2 (some .int), Cond.methodLink RL 154 yL_team, Cond.static yL_team, Cond.codeWith yL_team cL_team 3 (some .int) [(0, 8, 11, 15)], Cond.methodLink RL 37 yX8_team, Cond.instanceMethod yX8_team, Cond.selects RX8 yX8_team yX8_team, Cond.code yX8_team cX8_team 1 (some .int), Cond.methodLink RL 157 yX9_team, Cond.instanceMethod yX9_team, Cond.selects RX9 yX9_team yX9_team, Cond.code yX9_team cX9_team 2 (some .int), Cond.methodLink RL 158 yL_submit, Cond.static yL_submit, Cond.codeWith yL_submit cL_submit 6 (some .int) [(0, 12, 15, 29), (0, 12, 19, 13), (0, 12, 23, 15)], Cond.methodLink RL 41 yX8_submit, Cond.instanceMethod yX8_submit, Cond.selects RX8 yX8_submit yX8_submit]
def wsL_law0_r24 : List Cond := [Cond.code yX8_submit cX8_submit 5 (some .int), Cond.fieldLink RX8 163 "Judgefold$Run" "team" "I", Cond.fieldLink RX8 169 "Judgefold$Run" "minute" "I", Cond.fieldLink RX8 172 "Judgefold$Run" "isPending" "Z", Cond.methodLink RX8 157 yX8_hasTeam, Cond.instanceMethod yX8_hasTeam, Cond.selects RX8 yX8_hasTeam yX8_hasTeam, Cond.code yX8_hasTeam cX8_hasTeam 2 (some .boolean), Cond.methodLink RX8 160 yX8_lastMinute, Cond.instanceMethod yX8_lastMinute, Cond.selects RX8 yX8_lastMinute yX8_lastMinute, Cond.code yX8_lastMinute cX8_lastMinute 1 (some .int), Cond.methodLink RX8 179 yX5_copyFrom, Cond.instanceMethod yX5_copyFrom, Cond.selects RX5 yX5_copyFrom yX5_copyFrom, Cond.code yX5_copyFrom cX5_copyFrom 3 none, Cond.methodLink RX5 26 yX5_append, Cond.methodLink RX8 182 yX8_judgeByAll, Cond.instanceMethod yX8_judgeByAll, Cond.selects RX8 yX8_judgeByAll yX8_judgeByAll, Cond.code yX8_judgeByAll cX8_judgeByAll 4 none, Cond.methodLink RX8 295 yX8_testCountOf, Cond.instanceMethod yX8_testCountOf, Cond.selects RX8 yX8_testCountOf yX8_testCountOf]
def wsL_law0_r25 : List Cond := [Cond.code yX8_testCountOf cX8_testCountOf 2 (some .int), Cond.methodLink RL 161 yX9_submit, Cond.instanceMethod yX9_submit, Cond.selects RX9 yX9_submit yX9_submit, Cond.code yX9_submit cX9_submit 7 (some .int), Cond.methodLink RX9 190 yX9_isNoTeam, Cond.instanceMethod yX9_isNoTeam, Cond.selects RX9 yX9_isNoTeam yX9_isNoTeam, Cond.code yX9_isNoTeam cX9_isNoTeam 2 (some .boolean), Cond.methodLink RL 162 yL_verdict, Cond.static yL_verdict, Cond.codeWith yL_verdict cL_verdict 4 (some .int) [(0, 9, 12, 29)], Cond.methodLink RL 45 yX8_verdict, Cond.instanceMethod yX8_verdict, Cond.selects RX8 yX8_verdict yX8_verdict, Cond.code yX8_verdict cX8_verdict 2 (some .char), Cond.methodLink RX8 190 yX8_hasRun, Cond.instanceMethod yX8_hasRun, Cond.selects RX8 yX8_hasRun yX8_hasRun, Cond.code yX8_hasRun cX8_hasRun 2 (some .boolean), Cond.methodLink RL 164 yX9_verdict, Cond.instanceMethod yX9_verdict, Cond.selects RX9 yX9_verdict yX9_verdict, Cond.code yX9_verdict cX9_verdict 2 (some .char)]
def wsL_law0_r26 : List Cond := [Cond.methodLink RX9 193 yX9_isNoRun, Cond.instanceMethod yX9_isNoRun, Cond.selects RX9 yX9_isNoRun yX9_isNoRun, Cond.code yX9_isNoRun cX9_isNoRun 2 (some .boolean), Cond.methodLink RL 165 yL_failed, Cond.static yL_failed, Cond.codeWith yL_failed cL_failed 4 (some .int) [(0, 9, 12, 29)], Cond.methodLink RL 49 yX8_failed, Cond.instanceMethod yX8_failed, Cond.selects RX8 yX8_failed yX8_failed, Cond.code yX8_failed cX8_failed 2 (some .int), Cond.fieldLink RX8 197 "Judgefold$Run" "failedTest" "I", Cond.methodLink RL 167 yX9_failed, Cond.instanceMethod yX9_failed, Cond.selects RX9 yX9_failed yX9_failed, Cond.code yX9_failed cX9_failed 2 (some .int), Cond.methodLink RL 168 yL_ended, Cond.static yL_ended, Cond.codeWith yL_ended cL_ended 5 (some .int) [(0, 10, 13, 29)], Cond.methodLink RL 52 yX8_ended, Cond.instanceMethod yX8_ended, Cond.selects RX8 yX8_ended yX8_ended, Cond.code yX8_ended cX8_ended 3 (some .char), Cond.methodLink RX8 200 yX8_hasTestOfRun]
def wsL_law0_r27 : List Cond := [Cond.instanceMethod yX8_hasTestOfRun, Cond.selects RX8 yX8_hasTestOfRun yX8_hasTestOfRun, Cond.code yX8_hasTestOfRun cX8_hasTestOfRun 3 (some .boolean), Cond.methodLink RL 170 yX9_ended, Cond.instanceMethod yX9_ended, Cond.selects RX9 yX9_ended yX9_ended, Cond.code yX9_ended cX9_ended 3 (some .char), Cond.methodLink RX9 196 yX9_isNoTest, Cond.instanceMethod yX9_isNoTest, Cond.selects RX9 yX9_isNoTest yX9_isNoTest, Cond.code yX9_isNoTest cX9_isNoTest 3 (some .boolean), Cond.methodLink RL 171 yL_steps, Cond.static yL_steps, Cond.codeWith yL_steps cL_steps 5 (some .int) [(0, 10, 13, 29)], Cond.methodLink RL 56 yX8_steps, Cond.instanceMethod yX8_steps, Cond.selects RX8 yX8_steps yX8_steps, Cond.code yX8_steps cX8_steps 3 (some .int), Cond.methodLink RL 173 yX9_steps, Cond.instanceMethod yX9_steps, Cond.selects RX9 yX9_steps yX9_steps, Cond.code yX9_steps cX9_steps 3 (some .int), Cond.methodLink RL 174 yL_outputs, Cond.static yL_outputs]
def wsL_law0_r28 : List Cond := [Cond.codeWith yL_outputs cL_outputs 5 (some .int) [(0, 10, 13, 29)], Cond.methodLink RL 59 yX8_outputs, Cond.instanceMethod yX8_outputs, Cond.selects RX8 yX8_outputs yX8_outputs, Cond.code yX8_outputs cX8_outputs 3 (some .int), Cond.fieldLink RX8 212 "Judgefold$Store" "sizes" "[I", Cond.methodLink RL 176 yX9_outputs, Cond.instanceMethod yX9_outputs, Cond.selects RX9 yX9_outputs yX9_outputs, Cond.code yX9_outputs cX9_outputs 3 (some .int), Cond.methodLink RL 177 yL_output, Cond.static yL_output, Cond.codeWith yL_output cL_output 6 (some .int) [(0, 12, 15, 29), (0, 12, 19, 65)], Cond.classLink RL 65 "java/util/NoSuchElementException", Cond.methodLink RL 62 yX8_output, Cond.instanceMethod yX8_output, Cond.selects RX8 yX8_output yX8_output, Cond.code yX8_output cX8_output 5 (some .int), Cond.classLink RX8 218 "java/util/NoSuchElementException", Cond.initialized "java/util/NoSuchElementException", Cond.methodLink RX8 221 yX7_numberAt, Cond.methodLink RL 179 yX9_output, Cond.instanceMethod yX9_output, Cond.selects RX9 yX9_output yX9_output]
def wsL_law0_r29 : List Cond := [Cond.code yX9_output cX9_output 4 (some .int), Cond.methodLink RL 180 yX8_kept, Cond.instanceMethod yX8_kept, Cond.selects RX8 yX8_kept yX8_kept, Cond.code yX8_kept cX8_kept 1 (some .int), Cond.fieldLink RX8 224 "Judgefold$Store" "usedSlots" "I", Cond.methodLink RL 183 yX9_kept, Cond.instanceMethod yX9_kept, Cond.selects RX9 yX9_kept yX9_kept, Cond.code yX9_kept cX9_kept 4 (some .int), Cond.methodLink RX9 199 yX9_isFirst, Cond.instanceMethod yX9_isFirst, Cond.selects RX9 yX9_isFirst yX9_isFirst, Cond.code yX9_isFirst cX9_isFirst 6 (some .boolean), Cond.methodLink RX9 202 yX9_areAlike, Cond.instanceMethod yX9_areAlike, Cond.selects RX9 yX9_areAlike yX9_areAlike, Cond.code yX9_areAlike cX9_areAlike 7 (some .boolean), Cond.methodLink RL 184 yL_sharing, Cond.static yL_sharing, Cond.codeWith yL_sharing cL_sharing 5 (some .int) [(0, 10, 13, 29)], Cond.methodLink RL 67 yX8_sharing, Cond.instanceMethod yX8_sharing, Cond.selects RX8 yX8_sharing yX8_sharing]
def wsL_law0_r30 : List Cond := [Cond.code yX8_sharing cX8_sharing 3 (some .int), Cond.fieldLink RX8 227 "Judgefold$Store" "users" "[I", Cond.methodLink RL 186 yX9_sharing, Cond.instanceMethod yX9_sharing, Cond.selects RX9 yX9_sharing yX9_sharing, Cond.code yX9_sharing cX9_sharing 6 (some .int), Cond.methodLink RL 187 yL_stock, Cond.static yL_stock, Cond.codeWith yL_stock cL_stock 5 (some .int) [(0, 10, 13, 13)], Cond.methodLink RL 70 yX8_stock, Cond.instanceMethod yX8_stock, Cond.selects RX8 yX8_stock yX8_stock, Cond.code yX8_stock cX8_stock 3 (some .int), Cond.fieldLink RX8 230 "Judgefold$Balloons" "stocks" "[I", Cond.methodLink RX8 233 yX0_serve, Cond.methodLink RL 189 yX9_stock, Cond.instanceMethod yX9_stock, Cond.selects RX9 yX9_stock yX9_stock, Cond.code yX9_stock cX9_stock 3 (some .int), Cond.methodLink RX9 206 yX9_isNoColour, Cond.static yX9_isNoColour, Cond.code yX9_isNoColour cX9_isNoColour 1 (some .boolean), Cond.methodLink RL 190 yL_inStock, Cond.static yL_inStock]
def wsL_law0_r31 : List Cond := [Cond.codeWith yL_inStock cL_inStock 4 (some .int) [(0, 9, 12, 13)], Cond.methodLink RL 73 yX8_inStock, Cond.instanceMethod yX8_inStock, Cond.selects RX8 yX8_inStock yX8_inStock, Cond.code yX8_inStock cX8_inStock 2 (some .int), Cond.methodLink RL 192 yX9_inStock, Cond.instanceMethod yX9_inStock, Cond.selects RX9 yX9_inStock yX9_inStock, Cond.code yX9_inStock cX9_inStock 2 (some .int), Cond.methodLink RL 193 yL_out, Cond.static yL_out, Cond.codeWith yL_out cL_out 4 (some .int) [(0, 9, 12, 13)], Cond.methodLink RL 76 yX8_out, Cond.instanceMethod yX8_out, Cond.selects RX8 yX8_out yX8_out, Cond.code yX8_out cX8_out 2 (some .int), Cond.fieldLink RX8 237 "Judgefold$Balloons" "outCounts" "[I", Cond.methodLink RL 195 yX9_out, Cond.instanceMethod yX9_out, Cond.selects RX9 yX9_out yX9_out, Cond.code yX9_out cX9_out 5 (some .int), Cond.methodLink RL 196 yL_balloon, Cond.static yL_balloon, Cond.codeWith yL_balloon cL_balloon 5 (some .int) [(0, 10, 13, 29)]]
def wsL_law0_r32 : List Cond := [Cond.methodLink RL 79 yX8_balloon, Cond.instanceMethod yX8_balloon, Cond.selects RX8 yX8_balloon yX8_balloon, Cond.code yX8_balloon cX8_balloon 3 (some .char), Cond.fieldLink RX8 240 "Judgefold$Balloons" "states" "[C", Cond.methodLink RX8 243 yX8_spotOf, Cond.methodLink RL 198 yX9_balloon, Cond.instanceMethod yX9_balloon, Cond.selects RX9 yX9_balloon yX9_balloon, Cond.code yX9_balloon cX9_balloon 3 (some .char), Cond.methodLink RL 199 yL_waiting, Cond.static yL_waiting, Cond.codeWith yL_waiting cL_waiting 5 (some .int) [(0, 10, 13, 13), (0, 10, 17, 65)], Cond.methodLink RL 82 yX8_waiting, Cond.instanceMethod yX8_waiting, Cond.selects RX8 yX8_waiting yX8_waiting, Cond.code yX8_waiting cX8_waiting 3 (some .int), Cond.fieldLink RX8 246 "Judgefold$Balloons" "queueSizes" "[I", Cond.fieldLink RX8 249 "Judgefold$Balloons" "queues" "[[I", Cond.methodLink RX8 253 yX8_teamOf, Cond.static yX8_teamOf, Cond.code yX8_teamOf cX8_teamOf 1 (some .int), Cond.methodLink RL 201 yX9_waiting, Cond.instanceMethod yX9_waiting]
def wsL_law0_r33 : List Cond := [Cond.selects RX9 yX9_waiting yX9_waiting, Cond.code yX9_waiting cX9_waiting 4 (some .int), Cond.methodLink RL 202 yX8_calledBack, Cond.instanceMethod yX8_calledBack, Cond.selects RX8 yX8_calledBack yX8_calledBack, Cond.code yX8_calledBack cX8_calledBack 1 (some .int), Cond.fieldLink RX8 257 "Judgefold$Balloons" "callBacks" "I", Cond.methodLink RL 205 yX9_calledBack, Cond.instanceMethod yX9_calledBack, Cond.selects RX9 yX9_calledBack yX9_calledBack, Cond.code yX9_calledBack cX9_calledBack 1 (some .int), Cond.methodLink RL 206 yL_freeze, Cond.static yL_freeze, Cond.codeWith yL_freeze cL_freeze 4 (some .int) [(0, 9, 12, 13), (0, 9, 15, 88)], Cond.classLink RL 88 "java/lang/UnsupportedOperationException", Cond.methodLink RL 85 yX8_freeze, Cond.instanceMethod yX8_freeze, Cond.selects RX8 yX8_freeze yX8_freeze, Cond.code yX8_freeze cX8_freeze 4 (some .int), Cond.classLink RX8 260 "java/lang/UnsupportedOperationException", Cond.initialized "java/lang/UnsupportedOperationException", Cond.methodLink RL 208 yX9_freeze, Cond.instanceMethod yX9_freeze, Cond.selects RX9 yX9_freeze yX9_freeze]
def wsL_law0_r34 : List Cond := [Cond.code yX9_freeze cX9_freeze 4 (some .int), Cond.methodLink RX9 209 yX9_isPending, Cond.instanceMethod yX9_isPending, Cond.selects RX9 yX9_isPending yX9_isPending, Cond.code yX9_isPending cX9_isPending 2 (some .boolean), Cond.methodLink RL 209 yL_pending, Cond.static yL_pending, Cond.codeWith yL_pending cL_pending 5 (some .int) [(0, 10, 13, 29)], Cond.methodLink RL 90 yX8_pending, Cond.instanceMethod yX8_pending, Cond.selects RX8 yX8_pending yX8_pending, Cond.code yX8_pending cX8_pending 3 (some .int), Cond.methodLink RX8 263 yX8_countPending, Cond.instanceMethod yX8_countPending, Cond.selects RX8 yX8_countPending yX8_countPending, Cond.code yX8_countPending cX8_countPending 5 (some .int), Cond.methodLink RL 211 yX9_pending, Cond.instanceMethod yX9_pending, Cond.selects RX9 yX9_pending yX9_pending, Cond.code yX9_pending cX9_pending 3 (some .int), Cond.methodLink RX9 212 yX9_pendingOf, Cond.instanceMethod yX9_pendingOf, Cond.selects RX9 yX9_pendingOf yX9_pendingOf, Cond.code yX9_pendingOf cX9_pendingOf 5 (some .int)]
def wsL_law0_r35 : List Cond := [Cond.methodLink RL 212 yL_open, Cond.static yL_open, Cond.codeWith yL_open cL_open 3 (some .int) [(0, 8, 11, 65)], Cond.methodLink RL 93 yX8_open, Cond.instanceMethod yX8_open, Cond.selects RX8 yX8_open yX8_open, Cond.code yX8_open cX8_open 2 (some .int), Cond.methodLink RX8 266 yX8_lowestPendingTeam, Cond.instanceMethod yX8_lowestPendingTeam, Cond.selects RX8 yX8_lowestPendingTeam yX8_lowestPendingTeam, Cond.code yX8_lowestPendingTeam cX8_lowestPendingTeam 3 (some .int), Cond.fieldLink RX8 289 "Judgefold$Board" "order" "[I", Cond.methodLink RX8 269 yX8_lowestPendingProblem, Cond.instanceMethod yX8_lowestPendingProblem, Cond.selects RX8 yX8_lowestPendingProblem yX8_lowestPendingProblem, Cond.code yX8_lowestPendingProblem cX8_lowestPendingProblem 3 (some .int), Cond.methodLink RX8 272 yX8_openRuns, Cond.instanceMethod yX8_openRuns, Cond.selects RX8 yX8_openRuns yX8_openRuns, Cond.code yX8_openRuns cX8_openRuns 4 none, Cond.methodLink RL 214 yX9_open, Cond.instanceMethod yX9_open, Cond.selects RX9 yX9_open yX9_open, Cond.code yX9_open cX9_open 4 (some .int)]
def wsL_law0_r36 : List Cond := [Cond.methodLink RX9 215 yX9_pendingIn, Cond.instanceMethod yX9_pendingIn, Cond.selects RX9 yX9_pendingIn yX9_pendingIn, Cond.code yX9_pendingIn cX9_pendingIn 3 (some .int), Cond.methodLink RX9 218 yX9_isAhead, Cond.instanceMethod yX9_isAhead, Cond.selects RX9 yX9_isAhead yX9_isAhead, Cond.code yX9_isAhead cX9_isAhead 5 (some .boolean), Cond.methodLink RX9 226 yX9_solvedBy, Cond.instanceMethod yX9_solvedBy, Cond.selects RX9 yX9_solvedBy yX9_solvedBy, Cond.code yX9_solvedBy cX9_solvedBy 5 (some .int), Cond.methodLink RX9 222 yX9_firstOf, Cond.instanceMethod yX9_firstOf, Cond.selects RX9 yX9_firstOf yX9_firstOf, Cond.code yX9_firstOf cX9_firstOf 5 (some .int), Cond.methodLink RX9 230 yX9_penaltyOf, Cond.instanceMethod yX9_penaltyOf, Cond.selects RX9 yX9_penaltyOf yX9_penaltyOf, Cond.code yX9_penaltyOf cX9_penaltyOf 7 (some .int), Cond.methodLink RX9 233 yX9_latestOf, Cond.instanceMethod yX9_latestOf, Cond.selects RX9 yX9_latestOf yX9_latestOf, Cond.code yX9_latestOf cX9_latestOf 6 (some .int)]
def wsL_law0_r37 : List Cond := [Cond.methodLink RL 215 yL_solved, Cond.static yL_solved, Cond.codeWith yL_solved cL_solved 5 (some .int) [(0, 10, 13, 29)], Cond.methodLink RL 96 yX8_solved, Cond.instanceMethod yX8_solved, Cond.selects RX8 yX8_solved yX8_solved, Cond.code yX8_solved cX8_solved 3 (some .int), Cond.fieldLink RX8 280 "Judgefold$Board" "solvedCounts" "[I", Cond.methodLink RX8 276 yX8_boardOf, Cond.instanceMethod yX8_boardOf, Cond.selects RX8 yX8_boardOf yX8_boardOf, Cond.code yX8_boardOf cX8_boardOf 2 (some (.object "Judgefold$Board")), Cond.methodLink RL 217 yX9_solved, Cond.instanceMethod yX9_solved, Cond.selects RX9 yX9_solved yX9_solved, Cond.code yX9_solved cX9_solved 3 (some .int), Cond.methodLink RL 218 yL_penalty, Cond.static yL_penalty, Cond.codeWith yL_penalty cL_penalty 5 (some .int) [(0, 10, 13, 29)], Cond.methodLink RL 99 yX8_penalty, Cond.instanceMethod yX8_penalty, Cond.selects RX8 yX8_penalty yX8_penalty, Cond.code yX8_penalty cX8_penalty 3 (some .int), Cond.fieldLink RX8 283 "Judgefold$Board" "penalties" "[I"]
def wsL_law0_r38 : List Cond := [Cond.methodLink RL 220 yX9_penalty, Cond.instanceMethod yX9_penalty, Cond.selects RX9 yX9_penalty yX9_penalty, Cond.code yX9_penalty cX9_penalty 3 (some .int), Cond.methodLink RL 221 yL_rank, Cond.static yL_rank, Cond.codeWith yL_rank cL_rank 5 (some .int) [(0, 10, 13, 29)], Cond.methodLink RL 102 yX8_rank, Cond.instanceMethod yX8_rank, Cond.selects RX8 yX8_rank yX8_rank, Cond.code yX8_rank cX8_rank 3 (some .int), Cond.methodLink RX8 286 yX1_rankOf, Cond.instanceMethod yX1_rankOf, Cond.selects RX1 yX1_rankOf yX1_rankOf, Cond.code yX1_rankOf cX1_rankOf 3 (some .int), Cond.methodLink RL 223 yX9_rank, Cond.instanceMethod yX9_rank, Cond.selects RX9 yX9_rank yX9_rank, Cond.code yX9_rank cX9_rank 3 (some .int), Cond.methodLink RX9 236 yX9_rankOf, Cond.instanceMethod yX9_rankOf, Cond.selects RX9 yX9_rankOf yX9_rankOf, Cond.code yX9_rankOf cX9_rankOf 5 (some .int), Cond.methodLink RL 224 yL_ranked]
def wsL_law0_r39 : List Cond := [Cond.static yL_ranked, Cond.codeWith yL_ranked cL_ranked 5 (some .int) [(0, 10, 13, 65)], Cond.methodLink RL 105 yX8_ranked, Cond.instanceMethod yX8_ranked, Cond.selects RX8 yX8_ranked yX8_ranked, Cond.code yX8_ranked cX8_ranked 3 (some .int), Cond.methodLink RL 226 yX9_ranked, Cond.instanceMethod yX9_ranked, Cond.selects RX9 yX9_ranked yX9_ranked, Cond.code yX9_ranked cX9_ranked 5 (some .int), Cond.methodLink RL 227 yL_acceptedShare, Cond.static yL_acceptedShare, Cond.codeWith yL_acceptedShare cL_acceptedShare 3 (some .int) [(0, 8, 11, 112)], Cond.classLink RL 112 "java/lang/ArithmeticException", Cond.methodLink RL 108 yX8_acceptedShare, Cond.instanceMethod yX8_acceptedShare, Cond.selects RX8 yX8_acceptedShare yX8_acceptedShare, Cond.code yX8_acceptedShare cX8_acceptedShare 3 (some .float), Cond.classLink RX8 292 "java/lang/ArithmeticException", Cond.initialized "java/lang/ArithmeticException", Cond.methodLink RL 230 yX9_acceptedShare, Cond.instanceMethod yX9_acceptedShare, Cond.selects RX9 yX9_acceptedShare yX9_acceptedShare, Cond.code yX9_acceptedShare cX9_acceptedShare 3 (some .float)]
def wsL_law0_r40 : List Cond := [Cond.methodLink RL 231 yL_meanSteps, Cond.static yL_meanSteps, Cond.codeWith yL_meanSteps cL_meanSteps 3 (some .int) [(0, 7, 10, 112)], Cond.methodLink RL 114 yX8_meanSteps, Cond.instanceMethod yX8_meanSteps, Cond.selects RX8 yX8_meanSteps yX8_meanSteps, Cond.code yX8_meanSteps cX8_meanSteps 6 (some .double), Cond.methodLink RL 233 yX9_meanSteps, Cond.instanceMethod yX9_meanSteps, Cond.selects RX9 yX9_meanSteps yX9_meanSteps, Cond.code yX9_meanSteps cX9_meanSteps 5 (some .double), Cond.methodLink RL 234 yX8_checksum, Cond.instanceMethod yX8_checksum, Cond.selects RX8 yX8_checksum yX8_checksum, Cond.code yX8_checksum cX8_checksum 6 (some .long), Cond.constantLong RX8 299 (7), Cond.constantLong RX8 301 (31), Cond.constantLong RX8 307 (1000), Cond.methodLink RX8 303 yX7_addTo, Cond.instanceMethod yX7_addTo, Cond.selects RX7 yX7_addTo yX7_addTo, Cond.code yX7_addTo cX7_addTo 7 (some .long), Cond.constantLong RX7 41 (31), Cond.methodLink RL 238 yX9_checksum]
def wsL_law0_r41 : List Cond := [Cond.instanceMethod yX9_checksum, Cond.selects RX9 yX9_checksum yX9_checksum, Cond.code yX9_checksum cX9_checksum 6 (some .long), Cond.constantLong RX9 239 (7), Cond.constantLong RX9 241 (31), Cond.constantLong RX9 243 (1000), Cond.methodLink RL 239 yX8_isTrue, Cond.instanceMethod yX8_isTrue, Cond.selects RX8 yX8_isTrue yX8_isTrue, Cond.code yX8_isTrue cX8_isTrue 1 (some .boolean), Cond.methodLink RX8 309 yX8_isRankedAnew, Cond.instanceMethod yX8_isRankedAnew, Cond.selects RX8 yX8_isRankedAnew yX8_isRankedAnew, Cond.code yX8_isRankedAnew cX8_isRankedAnew 2 (some .boolean), Cond.methodLink RX8 359 yX1_isLike, Cond.instanceMethod yX1_isLike, Cond.selects RX1 yX1_isLike yX1_isLike, Cond.code yX1_isLike cX1_isLike 3 (some .boolean), Cond.methodLink RX8 312 yX8_areBalloonsEarned, Cond.instanceMethod yX8_areBalloonsEarned, Cond.selects RX8 yX8_areBalloonsEarned yX8_areBalloonsEarned, Cond.code yX8_areBalloonsEarned cX8_areBalloonsEarned 5 (some .boolean), Cond.methodLink RX8 363 yX1_hasSolved, Cond.methodLink RX8 316 yX0_isStockLeftOver]
def wsL_law0_r42 : List Cond := [Cond.instanceMethod yX0_isStockLeftOver, Cond.selects RX0 yX0_isStockLeftOver yX0_isStockLeftOver, Cond.code yX0_isStockLeftOver cX0_isStockLeftOver 2 (some .boolean), Cond.methodLink RX8 319 yX8_areOutputsAnew, Cond.instanceMethod yX8_areOutputsAnew, Cond.selects RX8 yX8_areOutputsAnew yX8_areOutputsAnew, Cond.code yX8_areOutputsAnew cX8_areOutputsAnew 4 (some .boolean), Cond.methodLink RX8 366 yX7_isAlike, Cond.methodLink RL 243 yX9_isTrue, Cond.instanceMethod yX9_isTrue, Cond.selects RX9 yX9_isTrue yX9_isTrue, Cond.code yX9_isTrue cX9_isTrue 1 (some .boolean)]
def wsL_law0 : List Cond := (wsL_law0_r1 ++ (wsL_law0_r2 ++ (wsL_law0_r3 ++ (wsL_law0_r4 ++ (wsL_law0_r5 ++ (wsL_law0_r6 ++ (wsL_law0_r7 ++ (wsL_law0_r8 ++ (wsL_law0_r9 ++ (wsL_law0_r10 ++ (wsL_law0_r11 ++ (wsL_law0_r12 ++ (wsL_law0_r13 ++ (wsL_law0_r14 ++ (wsL_law0_r15 ++ (wsL_law0_r16 ++ (wsL_law0_r17 ++ (wsL_law0_r18 ++ (wsL_law0_r19 ++ (wsL_law0_r20 ++ (wsL_law0_r21 ++ (wsL_law0_r22 ++ (wsL_law0_r23 ++ (wsL_law0_r24 ++ (wsL_law0_r25 ++ (wsL_law0_r26 ++ (wsL_law0_r27 ++ (wsL_law0_r28 ++ (wsL_law0_r29 ++ (wsL_law0_r30 ++ (wsL_law0_r31 ++ (wsL_law0_r32 ++ (wsL_law0_r33 ++ (wsL_law0_r34 ++ (wsL_law0_r35 ++ (wsL_law0_r36 ++ (wsL_law0_r37 ++ (wsL_law0_r38 ++ (wsL_law0_r39 ++ (wsL_law0_r40 ++ (wsL_law0_r41 ++ wsL_law0_r42))))))))))))))))))))))))))))))))))))))))) ++ wsX80 ++ wsX90 ++ wsX50 ++ wsX30 ++ wsX20 ++ wsX70 ++ wsX00 ++ wsX10 ++ wsX40 ++ wsX60 ++ ([] : List Cond)
def wsL_law : List Cond := wsL_law0 ++ (vx_at0 RX8 90 "java/lang/IllegalArgumentException" ["java/lang/RuntimeException", "java/lang/Exception"]).filter goodWord ++ (vx_at0 RX8 96 "java/lang/IllegalStateException" ["java/lang/RuntimeException", "java/lang/Exception"]).filter goodWord ++ (vx_at0 RX8 135 "java/lang/IndexOutOfBoundsException" ["java/lang/RuntimeException", "java/lang/Exception"]).filter goodWord ++ (vx_at0 RX8 220 "java/util/NoSuchElementException" ["java/lang/RuntimeException", "java/lang/Exception"]).filter goodWord ++ (vx_at0 RX8 262 "java/lang/UnsupportedOperationException" ["java/lang/RuntimeException", "java/lang/Exception"]).filter goodWord ++ (vx_at0 RX8 294 "java/lang/ArithmeticException" ["java/lang/RuntimeException", "java/lang/Exception"]).filter goodWord
theorem inlX0 : ∀ w ∈ wsX00, w ∈ wsL_law := fun _ h => List.mem_append_left _ (List.mem_append_left _ (List.mem_append_left _ (List.mem_append_left _ (List.mem_append_left _ (List.mem_append_left _ (List.mem_append_left _ (List.mem_append_left _ (List.mem_append_left _ (List.mem_append_left _ (List.mem_append_right _ h))))))))))
theorem inlX1 : ∀ w ∈ wsX10, w ∈ wsL_law := fun _ h => List.mem_append_left _ (List.mem_append_left _ (List.mem_append_left _ (List.mem_append_left _ (List.mem_append_left _ (List.mem_append_left _ (List.mem_append_left _ (List.mem_append_left _ (List.mem_append_left _ (List.mem_append_right _ h)))))))))
theorem inlX2 : ∀ w ∈ wsX20, w ∈ wsL_law := fun _ h => List.mem_append_left _ (List.mem_append_left _ (List.mem_append_left _ (List.mem_append_left _ (List.mem_append_left _ (List.mem_append_left _ (List.mem_append_left _ (List.mem_append_left _ (List.mem_append_left _ (List.mem_append_left _ (List.mem_append_left _ (List.mem_append_left _ (List.mem_append_right _ h))))))))))))
theorem inlX3 : ∀ w ∈ wsX30, w ∈ wsL_law := fun _ h => List.mem_append_left _ (List.mem_append_left _ (List.mem_append_left _ (List.mem_append_left _ (List.mem_append_left _ (List.mem_append_left _ (List.mem_append_left _ (List.mem_append_left _ (List.mem_append_left _ (List.mem_append_left _ (List.mem_append_left _ (List.mem_append_left _ (List.mem_append_left _ (List.mem_append_right _ h)))))))))))))
theorem inlX4 : ∀ w ∈ wsX40, w ∈ wsL_law := fun _ h => List.mem_append_left _ (List.mem_append_left _ (List.mem_append_left _ (List.mem_append_left _ (List.mem_append_left _ (List.mem_append_left _ (List.mem_append_left _ (List.mem_append_left _ (List.mem_append_right _ h))))))))
theorem inlX5 : ∀ w ∈ wsX50, w ∈ wsL_law := fun _ h => List.mem_append_left _ (List.mem_append_left _ (List.mem_append_left _ (List.mem_append_left _ (List.mem_append_left _ (List.mem_append_left _ (List.mem_append_left _ (List.mem_append_left _ (List.mem_append_left _ (List.mem_append_left _ (List.mem_append_left _ (List.mem_append_left _ (List.mem_append_left _ (List.mem_append_left _ (List.mem_append_right _ h))))))))))))))
theorem inlX6 : ∀ w ∈ wsX60, w ∈ wsL_law := fun _ h => List.mem_append_left _ (List.mem_append_left _ (List.mem_append_left _ (List.mem_append_left _ (List.mem_append_left _ (List.mem_append_left _ (List.mem_append_left _ (List.mem_append_right _ h)))))))
theorem inlX7 : ∀ w ∈ wsX70, w ∈ wsL_law := fun _ h => List.mem_append_left _ (List.mem_append_left _ (List.mem_append_left _ (List.mem_append_left _ (List.mem_append_left _ (List.mem_append_left _ (List.mem_append_left _ (List.mem_append_left _ (List.mem_append_left _ (List.mem_append_left _ (List.mem_append_left _ (List.mem_append_right _ h)))))))))))
theorem inlX8 : ∀ w ∈ wsX80, w ∈ wsL_law := fun _ h => List.mem_append_left _ (List.mem_append_left _ (List.mem_append_left _ (List.mem_append_left _ (List.mem_append_left _ (List.mem_append_left _ (List.mem_append_left _ (List.mem_append_left _ (List.mem_append_left _ (List.mem_append_left _ (List.mem_append_left _ (List.mem_append_left _ (List.mem_append_left _ (List.mem_append_left _ (List.mem_append_left _ (List.mem_append_left _ (List.mem_append_right _ h))))))))))))))))
theorem inlX9 : ∀ w ∈ wsX90, w ∈ wsL_law := fun _ h => List.mem_append_left _ (List.mem_append_left _ (List.mem_append_left _ (List.mem_append_left _ (List.mem_append_left _ (List.mem_append_left _ (List.mem_append_left _ (List.mem_append_left _ (List.mem_append_left _ (List.mem_append_left _ (List.mem_append_left _ (List.mem_append_left _ (List.mem_append_left _ (List.mem_append_left _ (List.mem_append_left _ (List.mem_append_right _ h)))))))))))))))
end
section
def kT0 : List (Nat × Nat) := [(8, 14), (5, 4), (21, 20), (20, 20), (20, 20), (3, 4), (20, 4), (20, 6), (30, 5), (31, 40), (2, 7), (20, 4), (20, 6), (7, 4), (20, 1440), (20, 240), (20, 240), (0, 6), (21, 40), (33, 4), (20, 40), (20, 40), (20, 40), (20, 40), (20, 4), (20, 4), (20, 4), (1, 7), (20, 40), (20, 40), (20, 8), (20, 8), (20, 8), (20, 8), (1, 7), (20, 40), (20, 40), (20, 8), (20, 8), (20, 8), (20, 8), (1, 7), (20, 40), (20, 40), (20, 8), (20, 8), (20, 8), (20, 8)]
def kTP : List (Nat × Nat) := [(4, 4), (32, 6), (3, 4), (20, 4), (20, 6), (3, 4), (20, 4), (20, 6), (3, 4), (20, 4), (20, 6), (3, 4), (20, 4), (20, 6), (3, 4), (20, 4), (20, 6), (3, 4), (20, 4), (20, 6)]
def kTR : List (Nat × Nat) := [(6, 10), (5, 4), (21, 20), (20, 20), (20, 20), (21, 6), (20, 6), (20, 6)]
def kTM : List (Nat × Nat) := [(9, 38), (21, 20), (20, 20), (20, 20), (20, 4), (20, 6), (20, 5), (20, 5), (20, 5), (20, 120), (20, 30), (20, 180), (20, 30), (20, 40), (20, 40), (20, 40), (20, 40), (21, 800), (20, 800), (20, 800), (21, 240), (20, 240), (20, 1440), (20, 240), (20, 4), (21, 40), (20, 40), (20, 4), (22, 40), (23, 1), (24, 1)]
def sk0 : List (Nat × Int × Nat × Nat) := [(1, 1, 21, 40), (1, 2, 33, 4), (1, 7, 20, 4), (1, 8, 20, 4), (1, 9, 20, 4), (0, 0, 0, 0)]
def sk1 : List (Nat × Int × Nat × Nat) := [(1, 1, 20, 40), (1, 2, 20, 40), (1, 3, 20, 8), (1, 4, 20, 8), (1, 5, 20, 8), (1, 6, 20, 8), (0, 0, 0, 0)]
def sk2 : List (Nat × Int × Nat × Nat) := [(1, 1, 20, 4), (1, 2, 20, 6), (0, 0, 0, 0), (0, 0, 0, 0), (0, 0, 0, 0), (0, 0, 0, 0), (0, 0, 0, 0)]
def sk3 : List (Nat × Int × Nat × Nat) := [(1, 1, 20, 4), (1, 2, 20, 6), (0, 0, 0, 0), (0, 0, 0, 0)]
def sk4 : List (Nat × Int × Nat × Nat) := [(1, 1, 32, 6), (0, 0, 0, 0), (0, 0, 0, 0), (0, 0, 0, 0)]
def sk5 : List (Nat × Int × Nat × Nat) := [(1, 1, 21, 20), (1, 2, 20, 20), (1, 3, 20, 20), (0, 0, 0, 0)]
def sk6 : List (Nat × Int × Nat × Nat) := [(1, 1, 5, 4), (1, 5, 21, 6), (1, 6, 20, 6), (1, 7, 20, 6), (0, 0, 0, 0), (0, 0, 0, 0), (0, 0, 0, 0), (0, 0, 0, 0), (0, 0, 0, 0), (0, 0, 0, 0)]
def sk7 : List (Nat × Int × Nat × Nat) := [(1, 1, 20, 1440), (1, 2, 20, 240), (1, 3, 20, 240), (0, 0, 0, 0)]
def sk8 : List (Nat × Int × Nat × Nat) := [(1, 1, 5, 4), (1, 5, 3, 4), (1, 8, 30, 5), (1, 9, 31, 40), (1, 10, 2, 7), (1, 13, 7, 4), (1, 17, 0, 6), (1, 27, 1, 7), (1, 34, 1, 7), (1, 41, 1, 7), (0, 0, 0, 0), (0, 0, 0, 0), (0, 0, 0, 0), (0, 0, 0, 0)]
def sk9 : List (Nat × Int × Nat × Nat) := [(0, 0, 0, 0), (0, 0, 0, 0), (1, 1, 21, 20), (1, 2, 20, 20), (1, 3, 20, 20), (0, 0, 0, 0), (0, 0, 0, 0), (1, 4, 20, 4), (1, 5, 20, 6), (0, 0, 0, 0), (1, 6, 20, 5), (1, 7, 20, 5), (1, 8, 20, 5), (1, 9, 20, 120), (1, 10, 20, 30), (1, 11, 20, 180), (1, 12, 20, 30), (0, 0, 0, 0), (0, 0, 0, 0), (1, 13, 20, 40), (1, 14, 20, 40), (1, 15, 20, 40), (1, 16, 20, 40), (1, 17, 21, 800), (1, 18, 20, 800), (1, 19, 20, 800), (1, 20, 21, 240), (1, 21, 20, 240), (1, 22, 20, 1440), (1, 23, 20, 240), (1, 24, 20, 4), (1, 25, 21, 40), (1, 26, 20, 40), (1, 27, 20, 4), (0, 0, 0, 0), (0, 0, 0, 0), (0, 0, 0, 0), (1, 28, 22, 40)]
/-- all ints are Int32.ofInt of an integer; the memory: object, place -> integer -/
abbrev Mem : Type := Int → Int → Int
/-- the launch, the base address, where classes and array classes lie -/
abbrev GG : Type := Launch × Nat × va_G × (Nat → ClassId)
def iZ (z : Int) : Int32 := Int32.ofInt z
abbrev iv (z : Int) : Value := .int (iZ z)
abbrev rv (g : GG) (o : Int) : Value := .ref (g.2.1 + o.toNat)
abbrev kcl : List vw_C := [(RX0, TX0, 6), (RX1, TX1, 7), (RX2, TX2, 7), (RX3, TX3, 4), (RX4, TX4, 4), (RX5, TX5, 4), (RX6, TX6, 10), (RX7, TX7, 4), (RX8, TX8, 14), (RX9, TX9, 38)]
def kdN (n : Nat) : Nat × Nat := if n < 48 then kT0.getD n (99, 0) else if n < 148 then kTP.getD ((n - 48) % 20) (99, 0) else if n < 468 then kTR.getD ((n - 148) % 8) (99, 0) else kTM.getD (n - 468) (99, 0)
def kd (o : Int) : Nat × Nat := kdN o.toNat
/-- what a place holds: 0 an int, 1 a reference so much further on and to what, 2 a long, 3 a double -/
def sk (t k : Nat) : Nat × Int × Nat × Nat := match t with
  | 0 => sk0.getD k (0, 0, 0, 0)
  | 1 => sk1.getD k (0, 0, 0, 0)
  | 2 => sk2.getD k (0, 0, 0, 0)
  | 3 => sk3.getD k (0, 0, 0, 0)
  | 4 => sk4.getD k (0, 0, 0, 0)
  | 5 => sk5.getD k (0, 0, 0, 0)
  | 6 => sk6.getD k (0, 0, 0, 0)
  | 7 => sk7.getD k (0, 0, 0, 0)
  | 8 => sk8.getD k (0, 0, 0, 0)
  | 9 => sk9.getD k (0, 0, 0, 0)
  | 23 => (2, 0, 0, 0)
  | 24 => (3, 0, 0, 0)
  | 30 => (1, 40 + 20 * (k : Int), 4, 4)
  | 31 => (1, 139 + 8 * (k : Int), 6, 10)
  | 32 => (1, 1 + 3 * (k : Int), 3, 4)
  | 33 => (1, 1 + (k : Int), 20, 40)
  | _ => (0, 0, 0, 0)
def vl (g : GG) (o : Int) (t k : Nat) (z : Int) : Value := if (sk t k).1 = 0 then iv z else if (sk t k).1 = 1 then rv g (o + (sk t k).2.1) else if (sk t k).1 = 2 then .long (Int64.ofInt z) else .double (UInt64.ofNat z.toNat)
def OB (g : GG) (o : Int) (tn : Nat × Nat) (V : Nat → Value) (H : Heap) : Prop := if tn.1 < 10 then t_OB (g.2.1 + o.toNat) (g.2.2.1.1 tn.1) tn.2 (g.2.2.1.2 tn.1) H V else H[g.2.1 + o.toNat]? = some (arrV (g.2.2.2 tn.1) tn.2 V)
def rg (z : Int) : Prop := -2147483648 ≤ z ∧ z < 2147483648
def HP (g : GG) (M : Mem) (H : Heap) : Prop := (∀ o k : Int, o < 497 → rg (M o k)) ∧ ∀ o : Int, 0 ≤ o → o < 499 → OB g o (kd o) (fun k => vl g o (kd o).1 k (M o k)) H
def isK (t n : Nat) (o : Int) : Prop := 0 ≤ o ∧ o < 499 ∧ kd o = (t, n)
def clB (n k : Nat) : Bool := if (sk (kdN n).1 k).1 = 1 then decide (0 ≤ (sk (kdN n).1 k).2.1) && decide (n + (sk (kdN n).1 k).2.1.toNat < 499) && decide (kdN (n + (sk (kdN n).1 k).2.1.toNat) = ((sk (kdN n).1 k).2.2.1, (sk (kdN n).1 k).2.2.2)) else true
theorem clB_ok : (List.range 499).all (fun n => (List.range (kdN n).2).all (fun k => clB n k)) = true := by decide +kernel
theorem isK.ref {t n t' n' : Nat} {o d : Int} (h : isK t n o) (k : Nat) (hk : k < n) (hs : sk t k = (1, d, t', n')) : isK t' n' (o + d) := by
  obtain ⟨h0, h1, h2⟩ := h
  have h3 := List.all_eq_true.mp clB_ok o.toNat (List.mem_range.mpr (by omega))
  have hkd : kdN o.toNat = (t, n) := h2
  have h4 := List.all_eq_true.mp h3 k (List.mem_range.mpr (by rw [hkd]; exact hk))
  simp only [clB, hkd, hs, if_true, Bool.and_eq_true, decide_eq_true_eq] at h4
  obtain ⟨⟨a1, a2⟩, a3⟩ := h4
  refine ⟨by omega, by omega, ?_⟩
  show kdN (o + d).toNat = _
  rw [show (o + d).toNat = o.toNat + d.toNat by omega]
  exact a3
def up (M : Mem) (o k v : Int) : Mem := fun o' k' => if o' = o ∧ k' = k then v else M o' k'
theorem up_s (M : Mem) (o k v : Int) : up M o k v o k = v := by simp [up]
theorem up_o {M : Mem} {o k v o' k' : Int} (h : o' ≠ o) : up M o k v o' k' = M o' k' := by simp [up, h]
theorem up_k {M : Mem} {o k v o' k' : Int} (h : k' ≠ k) : up M o k v o' k' = M o' k' := by simp [up, h]
theorem up_n {M : Mem} {o k v o' k' : Int} (h : ¬ (o' = o ∧ k' = k)) : up M o k v o' k' = M o' k' := by simp only [up, if_neg h]
/-! ints -/
theorem iZ_add (a b : Int) : iZ a + iZ b = iZ (a + b) := (Int32.ofInt_add a b).symm
theorem iZ_sub (a b : Int) : iZ a - iZ b = iZ (a - b) := (Int32.ofInt_sub a b).symm
theorem iZ_mul (a b : Int) : iZ a * iZ b = iZ (a * b) := (Int32.ofInt_mul a b).symm
theorem iZ_ti {z : Int} (h : rg z) : (iZ z).toInt = z := Int32.toInt_ofInt_of_le (by have := h.1; omega) (by have := h.2; omega)
theorem iZ_of (x : Int32) : iZ x.toInt = x := Int32.ofInt_toInt x
theorem rg_of (x : Int32) : rg x.toInt := ⟨by have := Int32.le_toInt x; omega, by have := Int32.toInt_lt x; omega⟩
theorem iZ_lt {a b : Int} (ha : rg a) (hb : rg b) : iZ a < iZ b ↔ a < b := by rw [Int32.lt_iff_toInt_lt, iZ_ti ha, iZ_ti hb]
theorem iZ_le {a b : Int} (ha : rg a) (hb : rg b) : iZ a ≤ iZ b ↔ a ≤ b := by rw [Int32.le_iff_toInt_le, iZ_ti ha, iZ_ti hb]
theorem iZ_eq {a b : Int} (ha : rg a) (hb : rg b) : iZ a = iZ b ↔ a = b := by rw [← Int32.toInt_inj, iZ_ti ha, iZ_ti hb]
theorem iZ_0 : iZ 0 = 0 := rfl
theorem iZ_cl {z : Int} (h0 : 0 ≤ z) (h1 : z < 2147483648) : (iZ z).toNatClampNeg = z.toNat := Int32.toNatClampNeg_ofInt_of_le (by omega) (by omega)
theorem iZ_in {z : Int} {n : Nat} (h0 : 0 ≤ z) (h1 : z < n) (hn : n < 2147483648) : ¬ (iZ z < 0 ∨ n ≤ (iZ z).toNatClampNeg) := by
  rw [iZ_cl h0 (by omega)]
  rintro (h | h)
  · rw [← iZ_0, iZ_lt ⟨by omega, by omega⟩ ⟨by omega, by omega⟩] at h; omega
  · omega
theorem rg_0 : rg 0 := ⟨by omega, by omega⟩
end
section
/-- a method: bytes, class, locals, what it returns -/
abbrev MI : Type := ByteArray × String × Nat × Option FieldType
def KK (g : GG) (U : State) : Prop := va_K g.2.2.1 kcl [] U ∧ ArrOfT U (g.2.2.2 20) .int ∧ ArrOfT U (g.2.2.2 21) .char ∧ ArrOfT U (g.2.2.2 22) .boolean ∧ ArrOfT U (g.2.2.2 23) .long ∧ ArrOfT U (g.2.2.2 24) .double ∧ ArrOfT U (g.2.2.2 30) (.object "Judgefold$Problem") ∧ ArrOfT U (g.2.2.2 31) (.object "Judgefold$Run") ∧ ArrOfT U (g.2.2.2 32) (.object "Judgefold$Numbers") ∧ ArrOfT U (g.2.2.2 33) (.array .int)
theorem KK.moved {g : GG} {u U : State} (hvm : u.vm.Alike U.vm) (h : KK g u) : KK g U := ⟨va_K.moved hvm h.1, arrOfT_moved hvm h.2.1, arrOfT_moved hvm h.2.2.1, arrOfT_moved hvm h.2.2.2.1, arrOfT_moved hvm h.2.2.2.2.1, arrOfT_moved hvm h.2.2.2.2.2.1, arrOfT_moved hvm h.2.2.2.2.2.2.1, arrOfT_moved hvm h.2.2.2.2.2.2.2.1, arrOfT_moved hvm h.2.2.2.2.2.2.2.2.1, arrOfT_moved hvm h.2.2.2.2.2.2.2.2.2⟩
abbrev gA (g : GG) : Nat → Prop := fun q => g.2.1 ≤ q
/-- the two statics that a throw reads -/
def ZZ (g : GG) (U : State) (H : Heap) : Prop := vx_Zq Bundle.tN "UNASSIGNED_STACK" Bundle.steD (gA g) U H ∧ vx_Zq Bundle.tN "SUPPRESSED_SENTINEL" Bundle.listD (gA g) U H
theorem ZZ.moved {g : GG} {u U : State} {H : Heap} (hvm : u.vm.Alike U.vm) (h : ZZ g u H) : ZZ g U H := ⟨vx_Zq.moved hvm h.1, vx_Zq.moved hvm h.2⟩
theorem ZZ.kept {g : GG} {U : State} {H H1 : Heap} (h : ZZ g U H) (hq : ∀ a : Nat, a < H.size → ¬ gA g a → H1[a]? = H[a]?) : ZZ g U H1 := ⟨h.1.kept hq, h.2.kept hq⟩
def Cx (g : GG) (μ : MI) (p : Program) (s : State) (m : MethodId) (args : Array Value) (meth : Method) (c : Code) : Prop :=
  p.tables.exec = Jvm.exec ∧ c.code = μ.1 ∧ meth.sig.returnType = μ.2.2.2 ∧ c.maxLocals = μ.2.2.1 ∧ s.vm.findClass μ.2.1 = some m.cls ∧ (∀ w ∈ wsL_law, w.before args s = true) ∧ meth.locks = false ∧ KK g s ∧ ZZ g s s.heap ∧ ∀ x ∈ c.exceptionTable.toList, False
/-- from this point of the method the memory M, the locals lv, the stack st come to F -/
def Ok (g : GG) (μ : MI) (R : Room) (F : List Frame → Array Value → State → State → Prop) (pc : Nat) (lv : List (Nat × Value)) (st : List Value) (M : Mem) : Prop :=
  ∀ (p : Program) (e : Env) (s : State) (m : MethodId) (args : Array Value) (below : List Frame) (meth : Method) (c : Code) (H : Heap) (locs : List Loc) (ls : Array Slot),
    Cx g μ p s m args meth c → HP g M H → va_S (gA g) s.heap H locs → lv_has ls μ.2.2.1 lv →
    W p g.1 e R s m args below meth c H locs 0 0 (F below args s) (F0 m pc ls st)
def Pcx (g : GG) (as : List Value) (M : Mem) : Array Value → State → Prop := fun a U => a = as.toArray ∧ HP g M U.heap ∧ KK g U ∧ ZZ g U U.heap
def Qcx (g : GG) (post : Option Value → Mem → Prop) : Array Value → State → Outcome → State → Prop := fun _ st o t => (∃ (v : Option Value) (M' : Mem), o = .returned v ∧ post v M' ∧ HP g M' t.heap) ∧ va_F (gA g) st t
theorem Pcx.blind {g : GG} {as : List Value} {M : Mem} : FrameBlind (Pcx g as M) := by
  intro a U fr mk h
  obtain ⟨h1, h2, h3, h4⟩ := h
  exact ⟨h1, h2, KK.moved (u := U) (U := U.calling fr mk a) (Vm.Alike.refl U.vm) h3, ZZ.moved (u := U) (U := U.calling fr mk a) (Vm.Alike.refl U.vm) h4⟩
def rmd (d : Nat) : Room := { frames := d + 1, cells := 0, slots := 0, locals := 40 * (d + 1) }
/-- a contract -/
def Ct (g : GG) (y : MethodName) (cc : ByteArray) (nL : Nat) (ret : Option FieldType) (d : Nat) (as : List Value) (M : Mem) (post : Option Value → Mem → Prop) : Prop :=
  Met g.1 y (Cond.code y cc nL ret :: wsL_law) (rmd d) (Pcx g as M) (Qcx g post) 0 0 (gA g)
abbrev FQ (g : GG) (post : Option Value → Mem → Prop) : List Frame → Array Value → State → State → Prop := fun below args s => MQ below (Qcx g post) args s 0 0 (gA g)
theorem ct_of {g : GG} {y : MethodName} {cc : ByteArray} {nL : Nat} {ret : Option FieldType} {d : Nat} {as : List Value} {M : Mem} {post : Option Value → Mem → Prop} (hy : plainName y.cls = true) (ha : (lg_sl as).length ≤ nL)
    (body : Ok g (cc, y.cls, nL, ret) (rmd d) (FQ g post) 0 (lv_args 0 as) [] M) : Ct g y cc nL ret d as M post := by
  refine Met.ofW (cc := cc) (maxL := nL) (ret := ret) hy rfl ?_
  intro p e s m args below meth c s₁ B hml hv
  obtain ⟨rfl, hP, hK, hZ⟩ := hv
  have hts := atoms_spec (ws := Cond.code y cc nL ret :: wsL_law) B.pre
  have ht : ∀ x ∈ c.exceptionTable.toList, False := by
    obtain ⟨meth9, c9, h1, h2, -, -, -, -, h7, -⟩ := Cond.code_spec B.named (hts _ List.mem_cons_self)
    cases Option.some.inj (h1.symm.trans B.method)
    cases Option.some.inj (h2.symm.trans (Stand.of_body B).code)
    intro x hx
    rw [Array.isEmpty_iff.mp h7] at hx
    cases hx
  have hl := lv_entry as (n := nL) ha
  rw [lg_entry_eq]
  exact body p e s m _ below meth c s.heap [] _ ⟨B.exec, B.bytes, B.returns, hml, findClass_of_methodNamed B.named, fun w h => hts w (List.mem_cons_of_mem _ h), B.notSynchronized, hK, hZ, ht⟩ hP va_S.rf hl
theorem x_sub {g : GG} {μ : MI} {R : Room} {F : List Frame → Array Value → State → State → Prop} {pc : Nat} {lv lv' : List (Nat × Value)} {st : List Value} {M : Mem} (ks : List Nat) (hs : lv_pick lv ks = lv') (k : Ok g μ R F pc lv' st M) : Ok g μ R F pc lv st M :=
  fun p e s m args below meth c H locs ls hC hP hS hl => k p e s m args below meth c H locs ls hC hP hS (lv_sub hl ks hs)
end
section
/-- an integer as the int that stands for it -/
def wr (z : Int) : Int := (iZ z).toInt
theorem rg_wr (z : Int) : rg (wr z) := rg_of _
theorem iZ_wr (z : Int) : iZ (wr z) = iZ z := iZ_of _
theorem wr_id {z : Int} (h : rg z) : wr z = z := iZ_ti h
/-- the machine's division -/
def dv (a b : Int) : Int := (iZ a / iZ b).toInt
theorem rg_dv (a b : Int) : rg (dv a b) := rg_of _
theorem iZ_dv (a b : Int) : iZ (dv a b) = iZ a / iZ b := iZ_of _
theorem iZ_ne0 {z : Int} (h : rg z) (h0 : z ≠ 0) : ¬ iZ z = 0 := fun q => h0 ((iZ_eq h rg_0).mp (q.trans iZ_0.symm))
theorem iZ_div {a b : Int} (ha : 0 ≤ a) (ha2 : a < 2147483648) (hb : 0 < b) (hb2 : b < 2147483648) : iZ a / iZ b = iZ (a / b) := by
  have e1 : iZ (a.tdiv b) = iZ a / iZ b := Int32.ofInt_tdiv (by show (-2147483648 : Int) ≤ a; omega) (by show a ≤ 2147483647; omega) (by show (-2147483648 : Int) ≤ b; omega) (by show b ≤ 2147483647; omega)
  rw [← e1, Int.tdiv_eq_ediv_of_nonneg ha]
theorem iZ_or {a b : Int} (ha : a = 0 ∨ a = 1) (hb : b = 0 ∨ b = 1) : iZ a ||| iZ b = iZ (if a = 1 ∨ b = 1 then 1 else 0) := by
  rcases ha with rfl | rfl <;> rcases hb with rfl | rfl <;> rfl
theorem iZ_l {a : Int} (h : rg a) : (iZ a).toInt64 = Int64.ofInt a := by
  rw [← iZ_ti h, iZ_of, Int64.ofInt_int32ToInt]
theorem iZ_char {z : Int} (h0 : 0 ≤ z) (h1 : z < 65536) : narrow .char (iv z) = iv z := by
  have h := (pk_charN (q := z.toNat) (by omega)).1
  have e : iZ z = nI z.toNat := by
    unfold iZ nI
    conv => lhs; rw [← Int.toNat_of_nonneg h0]
    rfl
  rw [show iv z = .int (nI z.toNat) by rw [← e]]
  exact h
theorem iZ_charF {z : Int} (h0 : 0 ≤ z) (h1 : z < 65536) : fits .char (iv z) = true := by
  have h := (pk_charN (q := z.toNat) (by omega)).2
  have e : iZ z = nI z.toNat := by
    unfold iZ nI
    conv => lhs; rw [← Int.toNat_of_nonneg h0]
    rfl
  rw [show iv z = .int (nI z.toNat) by rw [← e]]
  exact h
theorem iZ_bool {z : Int} (h : z = 0 ∨ z = 1) : narrow .boolean (iv z) = iv z := by rcases h with rfl | rfl <;> rfl
theorem iZ_boolF {z : Int} (h : z = 0 ∨ z = 1) : fits .boolean (iv z) = true := by rcases h with rfl | rfl <;> rfl
/-- a field's link: the class's own pool entry, the class in kcl, its place -/
def FL (own : String) (idx t n k : Nat) : Prop := ∃ (C : String) (T : u_T), kcl[t]? = some (C, T, n) ∧ k < n ∧ Cond.fieldLink own idx (T k).1 (T k).2.1 (T k).2.2.1 ∈ wsL_law ∧ ∀ w ∈ u_ws C T n, w ∈ wsL_law
def FW (own : String) (idx t n k : Nat) (ty : FieldType) : Prop := ∃ (C : String) (T : u_T) (ty0 : Nat → FieldType), kcl[t]? = some (C, T, n) ∧ k < n ∧ Cond.fieldLink own idx (T k).1 (T k).2.1 (T k).2.2.1 ∈ wsL_law ∧ (∀ w ∈ u_ws C T n, w ∈ wsL_law) ∧
  (T k).2.2.2 = false ∧ parseFieldDescriptor (T k).2.2.1 = some ty ∧ (∀ k, k < n → parseFieldDescriptor (T k).2.2.1 = some (ty0 k)) ∧ (∀ a, a < n → ∀ b, b < n → a ≠ b → (T a).2.1 ≠ (T b).2.1)
theorem FL.t10 {own : String} {idx t n k : Nat} (h : FL own idx t n k) : t < 10 := by
  obtain ⟨C, T, hc, -⟩ := h
  exact (List.getElem?_eq_some_iff.mp hc).1
theorem FW.fl {own : String} {idx t n k : Nat} {ty : FieldType} (h : FW own idx t n k ty) : FL own idx t n k := by
  obtain ⟨C, T, ty0, hc, hk, hl, hi, -⟩ := h
  exact ⟨C, T, hc, hk, hl, hi⟩
theorem kd497 : ∀ n : Nat, n < 499 → 497 ≤ n → (kdN n).1 = 23 ∨ (kdN n).1 = 24 := by
  intro n h1 h2
  rcases (show n = 497 ∨ n = 498 by omega) with rfl | rfl <;> decide +kernel
theorem x_lt497a {t n : Nat} {o : Int} (hk : isK t n o) (h : t ≠ 23 ∧ t ≠ 24) : o < 497 := by
  obtain ⟨h0, h1, h2⟩ := hk
  by_cases h3 : o < 497
  · exact h3
  · have h4 := kd497 o.toNat (by omega) (by omega)
    rw [show kdN o.toNat = (t, n) from h2] at h4
    omega
theorem x_lt497 {own : String} {idx t n k : Nat} {o : Int} (hk : isK t n o) (hf : FL own idx t n k) : o < 497 := x_lt497a hk (by have := hf.t10; omega)
theorem x_obj {g : GG} {M : Mem} {H : Heap} {t n : Nat} {o : Int} (hk : isK t n o) (ht : t < 10) (hP : HP g M H) : t_OB (g.2.1 + o.toNat) (g.2.2.1.1 t) n (g.2.2.1.2 t) H (fun k => vl g o t k (M o k)) := by
  have h := hP.2 o hk.1 hk.2.1
  rw [hk.2.2] at h
  simpa [OB, ht] using h
theorem x_arr {g : GG} {M : Mem} {H : Heap} {t n : Nat} {o : Int} (hk : isK t n o) (ht : ¬ t < 10) (hP : HP g M H) : H[g.2.1 + o.toNat]? = some (arrV (g.2.2.2 t) n (fun k => vl g o t k (M o k))) := by
  have h := hP.2 o hk.1 hk.2.1
  rw [hk.2.2] at h
  simpa [OB, ht] using h
theorem HP.other {g : GG} {M : Mem} {H H1 : Heap} {o k z : Int} (hP : HP g M H) (ho : 0 ≤ o) (hz : o < 497 → rg z) (h3 : ∀ q : Nat, q ≠ g.2.1 + o.toNat → H1[q]? = H[q]?) (hob : OB g o (kd o) (fun j => vl g o (kd o).1 j (up M o k z o j)) H1) : HP g (up M o k z) H1 := by
  refine ⟨fun o' k' h => ?_, fun o' h0 h1 => ?_⟩
  · by_cases e : o' = o ∧ k' = k
    · obtain ⟨rfl, rfl⟩ := e
      rw [up_s]
      exact hz h
    · rw [up_n e]
      exact hP.1 o' k' h
  · by_cases e : o' = o
    · subst e
      exact hob
    · have hb := hP.2 o' h0 h1
      have e2 : (fun j : Nat => vl g o' (kd o').1 j (up M o k z o' j)) = (fun j : Nat => vl g o' (kd o').1 j (M o' j)) := by
        funext j
        rw [up_o e]
      rw [e2]
      have hq : H1[g.2.1 + o'.toNat]? = H[g.2.1 + o'.toNat]? := h3 _ (by omega)
      unfold OB at hb ⊢
      split at hb
      · rename_i hlt
        rw [if_pos hlt]
        exact hb.kept hq
      · rename_i hlt
        rw [if_neg hlt, hq]
        exact hb
theorem x_arrSet {g : GG} {M : Mem} {H H1 : Heap} {t n : Nat} {o i z : Int} (hk : isK t n o) (ht : ¬ t < 10) (hs : ∀ k : Nat, (sk t k).1 = 0) (hP : HP g M H) (hz : rg z) (h0 : 0 ≤ i) (h1 : i < n)
    (e1 : H1[g.2.1 + o.toNat]? = some ((arrV (g.2.2.2 t) n (fun k => vl g o t k (M o k))).setSlot i.toNat (iv z))) (e3 : ∀ q : Nat, q ≠ g.2.1 + o.toNat → H1[q]? = H[q]?) : HP g (up M o i z) H1 := by
  refine hP.other hk.1 (fun _ => hz) e3 ?_
  rw [hk.2.2]
  unfold OB
  rw [if_neg ht, e1, arrV_store]
  congr 2
  funext j
  by_cases hj : j = i.toNat
  · subst hj
    have hi : ((i.toNat : Nat) : Int) = i := Int.toNat_of_nonneg h0
    simp [updV, hi, up_s, vl, hs]
  · have hne : ((j : Nat) : Int) ≠ i := by omega
    simp [updV, hj, up_k hne]
section XH
variable {g : GG} {μ : MI} {R : Room} {pc : Nat} {st : List Value} {M : Mem} {p : Program} {e : Env} {s : State} {m : MethodId} {args : Array Value} {below : List Frame} {meth : Method} {c : Code} {H : Heap} {locs : List Loc} {ls : Array Slot} {Q : State → Prop}
theorem x_getW {t n k idx : Nat} {o : Int} (hC : Cx g μ p s m args meth c) (hd : decode μ.1 pc = .ok (.getfield idx, 3)) (hf : FL μ.2.1 idx t n k) (hk : isK t n o) (hP : HP g M H)
    (kk : W p g.1 e R s m args below meth c H locs 0 0 Q (F0 m (pc + 3) ls (vl g o t k (M o k) :: st))) : W p g.1 e R s m args below meth c H locs 0 0 Q (F0 m pc ls (rv g o :: st)) := by
  have ht := hf.t10
  obtain ⟨hx, hb, hr, hml, hown, hts, hlk, hK, hZ, hex⟩ := hC
  obtain ⟨C, T, hc, hkn, hlink, hin⟩ := hf
  obtain ⟨cell, q1, q2, q3, q4⟩ := x_obj hk ht hP
  obtain ⟨hS, hfc, kC, hkC, hkind⟩ := hK.1.1 t _ hc
  obtain ⟨cf, kf, fi, f, hi, hsl⟩ := hS k hkn
  refine W.getf hx hb hown (hts _ hlink) hi (u_facts hfc hkC (u_lays hts hin hkn) hi).1 q1 (by rw [q3]; exact fun h => by cases h) (v := vl g o t k (M o k)) ?_ rfl rfl hd kk
  rw [hsl]
  exact q4 k hkn
theorem x_putW {t n k idx : Nat} {o z : Int} {ty : FieldType} (hC : Cx g μ p s m args meth c) (hd : decode μ.1 pc = .ok (.putfield idx, 3)) (hf : FW μ.2.1 idx t n k ty) (hk : isK t n o) (hs : (sk t k).1 = 0) (hz : rg z) (hn : narrow ty (iv z) = iv z) (hfit : fits ty (iv z) = true) (hP : HP g M H) (hS0 : va_S (gA g) s.heap H locs)
    (kk : ∀ (H1 : Heap) (locs1 : List Loc), HP g (up M o k z) H1 → va_S (gA g) s.heap H1 locs1 → W p g.1 e R s m args below meth c H1 locs1 0 0 Q (F0 m (pc + 3) ls st)) : W p g.1 e R s m args below meth c H locs 0 0 Q (F0 m pc ls (iv z :: rv g o :: st)) := by
  have ht := hf.fl.t10
  obtain ⟨hx, hb, hr, hml, hown, hts, hlk, hK, hZ, hex⟩ := hC
  obtain ⟨C, T, ty0, hc, hkn, hlink, hin, hfin, hpd, hty, hnm⟩ := hf
  have hap := va_apart (own := μ.2.1) hts hin ty0 hty hnm hK.1 hc
  obtain ⟨cell, q1, q2, q3, q4⟩ := x_obj hk ht hP
  obtain ⟨hS, hfc, kC, hkC, hkind⟩ := hK.1.1 t _ hc
  obtain ⟨cf, kf, fi, f, hi, hsl⟩ := hS k hkn
  have hlay := hts _ (hin _ (u_in_lay hkn))
  unfold u_lay at hlay
  rw [if_neg (by rw [hfin]; decide)] at hlay
  have hst := (u_facts hfc hkC (u_lays hts hin hkn) hi).1
  have h6 := u_store hfc hkC hkind hlay hi hpd hn hfit
  refine W.putK hx hb (f := f) ⟨hown, hts _ hlink, ⟨_, _, _, hi⟩, hst⟩ (by rw [q2]; exact h6) q1 q3 (by rw [hsl]; exact k2_hasslot (q4 k hkn)) rfl rfl hd fun H' e1 e2 e3 => ?_
  rw [hsl] at e1 ⊢
  refine kk H' _ (hP.other hk.1 (fun _ => hz) e3 ?_) (hS0.put e2 e3 (Nat.le_add_right _ _))
  rw [hk.2.2]
  unfold OB
  rw [if_pos ht]
  refine t_OB.to (V := updV (fun k => vl g o t k (M o k)) k (iv z)) ⟨_, e1, q2, q3, t_set q4 hap hkn (iv z)⟩ (fun j _ => ?_)
  by_cases hj : j = k
  · subst hj
    simp [updV, up_s, vl, hs]
  · have hne : ((j : Nat) : Int) ≠ (k : Int) := by omega
    simp [updV, hj, up_k hne]
end XH
end
section
section XR
variable {g : GG} {μ : MI} {R : Room} {F : List Frame → Array Value → State → State → Prop} {pc : Nat} {lv : List (Nat × Value)} {st : List Value} {M : Mem}
theorem x_iconst {n : Int} (z : Int) (hd : decode μ.1 pc = .ok (.iconst n, 1)) (hz : Int32.ofInt n = iZ z) (k : Ok g μ R F (pc + 1) lv (iv z :: st) M) : Ok g μ R F pc lv st M := by
  intro p e s m args below meth c H locs ls hC hP hS hl
  exact lv_iconst hC.1 hC.2.1 hd hz (k p e s m args below meth c H locs ls hC hP hS hl)

theorem x_bipush {n : Int} (z : Int) (hd : decode μ.1 pc = .ok (.bipush n, 2)) (hz : (Int8.ofInt n).toInt32 = iZ z) (k : Ok g μ R F (pc + 2) lv (iv z :: st) M) : Ok g μ R F pc lv st M := by
  intro p e s m args below meth c H locs ls hC hP hS hl
  exact lv_bipush hC.1 hC.2.1 hd hz (k p e s m args below meth c H locs ls hC hP hS hl)

theorem x_sipush {n : Int} (z : Int) (hd : decode μ.1 pc = .ok (.sipush n, 3)) (hz : (Int16.ofInt n).toInt32 = iZ z) (k : Ok g μ R F (pc + 3) lv (iv z :: st) M) : Ok g μ R F pc lv st M := by
  intro p e s m args below meth c H locs ls hC hP hS hl
  exact lv_sipush hC.1 hC.2.1 hd hz (k p e s m args below meth c H locs ls hC hP hS hl)

theorem x_iload {i : Nat} {z : Int} (j : Nat) (hd : decode μ.1 pc = .ok (.iload i, 2)) (hv : lv[j]? = some (i, iv z)) (k : Ok g μ R F (pc + 2) lv (iv z :: st) M) : Ok g μ R F pc lv st M := by
  intro p e s m args below meth c H locs ls hC hP hS hl
  exact lv_iload hC.1 hC.2.1 hd (lv_at hl j hv) (k p e s m args below meth c H locs ls hC hP hS hl)

theorem x_iload_n {i : Nat} {q : Fin 4} {z : Int} (j : Nat) (hd : decode μ.1 pc = .ok (.iload_n q, 1)) (hi : (q : Nat) = i) (hv : lv[j]? = some (i, iv z)) (k : Ok g μ R F (pc + 1) lv (iv z :: st) M) : Ok g μ R F pc lv st M := by
  intro p e s m args below meth c H locs ls hC hP hS hl
  exact lv_iload_n hC.1 hC.2.1 hd hi (lv_at hl j hv) (k p e s m args below meth c H locs ls hC hP hS hl)

theorem x_aload {i : Nat} {a : Nat} (j : Nat) (hd : decode μ.1 pc = .ok (.aload i, 2)) (hv : lv[j]? = some (i, .ref a)) (k : Ok g μ R F (pc + 2) lv (.ref a :: st) M) : Ok g μ R F pc lv st M := by
  intro p e s m args below meth c H locs ls hC hP hS hl
  exact lv_aload hC.1 hC.2.1 hd (lv_at hl j hv) (k p e s m args below meth c H locs ls hC hP hS hl)

theorem x_aload_n {i : Nat} {q : Fin 4} {a : Nat} (j : Nat) (hd : decode μ.1 pc = .ok (.aload_n q, 1)) (hi : (q : Nat) = i) (hv : lv[j]? = some (i, .ref a)) (k : Ok g μ R F (pc + 1) lv (.ref a :: st) M) : Ok g μ R F pc lv st M := by
  intro p e s m args below meth c H locs ls hC hP hS hl
  exact lv_aload_n hC.1 hC.2.1 hd hi (lv_at hl j hv) (k p e s m args below meth c H locs ls hC hP hS hl)

theorem x_lload {i : Nat} {x : Int64} (j : Nat) (hd : decode μ.1 pc = .ok (.lload i, 2)) (hv : lv[j]? = some (i, .long x)) (k : Ok g μ R F (pc + 2) lv (.long x :: st) M) : Ok g μ R F pc lv st M := by
  intro p e s m args below meth c H locs ls hC hP hS hl
  exact lv_lload hC.1 hC.2.1 hd (lv_at hl j hv) (k p e s m args below meth c H locs ls hC hP hS hl)

theorem x_lload_n {i : Nat} {q : Fin 4} {x : Int64} (j : Nat) (hd : decode μ.1 pc = .ok (.lload_n q, 1)) (hi : (q : Nat) = i) (hv : lv[j]? = some (i, .long x)) (k : Ok g μ R F (pc + 1) lv (.long x :: st) M) : Ok g μ R F pc lv st M := by
  intro p e s m args below meth c H locs ls hC hP hS hl
  exact lv_lload_n hC.1 hC.2.1 hd hi (lv_at hl j hv) (k p e s m args below meth c H locs ls hC hP hS hl)

theorem x_istore {i : Nat} {z : Int} {lv' : List (Nat × Value)} (hd : decode μ.1 pc = .ok (.istore i, 2)) (hn : i < μ.2.2.1) (hv : (i, iv z) :: lv.filter (fun q => !(q.1 == i) && !(q.1 + 1 == i && q.2.category == 2)) = lv') (k : Ok g μ R F (pc + 2) lv' st M) : Ok g μ R F pc lv (iv z :: st) M := by
  intro p e s m args below meth c H locs ls hC hP hS hl
  exact lv_istore hC.1 hC.2.1 hd hl hn hv (fun ls hl => k p e s m args below meth c H locs ls hC hP hS hl)

theorem x_istore_n {i : Nat} {q : Fin 4} {z : Int} {lv' : List (Nat × Value)} (hd : decode μ.1 pc = .ok (.istore_n q, 1)) (hi : (q : Nat) = i) (hn : i < μ.2.2.1) (hv : (i, iv z) :: lv.filter (fun q => !(q.1 == i) && !(q.1 + 1 == i && q.2.category == 2)) = lv') (k : Ok g μ R F (pc + 1) lv' st M) : Ok g μ R F pc lv (iv z :: st) M := by
  intro p e s m args below meth c H locs ls hC hP hS hl
  exact lv_istore_n hC.1 hC.2.1 hd hi hl hn hv (fun ls hl => k p e s m args below meth c H locs ls hC hP hS hl)

theorem x_astore {i : Nat} {a : Nat} {lv' : List (Nat × Value)} (hd : decode μ.1 pc = .ok (.astore i, 2)) (hn : i < μ.2.2.1) (hv : (i, .ref a) :: lv.filter (fun q => !(q.1 == i) && !(q.1 + 1 == i && q.2.category == 2)) = lv') (k : Ok g μ R F (pc + 2) lv' st M) : Ok g μ R F pc lv (.ref a :: st) M := by
  intro p e s m args below meth c H locs ls hC hP hS hl
  exact lv_astore hC.1 hC.2.1 hd hl hn hv (fun ls hl => k p e s m args below meth c H locs ls hC hP hS hl)

theorem x_astore_n {i : Nat} {q : Fin 4} {a : Nat} {lv' : List (Nat × Value)} (hd : decode μ.1 pc = .ok (.astore_n q, 1)) (hi : (q : Nat) = i) (hn : i < μ.2.2.1) (hv : (i, .ref a) :: lv.filter (fun q => !(q.1 == i) && !(q.1 + 1 == i && q.2.category == 2)) = lv') (k : Ok g μ R F (pc + 1) lv' st M) : Ok g μ R F pc lv (.ref a :: st) M := by
  intro p e s m args below meth c H locs ls hC hP hS hl
  exact lv_astore_n hC.1 hC.2.1 hd hi hl hn hv (fun ls hl => k p e s m args below meth c H locs ls hC hP hS hl)

theorem x_lstore {i : Nat} {x : Int64} {lv' : List (Nat × Value)} (hd : decode μ.1 pc = .ok (.lstore i, 2)) (hn : i + 1 < μ.2.2.1) (hv : (i, .long x) :: lv.filter (fun q => !(q.1 == i) && (!(q.1 == i + 1) && !(q.1 + 1 == i && q.2.category == 2))) = lv') (k : Ok g μ R F (pc + 2) lv' st M) : Ok g μ R F pc lv (.long x :: st) M := by
  intro p e s m args below meth c H locs ls hC hP hS hl
  exact lv_lstore hC.1 hC.2.1 hd hl hn hv (fun ls hl => k p e s m args below meth c H locs ls hC hP hS hl)

theorem x_lstore_n {i : Nat} {q : Fin 4} {x : Int64} {lv' : List (Nat × Value)} (hd : decode μ.1 pc = .ok (.lstore_n q, 1)) (hi : (q : Nat) = i) (hn : i + 1 < μ.2.2.1) (hv : (i, .long x) :: lv.filter (fun q => !(q.1 == i) && (!(q.1 == i + 1) && !(q.1 + 1 == i && q.2.category == 2))) = lv') (k : Ok g μ R F (pc + 1) lv' st M) : Ok g μ R F pc lv (.long x :: st) M := by
  intro p e s m args below meth c H locs ls hC hP hS hl
  exact lv_lstore_n hC.1 hC.2.1 hd hi hl hn hv (fun ls hl => k p e s m args below meth c H locs ls hC hP hS hl)

theorem x_iinc {i : Nat} {n z : Int} {lv' : List (Nat × Value)} (j : Nat) (hd : decode μ.1 pc = .ok (.iinc i n, 3)) (hj : lv[j]? = some (i, iv z)) (hn : i < μ.2.2.1) (hv : (i, iv (z + n)) :: lv.filter (fun q => !(q.1 == i) && !(q.1 + 1 == i && q.2.category == 2)) = lv') (k : Ok g μ R F (pc + 3) lv' st M) : Ok g μ R F pc lv st M := by
  intro p e s m args below meth c H locs ls hC hP hS hl
  exact lv_iinc hC.1 hC.2.1 hd hl hj (iZ_add z n) hn hv (fun ls hl => k p e s m args below meth c H locs ls hC hP hS hl)

theorem x_iadd {a b : Int} (hd : decode μ.1 pc = .ok (.iadd, 1)) (k : Ok g μ R F (pc + 1) lv (iv (a + b) :: st) M) : Ok g μ R F pc lv (iv b :: iv a :: st) M := by
  intro p e s m args below meth c H locs ls hC hP hS hl
  refine lv_iadd hC.1 hC.2.1 hd ?_
  rw [iZ_add]
  exact k p e s m args below meth c H locs ls hC hP hS hl

theorem x_iaddw {a b : Int} (hd : decode μ.1 pc = .ok (.iadd, 1)) (k : Ok g μ R F (pc + 1) lv (iv (wr (a + b)) :: st) M) : Ok g μ R F pc lv (iv b :: iv a :: st) M := by
  intro p e s m args below meth c H locs ls hC hP hS hl
  refine lv_iadd hC.1 hC.2.1 hd ?_
  rw [iZ_add, ← iZ_wr]
  exact k p e s m args below meth c H locs ls hC hP hS hl

theorem x_isub {a b : Int} (hd : decode μ.1 pc = .ok (.isub, 1)) (k : Ok g μ R F (pc + 1) lv (iv (a - b) :: st) M) : Ok g μ R F pc lv (iv b :: iv a :: st) M := by
  intro p e s m args below meth c H locs ls hC hP hS hl
  refine lv_isub hC.1 hC.2.1 hd ?_
  rw [iZ_sub]
  exact k p e s m args below meth c H locs ls hC hP hS hl

theorem x_isubw {a b : Int} (hd : decode μ.1 pc = .ok (.isub, 1)) (k : Ok g μ R F (pc + 1) lv (iv (wr (a - b)) :: st) M) : Ok g μ R F pc lv (iv b :: iv a :: st) M := by
  intro p e s m args below meth c H locs ls hC hP hS hl
  refine lv_isub hC.1 hC.2.1 hd ?_
  rw [iZ_sub, ← iZ_wr]
  exact k p e s m args below meth c H locs ls hC hP hS hl

theorem x_imul {a b : Int} (hd : decode μ.1 pc = .ok (.imul, 1)) (k : Ok g μ R F (pc + 1) lv (iv (a * b) :: st) M) : Ok g μ R F pc lv (iv b :: iv a :: st) M := by
  intro p e s m args below meth c H locs ls hC hP hS hl
  refine lv_imul hC.1 hC.2.1 hd ?_
  rw [iZ_mul]
  exact k p e s m args below meth c H locs ls hC hP hS hl

theorem x_imulw {a b : Int} (hd : decode μ.1 pc = .ok (.imul, 1)) (k : Ok g μ R F (pc + 1) lv (iv (wr (a * b)) :: st) M) : Ok g μ R F pc lv (iv b :: iv a :: st) M := by
  intro p e s m args below meth c H locs ls hC hP hS hl
  refine lv_imul hC.1 hC.2.1 hd ?_
  rw [iZ_mul, ← iZ_wr]
  exact k p e s m args below meth c H locs ls hC hP hS hl

theorem x_idivp {a b : Int} (hd : decode μ.1 pc = .ok (.idiv, 1)) (ha : 0 ≤ a) (ha2 : a < 2147483648) (hb : 0 < b) (hb2 : b < 2147483648) (k : Ok g μ R F (pc + 1) lv (iv (a / b) :: st) M) : Ok g μ R F pc lv (iv b :: iv a :: st) M := by
  intro p e s m args below meth c H locs ls hC hP hS hl
  refine lv_idiv hC.1 hC.2.1 hd (iZ_ne0 ⟨by omega, hb2⟩ (by omega)) ?_
  rw [iZ_div ha ha2 hb hb2]
  exact k p e s m args below meth c H locs ls hC hP hS hl

theorem x_iremp {a b : Int} (hd : decode μ.1 pc = .ok (.irem, 1)) (ha : 0 ≤ a) (ha2 : a < 2147483648) (hb : 0 < b) (hb2 : b < 2147483648) (k : Ok g μ R F (pc + 1) lv (iv (a % b) :: st) M) : Ok g μ R F pc lv (iv b :: iv a :: st) M := by
  intro p e s m args below meth c H locs ls hC hP hS hl
  refine lv_irem hC.1 hC.2.1 hd (iZ_ne0 ⟨by omega, hb2⟩ (by omega)) ?_
  rw [iZ_div ha ha2 hb hb2, iZ_mul, iZ_sub, show a - a / b * b = a % b by rw [Int.emod_def, Int.mul_comm]]
  exact k p e s m args below meth c H locs ls hC hP hS hl

theorem x_idivw {a b : Int} (hd : decode μ.1 pc = .ok (.idiv, 1)) (hb : rg b) (hb0 : b ≠ 0) (k : Ok g μ R F (pc + 1) lv (iv (dv a b) :: st) M) : Ok g μ R F pc lv (iv b :: iv a :: st) M := by
  intro p e s m args below meth c H locs ls hC hP hS hl
  refine lv_idiv hC.1 hC.2.1 hd (iZ_ne0 hb hb0) ?_
  rw [← iZ_dv]
  exact k p e s m args below meth c H locs ls hC hP hS hl

theorem x_ior {a b : Int} (hd : decode μ.1 pc = .ok (.ior, 1)) (ha : a = 0 ∨ a = 1) (hb : b = 0 ∨ b = 1) (k : Ok g μ R F (pc + 1) lv (iv (if a = 1 ∨ b = 1 then 1 else 0) :: st) M) : Ok g μ R F pc lv (iv b :: iv a :: st) M := by
  intro p e s m args below meth c H locs ls hC hP hS hl
  refine lv_ior hC.1 hC.2.1 hd ?_
  rw [iZ_or ha hb]
  exact k p e s m args below meth c H locs ls hC hP hS hl

theorem x_dup {v : Value} (hd : decode μ.1 pc = .ok (.dup, 1)) (hc : v.category = 1) (k : Ok g μ R F (pc + 1) lv (v :: v :: st) M) : Ok g μ R F pc lv (v :: st) M := by
  intro p e s m args below meth c H locs ls hC hP hS hl
  exact lv_dup hC.1 hC.2.1 hd hc (k p e s m args below meth c H locs ls hC hP hS hl)

theorem x_dup2 {v w : Value} (hd : decode μ.1 pc = .ok (.dup2, 1)) (hc : v.category = 1) (hc2 : w.category = 1) (k : Ok g μ R F (pc + 1) lv (v :: w :: v :: w :: st) M) : Ok g μ R F pc lv (v :: w :: st) M := by
  intro p e s m args below meth c H locs ls hC hP hS hl
  exact lv_dup2_11 hC.1 hC.2.1 hd hc hc2 (k p e s m args below meth c H locs ls hC hP hS hl)

theorem x_pop {v : Value} (hd : decode μ.1 pc = .ok (.pop, 1)) (hc : v.category = 1) (k : Ok g μ R F (pc + 1) lv st M) : Ok g μ R F pc lv (v :: st) M := by
  intro p e s m args below meth c H locs ls hC hP hS hl
  exact lv_pop hC.1 hC.2.1 hd hc (k p e s m args below meth c H locs ls hC hP hS hl)

theorem x_goto {off : Int} {tgt : Nat} (hd : decode μ.1 pc = .ok (.goto off, 3)) (ht : (pc : Int) + off = (tgt : Int)) (k : Ok g μ R F tgt lv st M) : Ok g μ R F pc lv st M := by
  intro p e s m args below meth c H locs ls hC hP hS hl
  exact lv_goto hC.1 hC.2.1 hd ht (k p e s m args below meth c H locs ls hC hP hS hl)

theorem x_icmp_lt {a b off : Int} {tgt : Nat} (hd : decode μ.1 pc = .ok (.if_icmp .lt off, 3)) (ht : (pc : Int) + off = (tgt : Int)) (ha : rg a) (hb : rg b) (kt : a < b → Ok g μ R F tgt lv st M) (kf : ¬ (a < b) → Ok g μ R F (pc + 3) lv st M) : Ok g μ R F pc lv (iv b :: iv a :: st) M := by
  intro p e s m args below meth c H locs ls hC hP hS hl
  exact lv_icmp_lt hC.1 hC.2.1 hd ht (fun q => kt ((iZ_lt ha hb).mp q) p e s m args below meth c H locs ls hC hP hS hl) (fun q => kf (fun z => q ((iZ_lt ha hb).mpr z)) p e s m args below meth c H locs ls hC hP hS hl)

theorem x_icmp_ge {a b off : Int} {tgt : Nat} (hd : decode μ.1 pc = .ok (.if_icmp .ge off, 3)) (ht : (pc : Int) + off = (tgt : Int)) (ha : rg a) (hb : rg b) (kt : b ≤ a → Ok g μ R F tgt lv st M) (kf : ¬ (b ≤ a) → Ok g μ R F (pc + 3) lv st M) : Ok g μ R F pc lv (iv b :: iv a :: st) M := by
  intro p e s m args below meth c H locs ls hC hP hS hl
  exact lv_icmp_ge hC.1 hC.2.1 hd ht (fun q => kt ((iZ_le hb ha).mp q) p e s m args below meth c H locs ls hC hP hS hl) (fun q => kf (fun z => q ((iZ_le hb ha).mpr z)) p e s m args below meth c H locs ls hC hP hS hl)

theorem x_icmp_gt {a b off : Int} {tgt : Nat} (hd : decode μ.1 pc = .ok (.if_icmp .gt off, 3)) (ht : (pc : Int) + off = (tgt : Int)) (ha : rg a) (hb : rg b) (kt : b < a → Ok g μ R F tgt lv st M) (kf : ¬ (b < a) → Ok g μ R F (pc + 3) lv st M) : Ok g μ R F pc lv (iv b :: iv a :: st) M := by
  intro p e s m args below meth c H locs ls hC hP hS hl
  exact lv_icmp_gt hC.1 hC.2.1 hd ht (fun q => kt ((iZ_lt hb ha).mp q) p e s m args below meth c H locs ls hC hP hS hl) (fun q => kf (fun z => q ((iZ_lt hb ha).mpr z)) p e s m args below meth c H locs ls hC hP hS hl)

theorem x_icmp_le {a b off : Int} {tgt : Nat} (hd : decode μ.1 pc = .ok (.if_icmp .le off, 3)) (ht : (pc : Int) + off = (tgt : Int)) (ha : rg a) (hb : rg b) (kt : a ≤ b → Ok g μ R F tgt lv st M) (kf : ¬ (a ≤ b) → Ok g μ R F (pc + 3) lv st M) : Ok g μ R F pc lv (iv b :: iv a :: st) M := by
  intro p e s m args below meth c H locs ls hC hP hS hl
  exact lv_icmp_le hC.1 hC.2.1 hd ht (fun q => kt ((iZ_le ha hb).mp q) p e s m args below meth c H locs ls hC hP hS hl) (fun q => kf (fun z => q ((iZ_le ha hb).mpr z)) p e s m args below meth c H locs ls hC hP hS hl)

theorem x_icmp_eq {a b off : Int} {tgt : Nat} (hd : decode μ.1 pc = .ok (.if_icmp .eq off, 3)) (ht : (pc : Int) + off = (tgt : Int)) (ha : rg a) (hb : rg b) (kt : a = b → Ok g μ R F tgt lv st M) (kf : ¬ (a = b) → Ok g μ R F (pc + 3) lv st M) : Ok g μ R F pc lv (iv b :: iv a :: st) M := by
  intro p e s m args below meth c H locs ls hC hP hS hl
  exact lv_icmp_eq hC.1 hC.2.1 hd ht (fun q => kt ((iZ_eq ha hb).mp q) p e s m args below meth c H locs ls hC hP hS hl) (fun q => kf (fun z => q ((iZ_eq ha hb).mpr z)) p e s m args below meth c H locs ls hC hP hS hl)

theorem x_icmp_ne {a b off : Int} {tgt : Nat} (hd : decode μ.1 pc = .ok (.if_icmp .ne off, 3)) (ht : (pc : Int) + off = (tgt : Int)) (ha : rg a) (hb : rg b) (kt : ¬ a = b → Ok g μ R F tgt lv st M) (kf : a = b → Ok g μ R F (pc + 3) lv st M) : Ok g μ R F pc lv (iv b :: iv a :: st) M := by
  intro p e s m args below meth c H locs ls hC hP hS hl
  exact lv_icmp_ne hC.1 hC.2.1 hd ht (fun q => kt ((not_congr (iZ_eq ha hb)).mp q) p e s m args below meth c H locs ls hC hP hS hl) (fun q => kf ((iZ_eq ha hb).mp q) p e s m args below meth c H locs ls hC hP hS hl)

theorem x_if_lt {a off : Int} {tgt : Nat} (hd : decode μ.1 pc = .ok (.ifCond .lt off, 3)) (ht : (pc : Int) + off = (tgt : Int)) (ha : rg a) (kt : a < 0 → Ok g μ R F tgt lv st M) (kf : ¬ (a < 0) → Ok g μ R F (pc + 3) lv st M) : Ok g μ R F pc lv (iv a :: st) M := by
  intro p e s m args below meth c H locs ls hC hP hS hl
  exact lv_if_lt hC.1 hC.2.1 hd ht (fun q => kt ((iZ_lt ha rg_0).mp q) p e s m args below meth c H locs ls hC hP hS hl) (fun q => kf (fun z => q ((iZ_lt ha rg_0).mpr z)) p e s m args below meth c H locs ls hC hP hS hl)

theorem x_if_ge {a off : Int} {tgt : Nat} (hd : decode μ.1 pc = .ok (.ifCond .ge off, 3)) (ht : (pc : Int) + off = (tgt : Int)) (ha : rg a) (kt : 0 ≤ a → Ok g μ R F tgt lv st M) (kf : ¬ (0 ≤ a) → Ok g μ R F (pc + 3) lv st M) : Ok g μ R F pc lv (iv a :: st) M := by
  intro p e s m args below meth c H locs ls hC hP hS hl
  exact lv_if_ge hC.1 hC.2.1 hd ht (fun q => kt ((iZ_le rg_0 ha).mp q) p e s m args below meth c H locs ls hC hP hS hl) (fun q => kf (fun z => q ((iZ_le rg_0 ha).mpr z)) p e s m args below meth c H locs ls hC hP hS hl)

theorem x_if_gt {a off : Int} {tgt : Nat} (hd : decode μ.1 pc = .ok (.ifCond .gt off, 3)) (ht : (pc : Int) + off = (tgt : Int)) (ha : rg a) (kt : 0 < a → Ok g μ R F tgt lv st M) (kf : ¬ (0 < a) → Ok g μ R F (pc + 3) lv st M) : Ok g μ R F pc lv (iv a :: st) M := by
  intro p e s m args below meth c H locs ls hC hP hS hl
  exact lv_if_gt hC.1 hC.2.1 hd ht (fun q => kt ((iZ_lt rg_0 ha).mp q) p e s m args below meth c H locs ls hC hP hS hl) (fun q => kf (fun z => q ((iZ_lt rg_0 ha).mpr z)) p e s m args below meth c H locs ls hC hP hS hl)

theorem x_if_le {a off : Int} {tgt : Nat} (hd : decode μ.1 pc = .ok (.ifCond .le off, 3)) (ht : (pc : Int) + off = (tgt : Int)) (ha : rg a) (kt : a ≤ 0 → Ok g μ R F tgt lv st M) (kf : ¬ (a ≤ 0) → Ok g μ R F (pc + 3) lv st M) : Ok g μ R F pc lv (iv a :: st) M := by
  intro p e s m args below meth c H locs ls hC hP hS hl
  exact lv_if_le hC.1 hC.2.1 hd ht (fun q => kt ((iZ_le ha rg_0).mp q) p e s m args below meth c H locs ls hC hP hS hl) (fun q => kf (fun z => q ((iZ_le ha rg_0).mpr z)) p e s m args below meth c H locs ls hC hP hS hl)

theorem x_if_eq {a off : Int} {tgt : Nat} (hd : decode μ.1 pc = .ok (.ifCond .eq off, 3)) (ht : (pc : Int) + off = (tgt : Int)) (ha : rg a) (kt : a = 0 → Ok g μ R F tgt lv st M) (kf : ¬ (a = 0) → Ok g μ R F (pc + 3) lv st M) : Ok g μ R F pc lv (iv a :: st) M := by
  intro p e s m args below meth c H locs ls hC hP hS hl
  exact lv_if_eq hC.1 hC.2.1 hd ht (fun q => kt ((iZ_eq ha rg_0).mp q) p e s m args below meth c H locs ls hC hP hS hl) (fun q => kf (fun z => q ((iZ_eq ha rg_0).mpr z)) p e s m args below meth c H locs ls hC hP hS hl)

theorem x_if_ne {a off : Int} {tgt : Nat} (hd : decode μ.1 pc = .ok (.ifCond .ne off, 3)) (ht : (pc : Int) + off = (tgt : Int)) (ha : rg a) (kt : ¬ a = 0 → Ok g μ R F tgt lv st M) (kf : a = 0 → Ok g μ R F (pc + 3) lv st M) : Ok g μ R F pc lv (iv a :: st) M := by
  intro p e s m args below meth c H locs ls hC hP hS hl
  exact lv_if_ne hC.1 hC.2.1 hd ht (fun q => kt ((not_congr (iZ_eq ha rg_0)).mp q) p e s m args below meth c H locs ls hC hP hS hl) (fun q => kf ((iZ_eq ha rg_0).mp q) p e s m args below meth c H locs ls hC hP hS hl)

theorem x_lookup {a dflt off : Int} {ps : Array (Int × Int)} {len tgt : Nat} (hd : decode μ.1 pc = .ok (.lookupswitch dflt ps, len)) (ha : rg a) (hp : (ps.toList.zip (ps.toList.drop 1)).all (fun (a, next) => a.1 < next.1) = true) (ho : Op.lookupswitch.offset ps.toList dflt a = off) (ht : (pc : Int) + off = (tgt : Int)) (k : Ok g μ R F tgt lv st M) : Ok g μ R F pc lv (iv a :: st) M := by
  intro p e s m args below meth c H locs ls hC hP hS hl
  exact lv_lookup hC.1 hC.2.1 hd hp (by rw [iZ_ti ha]; exact ho) ht (k p e s m args below meth c H locs ls hC hP hS hl)

theorem x_tabOut {a dflt lo hi : Int} {offs : Array Int} {len tgt : Nat} (hd : decode μ.1 pc = .ok (.tableswitch dflt lo hi offs, len)) (ha : rg a) (h : a < lo ∨ hi < a) (ht : (pc : Int) + dflt = (tgt : Int)) (k : Ok g μ R F tgt lv st M) : Ok g μ R F pc lv (iv a :: st) M := by
  intro p e s m args below meth c H locs ls hC hP hS hl
  exact lv_tableOut hC.1 hC.2.1 hd (by rw [iZ_ti ha]; exact h) ht (k p e s m args below meth c H locs ls hC hP hS hl)

theorem x_tabIn {a dflt lo hi off : Int} {offs : Array Int} {len tgt : Nat} (hd : decode μ.1 pc = .ok (.tableswitch dflt lo hi offs, len)) (ha : rg a) (h1 : ¬ a < lo) (h2 : ¬ hi < a) (ho : offs[(a - lo).toNat]? = some off) (ht : (pc : Int) + off = (tgt : Int)) (k : Ok g μ R F tgt lv st M) : Ok g μ R F pc lv (iv a :: st) M := by
  intro p e s m args below meth c H locs ls hC hP hS hl
  exact lv_tableIn hC.1 hC.2.1 hd (by rw [iZ_ti ha]; exact h1) (by rw [iZ_ti ha]; exact h2) (by rw [iZ_ti ha]; exact ho) ht (k p e s m args below meth c H locs ls hC hP hS hl)

theorem x_i2l {a : Int} (hd : decode μ.1 pc = .ok (.i2l, 1)) (ha : rg a) (k : Ok g μ R F (pc + 1) lv (.long (Int64.ofInt a) :: st) M) : Ok g μ R F pc lv (iv a :: st) M := by
  intro p e s m args below meth c H locs ls hC hP hS hl
  exact lv_i2l hC.1 hC.2.1 hd (iZ_l ha) (k p e s m args below meth c H locs ls hC hP hS hl)

theorem x_ladd {x y : Int64} (hd : decode μ.1 pc = .ok (.ladd, 1)) (k : Ok g μ R F (pc + 1) lv (.long (x + y) :: st) M) : Ok g μ R F pc lv (.long y :: .long x :: st) M := by
  intro p e s m args below meth c H locs ls hC hP hS hl
  exact lv_ladd hC.1 hC.2.1 hd (k p e s m args below meth c H locs ls hC hP hS hl)

theorem x_lmul {x y : Int64} (hd : decode μ.1 pc = .ok (.lmul, 1)) (k : Ok g μ R F (pc + 1) lv (.long (x * y) :: st) M) : Ok g μ R F pc lv (.long y :: .long x :: st) M := by
  intro p e s m args below meth c H locs ls hC hP hS hl
  exact lv_lmul hC.1 hC.2.1 hd (k p e s m args below meth c H locs ls hC hP hS hl)

theorem x_ldc2 {v : Int64} {idx : Nat} (hd : decode μ.1 pc = .ok (.ldc2_w idx, 3)) (hw : Cond.constantLong μ.2.1 idx v ∈ wsL_law) (k : Ok g μ R F (pc + 3) lv (.long v :: st) M) : Ok g μ R F pc lv st M := by
  intro p e s m args below meth c H locs ls hC hP hS hl
  exact lv_ldc2 hC.1 hC.2.1 hC.2.2.2.2.1 (hC.2.2.2.2.2.1 _ hw) hd (k p e s m args below meth c H locs ls hC hP hS hl)

theorem x_geti {t n k idx : Nat} {o : Int} (hd : decode μ.1 pc = .ok (.getfield idx, 3)) (hf : FL μ.2.1 idx t n k) (hk : isK t n o) (hs : (sk t k).1 = 0) (kk : rg (M o k) → Ok g μ R F (pc + 3) lv (iv (M o k) :: st) M) : Ok g μ R F pc lv (rv g o :: st) M := by
  intro p e s m args below meth c H locs ls hC hP hS hl
  have h9 := x_getW (p := p) (e := e) (R := R) (below := below) (Q := F below args s) (meth := meth) (locs := locs) (ls := ls) (st := st) hC hd hf hk hP
  rw [show vl g o t k (M o k) = iv (M o k) by simp [vl, hs]] at h9
  exact h9 (kk (hP.1 o k (x_lt497 hk hf)) p e s m args below meth c H locs ls hC hP hS hl)

theorem x_getr {t n k idx : Nat} {o : Int} {d : Int} {t' n' : Nat} (hd : decode μ.1 pc = .ok (.getfield idx, 3)) (hf : FL μ.2.1 idx t n k) (hk : isK t n o) (hs : sk t k = (1, d, t', n')) (kk : isK t' n' (o + d) → Ok g μ R F (pc + 3) lv (rv g (o + d) :: st) M) : Ok g μ R F pc lv (rv g o :: st) M := by
  intro p e s m args below meth c H locs ls hC hP hS hl
  have h9 := x_getW (p := p) (e := e) (R := R) (below := below) (Q := F below args s) (meth := meth) (locs := locs) (ls := ls) (st := st) hC hd hf hk hP
  rw [show vl g o t k (M o k) = rv g (o + d) by simp [vl, hs]] at h9
  obtain ⟨C, T, hc, hkn, hlink, hin⟩ := hf
  exact h9 (kk (hk.ref k hkn hs) p e s m args below meth c H locs ls hC hP hS hl)

theorem x_puti {t n k idx : Nat} {o z : Int} {ty : FieldType} (hd : decode μ.1 pc = .ok (.putfield idx, 3)) (hf : FW μ.2.1 idx t n k ty) (hk : isK t n o) (hs : (sk t k).1 = 0) (hz : rg z) (hn : narrow ty (iv z) = iv z) (hfit : fits ty (iv z) = true) (kk : Ok g μ R F (pc + 3) lv st (up M o k z)) : Ok g μ R F pc lv (iv z :: rv g o :: st) M := by
  intro p e s m args below meth c H locs ls hC hP hS hl
  exact x_putW hC hd hf hk hs hz hn hfit hP hS (fun H1 locs1 hP1 hS1 => kk p e s m args below meth c H1 locs1 ls hC hP1 hS1 hl)

theorem x_iald {n : Nat} {o i : Int} (hd : decode μ.1 pc = .ok (.iaload, 1)) (hk : isK 20 n o) (h0 : 0 ≤ i) (h1 : i < n) (hn : n < 2147483648) (kk : rg (M o i) → Ok g μ R F (pc + 1) lv (iv (M o i) :: st) M) : Ok g μ R F pc lv (iv i :: rv g o :: st) M := by
  intro p e s m args below meth c H locs ls hC hP hS hl
  obtain ⟨hx, hb, hr, hml, hown, hts, hlk, hK, hZ, hex⟩ := id hC
  have hc := x_arr hk (by decide) hP
  refine W.iald (v := iv (M o i)) hx hb hc (hK.2.1 n _) (fun q => by cases q) (by rw [arrV_size]; exact iZ_in h0 h1 hn) ?_ rfl rfl hd ?_
  · rw [iZ_cl h0 (by omega), arrV_read _ _ (by omega)]
    simp [vl, sk, Int.toNat_of_nonneg h0]
  · exact kk (hP.1 o i (x_lt497a hk (by decide))) p e s m args below meth c H locs ls hC hP hS hl

theorem x_cald {n : Nat} {o i : Int} (hd : decode μ.1 pc = .ok (.caload, 1)) (hk : isK 21 n o) (h0 : 0 ≤ i) (h1 : i < n) (hn : n < 2147483648) (kk : rg (M o i) → Ok g μ R F (pc + 1) lv (iv (M o i) :: st) M) : Ok g μ R F pc lv (iv i :: rv g o :: st) M := by
  intro p e s m args below meth c H locs ls hC hP hS hl
  obtain ⟨hx, hb, hr, hml, hown, hts, hlk, hK, hZ, hex⟩ := id hC
  have hc := x_arr hk (by decide) hP
  refine W.cald (v := iv (M o i)) hx hb hc (hK.2.2.1 n _) (fun q => by cases q) (by rw [arrV_size]; exact iZ_in h0 h1 hn) ?_ rfl rfl hd ?_
  · rw [iZ_cl h0 (by omega), arrV_read _ _ (by omega)]
    simp [vl, sk, Int.toNat_of_nonneg h0]
  · exact kk (hP.1 o i (x_lt497a hk (by decide))) p e s m args below meth c H locs ls hC hP hS hl

theorem x_zald {n : Nat} {o i : Int} (hd : decode μ.1 pc = .ok (.baload, 1)) (hk : isK 22 n o) (h0 : 0 ≤ i) (h1 : i < n) (hn : n < 2147483648) (kk : rg (M o i) → Ok g μ R F (pc + 1) lv (iv (M o i) :: st) M) : Ok g μ R F pc lv (iv i :: rv g o :: st) M := by
  intro p e s m args below meth c H locs ls hC hP hS hl
  obtain ⟨hx, hb, hr, hml, hown, hts, hlk, hK, hZ, hex⟩ := id hC
  have hc := x_arr hk (by decide) hP
  refine W.zald (v := iv (M o i)) hx hb hc (hK.2.2.2.1 n _) (fun q => by cases q) (by rw [arrV_size]; exact iZ_in h0 h1 hn) ?_ rfl rfl hd ?_
  · rw [iZ_cl h0 (by omega), arrV_read _ _ (by omega)]
    simp [vl, sk, Int.toNat_of_nonneg h0]
  · exact kk (hP.1 o i (x_lt497a hk (by decide))) p e s m args below meth c H locs ls hC hP hS hl

theorem x_aald30 {n : Nat} {o i : Int} (hd : decode μ.1 pc = .ok (.aaload, 1)) (hk : isK 30 n o) (h0 : 0 ≤ i) (h1 : i < n) (hn : n < 2147483648) (kk : isK 4 4 (o + (40 + 20 * i)) → Ok g μ R F (pc + 1) lv (rv g (o + (40 + 20 * i)) :: st) M) : Ok g μ R F pc lv (iv i :: rv g o :: st) M := by
  intro p e s m args below meth c H locs ls hC hP hS hl
  obtain ⟨hx, hb, hr, hml, hown, hts, hlk, hK, hZ, hex⟩ := id hC
  have hc := x_arr hk (by decide) hP
  have hi : ((i.toNat : Nat) : Int) = i := Int.toNat_of_nonneg h0
  refine W.aald (v := rv g (o + (40 + 20 * i))) (ty := .object "Judgefold$Problem") hx hb hc (hK.2.2.2.2.2.2.1 n _) rfl (fun q => by cases q) (by rw [arrV_size]; exact iZ_in h0 h1 hn) ?_ rfl rfl hd ?_
  · rw [iZ_cl h0 (by omega), arrV_read _ _ (by omega)]
    simp [vl, sk, hi]
  · exact kk (by have h := hk.ref i.toNat (by omega) (d := 40 + 20 * i) (t' := 4) (n' := 4) (by simp only [sk, hi]); exact h) p e s m args below meth c H locs ls hC hP hS hl

theorem x_aald31 {n : Nat} {o i : Int} (hd : decode μ.1 pc = .ok (.aaload, 1)) (hk : isK 31 n o) (h0 : 0 ≤ i) (h1 : i < n) (hn : n < 2147483648) (kk : isK 6 10 (o + (139 + 8 * i)) → Ok g μ R F (pc + 1) lv (rv g (o + (139 + 8 * i)) :: st) M) : Ok g μ R F pc lv (iv i :: rv g o :: st) M := by
  intro p e s m args below meth c H locs ls hC hP hS hl
  obtain ⟨hx, hb, hr, hml, hown, hts, hlk, hK, hZ, hex⟩ := id hC
  have hc := x_arr hk (by decide) hP
  have hi : ((i.toNat : Nat) : Int) = i := Int.toNat_of_nonneg h0
  refine W.aald (v := rv g (o + (139 + 8 * i))) (ty := .object "Judgefold$Run") hx hb hc (hK.2.2.2.2.2.2.2.1 n _) rfl (fun q => by cases q) (by rw [arrV_size]; exact iZ_in h0 h1 hn) ?_ rfl rfl hd ?_
  · rw [iZ_cl h0 (by omega), arrV_read _ _ (by omega)]
    simp [vl, sk, hi]
  · exact kk (by have h := hk.ref i.toNat (by omega) (d := 139 + 8 * i) (t' := 6) (n' := 10) (by simp only [sk, hi]); exact h) p e s m args below meth c H locs ls hC hP hS hl

theorem x_aald32 {n : Nat} {o i : Int} (hd : decode μ.1 pc = .ok (.aaload, 1)) (hk : isK 32 n o) (h0 : 0 ≤ i) (h1 : i < n) (hn : n < 2147483648) (kk : isK 3 4 (o + (1 + 3 * i)) → Ok g μ R F (pc + 1) lv (rv g (o + (1 + 3 * i)) :: st) M) : Ok g μ R F pc lv (iv i :: rv g o :: st) M := by
  intro p e s m args below meth c H locs ls hC hP hS hl
  obtain ⟨hx, hb, hr, hml, hown, hts, hlk, hK, hZ, hex⟩ := id hC
  have hc := x_arr hk (by decide) hP
  have hi : ((i.toNat : Nat) : Int) = i := Int.toNat_of_nonneg h0
  refine W.aald (v := rv g (o + (1 + 3 * i))) (ty := .object "Judgefold$Numbers") hx hb hc (hK.2.2.2.2.2.2.2.2.1 n _) rfl (fun q => by cases q) (by rw [arrV_size]; exact iZ_in h0 h1 hn) ?_ rfl rfl hd ?_
  · rw [iZ_cl h0 (by omega), arrV_read _ _ (by omega)]
    simp [vl, sk, hi]
  · exact kk (by have h := hk.ref i.toNat (by omega) (d := 1 + 3 * i) (t' := 3) (n' := 4) (by simp only [sk, hi]); exact h) p e s m args below meth c H locs ls hC hP hS hl

theorem x_aald33 {n : Nat} {o i : Int} (hd : decode μ.1 pc = .ok (.aaload, 1)) (hk : isK 33 n o) (h0 : 0 ≤ i) (h1 : i < n) (hn : n < 2147483648) (kk : isK 20 40 (o + (1 + i)) → Ok g μ R F (pc + 1) lv (rv g (o + (1 + i)) :: st) M) : Ok g μ R F pc lv (iv i :: rv g o :: st) M := by
  intro p e s m args below meth c H locs ls hC hP hS hl
  obtain ⟨hx, hb, hr, hml, hown, hts, hlk, hK, hZ, hex⟩ := id hC
  have hc := x_arr hk (by decide) hP
  have hi : ((i.toNat : Nat) : Int) = i := Int.toNat_of_nonneg h0
  refine W.aald (v := rv g (o + (1 + i))) (ty := .array .int) hx hb hc (hK.2.2.2.2.2.2.2.2.2 n _) rfl (fun q => by cases q) (by rw [arrV_size]; exact iZ_in h0 h1 hn) ?_ rfl rfl hd ?_
  · rw [iZ_cl h0 (by omega), arrV_read _ _ (by omega)]
    simp [vl, sk, hi]
  · exact kk (by have h := hk.ref i.toNat (by omega) (d := 1 + i) (t' := 20) (n' := 40) (by simp only [sk, hi]); exact h) p e s m args below meth c H locs ls hC hP hS hl

theorem x_iast {n : Nat} {o i z : Int} (hd : decode μ.1 pc = .ok (.iastore, 1)) (hk : isK 20 n o) (h0 : 0 ≤ i) (h1 : i < n) (hn : n < 2147483648) (hz : rg z) (kk : Ok g μ R F (pc + 1) lv st (up M o i z)) : Ok g μ R F pc lv (iv z :: iv i :: rv g o :: st) M := by
  intro p e s m args below meth c H locs ls hC hP hS hl
  obtain ⟨hx, hb, hr, hml, hown, hts, hlk, hK, hZ, hex⟩ := id hC
  have hc := x_arr hk (by decide) hP
  refine W.iast hx hb hc (hK.2.1 n _) (fun q => by cases q) (by rw [arrV_size]; exact iZ_in h0 h1 hn) rfl rfl hd (fun H1 e1 e2 e3 => ?_)
  exact kk p e s m args below meth c H1 _ ls hC (x_arrSet hk (by decide) (fun _ => rfl) hP hz h0 h1 (by rw [iZ_cl h0 (by omega)] at e1; exact e1) e3) (hS.put e2 e3 (Nat.le_add_right _ _)) hl

theorem x_cast {n : Nat} {o i z : Int} (hd : decode μ.1 pc = .ok (.castore, 1)) (hk : isK 21 n o) (h0 : 0 ≤ i) (h1 : i < n) (hn : n < 2147483648) (hz : rg z) (hc0 : 0 ≤ z) (hc1 : z < 65536) (kk : Ok g μ R F (pc + 1) lv st (up M o i z)) : Ok g μ R F pc lv (iv z :: iv i :: rv g o :: st) M := by
  intro p e s m args below meth c H locs ls hC hP hS hl
  obtain ⟨hx, hb, hr, hml, hown, hts, hlk, hK, hZ, hex⟩ := id hC
  have hc := x_arr hk (by decide) hP
  refine W.cast hx hb hc (hK.2.2.1 n _) (fun q => by cases q) (by rw [arrV_size]; exact iZ_in h0 h1 hn) rfl rfl hd (fun H1 e1 e2 e3 => ?_)
  rw [iZ_char hc0 hc1] at e1
  exact kk p e s m args below meth c H1 _ ls hC (x_arrSet hk (by decide) (fun _ => rfl) hP hz h0 h1 (by rw [iZ_cl h0 (by omega)] at e1; exact e1) e3) (hS.put e2 e3 (Nat.le_add_right _ _)) hl

theorem x_zast {n : Nat} {o i z : Int} (hd : decode μ.1 pc = .ok (.bastore, 1)) (hk : isK 22 n o) (h0 : 0 ≤ i) (h1 : i < n) (hn : n < 2147483648) (hz : rg z) (hz01 : z = 0 ∨ z = 1) (kk : Ok g μ R F (pc + 1) lv st (up M o i z)) : Ok g μ R F pc lv (iv z :: iv i :: rv g o :: st) M := by
  intro p e s m args below meth c H locs ls hC hP hS hl
  obtain ⟨hx, hb, hr, hml, hown, hts, hlk, hK, hZ, hex⟩ := id hC
  have hc := x_arr hk (by decide) hP
  refine W.zast hx hb hc (hK.2.2.2.1 n _) (fun q => by cases q) (by rw [arrV_size]; exact iZ_in h0 h1 hn) rfl rfl hd (fun H1 e1 e2 e3 => ?_)
  rw [iZ_bool hz01] at e1
  exact kk p e s m args below meth c H1 _ ls hC (x_arrSet hk (by decide) (fun _ => rfl) hP hz h0 h1 (by rw [iZ_cl h0 (by omega)] at e1; exact e1) e3) (hS.put e2 e3 (Nat.le_add_right _ _)) hl

theorem x_alen {t n : Nat} {o : Int} {ty : FieldType} (hd : decode μ.1 pc = .ok (.arraylength, 1)) (hk : isK t n o) (ht : ¬ t < 10) (hty : ∀ (U : State), KK g U → ArrOfT U (g.2.2.2 t) ty) (k : Ok g μ R F (pc + 1) lv (iv n :: st) M) : Ok g μ R F pc lv (rv g o :: st) M := by
  intro p e s m args below meth c H locs ls hC hP hS hl
  obtain ⟨hx, hb, hr, hml, hown, hts, hlk, hK, hZ, hex⟩ := id hC
  have hc := x_arr hk ht hP
  exact W.alen hx hb hc (hty s hK n _) (by rw [arrV_size]; rfl) rfl rfl hd (k p e s m args below meth c H locs ls hC hP hS hl)

end XR
end
section
def pI (P : Int → Mem → Prop) : Option Value → Mem → Prop := fun v M => ∃ z, v = some (iv z) ∧ P z M
def pV (P : Mem → Prop) : Option Value → Mem → Prop := fun v M => v = none ∧ P M
def pL (P : Int64 → Mem → Prop) : Option Value → Mem → Prop := fun v M => ∃ x, v = some (.long x) ∧ P x M
def pR (g : GG) (P : Int → Mem → Prop) : Option Value → Mem → Prop := fun v M => ∃ o, v = some (rv g o) ∧ P o M
/-- the words of a call of y, of the class kcl[t], by the class own -/
def VL (own : String) (idx t : Nat) (y : MethodName) (cc : ByteArray) (nL : Nat) (ret : Option FieldType) (n : Nat) : Prop :=
  (∃ (T : u_T) (N : Nat), kcl[t]? = some (y.cls, T, N)) ∧ Cond.methodLink own idx y ∈ wsL_law ∧ Cond.instanceMethod y ∈ wsL_law ∧ Cond.selects y.cls y y ∈ wsL_law ∧ Cond.initialized y.cls ∈ wsL_law ∧ Cond.code y cc nL ret ∈ wsL_law ∧ (y.cls ≠ "java/lang/invoke/MethodHandle" ∧ y.cls ≠ "java/lang/invoke/VarHandle") ∧ (parseMethodDescriptor y.desc).map (fun d => d.parameters.length) = some n
def SL (own : String) (idx : Nat) (y : MethodName) (cc : ByteArray) (nL : Nat) (ret : Option FieldType) (n : Nat) : Prop :=
  Cond.methodLink own idx y ∈ wsL_law ∧ Cond.static y ∈ wsL_law ∧ Cond.initialized y.cls ∈ wsL_law ∧ Cond.code y cc nL ret ∈ wsL_law ∧ (y.cls ≠ "java/lang/invoke/MethodHandle" ∧ y.cls ≠ "java/lang/invoke/VarHandle") ∧ (parseMethodDescriptor y.desc).map (fun d => d.parameters.length) = some n
theorem wsL_good : wsL_law.all goodWord = true := by decide +kernel
theorem wsL_in {y : MethodName} {cc : ByteArray} {nL : Nat} {ret : Option FieldType} (h : Cond.code y cc nL ret ∈ wsL_law) : GoodIn wsL_law (Cond.code y cc nL ret :: wsL_law) := fun w hw => by
  have h1 : w ∈ wsL_law := (List.mem_cons.mp hw).elim (fun e => e ▸ h) id
  exact ⟨h1, good_of_word (List.all_eq_true.mp wsL_good w h1)⟩
section XC
variable {g : GG} {μ : MI} {R : Room} {F : List Frame → Array Value → State → State → Prop} {pc : Nat} {lv : List (Nat × Value)} {st rest : List Value} {M : Mem}
theorem va_S.call {g : GG} {H0 H H1 : Heap} {locs L : List Loc} (hS : va_S (gA g) H0 H locs) (hz : H.size ≤ H1.size) (hk : ∀ q : Nat, q < H.size → ¬ gA g q → H1[q]? = H[q]?) (hL : ∀ q ∈ L, gA g q.base) : va_S (gA g) H0 H1 (locs ++ L) :=
  ⟨Nat.le_trans hS.1 hz, fun q h1 h2 => by rw [hk q (Nat.lt_of_lt_of_le h1 hS.1) h2]; exact hS.2.1 q h1 h2, fun q hq => by
    rcases List.mem_append.mp hq with h | h
    · exact hS.2.2 q h
    · exact hL q h⟩
theorem x_callV {t n idx : Nat} {o : Int} {y : MethodName} {cc : ByteArray} {nL d na : Nat} {ret : Option FieldType} {as : List Value} {post : Option Value → Mem → Prop}
    (hd : decode μ.1 pc = .ok (.invokevirtual idx, 3)) (hw : VL μ.2.1 idx t y cc nL ret na) (hk : isK t n o) (hC : Ct g y cc nL ret d (rv g o :: as) M post) (hst : st = as.reverse ++ rv g o :: rest) (hn : as.length = na) (hcat : (rest.map fun v => v.category).sum ≤ 8)
    (hR : d + 2 ≤ R.frames ∧ 8 + (nL + 11) + 40 * (d + 1) ≤ R.locals) (kk : ∀ (v : Option Value) (M' : Mem), post v M' → Ok g μ R F (pc + 3) lv (v.toList ++ rest) M') : Ok g μ R F pc lv st M := by
  intro p e s m args below meth c H locs ls hCx hP hS hl
  obtain ⟨hx, hb, hr, hml, hown, hts, hlk, hK, hZ, hex⟩ := id hCx
  obtain ⟨⟨T, N, hkc⟩, w1, w2, w3, w4, w5, w6, w7⟩ := hw
  have ht : t < 10 := (List.getElem?_eq_some_iff.mp hkc).1
  intro T0 hT X
  have cw : CallW R s args μ.2.1 y.cls idx y cc nL ret (Cond.code y cc nL ret :: wsL_law) (rmd d) 0 0 na :=
    ⟨callB_of na hts (wsL_in w5) rfl rfl rfl (hts _ w4) (hts _ w1) ⟨w6.1, w6.2, w7⟩ ⟨hR.1, hR.2⟩, hts _ w2, hts _ w3⟩
  have hp : PreV s H y.cls (g.2.1 + o.toNat) (Pcx g (rv g o :: as) M) as := by
    refine ⟨Pcx.blind, ?_, fun U hU hW => ⟨rfl, by rw [hU]; exact hP, KK.moved hW.alike hK, by rw [hU]; exact ZZ.moved hW.alike (hZ.kept hS.2.1)⟩⟩
    obtain ⟨cell, q1, q2, q3, q4⟩ := x_obj hk ht hP
    exact ⟨cell, q1, by rw [q3]; rfl, by rw [q2]; exact (hK.1.1 t _ hkc).2.1⟩
  obtain ⟨v, st₀, tt, T', L, h0, X', hL, e1, e2, ⟨⟨v', M', hv, hpost, hHP⟩, hF⟩, stp⟩ := va_runV (As := as) (rest := rest) (g := F0 m pc ls st) ⟨hx, hb, hml, hown, hts⟩ hC cw hp rfl hn hl.1 hst (by simpa [F0, JFrame.monitorRoom] using hcat) hd ⟨Nat.zero_le _, Nat.zero_le _⟩ T0 hT X
  cases hv
  obtain ⟨f1, f2⟩ := hF
  rw [h0] at f1 f2
  have hS1 : va_S (gA g) s.heap T'.heap (locs ++ L) := hS.call (by rw [e1]; exact f1) (fun q h1 h2 => by rw [e1]; exact f2 q h1 h2) hL
  obtain ⟨t2, a1, b1⟩ := kk v M' hpost p e s m args below meth c T'.heap (locs ++ L) ls hCx (by rw [e1]; exact hHP) hS1 hl T' rfl X'
  exact ⟨t2, stp t2 a1, b1⟩
theorem x_callS {idx : Nat} {y : MethodName} {cc : ByteArray} {nL d na : Nat} {ret : Option FieldType} {as : List Value} {post : Option Value → Mem → Prop}
    (hd : decode μ.1 pc = .ok (.invokestatic idx, 3)) (hw : SL μ.2.1 idx y cc nL ret na) (hC : Ct g y cc nL ret d as M post) (hst : st = as.reverse ++ rest) (hn : as.length = na) (hcat : (rest.map fun v => v.category).sum ≤ 8)
    (hR : d + 2 ≤ R.frames ∧ 8 + (nL + 11) + 40 * (d + 1) ≤ R.locals) (kk : ∀ (v : Option Value) (M' : Mem), post v M' → Ok g μ R F (pc + 3) lv (v.toList ++ rest) M') : Ok g μ R F pc lv st M := by
  intro p e s m args below meth c H locs ls hCx hP hS hl
  obtain ⟨hx, hb, hr, hml, hown, hts, hlk, hK, hZ, hex⟩ := id hCx
  obtain ⟨w1, w2, w4, w5, w6, w7⟩ := hw
  intro T0 hT X
  have cw : CallB R s args μ.2.1 idx y cc nL ret (Cond.code y cc nL ret :: wsL_law) (rmd d) 0 0 na ∧ (Cond.static y).before args s = true :=
    ⟨callB_of na hts (wsL_in w5) rfl rfl rfl (hts _ w4) (hts _ w1) ⟨w6.1, w6.2, w7⟩ ⟨hR.1, hR.2⟩, hts _ w2⟩
  have hp : PreS s H (Pcx g as M) as := ⟨Pcx.blind, fun U hU hW => ⟨rfl, by rw [hU]; exact hP, KK.moved hW.alike hK, by rw [hU]; exact ZZ.moved hW.alike (hZ.kept hS.2.1)⟩⟩
  obtain ⟨v, st₀, tt, T', L, h0, X', hL, e1, e2, ⟨⟨v', M', hv, hpost, hHP⟩, hF⟩, stp⟩ := va_runS (As := as) (rest := rest) (g := F0 m pc ls st) ⟨hx, hb, hml, hown, hts⟩ hC cw hp rfl hn hl.1 hst (by simpa [F0, JFrame.monitorRoom] using hcat) hd ⟨Nat.zero_le _, Nat.zero_le _⟩ T0 hT X
  cases hv
  obtain ⟨f1, f2⟩ := hF
  rw [h0] at f1 f2
  have hS1 : va_S (gA g) s.heap T'.heap (locs ++ L) := hS.call (by rw [e1]; exact f1) (fun q h1 h2 => by rw [e1]; exact f2 q h1 h2) hL
  obtain ⟨t2, a1, b1⟩ := kk v M' hpost p e s m args below meth c T'.heap (locs ++ L) ls hCx (by rw [e1]; exact hHP) hS1 hl T' rfl X'
  exact ⟨t2, stp t2 a1, b1⟩
theorem x_iret {post : Option Value → Mem → Prop} {z : Int} {ty : FieldType} (hd : decode μ.1 pc = .ok (.ireturn, 1)) (hr : μ.2.2.2 = some ty) (hn : narrow ty (iv z) = iv z) (hq : post (some (iv z)) M) : Ok g μ R (FQ g post) pc lv [iv z] M := by
  intro p e s m args below meth c H locs ls hC hP hS hl
  exact W.zret hC.1 hC.2.1 (hC.2.2.1.trans hr) hn (fun t ht hW => ⟨⟨_, M, rfl, hq, by rw [ht]; exact hP⟩, hS.F ht⟩) hS.2.2 hd hC.2.2.2.2.2.2.1
theorem x_vret {post : Option Value → Mem → Prop} (hd : decode μ.1 pc = .ok (.return_, 1)) (hr : μ.2.2.2 = none) (hq : post none M) : Ok g μ R (FQ g post) pc lv [] M := by
  intro p e s m args below meth c H locs ls hC hP hS hl
  exact W.vret hC.1 hC.2.1 (hC.2.2.1.trans hr) (fun t ht hW => ⟨⟨_, M, rfl, hq, by rw [ht]; exact hP⟩, hS.F ht⟩) hS.2.2 hd hC.2.2.2.2.2.2.1
theorem x_lret {post : Option Value → Mem → Prop} {x : Int64} (hd : decode μ.1 pc = .ok (.lreturn, 1)) (hr : μ.2.2.2 = some .long) (hq : post (some (.long x)) M) : Ok g μ R (FQ g post) pc lv [.long x] M := by
  intro p e s m args below meth c H locs ls hC hP hS hl
  exact W.lret hC.1 hC.2.1 (hC.2.2.1.trans hr) (fun t ht hW => ⟨⟨_, M, rfl, hq, by rw [ht]; exact hP⟩, hS.F ht⟩) hS.2.2 hd hC.2.2.2.2.2.2.1
theorem x_aret {post : Option Value → Mem → Prop} {o : Int} {C : String} (hd : decode μ.1 pc = .ok (.areturn, 1)) (hr : μ.2.2.2 = some (.object C)) (hq : post (some (rv g o)) M) : Ok g μ R (FQ g post) pc lv [rv g o] M := by
  intro p e s m args below meth c H locs ls hC hP hS hl
  exact W.aret hC.1 hC.2.1 (hC.2.2.1.trans hr) (Or.inl ⟨_, rfl⟩) (Or.inr ⟨_, rfl⟩) (fun t ht hW => ⟨⟨_, M, rfl, hq, by rw [ht]; exact hP⟩, hS.F ht⟩) hS.2.2 hd hC.2.2.2.2.2.2.1
theorem x_callVI {t n idx : Nat} {o : Int} {y : MethodName} {cc : ByteArray} {nL d na : Nat} {ret : Option FieldType} {as : List Value} {P : Int → Mem → Prop}
    (hd : decode μ.1 pc = .ok (.invokevirtual idx, 3)) (hw : VL μ.2.1 idx t y cc nL ret na) (hk : isK t n o) (hC : Ct g y cc nL ret d (rv g o :: as) M (pI P)) (hst : st = as.reverse ++ rv g o :: rest) (hn : as.length = na) (hcat : (rest.map fun v => v.category).sum ≤ 8)
    (hR : d + 2 ≤ R.frames ∧ 8 + (nL + 11) + 40 * (d + 1) ≤ R.locals) (kk : ∀ (z : Int) (M' : Mem), P z M' → Ok g μ R F (pc + 3) lv (iv z :: rest) M') : Ok g μ R F pc lv st M :=
  x_callV hd hw hk hC hst hn hcat hR (fun v M' ⟨z, hv, h⟩ => by subst hv; exact kk z M' h)
theorem x_callVV {t n idx : Nat} {o : Int} {y : MethodName} {cc : ByteArray} {nL d na : Nat} {ret : Option FieldType} {as : List Value} {P : Mem → Prop}
    (hd : decode μ.1 pc = .ok (.invokevirtual idx, 3)) (hw : VL μ.2.1 idx t y cc nL ret na) (hk : isK t n o) (hC : Ct g y cc nL ret d (rv g o :: as) M (pV P)) (hst : st = as.reverse ++ rv g o :: rest) (hn : as.length = na) (hcat : (rest.map fun v => v.category).sum ≤ 8)
    (hR : d + 2 ≤ R.frames ∧ 8 + (nL + 11) + 40 * (d + 1) ≤ R.locals) (kk : ∀ (M' : Mem), P M' → Ok g μ R F (pc + 3) lv rest M') : Ok g μ R F pc lv st M :=
  x_callV hd hw hk hC hst hn hcat hR (fun v M' ⟨hv, h⟩ => by subst hv; exact kk M' h)
theorem x_callVL {t n idx : Nat} {o : Int} {y : MethodName} {cc : ByteArray} {nL d na : Nat} {ret : Option FieldType} {as : List Value} {P : Int64 → Mem → Prop}
    (hd : decode μ.1 pc = .ok (.invokevirtual idx, 3)) (hw : VL μ.2.1 idx t y cc nL ret na) (hk : isK t n o) (hC : Ct g y cc nL ret d (rv g o :: as) M (pL P)) (hst : st = as.reverse ++ rv g o :: rest) (hn : as.length = na) (hcat : (rest.map fun v => v.category).sum ≤ 8)
    (hR : d + 2 ≤ R.frames ∧ 8 + (nL + 11) + 40 * (d + 1) ≤ R.locals) (kk : ∀ (x : Int64) (M' : Mem), P x M' → Ok g μ R F (pc + 3) lv (.long x :: rest) M') : Ok g μ R F pc lv st M :=
  x_callV hd hw hk hC hst hn hcat hR (fun v M' ⟨z, hv, h⟩ => by subst hv; exact kk z M' h)
theorem x_callVR {t n idx : Nat} {o : Int} {y : MethodName} {cc : ByteArray} {nL d na : Nat} {ret : Option FieldType} {as : List Value} {P : Int → Mem → Prop}
    (hd : decode μ.1 pc = .ok (.invokevirtual idx, 3)) (hw : VL μ.2.1 idx t y cc nL ret na) (hk : isK t n o) (hC : Ct g y cc nL ret d (rv g o :: as) M (pR g P)) (hst : st = as.reverse ++ rv g o :: rest) (hn : as.length = na) (hcat : (rest.map fun v => v.category).sum ≤ 8)
    (hR : d + 2 ≤ R.frames ∧ 8 + (nL + 11) + 40 * (d + 1) ≤ R.locals) (kk : ∀ (z : Int) (M' : Mem), P z M' → Ok g μ R F (pc + 3) lv (rv g z :: rest) M') : Ok g μ R F pc lv st M :=
  x_callV hd hw hk hC hst hn hcat hR (fun v M' ⟨z, hv, h⟩ => by subst hv; exact kk z M' h)
theorem x_callSI {idx : Nat} {y : MethodName} {cc : ByteArray} {nL d na : Nat} {ret : Option FieldType} {as : List Value} {P : Int → Mem → Prop}
    (hd : decode μ.1 pc = .ok (.invokestatic idx, 3)) (hw : SL μ.2.1 idx y cc nL ret na) (hC : Ct g y cc nL ret d as M (pI P)) (hst : st = as.reverse ++ rest) (hn : as.length = na) (hcat : (rest.map fun v => v.category).sum ≤ 8)
    (hR : d + 2 ≤ R.frames ∧ 8 + (nL + 11) + 40 * (d + 1) ≤ R.locals) (kk : ∀ (z : Int) (M' : Mem), P z M' → Ok g μ R F (pc + 3) lv (iv z :: rest) M') : Ok g μ R F pc lv st M :=
  x_callS hd hw hC hst hn hcat hR (fun v M' ⟨z, hv, h⟩ => by subst hv; exact kk z M' h)
end XC
end
section
theorem zz_last : True := trivial
end

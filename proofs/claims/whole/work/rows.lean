section
-- ===== PART A: goes FIRST, ahead of the names: the tables' words, and 'selects' of the private methods out of them =====
/-- a private method of a class that the tables say can be made, by its rows of tables_1 -/
def lw_okq (q : MethodName × Nat) : Prop := (q.1.cls ≠ "java/lang/invoke/MethodHandle" ∧ q.1.cls ≠ "java/lang/invoke/VarHandle") ∧ Cond.instantiable q.1.cls q.2 ∈ tables_1 ∧ Cond.privateMethod q.1 ∈ tables_1 ∧ Cond.instanceMethod q.1 ∈ tables_1
theorem lw_p0 : lw_okq (⟨"Judgefold", "testCountOf", "(LJudgefold$Run;)I"⟩, 14) := ⟨⟨by decide +kernel, by decide +kernel⟩, List.mem_of_getElem? (i := 24) (by decide +kernel), List.mem_of_getElem? (i := 348) (by decide +kernel), List.mem_of_getElem? (i := 349) (by decide +kernel)⟩
theorem lw_p1 : lw_okq (⟨"Judgefold", "isRankedAnew", "(Z)Z"⟩, 14) := ⟨⟨by decide +kernel, by decide +kernel⟩, List.mem_of_getElem? (i := 24) (by decide +kernel), List.mem_of_getElem? (i := 367) (by decide +kernel), List.mem_of_getElem? (i := 368) (by decide +kernel)⟩
theorem lw_p2 : lw_okq (⟨"Judgefold$Board", "clear", "()V"⟩, 7) := ⟨⟨by decide +kernel, by decide +kernel⟩, List.mem_of_getElem? (i := 170) (by decide +kernel), List.mem_of_getElem? (i := 375) (by decide +kernel), List.mem_of_getElem? (i := 376) (by decide +kernel)⟩
theorem lw_p3 : lw_okq (⟨"Judgefold$Board", "count", "(LJudgefold$Run;)V"⟩, 7) := ⟨⟨by decide +kernel, by decide +kernel⟩, List.mem_of_getElem? (i := 170) (by decide +kernel), List.mem_of_getElem? (i := 379) (by decide +kernel), List.mem_of_getElem? (i := 380) (by decide +kernel)⟩
theorem lw_p4 : lw_okq (⟨"Judgefold$Board", "putInOrder", "()V"⟩, 7) := ⟨⟨by decide +kernel, by decide +kernel⟩, List.mem_of_getElem? (i := 170) (by decide +kernel), List.mem_of_getElem? (i := 393) (by decide +kernel), List.mem_of_getElem? (i := 394) (by decide +kernel)⟩
theorem lw_p5 : lw_okq (⟨"Judgefold$Board", "isAhead", "(II)Z"⟩, 7) := ⟨⟨by decide +kernel, by decide +kernel⟩, List.mem_of_getElem? (i := 170) (by decide +kernel), List.mem_of_getElem? (i := 397) (by decide +kernel), List.mem_of_getElem? (i := 398) (by decide +kernel)⟩
theorem lw_p6 : lw_okq (⟨"Judgefold", "boardOf", "(Z)LJudgefold$Board;"⟩, 14) := ⟨⟨by decide +kernel, by decide +kernel⟩, List.mem_of_getElem? (i := 24) (by decide +kernel), List.mem_of_getElem? (i := 401) (by decide +kernel), List.mem_of_getElem? (i := 402) (by decide +kernel)⟩
theorem lw_p7 : lw_okq (⟨"Judgefold", "areBalloonsEarned", "()Z"⟩, 14) := ⟨⟨by decide +kernel, by decide +kernel⟩, List.mem_of_getElem? (i := 24) (by decide +kernel), List.mem_of_getElem? (i := 409) (by decide +kernel), List.mem_of_getElem? (i := 410) (by decide +kernel)⟩
theorem lw_p8 : lw_okq (⟨"Judgefold", "areOutputsAnew", "()Z"⟩, 14) := ⟨⟨by decide +kernel, by decide +kernel⟩, List.mem_of_getElem? (i := 24) (by decide +kernel), List.mem_of_getElem? (i := 419) (by decide +kernel), List.mem_of_getElem? (i := 420) (by decide +kernel)⟩
theorem lw_p9 : lw_okq (⟨"Judgefold$Machine", "reset", "()V"⟩, 7) := ⟨⟨by decide +kernel, by decide +kernel⟩, List.mem_of_getElem? (i := 83) (by decide +kernel), List.mem_of_getElem? (i := 427) (by decide +kernel), List.mem_of_getElem? (i := 428) (by decide +kernel)⟩
theorem lw_p10 : lw_okq (⟨"Judgefold$Machine", "doNextStep", "(LJudgefold$Program;LJudgefold$Numbers;)V"⟩, 7) := ⟨⟨by decide +kernel, by decide +kernel⟩, List.mem_of_getElem? (i := 83) (by decide +kernel), List.mem_of_getElem? (i := 431) (by decide +kernel), List.mem_of_getElem? (i := 432) (by decide +kernel)⟩
theorem lw_p11 : lw_okq (⟨"Judgefold$Machine", "takeInput", "(ILJudgefold$Numbers;)V"⟩, 7) := ⟨⟨by decide +kernel, by decide +kernel⟩, List.mem_of_getElem? (i := 83) (by decide +kernel), List.mem_of_getElem? (i := 435) (by decide +kernel), List.mem_of_getElem? (i := 436) (by decide +kernel)⟩
theorem lw_p12 : lw_okq (⟨"Judgefold$Machine", "putOut", "(I)V"⟩, 7) := ⟨⟨by decide +kernel, by decide +kernel⟩, List.mem_of_getElem? (i := 83) (by decide +kernel), List.mem_of_getElem? (i := 439) (by decide +kernel), List.mem_of_getElem? (i := 440) (by decide +kernel)⟩
theorem lw_p13 : lw_okq (⟨"Judgefold$Machine", "divide", "(II)V"⟩, 7) := ⟨⟨by decide +kernel, by decide +kernel⟩, List.mem_of_getElem? (i := 83) (by decide +kernel), List.mem_of_getElem? (i := 443) (by decide +kernel), List.mem_of_getElem? (i := 444) (by decide +kernel)⟩
theorem lw_p14 : lw_okq (⟨"Judgefold$Machine", "goIf", "(ZII)V"⟩, 7) := ⟨⟨by decide +kernel, by decide +kernel⟩, List.mem_of_getElem? (i := 83) (by decide +kernel), List.mem_of_getElem? (i := 447) (by decide +kernel), List.mem_of_getElem? (i := 448) (by decide +kernel)⟩
theorem lw_p15 : lw_okq (⟨"java/lang/Throwable", "fillInStackTrace", "(I)Ljava/lang/Throwable;"⟩, 6) := ⟨⟨by decide +kernel, by decide +kernel⟩, List.mem_of_getElem? (i := 522) (by decide +kernel), List.mem_of_getElem? (i := 520) (by decide +kernel), List.mem_of_getElem? (i := 521) (by decide +kernel)⟩
def lw_privs_1 : List (MethodName × Nat) := [(⟨"Judgefold", "testCountOf", "(LJudgefold$Run;)I"⟩, 14), (⟨"Judgefold", "isRankedAnew", "(Z)Z"⟩, 14), (⟨"Judgefold$Board", "clear", "()V"⟩, 7), (⟨"Judgefold$Board", "count", "(LJudgefold$Run;)V"⟩, 7), (⟨"Judgefold$Board", "putInOrder", "()V"⟩, 7), (⟨"Judgefold$Board", "isAhead", "(II)Z"⟩, 7), (⟨"Judgefold", "boardOf", "(Z)LJudgefold$Board;"⟩, 14), (⟨"Judgefold", "areBalloonsEarned", "()Z"⟩, 14), (⟨"Judgefold", "areOutputsAnew", "()Z"⟩, 14), (⟨"Judgefold$Machine", "reset", "()V"⟩, 7), (⟨"Judgefold$Machine", "doNextStep", "(LJudgefold$Program;LJudgefold$Numbers;)V"⟩, 7), (⟨"Judgefold$Machine", "takeInput", "(ILJudgefold$Numbers;)V"⟩, 7), (⟨"Judgefold$Machine", "putOut", "(I)V"⟩, 7), (⟨"Judgefold$Machine", "divide", "(II)V"⟩, 7), (⟨"Judgefold$Machine", "goIf", "(ZII)V"⟩, 7), (⟨"java/lang/Throwable", "fillInStackTrace", "(I)Ljava/lang/Throwable;"⟩, 6)]
theorem lw_r1 : ∀ q ∈ lw_privs_1, lw_okq q := List.forall_mem_cons.mpr ⟨lw_p0, List.forall_mem_cons.mpr ⟨lw_p1, List.forall_mem_cons.mpr ⟨lw_p2, List.forall_mem_cons.mpr ⟨lw_p3, List.forall_mem_cons.mpr ⟨lw_p4, List.forall_mem_cons.mpr ⟨lw_p5, List.forall_mem_cons.mpr ⟨lw_p6, List.forall_mem_cons.mpr ⟨lw_p7, List.forall_mem_cons.mpr ⟨lw_p8, List.forall_mem_cons.mpr ⟨lw_p9, List.forall_mem_cons.mpr ⟨lw_p10, List.forall_mem_cons.mpr ⟨lw_p11, List.forall_mem_cons.mpr ⟨lw_p12, List.forall_mem_cons.mpr ⟨lw_p13, List.forall_mem_cons.mpr ⟨lw_p14, List.forall_mem_cons.mpr ⟨lw_p15, fun _ h => absurd h List.not_mem_nil⟩⟩⟩⟩⟩⟩⟩⟩⟩⟩⟩⟩⟩⟩⟩⟩
theorem lw_p16 : lw_okq (⟨"Judgefold", "hasProblem", "(I)Z"⟩, 14) := ⟨⟨by decide +kernel, by decide +kernel⟩, List.mem_of_getElem? (i := 24) (by decide +kernel), List.mem_of_getElem? (i := 633) (by decide +kernel), List.mem_of_getElem? (i := 634) (by decide +kernel)⟩
theorem lw_p17 : lw_okq (⟨"Judgefold", "judgeAnew", "(II)I"⟩, 14) := ⟨⟨by decide +kernel, by decide +kernel⟩, List.mem_of_getElem? (i := 24) (by decide +kernel), List.mem_of_getElem? (i := 658) (by decide +kernel), List.mem_of_getElem? (i := 659) (by decide +kernel)⟩
theorem lw_p18 : lw_okq (⟨"Judgefold", "judge", "(LJudgefold$Run;I)V"⟩, 14) := ⟨⟨by decide +kernel, by decide +kernel⟩, List.mem_of_getElem? (i := 24) (by decide +kernel), List.mem_of_getElem? (i := 662) (by decide +kernel), List.mem_of_getElem? (i := 663) (by decide +kernel)⟩
theorem lw_p19 : lw_okq (⟨"Judgefold$Store", "find", "([II)I"⟩, 4) := ⟨⟨by decide +kernel, by decide +kernel⟩, List.mem_of_getElem? (i := 115) (by decide +kernel), List.mem_of_getElem? (i := 674) (by decide +kernel), List.mem_of_getElem? (i := 675) (by decide +kernel)⟩
theorem lw_p20 : lw_okq (⟨"Judgefold$Store", "firstFree", "()I"⟩, 4) := ⟨⟨by decide +kernel, by decide +kernel⟩, List.mem_of_getElem? (i := 115) (by decide +kernel), List.mem_of_getElem? (i := 679) (by decide +kernel), List.mem_of_getElem? (i := 680) (by decide +kernel)⟩
theorem lw_p21 : lw_okq (⟨"Judgefold$Store", "fill", "(I[II)V"⟩, 4) := ⟨⟨by decide +kernel, by decide +kernel⟩, List.mem_of_getElem? (i := 115) (by decide +kernel), List.mem_of_getElem? (i := 683) (by decide +kernel), List.mem_of_getElem? (i := 684) (by decide +kernel)⟩
theorem lw_p22 : lw_okq (⟨"Judgefold", "recountBoards", "()V"⟩, 14) := ⟨⟨by decide +kernel, by decide +kernel⟩, List.mem_of_getElem? (i := 24) (by decide +kernel), List.mem_of_getElem? (i := 691) (by decide +kernel), List.mem_of_getElem? (i := 692) (by decide +kernel)⟩
theorem lw_p23 : lw_okq (⟨"Judgefold$Balloons", "takeAway", "(II)V"⟩, 6) := ⟨⟨by decide +kernel, by decide +kernel⟩, List.mem_of_getElem? (i := 137) (by decide +kernel), List.mem_of_getElem? (i := 701) (by decide +kernel), List.mem_of_getElem? (i := 702) (by decide +kernel)⟩
theorem lw_p24 : lw_okq (⟨"Judgefold$Balloons", "leaveQueue", "(II)V"⟩, 6) := ⟨⟨by decide +kernel, by decide +kernel⟩, List.mem_of_getElem? (i := 137) (by decide +kernel), List.mem_of_getElem? (i := 705) (by decide +kernel), List.mem_of_getElem? (i := 706) (by decide +kernel)⟩
theorem lw_p25 : lw_okq (⟨"Judgefold$Balloons", "dropFromQueue", "(III)V"⟩, 6) := ⟨⟨by decide +kernel, by decide +kernel⟩, List.mem_of_getElem? (i := 137) (by decide +kernel), List.mem_of_getElem? (i := 709) (by decide +kernel), List.mem_of_getElem? (i := 710) (by decide +kernel)⟩
theorem lw_p26 : lw_okq (⟨"Judgefold$Balloons", "enqueue", "(II)V"⟩, 6) := ⟨⟨by decide +kernel, by decide +kernel⟩, List.mem_of_getElem? (i := 137) (by decide +kernel), List.mem_of_getElem? (i := 717) (by decide +kernel), List.mem_of_getElem? (i := 718) (by decide +kernel)⟩
theorem lw_p27 : lw_okq (⟨"Judgefold", "hasTeam", "(I)Z"⟩, 14) := ⟨⟨by decide +kernel, by decide +kernel⟩, List.mem_of_getElem? (i := 24) (by decide +kernel), List.mem_of_getElem? (i := 754) (by decide +kernel), List.mem_of_getElem? (i := 755) (by decide +kernel)⟩
theorem lw_p28 : lw_okq (⟨"Judgefold", "lastMinute", "()I"⟩, 14) := ⟨⟨by decide +kernel, by decide +kernel⟩, List.mem_of_getElem? (i := 24) (by decide +kernel), List.mem_of_getElem? (i := 758) (by decide +kernel), List.mem_of_getElem? (i := 759) (by decide +kernel)⟩
theorem lw_p29 : lw_okq (⟨"Judgefold", "judgeByAll", "(LJudgefold$Run;)V"⟩, 14) := ⟨⟨by decide +kernel, by decide +kernel⟩, List.mem_of_getElem? (i := 24) (by decide +kernel), List.mem_of_getElem? (i := 767) (by decide +kernel), List.mem_of_getElem? (i := 768) (by decide +kernel)⟩
theorem lw_p30 : lw_okq (⟨"Judgefold", "hasRun", "(I)Z"⟩, 14) := ⟨⟨by decide +kernel, by decide +kernel⟩, List.mem_of_getElem? (i := 24) (by decide +kernel), List.mem_of_getElem? (i := 778) (by decide +kernel), List.mem_of_getElem? (i := 779) (by decide +kernel)⟩
theorem lw_p31 : lw_okq (⟨"Judgefold", "hasTestOfRun", "(II)Z"⟩, 14) := ⟨⟨by decide +kernel, by decide +kernel⟩, List.mem_of_getElem? (i := 24) (by decide +kernel), List.mem_of_getElem? (i := 796) (by decide +kernel), List.mem_of_getElem? (i := 797) (by decide +kernel)⟩
def lw_privs_2 : List (MethodName × Nat) := [(⟨"Judgefold", "hasProblem", "(I)Z"⟩, 14), (⟨"Judgefold", "judgeAnew", "(II)I"⟩, 14), (⟨"Judgefold", "judge", "(LJudgefold$Run;I)V"⟩, 14), (⟨"Judgefold$Store", "find", "([II)I"⟩, 4), (⟨"Judgefold$Store", "firstFree", "()I"⟩, 4), (⟨"Judgefold$Store", "fill", "(I[II)V"⟩, 4), (⟨"Judgefold", "recountBoards", "()V"⟩, 14), (⟨"Judgefold$Balloons", "takeAway", "(II)V"⟩, 6), (⟨"Judgefold$Balloons", "leaveQueue", "(II)V"⟩, 6), (⟨"Judgefold$Balloons", "dropFromQueue", "(III)V"⟩, 6), (⟨"Judgefold$Balloons", "enqueue", "(II)V"⟩, 6), (⟨"Judgefold", "hasTeam", "(I)Z"⟩, 14), (⟨"Judgefold", "lastMinute", "()I"⟩, 14), (⟨"Judgefold", "judgeByAll", "(LJudgefold$Run;)V"⟩, 14), (⟨"Judgefold", "hasRun", "(I)Z"⟩, 14), (⟨"Judgefold", "hasTestOfRun", "(II)Z"⟩, 14)]
theorem lw_r2 : ∀ q ∈ lw_privs_2, lw_okq q := List.forall_mem_cons.mpr ⟨lw_p16, List.forall_mem_cons.mpr ⟨lw_p17, List.forall_mem_cons.mpr ⟨lw_p18, List.forall_mem_cons.mpr ⟨lw_p19, List.forall_mem_cons.mpr ⟨lw_p20, List.forall_mem_cons.mpr ⟨lw_p21, List.forall_mem_cons.mpr ⟨lw_p22, List.forall_mem_cons.mpr ⟨lw_p23, List.forall_mem_cons.mpr ⟨lw_p24, List.forall_mem_cons.mpr ⟨lw_p25, List.forall_mem_cons.mpr ⟨lw_p26, List.forall_mem_cons.mpr ⟨lw_p27, List.forall_mem_cons.mpr ⟨lw_p28, List.forall_mem_cons.mpr ⟨lw_p29, List.forall_mem_cons.mpr ⟨lw_p30, List.forall_mem_cons.mpr ⟨lw_p31, fun _ h => absurd h List.not_mem_nil⟩⟩⟩⟩⟩⟩⟩⟩⟩⟩⟩⟩⟩⟩⟩⟩
theorem lw_p32 : lw_okq (⟨"Judgefold", "countPending", "(II)I"⟩, 14) := ⟨⟨by decide +kernel, by decide +kernel⟩, List.mem_of_getElem? (i := 24) (by decide +kernel), List.mem_of_getElem? (i := 914) (by decide +kernel), List.mem_of_getElem? (i := 915) (by decide +kernel)⟩
theorem lw_p33 : lw_okq (⟨"Judgefold", "lowestPendingTeam", "()I"⟩, 14) := ⟨⟨by decide +kernel, by decide +kernel⟩, List.mem_of_getElem? (i := 24) (by decide +kernel), List.mem_of_getElem? (i := 925) (by decide +kernel), List.mem_of_getElem? (i := 926) (by decide +kernel)⟩
theorem lw_p34 : lw_okq (⟨"Judgefold", "lowestPendingProblem", "(I)I"⟩, 14) := ⟨⟨by decide +kernel, by decide +kernel⟩, List.mem_of_getElem? (i := 24) (by decide +kernel), List.mem_of_getElem? (i := 929) (by decide +kernel), List.mem_of_getElem? (i := 930) (by decide +kernel)⟩
theorem lw_p35 : lw_okq (⟨"Judgefold", "openRuns", "(II)V"⟩, 14) := ⟨⟨by decide +kernel, by decide +kernel⟩, List.mem_of_getElem? (i := 24) (by decide +kernel), List.mem_of_getElem? (i := 933) (by decide +kernel), List.mem_of_getElem? (i := 934) (by decide +kernel)⟩
theorem lw_p36 : lw_okq (⟨"JudgefoldModel", "fails", "(I)Z"⟩, 38) := ⟨⟨by decide +kernel, by decide +kernel⟩, List.mem_of_getElem? (i := 1002) (by decide +kernel), List.mem_of_getElem? (i := 1138) (by decide +kernel), List.mem_of_getElem? (i := 1139) (by decide +kernel)⟩
theorem lw_p37 : lw_okq (⟨"JudgefoldModel", "isNoProblem", "(I)Z"⟩, 38) := ⟨⟨by decide +kernel, by decide +kernel⟩, List.mem_of_getElem? (i := 1002) (by decide +kernel), List.mem_of_getElem? (i := 1158) (by decide +kernel), List.mem_of_getElem? (i := 1159) (by decide +kernel)⟩
theorem lw_p38 : lw_okq (⟨"JudgefoldModel", "lays", "(II)V"⟩, 38) := ⟨⟨by decide +kernel, by decide +kernel⟩, List.mem_of_getElem? (i := 1002) (by decide +kernel), List.mem_of_getElem? (i := 1162) (by decide +kernel), List.mem_of_getElem? (i := 1163) (by decide +kernel)⟩
theorem lw_p39 : lw_okq (⟨"JudgefoldModel", "judgesAnew", "(III)I"⟩, 38) := ⟨⟨by decide +kernel, by decide +kernel⟩, List.mem_of_getElem? (i := 1002) (by decide +kernel), List.mem_of_getElem? (i := 1166) (by decide +kernel), List.mem_of_getElem? (i := 1167) (by decide +kernel)⟩
theorem lw_p40 : lw_okq (⟨"JudgefoldModel", "verdictOf", "(I)C"⟩, 38) := ⟨⟨by decide +kernel, by decide +kernel⟩, List.mem_of_getElem? (i := 1002) (by decide +kernel), List.mem_of_getElem? (i := 1170) (by decide +kernel), List.mem_of_getElem? (i := 1171) (by decide +kernel)⟩
theorem lw_p41 : lw_okq (⟨"JudgefoldModel", "failedOf", "(I)I"⟩, 38) := ⟨⟨by decide +kernel, by decide +kernel⟩, List.mem_of_getElem? (i := 1002) (by decide +kernel), List.mem_of_getElem? (i := 1174) (by decide +kernel), List.mem_of_getElem? (i := 1175) (by decide +kernel)⟩
theorem lw_p42 : lw_okq (⟨"JudgefoldModel", "judges", "(II)V"⟩, 38) := ⟨⟨by decide +kernel, by decide +kernel⟩, List.mem_of_getElem? (i := 1002) (by decide +kernel), List.mem_of_getElem? (i := 1178) (by decide +kernel), List.mem_of_getElem? (i := 1179) (by decide +kernel)⟩
theorem lw_p43 : lw_okq (⟨"JudgefoldModel", "isExpected", "(II)Z"⟩, 38) := ⟨⟨by decide +kernel, by decide +kernel⟩, List.mem_of_getElem? (i := 1002) (by decide +kernel), List.mem_of_getElem? (i := 1182) (by decide +kernel), List.mem_of_getElem? (i := 1183) (by decide +kernel)⟩
theorem lw_p44 : lw_okq (⟨"JudgefoldModel", "tells", "(III)C"⟩, 38) := ⟨⟨by decide +kernel, by decide +kernel⟩, List.mem_of_getElem? (i := 1002) (by decide +kernel), List.mem_of_getElem? (i := 1186) (by decide +kernel), List.mem_of_getElem? (i := 1187) (by decide +kernel)⟩
theorem lw_p45 : lw_okq (⟨"JudgefoldModel", "reckons", "(CII)C"⟩, 38) := ⟨⟨by decide +kernel, by decide +kernel⟩, List.mem_of_getElem? (i := 1002) (by decide +kernel), List.mem_of_getElem? (i := 1190) (by decide +kernel), List.mem_of_getElem? (i := 1191) (by decide +kernel)⟩
theorem lw_p46 : lw_okq (⟨"JudgefoldModel", "calls", "(I)V"⟩, 38) := ⟨⟨by decide +kernel, by decide +kernel⟩, List.mem_of_getElem? (i := 1002) (by decide +kernel), List.mem_of_getElem? (i := 1194) (by decide +kernel), List.mem_of_getElem? (i := 1195) (by decide +kernel)⟩
theorem lw_p47 : lw_okq (⟨"JudgefoldModel", "hasSolved", "(II)Z"⟩, 38) := ⟨⟨by decide +kernel, by decide +kernel⟩, List.mem_of_getElem? (i := 1002) (by decide +kernel), List.mem_of_getElem? (i := 1198) (by decide +kernel), List.mem_of_getElem? (i := 1199) (by decide +kernel)⟩
def lw_privs_3 : List (MethodName × Nat) := [(⟨"Judgefold", "countPending", "(II)I"⟩, 14), (⟨"Judgefold", "lowestPendingTeam", "()I"⟩, 14), (⟨"Judgefold", "lowestPendingProblem", "(I)I"⟩, 14), (⟨"Judgefold", "openRuns", "(II)V"⟩, 14), (⟨"JudgefoldModel", "fails", "(I)Z"⟩, 38), (⟨"JudgefoldModel", "isNoProblem", "(I)Z"⟩, 38), (⟨"JudgefoldModel", "lays", "(II)V"⟩, 38), (⟨"JudgefoldModel", "judgesAnew", "(III)I"⟩, 38), (⟨"JudgefoldModel", "verdictOf", "(I)C"⟩, 38), (⟨"JudgefoldModel", "failedOf", "(I)I"⟩, 38), (⟨"JudgefoldModel", "judges", "(II)V"⟩, 38), (⟨"JudgefoldModel", "isExpected", "(II)Z"⟩, 38), (⟨"JudgefoldModel", "tells", "(III)C"⟩, 38), (⟨"JudgefoldModel", "reckons", "(CII)C"⟩, 38), (⟨"JudgefoldModel", "calls", "(I)V"⟩, 38), (⟨"JudgefoldModel", "hasSolved", "(II)Z"⟩, 38)]
theorem lw_r3 : ∀ q ∈ lw_privs_3, lw_okq q := List.forall_mem_cons.mpr ⟨lw_p32, List.forall_mem_cons.mpr ⟨lw_p33, List.forall_mem_cons.mpr ⟨lw_p34, List.forall_mem_cons.mpr ⟨lw_p35, List.forall_mem_cons.mpr ⟨lw_p36, List.forall_mem_cons.mpr ⟨lw_p37, List.forall_mem_cons.mpr ⟨lw_p38, List.forall_mem_cons.mpr ⟨lw_p39, List.forall_mem_cons.mpr ⟨lw_p40, List.forall_mem_cons.mpr ⟨lw_p41, List.forall_mem_cons.mpr ⟨lw_p42, List.forall_mem_cons.mpr ⟨lw_p43, List.forall_mem_cons.mpr ⟨lw_p44, List.forall_mem_cons.mpr ⟨lw_p45, List.forall_mem_cons.mpr ⟨lw_p46, List.forall_mem_cons.mpr ⟨lw_p47, fun _ h => absurd h List.not_mem_nil⟩⟩⟩⟩⟩⟩⟩⟩⟩⟩⟩⟩⟩⟩⟩⟩
theorem lw_p48 : lw_okq (⟨"JudgefoldModel", "gives", "(I)V"⟩, 38) := ⟨⟨by decide +kernel, by decide +kernel⟩, List.mem_of_getElem? (i := 1002) (by decide +kernel), List.mem_of_getElem? (i := 1202) (by decide +kernel), List.mem_of_getElem? (i := 1203) (by decide +kernel)⟩
theorem lw_p49 : lw_okq (⟨"JudgefoldModel", "waitingAt", "(II)I"⟩, 38) := ⟨⟨by decide +kernel, by decide +kernel⟩, List.mem_of_getElem? (i := 1002) (by decide +kernel), List.mem_of_getElem? (i := 1206) (by decide +kernel), List.mem_of_getElem? (i := 1207) (by decide +kernel)⟩
theorem lw_p50 : lw_okq (⟨"JudgefoldModel", "sends", "(II)V"⟩, 38) := ⟨⟨by decide +kernel, by decide +kernel⟩, List.mem_of_getElem? (i := 1002) (by decide +kernel), List.mem_of_getElem? (i := 1210) (by decide +kernel), List.mem_of_getElem? (i := 1211) (by decide +kernel)⟩
theorem lw_p51 : lw_okq (⟨"JudgefoldModel", "isNoTeam", "(I)Z"⟩, 38) := ⟨⟨by decide +kernel, by decide +kernel⟩, List.mem_of_getElem? (i := 1002) (by decide +kernel), List.mem_of_getElem? (i := 1230) (by decide +kernel), List.mem_of_getElem? (i := 1231) (by decide +kernel)⟩
theorem lw_p52 : lw_okq (⟨"JudgefoldModel", "isNoRun", "(I)Z"⟩, 38) := ⟨⟨by decide +kernel, by decide +kernel⟩, List.mem_of_getElem? (i := 1002) (by decide +kernel), List.mem_of_getElem? (i := 1238) (by decide +kernel), List.mem_of_getElem? (i := 1239) (by decide +kernel)⟩
theorem lw_p53 : lw_okq (⟨"JudgefoldModel", "isNoTest", "(II)Z"⟩, 38) := ⟨⟨by decide +kernel, by decide +kernel⟩, List.mem_of_getElem? (i := 1002) (by decide +kernel), List.mem_of_getElem? (i := 1250) (by decide +kernel), List.mem_of_getElem? (i := 1251) (by decide +kernel)⟩
theorem lw_p54 : lw_okq (⟨"JudgefoldModel", "isFirst", "(II)Z"⟩, 38) := ⟨⟨by decide +kernel, by decide +kernel⟩, List.mem_of_getElem? (i := 1002) (by decide +kernel), List.mem_of_getElem? (i := 1270) (by decide +kernel), List.mem_of_getElem? (i := 1271) (by decide +kernel)⟩
theorem lw_p55 : lw_okq (⟨"JudgefoldModel", "areAlike", "(IIII)Z"⟩, 38) := ⟨⟨by decide +kernel, by decide +kernel⟩, List.mem_of_getElem? (i := 1002) (by decide +kernel), List.mem_of_getElem? (i := 1274) (by decide +kernel), List.mem_of_getElem? (i := 1275) (by decide +kernel)⟩
theorem lw_p56 : lw_okq (⟨"JudgefoldModel", "isPending", "(I)Z"⟩, 38) := ⟨⟨by decide +kernel, by decide +kernel⟩, List.mem_of_getElem? (i := 1002) (by decide +kernel), List.mem_of_getElem? (i := 1313) (by decide +kernel), List.mem_of_getElem? (i := 1314) (by decide +kernel)⟩
theorem lw_p57 : lw_okq (⟨"JudgefoldModel", "pendingOf", "(II)I"⟩, 38) := ⟨⟨by decide +kernel, by decide +kernel⟩, List.mem_of_getElem? (i := 1002) (by decide +kernel), List.mem_of_getElem? (i := 1321) (by decide +kernel), List.mem_of_getElem? (i := 1322) (by decide +kernel)⟩
theorem lw_p58 : lw_okq (⟨"JudgefoldModel", "pendingIn", "(I)I"⟩, 38) := ⟨⟨by decide +kernel, by decide +kernel⟩, List.mem_of_getElem? (i := 1002) (by decide +kernel), List.mem_of_getElem? (i := 1329) (by decide +kernel), List.mem_of_getElem? (i := 1330) (by decide +kernel)⟩
theorem lw_p59 : lw_okq (⟨"JudgefoldModel", "isAhead", "(IIZ)Z"⟩, 38) := ⟨⟨by decide +kernel, by decide +kernel⟩, List.mem_of_getElem? (i := 1002) (by decide +kernel), List.mem_of_getElem? (i := 1333) (by decide +kernel), List.mem_of_getElem? (i := 1334) (by decide +kernel)⟩
theorem lw_p60 : lw_okq (⟨"JudgefoldModel", "solvedBy", "(IZ)I"⟩, 38) := ⟨⟨by decide +kernel, by decide +kernel⟩, List.mem_of_getElem? (i := 1002) (by decide +kernel), List.mem_of_getElem? (i := 1337) (by decide +kernel), List.mem_of_getElem? (i := 1338) (by decide +kernel)⟩
theorem lw_p61 : lw_okq (⟨"JudgefoldModel", "firstOf", "(IIZ)I"⟩, 38) := ⟨⟨by decide +kernel, by decide +kernel⟩, List.mem_of_getElem? (i := 1002) (by decide +kernel), List.mem_of_getElem? (i := 1341) (by decide +kernel), List.mem_of_getElem? (i := 1342) (by decide +kernel)⟩
theorem lw_p62 : lw_okq (⟨"JudgefoldModel", "penaltyOf", "(IZ)I"⟩, 38) := ⟨⟨by decide +kernel, by decide +kernel⟩, List.mem_of_getElem? (i := 1002) (by decide +kernel), List.mem_of_getElem? (i := 1345) (by decide +kernel), List.mem_of_getElem? (i := 1346) (by decide +kernel)⟩
theorem lw_p63 : lw_okq (⟨"JudgefoldModel", "latestOf", "(IZ)I"⟩, 38) := ⟨⟨by decide +kernel, by decide +kernel⟩, List.mem_of_getElem? (i := 1002) (by decide +kernel), List.mem_of_getElem? (i := 1349) (by decide +kernel), List.mem_of_getElem? (i := 1350) (by decide +kernel)⟩
def lw_privs_4 : List (MethodName × Nat) := [(⟨"JudgefoldModel", "gives", "(I)V"⟩, 38), (⟨"JudgefoldModel", "waitingAt", "(II)I"⟩, 38), (⟨"JudgefoldModel", "sends", "(II)V"⟩, 38), (⟨"JudgefoldModel", "isNoTeam", "(I)Z"⟩, 38), (⟨"JudgefoldModel", "isNoRun", "(I)Z"⟩, 38), (⟨"JudgefoldModel", "isNoTest", "(II)Z"⟩, 38), (⟨"JudgefoldModel", "isFirst", "(II)Z"⟩, 38), (⟨"JudgefoldModel", "areAlike", "(IIII)Z"⟩, 38), (⟨"JudgefoldModel", "isPending", "(I)Z"⟩, 38), (⟨"JudgefoldModel", "pendingOf", "(II)I"⟩, 38), (⟨"JudgefoldModel", "pendingIn", "(I)I"⟩, 38), (⟨"JudgefoldModel", "isAhead", "(IIZ)Z"⟩, 38), (⟨"JudgefoldModel", "solvedBy", "(IZ)I"⟩, 38), (⟨"JudgefoldModel", "firstOf", "(IIZ)I"⟩, 38), (⟨"JudgefoldModel", "penaltyOf", "(IZ)I"⟩, 38), (⟨"JudgefoldModel", "latestOf", "(IZ)I"⟩, 38)]
theorem lw_r4 : ∀ q ∈ lw_privs_4, lw_okq q := List.forall_mem_cons.mpr ⟨lw_p48, List.forall_mem_cons.mpr ⟨lw_p49, List.forall_mem_cons.mpr ⟨lw_p50, List.forall_mem_cons.mpr ⟨lw_p51, List.forall_mem_cons.mpr ⟨lw_p52, List.forall_mem_cons.mpr ⟨lw_p53, List.forall_mem_cons.mpr ⟨lw_p54, List.forall_mem_cons.mpr ⟨lw_p55, List.forall_mem_cons.mpr ⟨lw_p56, List.forall_mem_cons.mpr ⟨lw_p57, List.forall_mem_cons.mpr ⟨lw_p58, List.forall_mem_cons.mpr ⟨lw_p59, List.forall_mem_cons.mpr ⟨lw_p60, List.forall_mem_cons.mpr ⟨lw_p61, List.forall_mem_cons.mpr ⟨lw_p62, List.forall_mem_cons.mpr ⟨lw_p63, fun _ h => absurd h List.not_mem_nil⟩⟩⟩⟩⟩⟩⟩⟩⟩⟩⟩⟩⟩⟩⟩⟩
theorem lw_p64 : lw_okq (⟨"JudgefoldModel", "rankOf", "(IZ)I"⟩, 38) := ⟨⟨by decide +kernel, by decide +kernel⟩, List.mem_of_getElem? (i := 1002) (by decide +kernel), List.mem_of_getElem? (i := 1365) (by decide +kernel), List.mem_of_getElem? (i := 1366) (by decide +kernel)⟩
def lw_privs_5 : List (MethodName × Nat) := [(⟨"JudgefoldModel", "rankOf", "(IZ)I"⟩, 38)]
theorem lw_r5 : ∀ q ∈ lw_privs_5, lw_okq q := List.forall_mem_cons.mpr ⟨lw_p64, fun _ h => absurd h List.not_mem_nil⟩
def lw_privs : List (MethodName × Nat) := lw_privs_1 ++ (lw_privs_2 ++ (lw_privs_3 ++ (lw_privs_4 ++ (lw_privs_5))))
def lw_tbl : List Cond := k2_sels lw_privs ++ tables_1
theorem lw_privs_ok : ∀ q ∈ lw_privs, lw_okq q := by
  show ∀ q ∈ lw_privs_1 ++ (lw_privs_2 ++ (lw_privs_3 ++ (lw_privs_4 ++ (lw_privs_5)))), lw_okq q
  exact List.forall_mem_append.mpr ⟨lw_r1, List.forall_mem_append.mpr ⟨lw_r2, List.forall_mem_append.mpr ⟨lw_r3, List.forall_mem_append.mpr ⟨lw_r4, lw_r5⟩⟩⟩⟩
/-- the streams that the claim lets the run draw from -/
abbrev lw_cs : List Choice := [Jvm.Choice.named "NaN.bits"]
theorem lw_bits : nanBits ∈ lw_cs := by first | decide | exact List.mem_cons_self | simp [lw_cs, nanBits]
-- ===== end of PART A; then your names; then what follows =====
end
section
/-! ===== BEGIN words of one list among another's, by their places ===== -/
theorem goodIn_r {big : List Cond} (ws : List Cond) (ps : List Nat) (hp : ws = ps.filterMap (fun i => big[i]?)) (h : ws.all goodWord = true) : GoodIn big ws := by
  intro w hw
  have h1 := List.all_eq_true.mp h w hw
  rw [hp] at hw
  obtain ⟨i, -, hi⟩ := List.mem_filterMap.mp hw
  have hm : w ∈ big := by first | exact List.mem_of_getElem? hi | exact List.getElem?_mem hi
  exact ⟨hm, good_of_word h1⟩
theorem goodIn_app {big a b : List Cond} (ha : GoodIn big a) (hb : GoodIn big b) : GoodIn big (a ++ b) := fun w h => (List.mem_append.mp h).elim (ha w) (hb w)
theorem goodIn_ca {big a b : List Cond} {c : Cond} (ha : GoodIn big (c :: a)) (hb : GoodIn big b) : GoodIn big (c :: (a ++ b)) := fun w h => (List.mem_cons.mp h).elim (fun e => ha w (List.mem_cons.mpr (Or.inl e))) (fun h => (List.mem_append.mp h).elim (fun h => ha w (List.mem_cons.mpr (Or.inr h))) (hb w))
theorem goodIn_sub {big ws : List Cond} (hm : ∀ w ∈ ws, w ∈ big) (h : ws.all goodWord = true) : GoodIn big ws := fun w hw => ⟨hm w hw, good_of_word (List.all_eq_true.mp h w hw)⟩
/-! ===== END ===== -/

/-! ===== BEGIN exceptions that leave a method, and their catching by the caller (launches without stack traces) ===== -/
section VXA
/-! The laws vx_back, vx_callV, vx_callS, vx_callSW, vx_throw0, vx_throwS follow proofs of the library, with one case more: JvmDerived/Free/Laws.lean (Back.of_free), Shelf42/LK1.lean (callV, callS), Shelf/KitTraced.lean (throwNew0V, throwNewS). -/
/-- where a method has thrown q: the class by its name, the cell, what was written, the world -/
def vx_T (XC : String → State → State → Prop) (st : State) (q : Addr) (t : State) (mc ms : Nat) (free : Addr → Prop) : Prop :=
  ∃ (E : String) (ce : Cell) (L : List Loc), XC E st t ∧ t.heap[q]? = some ce ∧ ce.vm = .none ∧ st.vm.findClass E = some ce.cls ∧ st.WarmedH t.vm ∧ st.sameButNew ({ t with vm := st.vm } : State) L mc ms ∧ ∀ z ∈ L, free z.base
def vx_Q (Qc : Array Value → State → Outcome → State → Prop) (XC : String → State → State → Prop) (mc ms : Nat) (free : Addr → Prop) : Array Value → State → Outcome → State → Prop := fun a st o t =>
  (Qc a st o t ∧ ∃ L, FrameEnd st o t L mc ms ∧ ∀ q ∈ L, free q.base) ∨ ∃ q, o = .threw q ∧ vx_T XC st q t mc ms free
/-- a callee that returns or throws -/
def vx_Met (l : Launch) (y : MethodName) (ws : List Cond) (rm : Room) (Pc : Array Value → State → Prop) (Qc : Array Value → State → Outcome → State → Prop) (XC : String → State → State → Prop) (mc ms : Nat) (free : Addr → Prop) : Prop :=
  MetFree l y (headSpec ws rm) Pc (fun _ _ _ _ _ => True) (vx_Q Qc XC mc ms free)
def vx_Post (XC : String → State → State → Prop) (mc ms : Nat) (free : Addr → Prop) : Pt → Array Value → Addr → Pt → Prop := fun A a q B =>
  ∃ (g : JFrame) (mk : MethodId) (t : State) (L : List Loc) (E : String) (ce : Cell), B.U.heap = t.heap ∧ B.U.vm = t.vm ∧ XC E (A.U.calling g mk a) t ∧ t.heap[q]? = some ce ∧ ce.vm = .none ∧ A.U.vm.findClass E = some ce.cls ∧ B.locs = A.locs ++ L ∧ (∀ z ∈ L, free z.base) ∧ B.cells = A.cells + mc ∧ B.slots = A.slots + ms
def vx_Back (l : Launch) (R : Room) (p : Program) (e : Env) (below : List Frame) (s : State) (sargs : Array Value) (y : MethodName) (len W9 : Nat)
    (Pre : Pt → Array Value → Prop) (Post : Pt → Array Value → Option Value → Pt → Prop) (PostX : Pt → Array Value → Addr → Pt → Prop) : Prop :=
  ∀ (m : MethodId) (meth : Method) (c : Code) (A : Pt) (g : JFrame) (ig : Instr) (mk : MethodId) (a : Array Value),
    Stand p l e R s m sargs below meth c A.U A.locs A.cells A.slots → g.method = m → g.locals.size = c.maxLocals → decode c.code g.pc = .ok (ig, len) →
    2 * g.monitorRoom + (g.stack.map fun v => v.category).sum ≤ W9 → A.U.methodNamed? y = some mk → Pre A a →
    (∃ (v : Option Value) (B : Pt), Stand p l e R s m sargs below meth c B.U B.locs B.cells B.slots ∧ Post A a v B ∧
      Steps p.tables e below (doInvoke e (A.U.setTop g) [] mk a).1 (B.U.setTop { g with pc := g.pc + len, stack := v.toList ++ g.stack })) ∨
    (∃ (q : Addr) (B : Pt), Stand p l e R s m sargs below meth c B.U B.locs B.cells B.slots ∧ PostX A a q B ∧
      Steps p.tables e below (doInvoke e (A.U.setTop g) [] mk a).1 ((B.U.setTop g).pushFrame (.throwing q)))
section Payer
variable {l : Launch} {R : Room} {p : Program} {e : Env} {below : List Frame} {s : State} {sargs : Array Value} {y : MethodName} {len W9 : Nat}
theorem vx_back {ws : List Cond} {rm : Room} {Pc : Array Value → State → Prop} {Qc : Array Value → State → Outcome → State → Prop} {XC : String → State → State → Prop} {mc ms : Nat} {free : Addr → Prop} {bytes : ByteArray} {maxL : Nat} {ret : Option FieldType}
    (hM : vx_Met l y ws rm Pc Qc XC mc ms free) (hblind : FrameBlind Pc) (hrc : rm.cells = mc) (hrs : rm.slots = ms)
    (hframes : rm.frames + 1 ≤ R.frames) (hlocals : W9 + (maxL + 11) + rm.locals ≤ R.locals)
    (hws : ∀ w ∈ ws, ∀ a' U, s.WarmedH U.vm → w.before a' U = true) (hcode : Cond.code y bytes maxL ret ∈ ws) (hinit : ∀ a' U, s.WarmedH U.vm → (Cond.initialized y.cls).before a' U = true) :
    vx_Back l R p e below s sargs y len W9 (PreOf R mc ms Pc) (PostOf Qc mc ms free) (vx_Post XC mc ms free) := by
  intro m meth c A g ig mk a X hg hsize hdg hW hn hp
  have h1 : (headSpec ws rm).pre.before a A.U = true := atoms_intro fun w hw => hws w hw _ _ X.warmed
  have h2 : (Cond.code y bytes maxL ret).before a A.U = true := hws _ hcode _ _ X.warmed
  have h3 : (Cond.initialized y.cls).before a A.U = true := hinit _ _ X.warmed
  have h4 : A.cells + (headSpec ws rm).room.cells ≤ R.cells := by rw [show (headSpec ws rm).room.cells = mc from hrc]; exact hp.1
  have h5 : A.slots + (headSpec ws rm).room.slots ≤ R.slots := by rw [show (headSpec ws rm).room.slots = ms from hrs]; exact hp.2.1
  have hPc : Pc a (A.U.calling g mk a) := hblind _ _ _ _ hp.2.2
  obtain ⟨U, Ls, c0, s0⟩ := A
  dsimp only [Pt.U, Pt.locs, Pt.cells, Pt.slots] at h1 h2 h3 h4 h5 X hn hPc ⊢
  obtain ⟨methY, cY, hmY, hcY, -, hlY, -, -, -, -⟩ := Cond.code_spec hn h2
  obtain ⟨kY, hkY, -⟩ := className_of_methodNamed hn
  have hinitY : kY.init = .initialized := Cond.initialized_spec (findClass_of_methodNamed hn) hkY h3
  have h : At U g.method c below := by rw [hg]; exact X.here
  have hlocals9 : W9 + (maxL + 11) + (headSpec ws rm).room.locals ≤ R.locals := hlocals
  have happ : (headSpec ws rm).appliesLoose y e.platform (U.calling g mk a) = true :=
    Spec.appliesLoose_calling (g := g) h hdg hn hkY hinitY
      (X.room_calling (g := g) (R' := (headSpec ws rm).room) hsize hmY hcY hframes (by rw [hlY]; omega) h4 h5) h1
  obtain ⟨mid, hmid⟩ := h.above
  have hfr : (U.setTop g).frames = (.java g :: mid) ++ below := by rw [State.frames_setTop' g h.top, hmid]; rfl
  obtain ⟨o, s₂, hsteps, -, hend, hq⟩ := Steps.callFree hM p X.admits X.cas X.clock (acts := []) hfr happ hPc trivial
  have hq' : vx_Q Qc XC mc ms free a (U.calling g mk a) o s₂ := hq
  rw [State.frames_setTop' g h.top] at hend
  obtain ⟨g₀, hg0⟩ := Option.isSome_iff_exists.mp h.top
  obtain ⟨r, hr⟩ := State.topJava?_eq_some.mp hg0
  have hr' : (({ U with heap := s₂.heap, slotsUsed := s₂.slotsUsed } : State).setVm s₂.vm).frames = .java g₀ :: r := hr
  rcases hq' with ⟨hqc, L, hfe, hL⟩ | ⟨q, rfl, E, ce, L, hx, hce, hcv, hcl, hW₂, hsm, hL⟩
  · obtain ⟨⟨v, rfl⟩, hW₂, e2, q2, q3, q4, q5, q6⟩ := id hfe
    have e3 : s₂ = ({ (U.calling g mk a).setFrames s₂.frames with heap := s₂.heap, slotsUsed := s₂.slotsUsed } : State).setVm s₂.vm := by
      have : s₂ = ({ s₂ with vm := (U.calling g mk a).vm } : State).setVm s₂.vm := rfl
      rw [e2] at this
      exact this
    obtain ⟨c₂, i₂, len₂, hc₂, hd₂, hf₂⟩ := hend
    have hW' : U.WarmedH s₂.vm := hW₂
    have hcc : c₂ = c := by
      have h1 : s₂.code? g.method = U.code? g.method := by
        rw [State.code?_eq, State.code?_eq, hW'.alike.method?]
      exact Option.some.inj (hc₂.symm.trans (h1.trans h.code))
    subst hcc
    have hlen : len₂ = len := by rw [hdg] at hd₂; cases hd₂; rfl
    subst hlen
    have hs₂ : s₂ = (({ U with heap := s₂.heap, slotsUsed := s₂.slotsUsed } : State).setVm s₂.vm).setTop { g with pc := g.pc + len₂, stack := v.toList ++ g.stack } := by
      refine e3.trans ?_
      rw [hf₂, State.calling_eq h.top, State.setFrames_setFrames, State.setTop_of_frames _ hr', hr]
      rfl
    have hsame : U.sameButNew ({ U with heap := s₂.heap, slotsUsed := s₂.slotsUsed } : State) L mc ms := by
      refine ⟨?_, q2, q3, q4, q5, q6⟩
      obtain ⟨t, ht, -⟩ := State.frames_cons hr
      show ({ U with heap := s₂.heap, slotsUsed := s₂.slotsUsed } : State) = { U.setFrames U.frames with heap := s₂.heap, slotsUsed := s₂.slotsUsed }
      rw [State.setFrames_self ht]
    subst hg
    refine Or.inl ⟨v, ⟨(({ U with heap := s₂.heap, slotsUsed := s₂.slotsUsed } : State).setVm s₂.vm), Ls ++ L, c0 + mc, s0 + ms⟩,
      ⟨X.admits, X.cas, X.clock, X.frames, X.room, X.hears, X.method, X.code, (X.here.setHeapUsed s₂.heap s₂.slotsUsed).setVm hW'.alike, X.tail, State.WarmedH.trans X.warmed hW', X.limits, X.bytes, X.same.trans (hsame.setVm s.vm)⟩,
      ⟨g, mk, s₂, L, rfl, rfl, hqc, rfl, hL, rfl, rfl⟩, ?_⟩
    show Steps p.tables e below _ ((({ U with heap := s₂.heap, slotsUsed := s₂.slotsUsed } : State).setVm s₂.vm).setTop { g with pc := g.pc + len₂, stack := v.toList ++ g.stack })
    rw [← hs₂]
    exact hsteps
  · obtain ⟨e2, q2, q3, q4, q5, q6⟩ := id hsm
    have e3 : s₂ = ({ (U.calling g mk a).setFrames s₂.frames with heap := s₂.heap, slotsUsed := s₂.slotsUsed } : State).setVm s₂.vm := by
      have : s₂ = ({ s₂ with vm := (U.calling g mk a).vm } : State).setVm s₂.vm := rfl
      rw [e2] at this
      exact this
    have hf₂ : s₂.frames = .throwing q :: .java g :: U.frames.tail := hend
    have hW' : U.WarmedH s₂.vm := hW₂
    have hs₂ : s₂ = ((({ U with heap := s₂.heap, slotsUsed := s₂.slotsUsed } : State).setVm s₂.vm).setTop g).pushFrame (.throwing q) := by
      refine e3.trans ?_
      rw [hf₂, State.calling_eq h.top, State.setFrames_setFrames, State.pushFrame, State.frames_setTop _ hr', State.setTop_of_frames _ hr', State.setFrames_setFrames, hr]
      rfl
    have hsame : U.sameButNew ({ U with heap := s₂.heap, slotsUsed := s₂.slotsUsed } : State) L mc ms := by
      refine ⟨?_, q2, q3, q4, q5, q6⟩
      obtain ⟨t, ht, -⟩ := State.frames_cons hr
      show ({ U with heap := s₂.heap, slotsUsed := s₂.slotsUsed } : State) = { U.setFrames U.frames with heap := s₂.heap, slotsUsed := s₂.slotsUsed }
      rw [State.setFrames_self ht]
    subst hg
    refine Or.inr ⟨q, ⟨(({ U with heap := s₂.heap, slotsUsed := s₂.slotsUsed } : State).setVm s₂.vm), Ls ++ L, c0 + mc, s0 + ms⟩,
      ⟨X.admits, X.cas, X.clock, X.frames, X.room, X.hears, X.method, X.code, (X.here.setHeapUsed s₂.heap s₂.slotsUsed).setVm hW'.alike, X.tail, State.WarmedH.trans X.warmed hW', X.limits, X.bytes, X.same.trans (hsame.setVm s.vm)⟩,
      ⟨g, mk, s₂, L, E, ce, rfl, rfl, hx, hce, hcv, hcl, rfl, hL, rfl, rfl⟩, ?_⟩
    show Steps p.tables e below _ (((({ U with heap := s₂.heap, slotsUsed := s₂.slotsUsed } : State).setVm s₂.vm).setTop g).pushFrame (.throwing q))
    rw [← hs₂]
    exact hsteps
end Payer
section Calls
variable {p : Program} {l : Launch} {e : Env} {R : Room} {s : State} {m : MethodId} {args : Array Value} {below : List Frame} {meth : Method} {c : Code} {T : State} {locs : List Loc} {cells slots : Nat}
theorem vx_callV (X : Stand p l e R s m args below meth c T locs cells slots) (hexec : p.tables.exec = Jvm.exec) {own C : String} {index : Nat} {y : MethodName} {bytes : ByteArray} {maxL : Nat} {ret : Option FieldType}
    (hown : s.vm.findClass own = some m.cls) (hlink : (Cond.methodLink own index y).before args s = true) (hinst : (Cond.instanceMethod y).before args s = true) (hsel : (Cond.selects C y y).before args s = true)
    (hcode : (Cond.code y bytes maxL ret).before args s = true) (hy : y.cls ≠ "java/lang/invoke/MethodHandle" ∧ y.cls ≠ "java/lang/invoke/VarHandle")
    {W9 : Nat} {Pre : Pt → Array Value → Prop} {Post : Pt → Array Value → Option Value → Pt → Prop} {PostX : Pt → Array Value → Addr → Pt → Prop} (hK : vx_Back l R p e below s args y 3 W9 Pre Post PostX)
    {b : Addr} {cellB : Cell} (hcell : T.heap[b]? = some cellB) (hobj : cellB.vm.isStatics = false) (hcls : s.vm.findClass C = some cellB.cls)
    {g : JFrame} (hg : g.method = m) (hsize : g.locals.size = c.maxLocals) {argsL rest : List Value} (hlen : ∀ sig, parseMethodDescriptor y.desc = some sig → argsL.length = sig.parameters.length)
    (hstack : g.stack = argsL.reverse ++ .ref b :: rest) (hW : 2 * g.monitorRoom + (rest.map fun v => v.category).sum ≤ W9) (hdg : decode c.code g.pc = .ok (.invokevirtual index, 3))
    (hpre : ∀ vm₁, s.WarmedH vm₁ → Pre ⟨T.setVm vm₁, locs, cells, slots⟩ (Value.ref b :: argsL).toArray) :
    (∃ (v : Option Value) (vm₁ : Vm) (B : Pt), s.WarmedH vm₁ ∧ Stand p l e R s m args below meth c B.U B.locs B.cells B.slots ∧ Post ⟨T.setVm vm₁, locs, cells, slots⟩ (Value.ref b :: argsL).toArray v B ∧
      ∀ target, Steps p.tables e below (B.U.setTop { g with pc := g.pc + 3, stack := v.toList ++ rest }) target → Steps p.tables e below (T.setTop g) target) ∨
    (∃ (q : Addr) (vm₁ : Vm) (B : Pt), s.WarmedH vm₁ ∧ Stand p l e R s m args below meth c B.U B.locs B.cells B.slots ∧ PostX ⟨T.setVm vm₁, locs, cells, slots⟩ (Value.ref b :: argsL).toArray q B ∧
      Steps p.tables e below (T.setTop g) ((B.U.setTop { g with stack := rest }).pushFrame (.throwing q))) := by
  obtain ⟨mk, methM, hnamed, hmethM, hstM, habM⟩ := Cond.instanceMethod_spec hinst
  obtain ⟨methM', cM, hmethM', -, -, -, -, -, -, hsigM⟩ := Cond.code_spec hnamed hcode
  cases hmethM.symm.trans hmethM'
  obtain ⟨c2, r2, m2, q1, q2, q3, q4, kP, hkP, hkPi⟩ := Cond.selects_spec hsel
  cases hcls.symm.trans q1
  cases (State.methodFound?_of_named hnamed hy).symm.trans q2
  cases hnamed.symm.trans q3
  have hselP : selectMethod e.platform s.vm cellB.cls mk = .method mk := by rw [Launch.admits_selectMethod X.admits]; exact q4
  obtain ⟨vm₁, X₁, hstep₁⟩ := X.invokevirtual hexec hown hlink hnamed hmethM hstM hkP hkPi hy (a := b) (cell := cellB) hcell
    (fun z h => by rw [h] at hobj; cases hobj) hselP hmethM habM hkP hkPi (g := g) hg (argsL := argsL) (rest := rest) (hlen _ hsigM) hstack hdg
  rcases hK m meth c ⟨T.setVm vm₁, locs, cells, slots⟩ { g with stack := rest } (.invokevirtual index) mk (Value.ref b :: argsL).toArray X₁ hg hsize hdg hW (X₁.named hnamed) (hpre vm₁ X₁.warmed) with ⟨v, B, X', hpost, hsteps⟩ | ⟨q, B, X', hpost, hsteps⟩
  · exact Or.inl ⟨v, vm₁, B, X₁.warmed, X', hpost, fun target h => hstep₁ _ fun acts => by rw [doInvoke_state]; exact hsteps.trans h⟩
  · exact Or.inr ⟨q, vm₁, B, X₁.warmed, X', hpost, hstep₁ _ fun acts => by rw [doInvoke_state]; exact hsteps⟩
theorem vx_callS (X : Stand p l e R s m args below meth c T locs cells slots) (hexec : p.tables.exec = Jvm.exec) {own : String} {index : Nat} {y : MethodName} {bytes : ByteArray} {maxL : Nat} {ret : Option FieldType}
    (hown : s.vm.findClass own = some m.cls) (hlink : (Cond.methodLink own index y).before args s = true) (hstat : (Cond.static y).before args s = true) (hinit : (Cond.initialized y.cls).before args s = true)
    (hcode : (Cond.code y bytes maxL ret).before args s = true) (hy : y.cls ≠ "java/lang/invoke/MethodHandle" ∧ y.cls ≠ "java/lang/invoke/VarHandle")
    {W9 : Nat} {Pre : Pt → Array Value → Prop} {Post : Pt → Array Value → Option Value → Pt → Prop} {PostX : Pt → Array Value → Addr → Pt → Prop} (hK : vx_Back l R p e below s args y 3 W9 Pre Post PostX)
    {g : JFrame} (hg : g.method = m) (hsize : g.locals.size = c.maxLocals) {argsL rest : List Value} (hlen : ∀ sig, parseMethodDescriptor y.desc = some sig → argsL.length = sig.parameters.length)
    (hstack : g.stack = argsL.reverse ++ rest) (hW : 2 * g.monitorRoom + (rest.map fun v => v.category).sum ≤ W9) (hdg : decode c.code g.pc = .ok (.invokestatic index, 3))
    (hpre : ∀ vm₁, s.WarmedH vm₁ → Pre ⟨T.setVm vm₁, locs, cells, slots⟩ argsL.toArray) :
    (∃ (v : Option Value) (vm₁ : Vm) (B : Pt), s.WarmedH vm₁ ∧ Stand p l e R s m args below meth c B.U B.locs B.cells B.slots ∧ Post ⟨T.setVm vm₁, locs, cells, slots⟩ argsL.toArray v B ∧
      ∀ target, Steps p.tables e below (B.U.setTop { g with pc := g.pc + 3, stack := v.toList ++ rest }) target → Steps p.tables e below (T.setTop g) target) ∨
    (∃ (q : Addr) (vm₁ : Vm) (B : Pt), s.WarmedH vm₁ ∧ Stand p l e R s m args below meth c B.U B.locs B.cells B.slots ∧ PostX ⟨T.setVm vm₁, locs, cells, slots⟩ argsL.toArray q B ∧
      Steps p.tables e below (T.setTop g) ((B.U.setTop { g with stack := rest }).pushFrame (.throwing q))) := by
  obtain ⟨mk, hnamed⟩ := Cond.code_named hcode
  obtain ⟨methM, cM, hmethM, -, -, -, -, -, -, hsigM⟩ := Cond.code_spec hnamed hcode
  have hstatic : methM.isStatic = true := Cond.static_spec hnamed hmethM hstat
  obtain ⟨kP, hkP, -⟩ := className_of_methodNamed hnamed
  have hinitP : kP.init = .initialized := Cond.initialized_spec (findClass_of_methodNamed hnamed) hkP hinit
  obtain ⟨vm₁, X₁, hstep₁⟩ := X.invokestatic hexec hown hlink hnamed hmethM hstatic hkP hinitP hy (g := g) hg (argsL := argsL) (rest := rest) (hlen _ hsigM) hstack hdg
  rcases hK m meth c ⟨T.setVm vm₁, locs, cells, slots⟩ { g with stack := rest } (.invokestatic index) mk argsL.toArray X₁ hg hsize hdg hW (X₁.named hnamed) (hpre vm₁ X₁.warmed) with ⟨v, B, X', hpost, hsteps⟩ | ⟨q, B, X', hpost, hsteps⟩
  · exact Or.inl ⟨v, vm₁, B, X₁.warmed, X', hpost, fun target h => hstep₁ _ fun acts => by rw [doInvoke_state]; exact hsteps.trans h⟩
  · exact Or.inr ⟨q, vm₁, B, X₁.warmed, X', hpost, hstep₁ _ fun acts => by rw [doInvoke_state]; exact hsteps⟩
end Calls
theorem vx_cls {s : State} {T : State} {vm₁ : Vm} {E : String} {k : ClassId} (hW : s.WarmedH vm₁) (h : (T.setVm vm₁).vm.findClass E = some k) : s.vm.findClass E = some k := by
  have h1 : vm₁.findClass E = some k := h
  rw [hW.alike.findClass] at h1
  exact h1
/-- the method's frame g, with q thrown over it -/
def vx_W (p : Program) (l : Launch) (e : Env) (R : Room) (s : State) (m : MethodId) (args : Array Value) (below : List Frame) (meth : Method) (c : Code) (H : Heap) (locs : List Loc) (cells slots : Nat) (Q : State → Prop) (g : JFrame) (q : Addr) : Prop :=
  ∀ T : State, T.heap = H → Stand p l e R s m args below meth c T locs cells slots → ∃ t, Steps p.tables e below ((T.setTop g).pushFrame (.throwing q)) t ∧ Q t
def vx_Run (p : Program) (l : Launch) (e : Env) (R : Room) (s : State) (m : MethodId) (args : Array Value) (below : List Frame) (meth : Method) (c : Code) (H : Heap) (locs : List Loc) (cells slots mc ms : Nat) (g : JFrame) (rest : List Value) (Qa : State → Outcome → State → Prop) (XC : String → State → State → Prop) (free : Addr → Prop) : Prop :=
  ∀ T : State, T.heap = H → Stand p l e R s m args below meth c T locs cells slots →
    (∃ (v : Option Value) (st₀ t T' : State) (L : List Loc), st₀.heap = H ∧ Stand p l e R s m args below meth c T' (locs ++ L) (cells + mc) (slots + ms) ∧ (∀ q ∈ L, free q.base) ∧ T'.heap = t.heap ∧ T'.vm = t.vm ∧ Qa st₀ (.returned v) t ∧
      Goes p e below T g T' { g with pc := g.pc + 3, stack := v.toList ++ rest }) ∨
    (∃ (q : Addr) (st₀ t T' : State) (L : List Loc) (E : String) (ce : Cell), st₀.heap = H ∧ Stand p l e R s m args below meth c T' (locs ++ L) (cells + mc) (slots + ms) ∧ (∀ z ∈ L, free z.base) ∧ T'.heap = t.heap ∧ T'.vm = t.vm ∧ XC E st₀ t ∧ t.heap[q]? = some ce ∧ ce.vm = .none ∧ s.vm.findClass E = some ce.cls ∧
      Steps p.tables e below (T.setTop g) ((T'.setTop { g with stack := rest }).pushFrame (.throwing q)))
def vx_X {S : Type} (px : S → Prop) (B : String → S → State → Prop) (A : Nat → Prop) : String → State → State → Prop := fun E st t => ∃ u : S, px u ∧ B E u t ∧ va_F A st t
section Runs
variable {p : Program} {l : Launch} {e : Env} {R : Room} {s : State} {m : MethodId} {args : Array Value} {below : List Frame} {meth : Method} {c : Code} {H : Heap} {locs : List Loc} {cells slots : Nat}
variable {y : MethodName} {bytes cc : ByteArray} {maxL nL mc ms n index : Nat} {ret : Option FieldType} {ws : List Cond} {rm : Room} {Pc : Array Value → State → Prop} {Qc : Array Value → State → Outcome → State → Prop} {XC : String → State → State → Prop} {free : Addr → Prop} {Ts : List Cond} {own C : String} {b : Addr} {As rest : List Value} {g : JFrame}
theorem vx_callBack (cb : CallB R s args own index y bytes maxL ret ws rm mc ms n) (hM : vx_Met l y ws rm Pc Qc XC mc ms free) (hbl : FrameBlind Pc) : vx_Back l R p e below s args y 3 8 (PreOf R mc ms Pc) (PostOf Qc mc ms free) (vx_Post XC mc ms free) := by
  obtain ⟨hrc, hrs, hfr, hlo, hws, hcw, -, hini, -⟩ := cb
  exact vx_back (bytes := bytes) (maxL := maxL) (ret := ret) hM hbl hrc hrs hfr hlo hws hcw (fun a' U hW => word_at hW (Or.inl (by first | rfl | simp [Cond.onTables, Cond.keeps, Cond.steady])) hini)
theorem vx_runV (S : CallFix p m c cc nL s args Ts own) (hM : vx_Met l y ws rm Pc Qc XC mc ms free) (cw : CallW R s args own C index y bytes maxL ret ws rm mc ms n) (hp : PreV s H C b Pc As)
    (hg : g.method = m) (hn : As.length = n) (hsize : g.locals.size = nL) (hstack : g.stack = As.reverse ++ .ref b :: rest) (hW : 2 * g.monitorRoom + (rest.map fun v => v.category).sum ≤ 8) (hdg : decode cc g.pc = .ok (.invokevirtual index, 3)) (hf : cells + mc ≤ R.cells ∧ slots + ms ≤ R.slots) :
    vx_Run p l e R s m args below meth c H locs cells slots mc ms g rest (Qc (Value.ref b :: As).toArray) XC free := by
  have hK : vx_Back l R p e below s args y 3 8 (PreOf R mc ms Pc) (PostOf Qc mc ms free) (vx_Post XC mc ms free) := vx_callBack cw.1 hM hp.1
  obtain ⟨⟨-, -, -, -, -, -, hcode, -, hy, hlen, hl⟩, hin, hse⟩ := cw
  obtain ⟨hx, hb, hml, ho, -⟩ := S
  obtain ⟨-, ⟨cellB, hcB, hoB, hclB⟩, hPc⟩ := hp
  intro T hT X
  rcases vx_callV X hx (C := C) (bytes := bytes) (maxL := maxL) (ret := ret) ho hl hin hse hcode hy hK (by rw [hT]; exact hcB) hoB hclB hg (hsize.trans hml.symm) (argsL := As) (rest := rest) (fun sig h => hn.trans (hlen sig h)) hstack hW (by rw [hb]; exact hdg)
    (fun vm₁ hW₁ => ⟨hf.1, hf.2, hPc (T.setVm vm₁) hT hW₁⟩) with ⟨v, vm₁, ⟨U', l2, c2, s2⟩, hW₁, X', ⟨g', mk, t, L, e1, e2, hq, h1, hL, h2, h3⟩, st⟩ | ⟨q, vm₁, ⟨U', l2, c2, s2⟩, hW₁, X', ⟨g', mk, t, L, E, ce, e1, e2, hq, hce, hcv, hcl, h1, hL, h2, h3⟩, st⟩
  · dsimp only [Pt.U, Pt.locs, Pt.cells, Pt.slots] at X' e1 e2 h1 h2 h3 st
    subst h1; subst h2; subst h3
    exact Or.inl ⟨v, (T.setVm vm₁).calling g' mk (Value.ref b :: As).toArray, t, U', L, hT, X', hL, e1, e2, hq, st⟩
  · dsimp only [Pt.U, Pt.locs, Pt.cells, Pt.slots] at X' e1 e2 h1 h2 h3 st hcl
    subst h1; subst h2; subst h3
    exact Or.inr ⟨q, (T.setVm vm₁).calling g' mk (Value.ref b :: As).toArray, t, U', L, E, ce, hT, X', hL, e1, e2, hq, hce, hcv, vx_cls hW₁ hcl, st⟩
theorem vx_runS (S : CallFix p m c cc nL s args Ts own) (hM : vx_Met l y ws rm Pc Qc XC mc ms free) (cw : CallB R s args own index y bytes maxL ret ws rm mc ms n ∧ (Cond.static y).before args s = true) (hp : PreS s H Pc As)
    (hg : g.method = m) (hn : As.length = n) (hsize : g.locals.size = nL) (hstack : g.stack = As.reverse ++ rest) (hW : 2 * g.monitorRoom + (rest.map fun v => v.category).sum ≤ 8) (hdg : decode cc g.pc = .ok (.invokestatic index, 3)) (hf : cells + mc ≤ R.cells ∧ slots + ms ≤ R.slots) :
    vx_Run p l e R s m args below meth c H locs cells slots mc ms g rest (Qc As.toArray) XC free := by
  have hK : vx_Back l R p e below s args y 3 8 (PreOf R mc ms Pc) (PostOf Qc mc ms free) (vx_Post XC mc ms free) := vx_callBack cw.1 hM hp.1
  obtain ⟨⟨-, -, -, -, -, -, hcode, hini, hy, hlen, hl⟩, hstt⟩ := cw
  obtain ⟨hx, hb, hml, ho, -⟩ := S
  intro T hT X
  rcases vx_callS X hx (bytes := bytes) (maxL := maxL) (ret := ret) ho hl hstt hini hcode hy hK hg (hsize.trans hml.symm) (argsL := As) (rest := rest) (fun sig h => hn.trans (hlen sig h)) hstack hW (by rw [hb]; exact hdg)
    (fun vm₁ hW₁ => ⟨hf.1, hf.2, hp.2 (T.setVm vm₁) hT hW₁⟩) with ⟨v, vm₁, ⟨U', l2, c2, s2⟩, hW₁, X', ⟨g', mk, t, L, e1, e2, hq, h1, hL, h2, h3⟩, st⟩ | ⟨q, vm₁, ⟨U', l2, c2, s2⟩, hW₁, X', ⟨g', mk, t, L, E, ce, e1, e2, hq, hce, hcv, hcl, h1, hL, h2, h3⟩, st⟩
  · dsimp only [Pt.U, Pt.locs, Pt.cells, Pt.slots] at X' e1 e2 h1 h2 h3 st
    subst h1; subst h2; subst h3
    exact Or.inl ⟨v, (T.setVm vm₁).calling g' mk As.toArray, t, U', L, hT, X', hL, e1, e2, hq, st⟩
  · dsimp only [Pt.U, Pt.locs, Pt.cells, Pt.slots] at X' e1 e2 h1 h2 h3 st hcl
    subst h1; subst h2; subst h3
    exact Or.inr ⟨q, (T.setVm vm₁).calling g' mk As.toArray, t, U', L, E, ce, hT, X', hL, e1, e2, hq, hce, hcv, vx_cls hW₁ hcl, st⟩
end Runs
section Rows
variable {p : Program} {l : Launch} {e : Env} {R : Room} {s : State} {m : MethodId} {args : Array Value} {below : List Frame} {meth : Method} {c : Code} {H : Heap} {locs : List Loc} {cells slots : Nat} {Q : State → Prop}
variable {mc ms : Nat} {free : Addr → Prop} {A0 A1 : Nat → Prop} {H0 : Heap} {a : Array Value} {pc : Nat} {ls : Array Slot} {st0 rest : List Value}
theorem vx_keep {st₀ t T' : State} {L : List Loc} (h0 : st₀.heap = H) (e1 : T'.heap = t.heap) (hS : va_S A0 H0 H locs) (hA : ∀ q, q < H.size → A1 q → A0 q) (hf : ∀ q, free q → A0 q) (hL : ∀ q ∈ L, free q.base) (hF : va_F A1 st₀ t) :
    H.size ≤ T'.heap.size ∧ (∀ q : Nat, q < H.size → ¬ A1 q → T'.heap[q]? = H[q]?) ∧ va_S A0 H0 T'.heap (locs ++ L) := by
  obtain ⟨hz, hk⟩ := hF
  rw [h0] at hz hk
  exact ⟨by rw [e1]; exact hz, fun q h1 h2 => by rw [e1]; exact hk q h1 h2,
    ⟨Nat.le_trans hS.1 (by rw [e1]; exact hz), fun q h1 h2 => by rw [e1, hk q (Nat.lt_of_lt_of_le h1 hS.1) (fun z => h2 (hA q (Nat.lt_of_lt_of_le h1 hS.1) z))]; exact hS.2.1 q h1 h2, fun q hq => by
      rcases List.mem_append.mp hq with h | h
      · exact hS.2.2 q h
      · exact hf _ (hL q h)⟩⟩
theorem vx_calli {S SX : Type} {post : Int32 → S → Prop} {px : SX → Prop} {B : S → State → Prop} {BX : String → SX → State → Prop} {AX : Nat → Prop} (hr : vx_Run p l e R s m args below meth c H locs cells slots mc ms (F0 m pc ls st0) rest (va_Qi post B A1 a) (vx_X px BX AX) free) (hS : va_S A0 H0 H locs) (hA : ∀ q, q < H.size → A1 q → A0 q) (hf : ∀ q, free q → A0 q) (hAX : ∀ q, q < H.size → AX q → A0 q)
    (kx : ∀ (E : String) (ce : Cell) (q9 : Addr) (u : SX) (t : State) (H1 : Heap) (locs1 : List Loc), t.heap = H1 → s.vm.Alike t.vm → px u → BX E u t → H.size ≤ H1.size → (∀ q : Nat, q < H.size → ¬ AX q → H1[q]? = H[q]?) → va_S A0 H0 H1 locs1 → H1[q9]? = some ce → ce.vm = .none → s.vm.findClass E = some ce.cls → vx_W p l e R s m args below meth c H1 locs1 (cells + mc) (slots + ms) Q (F0 m pc ls rest) q9)
    (kk : ∀ (r : Int32) (u : S) (t : State) (H1 : Heap) (locs1 : List Loc), t.heap = H1 → s.vm.Alike t.vm → post r u → B u t → H.size ≤ H1.size → (∀ q : Nat, q < H.size → ¬ A1 q → H1[q]? = H[q]?) → va_S A0 H0 H1 locs1 → W p l e R s m args below meth c H1 locs1 (cells + mc) (slots + ms) Q (F0 m (pc + 3) ls (.int r :: rest))) : W p l e R s m args below meth c H locs cells slots Q (F0 m pc ls st0) := by
  intro T hT X
  rcases hr T hT X with ⟨v, st₀, t, T', L, h0, X', hL, e1, e2, ⟨⟨r, u, hv, hp, hb⟩, hF⟩, st⟩ | ⟨q, st₀, t, T', L, E, ce, h0, X', hL, e1, e2, ⟨u, hp, hb, hF⟩, hce, hcv, hcl, st⟩
  · cases hv
    obtain ⟨k1, k2, k3⟩ := vx_keep h0 e1 hS hA hf hL hF
    obtain ⟨t2, a1, b1⟩ := kk r u t T'.heap (locs ++ L) e1.symm (by rw [← e2]; exact X'.warmed.alike) hp hb k1 k2 k3 T' rfl X'
    exact ⟨t2, st t2 a1, b1⟩
  · obtain ⟨k1, k2, k3⟩ := vx_keep h0 e1 hS hAX hf hL hF
    obtain ⟨t2, a1, b1⟩ := kx E ce q u t T'.heap (locs ++ L) e1.symm (by rw [← e2]; exact X'.warmed.alike) hp hb k1 k2 k3 (by rw [e1]; exact hce) hcv hcl T' rfl X'
    exact ⟨t2, st.trans a1, b1⟩
theorem vx_calll {S SX : Type} {post : Int64 → S → Prop} {px : SX → Prop} {B : S → State → Prop} {BX : String → SX → State → Prop} {AX : Nat → Prop} (hr : vx_Run p l e R s m args below meth c H locs cells slots mc ms (F0 m pc ls st0) rest (va_Ql post B A1 a) (vx_X px BX AX) free) (hS : va_S A0 H0 H locs) (hA : ∀ q, q < H.size → A1 q → A0 q) (hf : ∀ q, free q → A0 q) (hAX : ∀ q, q < H.size → AX q → A0 q)
    (kx : ∀ (E : String) (ce : Cell) (q9 : Addr) (u : SX) (t : State) (H1 : Heap) (locs1 : List Loc), t.heap = H1 → s.vm.Alike t.vm → px u → BX E u t → H.size ≤ H1.size → (∀ q : Nat, q < H.size → ¬ AX q → H1[q]? = H[q]?) → va_S A0 H0 H1 locs1 → H1[q9]? = some ce → ce.vm = .none → s.vm.findClass E = some ce.cls → vx_W p l e R s m args below meth c H1 locs1 (cells + mc) (slots + ms) Q (F0 m pc ls rest) q9)
    (kk : ∀ (r : Int64) (u : S) (t : State) (H1 : Heap) (locs1 : List Loc), t.heap = H1 → s.vm.Alike t.vm → post r u → B u t → H.size ≤ H1.size → (∀ q : Nat, q < H.size → ¬ A1 q → H1[q]? = H[q]?) → va_S A0 H0 H1 locs1 → W p l e R s m args below meth c H1 locs1 (cells + mc) (slots + ms) Q (F0 m (pc + 3) ls (.long r :: rest))) : W p l e R s m args below meth c H locs cells slots Q (F0 m pc ls st0) := by
  intro T hT X
  rcases hr T hT X with ⟨v, st₀, t, T', L, h0, X', hL, e1, e2, ⟨⟨r, u, hv, hp, hb⟩, hF⟩, st⟩ | ⟨q, st₀, t, T', L, E, ce, h0, X', hL, e1, e2, ⟨u, hp, hb, hF⟩, hce, hcv, hcl, st⟩
  · cases hv
    obtain ⟨k1, k2, k3⟩ := vx_keep h0 e1 hS hA hf hL hF
    obtain ⟨t2, a1, b1⟩ := kk r u t T'.heap (locs ++ L) e1.symm (by rw [← e2]; exact X'.warmed.alike) hp hb k1 k2 k3 T' rfl X'
    exact ⟨t2, st t2 a1, b1⟩
  · obtain ⟨k1, k2, k3⟩ := vx_keep h0 e1 hS hAX hf hL hF
    obtain ⟨t2, a1, b1⟩ := kx E ce q u t T'.heap (locs ++ L) e1.symm (by rw [← e2]; exact X'.warmed.alike) hp hb k1 k2 k3 (by rw [e1]; exact hce) hcv hcl T' rfl X'
    exact ⟨t2, st.trans a1, b1⟩
theorem vx_callf {S SX : Type} {post : UInt32 → S → Prop} {px : SX → Prop} {B : S → State → Prop} {BX : String → SX → State → Prop} {AX : Nat → Prop} (hr : vx_Run p l e R s m args below meth c H locs cells slots mc ms (F0 m pc ls st0) rest (va_Qf post B A1 a) (vx_X px BX AX) free) (hS : va_S A0 H0 H locs) (hA : ∀ q, q < H.size → A1 q → A0 q) (hf : ∀ q, free q → A0 q) (hAX : ∀ q, q < H.size → AX q → A0 q)
    (kx : ∀ (E : String) (ce : Cell) (q9 : Addr) (u : SX) (t : State) (H1 : Heap) (locs1 : List Loc), t.heap = H1 → s.vm.Alike t.vm → px u → BX E u t → H.size ≤ H1.size → (∀ q : Nat, q < H.size → ¬ AX q → H1[q]? = H[q]?) → va_S A0 H0 H1 locs1 → H1[q9]? = some ce → ce.vm = .none → s.vm.findClass E = some ce.cls → vx_W p l e R s m args below meth c H1 locs1 (cells + mc) (slots + ms) Q (F0 m pc ls rest) q9)
    (kk : ∀ (r : UInt32) (u : S) (t : State) (H1 : Heap) (locs1 : List Loc), t.heap = H1 → s.vm.Alike t.vm → post r u → B u t → H.size ≤ H1.size → (∀ q : Nat, q < H.size → ¬ A1 q → H1[q]? = H[q]?) → va_S A0 H0 H1 locs1 → W p l e R s m args below meth c H1 locs1 (cells + mc) (slots + ms) Q (F0 m (pc + 3) ls (.float r :: rest))) : W p l e R s m args below meth c H locs cells slots Q (F0 m pc ls st0) := by
  intro T hT X
  rcases hr T hT X with ⟨v, st₀, t, T', L, h0, X', hL, e1, e2, ⟨⟨r, u, hv, hp, hb⟩, hF⟩, st⟩ | ⟨q, st₀, t, T', L, E, ce, h0, X', hL, e1, e2, ⟨u, hp, hb, hF⟩, hce, hcv, hcl, st⟩
  · cases hv
    obtain ⟨k1, k2, k3⟩ := vx_keep h0 e1 hS hA hf hL hF
    obtain ⟨t2, a1, b1⟩ := kk r u t T'.heap (locs ++ L) e1.symm (by rw [← e2]; exact X'.warmed.alike) hp hb k1 k2 k3 T' rfl X'
    exact ⟨t2, st t2 a1, b1⟩
  · obtain ⟨k1, k2, k3⟩ := vx_keep h0 e1 hS hAX hf hL hF
    obtain ⟨t2, a1, b1⟩ := kx E ce q u t T'.heap (locs ++ L) e1.symm (by rw [← e2]; exact X'.warmed.alike) hp hb k1 k2 k3 (by rw [e1]; exact hce) hcv hcl T' rfl X'
    exact ⟨t2, st.trans a1, b1⟩
theorem vx_calld {S SX : Type} {post : UInt64 → S → Prop} {px : SX → Prop} {B : S → State → Prop} {BX : String → SX → State → Prop} {AX : Nat → Prop} (hr : vx_Run p l e R s m args below meth c H locs cells slots mc ms (F0 m pc ls st0) rest (va_Qd post B A1 a) (vx_X px BX AX) free) (hS : va_S A0 H0 H locs) (hA : ∀ q, q < H.size → A1 q → A0 q) (hf : ∀ q, free q → A0 q) (hAX : ∀ q, q < H.size → AX q → A0 q)
    (kx : ∀ (E : String) (ce : Cell) (q9 : Addr) (u : SX) (t : State) (H1 : Heap) (locs1 : List Loc), t.heap = H1 → s.vm.Alike t.vm → px u → BX E u t → H.size ≤ H1.size → (∀ q : Nat, q < H.size → ¬ AX q → H1[q]? = H[q]?) → va_S A0 H0 H1 locs1 → H1[q9]? = some ce → ce.vm = .none → s.vm.findClass E = some ce.cls → vx_W p l e R s m args below meth c H1 locs1 (cells + mc) (slots + ms) Q (F0 m pc ls rest) q9)
    (kk : ∀ (r : UInt64) (u : S) (t : State) (H1 : Heap) (locs1 : List Loc), t.heap = H1 → s.vm.Alike t.vm → post r u → B u t → H.size ≤ H1.size → (∀ q : Nat, q < H.size → ¬ A1 q → H1[q]? = H[q]?) → va_S A0 H0 H1 locs1 → W p l e R s m args below meth c H1 locs1 (cells + mc) (slots + ms) Q (F0 m (pc + 3) ls (.double r :: rest))) : W p l e R s m args below meth c H locs cells slots Q (F0 m pc ls st0) := by
  intro T hT X
  rcases hr T hT X with ⟨v, st₀, t, T', L, h0, X', hL, e1, e2, ⟨⟨r, u, hv, hp, hb⟩, hF⟩, st⟩ | ⟨q, st₀, t, T', L, E, ce, h0, X', hL, e1, e2, ⟨u, hp, hb, hF⟩, hce, hcv, hcl, st⟩
  · cases hv
    obtain ⟨k1, k2, k3⟩ := vx_keep h0 e1 hS hA hf hL hF
    obtain ⟨t2, a1, b1⟩ := kk r u t T'.heap (locs ++ L) e1.symm (by rw [← e2]; exact X'.warmed.alike) hp hb k1 k2 k3 T' rfl X'
    exact ⟨t2, st t2 a1, b1⟩
  · obtain ⟨k1, k2, k3⟩ := vx_keep h0 e1 hS hAX hf hL hF
    obtain ⟨t2, a1, b1⟩ := kx E ce q u t T'.heap (locs ++ L) e1.symm (by rw [← e2]; exact X'.warmed.alike) hp hb k1 k2 k3 (by rw [e1]; exact hce) hcv hcl T' rfl X'
    exact ⟨t2, st.trans a1, b1⟩
theorem vx_callv {S SX : Type} {post : S → Prop} {px : SX → Prop} {B : S → State → Prop} {BX : String → SX → State → Prop} {AX : Nat → Prop} (hr : vx_Run p l e R s m args below meth c H locs cells slots mc ms (F0 m pc ls st0) rest (va_Qv post B A1 a) (vx_X px BX AX) free) (hS : va_S A0 H0 H locs) (hA : ∀ q, q < H.size → A1 q → A0 q) (hf : ∀ q, free q → A0 q) (hAX : ∀ q, q < H.size → AX q → A0 q)
    (kx : ∀ (E : String) (ce : Cell) (q9 : Addr) (u : SX) (t : State) (H1 : Heap) (locs1 : List Loc), t.heap = H1 → s.vm.Alike t.vm → px u → BX E u t → H.size ≤ H1.size → (∀ q : Nat, q < H.size → ¬ AX q → H1[q]? = H[q]?) → va_S A0 H0 H1 locs1 → H1[q9]? = some ce → ce.vm = .none → s.vm.findClass E = some ce.cls → vx_W p l e R s m args below meth c H1 locs1 (cells + mc) (slots + ms) Q (F0 m pc ls rest) q9)
    (kk : ∀ (u : S) (t : State) (H1 : Heap) (locs1 : List Loc), t.heap = H1 → s.vm.Alike t.vm → post u → B u t → H.size ≤ H1.size → (∀ q : Nat, q < H.size → ¬ A1 q → H1[q]? = H[q]?) → va_S A0 H0 H1 locs1 → W p l e R s m args below meth c H1 locs1 (cells + mc) (slots + ms) Q (F0 m (pc + 3) ls (rest))) : W p l e R s m args below meth c H locs cells slots Q (F0 m pc ls st0) := by
  intro T hT X
  rcases hr T hT X with ⟨v, st₀, t, T', L, h0, X', hL, e1, e2, ⟨⟨u, hv, hp, hb⟩, hF⟩, st⟩ | ⟨q, st₀, t, T', L, E, ce, h0, X', hL, e1, e2, ⟨u, hp, hb, hF⟩, hce, hcv, hcl, st⟩
  · cases hv
    obtain ⟨k1, k2, k3⟩ := vx_keep h0 e1 hS hA hf hL hF
    obtain ⟨t2, a1, b1⟩ := kk u t T'.heap (locs ++ L) e1.symm (by rw [← e2]; exact X'.warmed.alike) hp hb k1 k2 k3 T' rfl X'
    exact ⟨t2, st t2 a1, b1⟩
  · obtain ⟨k1, k2, k3⟩ := vx_keep h0 e1 hS hAX hf hL hF
    obtain ⟨t2, a1, b1⟩ := kx E ce q u t T'.heap (locs ++ L) e1.symm (by rw [← e2]; exact X'.warmed.alike) hp hb k1 k2 k3 (by rw [e1]; exact hce) hcv hcl T' rfl X'
    exact ⟨t2, st.trans a1, b1⟩
/-- caught by the row x of this method's table; the rows ahead don't take it -/
theorem vx_catch {own name : String} {E : String} {ce : Cell} {q : Addr} (hown : s.vm.findClass own = some m.cls) (pre : List ExceptionTableEntry) (x : ExceptionTableEntry) (suf : List ExceptionTableEntry) (hsplit : c.exceptionTable.toList = pre ++ x :: suf)
    (hpass : ∀ z ∈ pre, covers z pc = false ∨ (z.catchType ≠ 0 ∧ ∃ nm : String, (Cond.classLink own z.catchType nm).before args s = true ∧ va_Nc E nm s)) (hx : covers x pc = true) (h0 : x.catchType ≠ 0)
    (hlink : (Cond.classLink own x.catchType name).before args s = true) (hcast : (Cond.castable E name).before args s = true) (hcell : H[q]? = some ce) (hv : ce.vm = .none) (hcl : s.vm.findClass E = some ce.cls)
    (kk : W p l e R s m args below meth c H locs cells slots Q (F0 m x.handlerPc ls [.ref q])) : vx_W p l e R s m args below meth c H locs cells slots Q (F0 m pc ls rest) q := by
  intro T hT X
  have hpl : e.platform.magicAccessors = ({} : Platform).magicAccessors := by rw [X.admits.platform]
  obtain ⟨c3, c4, hc3, hc4, hasg⟩ := Cond.castable_spec hcast
  cases Option.some.inj (hc3.symm.trans hcl)
  obtain ⟨c5, hc5, hcl5⟩ := Cond.classLink_spec hown hlink e.platform hpl
  cases Option.some.inj (hc4.symm.trans hc5)
  obtain ⟨vm', X', st⟩ := X.thenCaughtThrough q (g := F0 m pc ls rest) rfl (Steps.refl _) (by rw [hT]; exact hcell) (by rw [hv]; rfl) (by obtain ⟨k9, h9, -⟩ := Vm.findClass_spec hcl; exact ⟨k9, h9⟩) pre x suf hsplit
    (fun z hz => by
      rcases hpass z hz with h | ⟨hz0, nm, hl1, hn1⟩
      · exact Or.inl h
      · obtain ⟨c6, hc6, hcl6⟩ := Cond.classLink_spec hown hl1 e.platform hpl
        obtain ⟨a8, b8, h1, h2, h3⟩ := hn1
        cases Option.some.inj (h1.symm.trans hcl)
        cases Option.some.inj (h2.symm.trans hc6)
        exact Or.inr ⟨hz0, _, hcl6, h3⟩) hx (Or.inr ⟨h0, c4, hcl5, hasg⟩)
  obtain ⟨t, a1, b1⟩ := kk (T.setVm vm') hT X'
  exact ⟨t, st.trans a1, b1⟩
end Rows
section Ends
variable {p : Program} {l : Launch} {e : Env} {R : Room} {s : State} {m : MethodId} {args : Array Value} {below : List Frame} {meth : Method} {c : Code} {H : Heap} {locs : List Loc} {cells slots : Nat} {Q : State → Prop}
variable {mc ms : Nat} {free : Addr → Prop} {A0 A1 : Nat → Prop} {H0 : Heap} {a : Array Value} {ls : Array Slot} {st0 rest : List Value}
variable {Qc : Array Value → State → Outcome → State → Prop} {XC : String → State → State → Prop}
/-- what a body that may throw owes at its end -/
def vx_MQ (below : List Frame) (Qc : Array Value → State → Outcome → State → Prop) (XC : String → State → State → Prop) (a : Array Value) (s : State) (mc ms : Nat) (free : Addr → Prop) : State → Prop := fun t =>
  ∃ o, t.status = .running ∧ Ended t below o ∧ vx_Q Qc XC mc ms free a s o t
theorem vx_ret {g : JFrame} {mc ms : Nat} (k : W p l e R s m args below meth c H locs cells slots (MQ below Qc args s mc ms free) g) : W p l e R s m args below meth c H locs cells slots (vx_MQ below Qc XC args s mc ms free) g := by
  intro T hT X
  obtain ⟨t, a1, o, b1, b2, b3, b4⟩ := k T hT X
  exact ⟨t, a1, o, b1, b2, Or.inl ⟨b3, b4⟩⟩
/-- not caught here: it goes on to the caller -/
theorem vx_widen {g : JFrame} {q : Addr} {k n : Nat} (h1 : cells ≤ k) (h2 : slots ≤ n) (kk : vx_W p l e R s m args below meth c H locs k n Q g q) : vx_W p l e R s m args below meth c H locs cells slots Q g q := fun T hT X => kk T hT (stand_widen X h1 h2)
theorem vx_out {pc : Nat} {E : String} {ce : Cell} {q : Addr} {mc ms : Nat} (hout : ∀ x ∈ c.exceptionTable.toList, covers x pc = false) (hlocks : meth.locks = false) (hcell : H[q]? = some ce) (hv : ce.vm = .none) (hcl : s.vm.findClass E = some ce.cls)
    (hx : ∀ t : State, t.heap = H → s.vm.Alike t.vm → XC E s t) (hf : ∀ z ∈ locs, free z.base) (hc : cells ≤ mc) (hs : slots ≤ ms) :
    vx_W p l e R s m args below meth c H locs cells slots (vx_MQ below Qc XC args s mc ms free) (F0 m pc ls rest) q := by
  intro T hT X
  obtain ⟨st1, hrun, hend, hW, hsm⟩ := X.leaveThrown q (g := F0 m pc ls rest) rfl rfl rfl hout hlocks
  have hcell9 : (T.setFrames (.throwing q :: below)).heap[q]? = some ce := by
    show T.heap[q]? = some ce
    rw [hT]; exact hcell
  exact ⟨_, st1, .threw q, hrun, hend, Or.inr ⟨q, rfl, E, ce, locs, hx _ hT hW.alike, hcell9, hv, hcl, hW, hsm.mono hc hs, hf⟩⟩
theorem vx_frame {U : State} {k n : Nat} (h : s.sameButNew ({ U with vm := s.vm } : State) locs k n) : s.heap.size ≤ U.heap.size ∧ ∀ q : Nat, q < s.heap.size → (∀ z ∈ locs, z.base ≠ q) → U.heap[q]? = s.heap[q]? := by
  obtain ⟨-, h2, -, -, -, h6⟩ := h
  refine ⟨h2, fun q hq hz => ?_⟩
  obtain ⟨c9, e1, e2, e3, e4⟩ := h6 q _ (Array.getElem?_eq_getElem hq)
  have hs : c9.slots = (s.heap[q]).slots := Array.ext_getElem? fun i => e4 i fun hm => hz _ hm rfl
  have h9 : c9 = s.heap[q] := by
    rw [hs] at e2
    exact e2
  have e5 : U.heap[q]? = some c9 := e1
  rw [e5, h9, Array.getElem?_eq_getElem hq]
/-- the words of a throw but the four that speak of the heap -/
def vx_no (w : Cond) : Bool := decide (w ≠ .isRef (.static Bundle.tN "UNASSIGNED_STACK" Bundle.steD)) && decide (w ≠ .isRef (.static Bundle.tN "SUPPRESSED_SENTINEL" Bundle.listD)) && decide (w ≠ .laysStatic Bundle.tN "UNASSIGNED_STACK" Bundle.steD) && decide (w ≠ .laysStatic Bundle.tN "SUPPRESSED_SENTINEL" Bundle.listD)
def vx_at0 (own : String) (ic : Nat) (X : String) (names : List String) : List Cond := (Bundle.ownAtoms0 own ic X names).filter vx_no
def vx_atS (own : String) (ic : Nat) (X : String) (names : List String) : List Cond := (Bundle.ownAtoms own ic X names).filter vx_no
/-- a word that the tables alone decide, or a good one -/
def vx_ot (w : Cond) : Bool := w.onTables || goodWord w
theorem vx_ot_at {args a' : Array Value} {s U : State} {w : Cond} (hW : s.WarmedH U.vm) (hvm : s.vm = U.vm) (hg : vx_ot w = true) (h : w.before args s = true) : w.before a' U = true := by
  simp only [vx_ot, Bool.or_eq_true] at hg
  rcases hg with hg | hg
  · exact va_tabs hg hvm h
  · exact word_at hW (good_of_word hg) h
/-- a list's words: the good ones out of the method's own list, the others by premises of their own -/
theorem vx_hat {args : Array Value} {s : State} {L B : List Cond} (h1 : ∀ w ∈ L.filter goodWord, w.before args s = true) (h2 : ∀ w ∈ L.filter (fun w => !goodWord w), w ∈ B) (h3 : ∀ w ∈ B, w.before args s = true) : ∀ w ∈ L, w.before args s = true := by
  intro w hw
  by_cases g : goodWord w = true
  · exact h1 w (List.mem_filter.mpr ⟨hw, g⟩)
  · refine h3 w (h2 w (List.mem_filter.mpr ⟨hw, ?_⟩))
    show (!goodWord w) = true
    cases hgw : goodWord w
    · rfl
    · exact absurd hgw g
theorem vx_c {args : Array Value} {s : State} {w : Cond} {B : List Cond} (h : w.before args s = true) (t : ∀ w ∈ B, w.before args s = true) : ∀ w' ∈ w :: B, w'.before args s = true := fun w' h' => (List.mem_cons.mp h').elim (fun e => by rw [e]; exact h) (t w')
theorem vx_n {args : Array Value} {s : State} : ∀ w ∈ ([] : List Cond), w.before args s = true := fun _ h => nomatch h
theorem vx_own {args : Array Value} {s : State} {L : List Cond} (h1 : ∀ w ∈ L.filter vx_no, w.before args s = true)
    (hU : (Cond.isRef (.static Bundle.tN "UNASSIGNED_STACK" Bundle.steD)).before args s = true) (hN : (Cond.isRef (.static Bundle.tN "SUPPRESSED_SENTINEL" Bundle.listD)).before args s = true)
    (lU : (Cond.laysStatic Bundle.tN "UNASSIGNED_STACK" Bundle.steD).before args s = true) (lN : (Cond.laysStatic Bundle.tN "SUPPRESSED_SENTINEL" Bundle.listD).before args s = true) : ∀ w ∈ L, w.before args s = true := by
  intro w hw
  by_cases e1 : w = .isRef (.static Bundle.tN "UNASSIGNED_STACK" Bundle.steD)
  · rw [e1]; exact hU
  · by_cases e2 : w = .isRef (.static Bundle.tN "SUPPRESSED_SENTINEL" Bundle.listD)
    · rw [e2]; exact hN
    · by_cases e3 : w = .laysStatic Bundle.tN "UNASSIGNED_STACK" Bundle.steD
      · rw [e3]; exact lU
      · by_cases e4 : w = .laysStatic Bundle.tN "SUPPRESSED_SENTINEL" Bundle.listD
        · rw [e4]; exact lN
        · exact h1 w (List.mem_filter.mpr ⟨hw, by unfold vx_no; rw [decide_eq_true e1, decide_eq_true e2, decide_eq_true e3, decide_eq_true e4]; rfl⟩)
/-- where a static field lies, its class's statics cell in H -/
def vx_L (C n d : String) (A : Nat → Prop) (U : State) (H : Heap) : Prop := ∃ (c : ClassId) (k : Class) (i : Nat) (f : Field) (a : Nat) (cell : Cell), U.vm.findClass C = some c ∧ U.fieldFound? C n d = some (c, k, i, f) ∧ f.isStatic = true ∧ k.statics = some a ∧ H[a]? = some cell ∧ cell.vm.isStatics = true ∧ cell.cls = c ∧ f.slot < cell.slots.size ∧ k.staticTypes[f.slot]? = some f.type ∧ ¬ A a
theorem vx_L.moved {C n d : String} {A : Nat → Prop} {u U : State} {H : Heap} (hvm : u.vm.Alike U.vm) (h : vx_L C n d A u H) : vx_L C n d A U H := by
  obtain ⟨c, k, i, f, a, cell, h1, h2, h3, h4, h5, h6, h7, h8, h9, h10⟩ := h
  obtain ⟨k', hi', he⟩ := State.fieldFound?_setVm hvm h2
  exact ⟨c, k', i, f, a, cell, by rw [hvm.findClass]; exact h1, hi', h3, by rw [he]; exact h4, h5, h6, h7, h8, by rw [he]; exact h9, h10⟩
theorem vx_L.kept {C n d : String} {A : Nat → Prop} {U : State} {H H1 : Heap} (h : vx_L C n d A U H) (hq : ∀ a : Nat, a < H.size → ¬ A a → H1[a]? = H[a]?) : vx_L C n d A U H1 := by
  obtain ⟨c, k, i, f, a, cell, h1, h2, h3, h4, h5, h6, h7, h8, h9, h10⟩ := h
  exact ⟨c, k, i, f, a, cell, h1, h2, h3, h4, by rw [hq a (Array.getElem?_eq_some_iff.mp h5).1 h10]; exact h5, h6, h7, h8, h9, h10⟩
theorem vx_L.narrow {C n d : String} {A B : Nat → Prop} {U : State} {H : Heap} (h : vx_L C n d A U H) (hAB : ∀ q, B q → A q) : vx_L C n d B U H := by
  obtain ⟨c, k, i, f, a, cell, h1, h2, h3, h4, h5, h6, h7, h8, h9, h10⟩ := h
  exact ⟨c, k, i, f, a, cell, h1, h2, h3, h4, h5, h6, h7, h8, h9, fun z => h10 (hAB _ z)⟩
theorem vx_L.word {C n d : String} {A : Nat → Prop} {s : State} {args : Array Value} (h : vx_L C n d A s s.heap) : (Cond.laysStatic C n d).before args s = true := by
  obtain ⟨c, k, i, f, a, cell, h1, h2, h3, h4, h5, h6, h7, h8, h9, -⟩ := h
  show (Cond.laysStatic C n d).holds args s none s [] = true
  exact Cond.laysStatic_of h1 h2 h3 h4 h5 h6 h7 h8 h9
/-- .. and what it holds: null or some reference -/
def vx_Zq (C n d : String) (A : Nat → Prop) (U : State) (H : Heap) : Prop := va_Zq C n d A U H ∧ vx_L C n d A U H
theorem vx_Zq.moved {C n d : String} {A : Nat → Prop} {u U : State} {H : Heap} (hvm : u.vm.Alike U.vm) (h : vx_Zq C n d A u H) : vx_Zq C n d A U H := ⟨va_Zq.moved hvm h.1, vx_L.moved hvm h.2⟩
theorem vx_Zq.kept {C n d : String} {A : Nat → Prop} {U : State} {H H1 : Heap} (h : vx_Zq C n d A U H) (hq : ∀ a : Nat, a < H.size → ¬ A a → H1[a]? = H[a]?) : vx_Zq C n d A U H1 := ⟨va_Zq.kept h.1 hq, vx_L.kept h.2 hq⟩
theorem vx_Zq.narrow {C n d : String} {A B : Nat → Prop} {U : State} {H : Heap} (h : vx_Zq C n d A U H) (hAB : ∀ q, B q → A q) : vx_Zq C n d B U H := ⟨va_Zq.narrow h.1 hAB, vx_L.narrow h.2 hAB⟩
theorem vx_Zqof {args : Array Value} {s : State} {C n d : String} {A : Nat → Prop} (hl : (Cond.laysStatic C n d).before args s = true) (hini : (Cond.initialized C).before args s = true) (h : (Cond.isRef (.static C n d)).before args s = true) (hA : ∀ a : Nat, a < s.heap.size → ¬ A a) : vx_Zq C n d A s s.heap := by
  refine ⟨va_Zqof hl hini h hA, ?_⟩
  obtain ⟨c, k, i, f, a, cell, h1, h2, h3, h4, h5, h6, h7, h8, h9⟩ := Cond.laysStatic_spec hl
  exact ⟨c, k, i, f, a, cell, h1, h2, h3, h4, h5, h6, h7, h8, h9, hA a (Array.getElem?_eq_some_iff.mp h5).1⟩
theorem vx_isRef {C n d : String} {v : Value} {A : Nat → Prop} {s : State} {args : Array Value} (h : va_Z C n d v A s s.heap) (hv : v.isRef = true) : (Cond.isRef (.static C n d)).before args s = true := by
  obtain ⟨cf, kf, fi, f, a, cell, h1, h2, h3, h4, h5, h6, h7, -⟩ := h
  have he : (Term.static C n d).eval args s none [] s = some v := by
    simp [Term.eval, State.fieldNamed?, h1, h2, h4, h5, h6, h7]
  simp only [Cond.before, Cond.holds, Cond.value, he]
  cases v <;> simp_all [Value.isRef]
theorem vx_isRefq {C n d : String} {A : Nat → Prop} {s : State} {args : Array Value} (h : va_Zq C n d A s s.heap) : (Cond.isRef (.static C n d)).before args s = true := by
  rcases h with h | ⟨t, h⟩
  · exact vx_isRef h rfl
  · exact vx_isRef h rfl
/-- the same frame, seen from here: as if the method were called anew in this heap -/
theorem vx_rebase {T : State} (X : Stand p l e R s m args below meth c T locs cells slots) {R' : Room} (hf : R'.frames ≤ R.frames) (hl : R'.locals ≤ R.locals) (hc : cells + R'.cells ≤ R.cells) (hs : slots + R'.slots ≤ R.slots) :
    Stand p l e R' ((T.setVm s.vm).setFrames (.invoking m args :: below)) m args below meth c T [] 0 0 := by
  have htop : (T.setVm s.vm).topJava?.isSome := X.here.top
  have hF : ((T.setVm s.vm).setFrames (.invoking m args :: below)).frames = .invoking m args :: below := State.frames_setFrames _ (State.cur_lt_of_top htop)
  obtain ⟨g₀, hg0⟩ := Option.isSome_iff_exists.mp htop
  obtain ⟨r, hr⟩ := State.topJava?_eq_some.mp hg0
  have hl9 : e.platform.stackLimits (T.setVm s.vm).me = e.platform.stackLimits s.me := X.limits
  have hb9 : (T.setVm s.vm).me.stackBytes = s.me.stackBytes := X.bytes
  refine ⟨X.admits, X.cas, X.clock, hF, ?_, X.hears, X.method, X.code, X.here, X.tail, X.warmed, ?_, ?_, ?_⟩
  · have h := X.room
    have hU : ((T.setVm s.vm).setFrames (.invoking m args :: below)).localsInUse = s.localsInUse := by
      rw [State.localsInUse_invoking hF (meth := meth) (c := c) X.method X.code, State.localsInUse_invoking X.frames X.method X.code]
    simp only [State.hasRoom, Bool.and_eq_true, decide_eq_true_eq] at h ⊢
    obtain ⟨⟨⟨⟨h1, h2, h3, h4, h5, h6⟩, h7⟩, h8⟩, h9⟩ := h
    rw [X.frames, List.length_cons] at h2 h3
    have q1 := X.heapSize
    have q2 := X.used
    simp only [hF, hU, List.length_cons, State.stackLimits_setFrames, State.stackBytes_setFrames, hl9, hb9]
    refine ⟨⟨⟨⟨by omega, by omega, by omega, by omega, by omega, h6⟩, ?_⟩, ?_⟩, X.book⟩
    · show T.heap.size + R'.cells ≤ e.platform.maxCells
      omega
    · show T.slotsUsed + R'.slots ≤ e.platform.maxSlots
      omega
  · rw [State.stackLimits_setFrames]; rfl
  · rw [State.stackBytes_setFrames]; rfl
  · refine ⟨?_, Nat.le_refl _, Nat.le_refl _, ?_, ?_, fun a c9 h9 => ⟨c9, h9, rfl, rfl, fun _ _ => rfl⟩⟩
    · obtain ⟨t, ht, -⟩ := State.frames_cons hr
      show T.setVm s.vm = { ((T.setVm s.vm).setFrames (.invoking m args :: below)).setFrames (T.setVm s.vm).frames with heap := T.heap, slotsUsed := T.slotsUsed }
      rw [State.setFrames_setFrames, State.setFrames_self ht]
      rfl
    · show T.slotsUsed = T.slotsUsed + ((T.heap.toList.drop T.heap.size).map (·.slots.size)).sum
      rw [List.drop_eq_nil_of_le (Nat.le_of_eq Array.length_toList)]
      rfl
    · show ((T.heap.toList.drop T.heap.size).map (·.slots.size)).sum ≤ 0
      rw [List.drop_eq_nil_of_le (Nat.le_of_eq Array.length_toList)]
      exact Nat.le_refl _
/-- 'throw new E()': new; dup; invokespecial; athrow -/
theorem vx_throw0 {cc : ByteArray} {pc : Nat} (hexec : p.tables.exec = Jvm.exec) (hb : c.code = cc) (hl : l.stackTraces = false) {own cls : String} {names : List String} {ik ic mc ms : Nat} {A : Nat → Prop}
    (hown : s.vm.findClass own = some m.cls) (hcls : Bundle.fit cls = true) (hnames : ∀ n ∈ names, Bundle.fit n = true)
    (hk : (Cond.classLink own ik cls).before args s = true) (hini : (Cond.initialized cls).before args s = true) (hat : ∀ w ∈ vx_at0 own ic cls names, w.before args s = true)
    (hgood : ∀ w ∈ Cond.classLink own ik cls :: Cond.initialized cls :: vx_at0 own ic cls names, vx_ot w = true)
    (hU : vx_Zq Bundle.tN "UNASSIGNED_STACK" Bundle.steD A s s.heap) (hN : vx_Zq Bundle.tN "SUPPRESSED_SENTINEL" Bundle.listD A s s.heap) (hS : va_S A s.heap H locs) (hsize : ls.size = c.maxLocals)
    (d0 : decode cc pc = .ok (.new ik, 3)) (d3 : decode cc (pc + 3) = .ok (.dup, 1)) (d4 : decode cc (pc + 4) = .ok (.invokespecial ic, 3)) (d7 : decode cc (pc + 7) = .ok (.athrow, 1))
    (hout : ∀ x ∈ c.exceptionTable.toList, covers x (pc + 7) = false)
    (hRframes : names.length + 3 < R.frames) (hRlocals : (rest.map fun v => v.category).sum + (13 * (names.length + 1) + 42) ≤ R.locals) (hRcells : cells + 1 ≤ R.cells) (hRslots : slots + 6 ≤ R.slots) (hlocks : meth.locks = false)
    (hx : ∀ t : State, s.vm.Alike t.vm → H.size ≤ t.heap.size → (∀ q : Nat, q < H.size → t.heap[q]? = H[q]?) → XC cls s t)
    (hf : ∀ z ∈ locs, free z.base) (hc : cells + 1 ≤ mc) (hs : slots + 6 ≤ ms) :
    W p l e R s m args below meth c H locs cells slots (vx_MQ below Qc XC args s mc ms free) (F0 m pc ls rest) := by
  intro T hT X
  have htr : e.platform.stackTraces = false := (show e.platform.stackTraces = l.stackTraces by rw [X.admits.platform]).trans hl
  have Y := vx_rebase X (R' := { frames := R.frames, locals := R.locals, cells := 1, slots := 6 }) (Nat.le_refl _) (Nat.le_refl _) hRcells hRslots
  obtain ⟨s', hA⟩ : ∃ z, z = (T.setVm s.vm).setFrames (.invoking m args :: below) := ⟨_, rfl⟩
  rw [← hA] at Y
  have hvm : s'.vm = s.vm := by rw [hA]; rfl
  have hhp : s'.heap = H := by rw [hA]; exact hT
  have hW0 : s.WarmedH s'.vm := by rw [hvm]; exact State.WarmedH.refl s
  have hat' : ∀ w ∈ vx_at0 own ic cls names, w.before args s' = true := fun w hw => vx_ot_at hW0 hvm.symm (hgood w (List.mem_cons_of_mem _ (List.mem_cons_of_mem _ hw))) (hat w hw)
  have hk' : (Cond.classLink own ik cls).before args s' = true := vx_ot_at hW0 hvm.symm (hgood _ List.mem_cons_self) hk
  have hini' : (Cond.initialized cls).before args s' = true := vx_ot_at hW0 hvm.symm (hgood _ (List.mem_cons_of_mem _ List.mem_cons_self)) hini
  have hU' : vx_Zq Bundle.tN "UNASSIGNED_STACK" Bundle.steD A s' s'.heap := by rw [hhp]; exact vx_Zq.moved hW0.alike (hU.kept hS.2.1)
  have hN' : vx_Zq Bundle.tN "SUPPRESSED_SENTINEL" Bundle.listD A s' s'.heap := by rw [hhp]; exact vx_Zq.moved hW0.alike (hN.kept hS.2.1)
  have h : ∀ w ∈ Bundle.ownAtoms0 own ic cls names, w.before args s' = true := vx_own hat' (vx_isRefq hU'.1) (vx_isRefq hN'.1) hU'.2.word hN'.2.word
  have hown' : s'.vm.findClass own = some m.cls := by rw [hvm]; exact hown
  have hins : (Cond.instantiable cls 6).before args s' = true := h _ (by simp [Bundle.ownAtoms0])
  obtain ⟨vm₁, cX, kX, hfX, hkX, -, -, X₁, st1⟩ := Y.newCold hexec (own := own) (C := cls) (index := ik) (n := 6) hown' hk' hins hini'
    (g := F0 m pc ls rest) rfl (by rw [hb]; exact d0) (Nat.le_refl _) (Nat.le_refl _)
  generalize hT1 : (T.setVm vm₁).pushCell { cls := cX, slots := kX.instanceTypes.map defaultValue, vm := .none } = T1 at X₁ st1
  have hcat : (Value.ref T.heap.size).category = 1 := rfl
  have hcellA : T1.heap[T.heap.size]? = some (freshCell cX kX) := by rw [← hT1]; exact State.heap_pushCell_size _ _
  have d3' : decode c.code (pc + 3) = .ok (.dup, 1) := by rw [hb]; exact d3
  obtain ⟨U, hsteps, hrun, hend, hW, hsame, ce, hce, hO⟩ := X₁.ctorThrow0 hexec htr (own := own) (cls := cls) (names := names) (ic := ic) hown' hcls hnames h (fun x hx => nomatch hx) hfX hkX hcellA (by rw [hhp, hT]; exact Nat.le_refl _)
    (g := { method := m, pc := pc + 4, locals := ls, stack := .ref T.heap.size :: .ref T.heap.size :: rest, locked := none }) rfl hsize rfl rfl (rest := rest) rfl
    (by rw [hb]; exact d4) (by rw [hb]; exact d7) hout hRframes (by simp only [List.map_cons, List.sum_cons, hcat]; omega) hlocks
  obtain ⟨f1, f2⟩ := vx_frame hsame
  rw [hhp] at f1 f2
  have hWs : s.WarmedH U.vm := State.WarmedH.trans hW0 hW
  have hcl : s.vm.findClass cls = some ce.cls := by
    have h9 := hO.cls
    rw [hvm] at h9
    exact h9
  have hall : s.sameButNew ({ U with vm := s.vm } : State) locs mc ms := by
    subst hA
    obtain ⟨e1, e2⟩ := hsame
    rw [State.setFrames_setFrames] at e1
    have h2 : (T.setVm s.vm).sameButNew ({ U with vm := s.vm } : State) [] (0 + 1) (0 + 6) := ⟨e1, e2⟩
    have h3 := X.same.trans h2
    rw [List.append_nil] at h3
    exact h3.mono hc hs
  refine ⟨U, ?_, .threw T.heap.size, hrun, hend, Or.inr ⟨T.heap.size, rfl, cls, ce, locs, hx U hWs.alike f1 (fun q hq => f2 q hq (fun z hz => nomatch hz)), hce, hO.vm, hcl, hWs, hall, hf⟩⟩
  refine st1 _ ?_
  show Steps p.tables e below (T1.setTop { method := m, pc := pc + 3, locals := ls, stack := .ref T.heap.size :: rest, locked := none }) _
  jvm_step X₁.here [X₁.here.top, hexec, d3', Value.category]
  exact hsteps
/-- 'throw new E("text")': new; dup; ldc; invokespecial; athrow -/
theorem vx_throwS {cc : ByteArray} {pc : Nat} (hexec : p.tables.exec = Jvm.exec) (hb : c.code = cc) (hl : l.stackTraces = false) {own cls text : String} {names : List String} {ik is ic mc ms sa : Nat} {A : Nat → Prop}
    (hown : s.vm.findClass own = some m.cls) (hcls : Bundle.fit cls = true) (hnames : ∀ n ∈ names, Bundle.fit n = true)
    (hk : (Cond.classLink own ik cls).before args s = true) (hini : (Cond.initialized cls).before args s = true) (hstr : vk_R own is text sa s) (hat : ∀ w ∈ vx_atS own ic cls names, w.before args s = true)
    (hgood : ∀ w ∈ Cond.classLink own ik cls :: Cond.initialized cls :: vx_atS own ic cls names, vx_ot w = true)
    (hU : vx_Zq Bundle.tN "UNASSIGNED_STACK" Bundle.steD A s s.heap) (hN : vx_Zq Bundle.tN "SUPPRESSED_SENTINEL" Bundle.listD A s s.heap) (hS : va_S A s.heap H locs) (hsize : ls.size = c.maxLocals)
    (d0 : decode cc pc = .ok (.new ik, 3)) (d3 : decode cc (pc + 3) = .ok (.dup, 1)) (d4 : decode cc (pc + 4) = .ok (.ldc is, 2)) (d6 : decode cc (pc + 6) = .ok (.invokespecial ic, 3)) (d9 : decode cc (pc + 9) = .ok (.athrow, 1))
    (hout : ∀ x ∈ c.exceptionTable.toList, covers x (pc + 9) = false)
    (hRframes : names.length + 3 < R.frames) (hRlocals : (rest.map fun v => v.category).sum + (13 * (names.length + 1) + 43) ≤ R.locals) (hRcells : cells + 1 ≤ R.cells) (hRslots : slots + 6 ≤ R.slots) (hlocks : meth.locks = false)
    (hx : ∀ t : State, s.vm.Alike t.vm → H.size ≤ t.heap.size → (∀ q : Nat, q < H.size → t.heap[q]? = H[q]?) → XC cls s t)
    (hf : ∀ z ∈ locs, free z.base) (hc : cells + 1 ≤ mc) (hs : slots + 6 ≤ ms) :
    W p l e R s m args below meth c H locs cells slots (vx_MQ below Qc XC args s mc ms free) (F0 m pc ls rest) := by
  intro T hT X
  have htr : e.platform.stackTraces = false := (show e.platform.stackTraces = l.stackTraces by rw [X.admits.platform]).trans hl
  have Y := vx_rebase X (R' := { frames := R.frames, locals := R.locals, cells := 1, slots := 6 }) (Nat.le_refl _) (Nat.le_refl _) hRcells hRslots
  obtain ⟨s', hA⟩ : ∃ z, z = (T.setVm s.vm).setFrames (.invoking m args :: below) := ⟨_, rfl⟩
  rw [← hA] at Y
  have hvm : s'.vm = s.vm := by rw [hA]; rfl
  have hhp : s'.heap = H := by rw [hA]; exact hT
  have hW0 : s.WarmedH s'.vm := by rw [hvm]; exact State.WarmedH.refl s
  have hat' : ∀ w ∈ vx_atS own ic cls names, w.before args s' = true := fun w hw => vx_ot_at hW0 hvm.symm (hgood w (List.mem_cons_of_mem _ (List.mem_cons_of_mem _ hw))) (hat w hw)
  have hk' : (Cond.classLink own ik cls).before args s' = true := vx_ot_at hW0 hvm.symm (hgood _ List.mem_cons_self) hk
  have hini' : (Cond.initialized cls).before args s' = true := vx_ot_at hW0 hvm.symm (hgood _ (List.mem_cons_of_mem _ List.mem_cons_self)) hini
  have hU' : vx_Zq Bundle.tN "UNASSIGNED_STACK" Bundle.steD A s' s'.heap := by rw [hhp]; exact vx_Zq.moved hW0.alike (hU.kept hS.2.1)
  have hN' : vx_Zq Bundle.tN "SUPPRESSED_SENTINEL" Bundle.listD A s' s'.heap := by rw [hhp]; exact vx_Zq.moved hW0.alike (hN.kept hS.2.1)
  have h : ∀ w ∈ Bundle.ownAtoms own ic cls names, w.before args s' = true := vx_own hat' (vx_isRefq hU'.1) (vx_isRefq hN'.1) hU'.2.word hN'.2.word
  have hown' : s'.vm.findClass own = some m.cls := by rw [hvm]; exact hown
  have hins : (Cond.instantiable cls 6).before args s' = true := h _ (by simp [Bundle.ownAtoms])
  obtain ⟨vm₁, cX, kX, hfX, hkX, -, -, X₁, st1⟩ := Y.newCold hexec (own := own) (C := cls) (index := ik) (n := 6) hown' hk' hins hini'
    (g := F0 m pc ls rest) rfl (by rw [hb]; exact d0) (Nat.le_refl _) (Nat.le_refl _)
  generalize hT1 : (T.setVm vm₁).pushCell { cls := cX, slots := kX.instanceTypes.map defaultValue, vm := .none } = T1 at X₁ st1
  have hcat : (Value.ref T.heap.size).category = 1 := rfl
  have hcellA : T1.heap[T.heap.size]? = some (freshCell cX kX) := by rw [← hT1]; exact State.heap_pushCell_size _ _
  have d3' : decode c.code (pc + 3) = .ok (.dup, 1) := by rw [hb]; exact d3
  have d4' : decode c.code (pc + 4) = .ok (.ldc is, 2) := by rw [hb]; exact d4
  have hstr' : vk_R own is text sa s' := vk_R.warm hW0 hstr
  obtain ⟨U, hsteps, hrun, hend, hW, hsame, ce, hce, hO⟩ := X₁.ctorThrowS hexec htr (own := own) (cls := cls) (names := names) (ic := ic) hown' hcls hnames h (fun x hx => nomatch hx) hfX hkX hcellA (by rw [hhp, hT]; exact Nat.le_refl _) (msg := .ref sa) rfl
    (g := { method := m, pc := pc + 6, locals := ls, stack := .ref sa :: .ref T.heap.size :: .ref T.heap.size :: rest, locked := none }) rfl hsize rfl rfl (rest := rest) rfl
    (by rw [hb]; exact d6) (by rw [hb]; exact d9) hout hRframes (by simp only [List.map_cons, List.sum_cons, hcat]; omega) hlocks
  obtain ⟨f1, f2⟩ := vx_frame hsame
  rw [hhp] at f1 f2
  have hWs : s.WarmedH U.vm := State.WarmedH.trans hW0 hW
  have hcl : s.vm.findClass cls = some ce.cls := by
    have h9 := hO.cls
    rw [hvm] at h9
    exact h9
  have hall : s.sameButNew ({ U with vm := s.vm } : State) locs mc ms := by
    subst hA
    obtain ⟨e1, e2⟩ := hsame
    rw [State.setFrames_setFrames] at e1
    have h2 : (T.setVm s.vm).sameButNew ({ U with vm := s.vm } : State) [] (0 + 1) (0 + 6) := ⟨e1, e2⟩
    have h3 := X.same.trans h2
    rw [List.append_nil] at h3
    exact h3.mono hc hs
  refine ⟨U, ?_, .threw T.heap.size, hrun, hend, Or.inr ⟨T.heap.size, rfl, cls, ce, locs, hx U hWs.alike f1 (fun q hq => f2 q hq (fun z hz => nomatch hz)), hce, hO.vm, hcl, hWs, hall, hf⟩⟩
  refine st1 _ ?_
  show Steps p.tables e below (T1.setTop { method := m, pc := pc + 3, locals := ls, stack := .ref T.heap.size :: rest, locked := none }) _
  jvm_step X₁.here [X₁.here.top, hexec, d3', Value.category]
  exact X₁.ldcString hexec (own := own) (text := text) (index := is) (a := sa) hown' hstr'.1 hstr'.2
    (g := { method := m, pc := pc + 4, locals := ls, stack := .ref T.heap.size :: .ref T.heap.size :: rest, locked := none }) rfl d4' _ hsteps
/-- 'throw new E("text")', the text by a wide index -/
theorem vx_throwSW {cc : ByteArray} {pc : Nat} (hexec : p.tables.exec = Jvm.exec) (hb : c.code = cc) (hl : l.stackTraces = false) {own cls text : String} {names : List String} {ik is ic mc ms sa : Nat} {A : Nat → Prop}
    (hown : s.vm.findClass own = some m.cls) (hcls : Bundle.fit cls = true) (hnames : ∀ n ∈ names, Bundle.fit n = true)
    (hk : (Cond.classLink own ik cls).before args s = true) (hini : (Cond.initialized cls).before args s = true) (hstr : vk_R own is text sa s) (hat : ∀ w ∈ vx_atS own ic cls names, w.before args s = true)
    (hgood : ∀ w ∈ Cond.classLink own ik cls :: Cond.initialized cls :: vx_atS own ic cls names, vx_ot w = true)
    (hU : vx_Zq Bundle.tN "UNASSIGNED_STACK" Bundle.steD A s s.heap) (hN : vx_Zq Bundle.tN "SUPPRESSED_SENTINEL" Bundle.listD A s s.heap) (hS : va_S A s.heap H locs) (hsize : ls.size = c.maxLocals)
    (d0 : decode cc pc = .ok (.new ik, 3)) (d3 : decode cc (pc + 3) = .ok (.dup, 1)) (d4 : decode cc (pc + 4) = .ok (.ldc_w is, 3)) (d7 : decode cc (pc + 7) = .ok (.invokespecial ic, 3)) (d10 : decode cc (pc + 10) = .ok (.athrow, 1))
    (hout : ∀ x ∈ c.exceptionTable.toList, covers x (pc + 10) = false)
    (hRframes : names.length + 3 < R.frames) (hRlocals : (rest.map fun v => v.category).sum + (13 * (names.length + 1) + 43) ≤ R.locals) (hRcells : cells + 1 ≤ R.cells) (hRslots : slots + 6 ≤ R.slots) (hlocks : meth.locks = false)
    (hx : ∀ t : State, s.vm.Alike t.vm → H.size ≤ t.heap.size → (∀ q : Nat, q < H.size → t.heap[q]? = H[q]?) → XC cls s t)
    (hf : ∀ z ∈ locs, free z.base) (hc : cells + 1 ≤ mc) (hs : slots + 6 ≤ ms) :
    W p l e R s m args below meth c H locs cells slots (vx_MQ below Qc XC args s mc ms free) (F0 m pc ls rest) := by
  intro T hT X
  have htr : e.platform.stackTraces = false := (show e.platform.stackTraces = l.stackTraces by rw [X.admits.platform]).trans hl
  have Y := vx_rebase X (R' := { frames := R.frames, locals := R.locals, cells := 1, slots := 6 }) (Nat.le_refl _) (Nat.le_refl _) hRcells hRslots
  obtain ⟨s', hA⟩ : ∃ z, z = (T.setVm s.vm).setFrames (.invoking m args :: below) := ⟨_, rfl⟩
  rw [← hA] at Y
  have hvm : s'.vm = s.vm := by rw [hA]; rfl
  have hhp : s'.heap = H := by rw [hA]; exact hT
  have hW0 : s.WarmedH s'.vm := by rw [hvm]; exact State.WarmedH.refl s
  have hat' : ∀ w ∈ vx_atS own ic cls names, w.before args s' = true := fun w hw => vx_ot_at hW0 hvm.symm (hgood w (List.mem_cons_of_mem _ (List.mem_cons_of_mem _ hw))) (hat w hw)
  have hk' : (Cond.classLink own ik cls).before args s' = true := vx_ot_at hW0 hvm.symm (hgood _ List.mem_cons_self) hk
  have hini' : (Cond.initialized cls).before args s' = true := vx_ot_at hW0 hvm.symm (hgood _ (List.mem_cons_of_mem _ List.mem_cons_self)) hini
  have hU' : vx_Zq Bundle.tN "UNASSIGNED_STACK" Bundle.steD A s' s'.heap := by rw [hhp]; exact vx_Zq.moved hW0.alike (hU.kept hS.2.1)
  have hN' : vx_Zq Bundle.tN "SUPPRESSED_SENTINEL" Bundle.listD A s' s'.heap := by rw [hhp]; exact vx_Zq.moved hW0.alike (hN.kept hS.2.1)
  have h : ∀ w ∈ Bundle.ownAtoms own ic cls names, w.before args s' = true := vx_own hat' (vx_isRefq hU'.1) (vx_isRefq hN'.1) hU'.2.word hN'.2.word
  have hown' : s'.vm.findClass own = some m.cls := by rw [hvm]; exact hown
  have hins : (Cond.instantiable cls 6).before args s' = true := h _ (by simp [Bundle.ownAtoms])
  obtain ⟨vm₁, cX, kX, hfX, hkX, -, -, X₁, st1⟩ := Y.newCold hexec (own := own) (C := cls) (index := ik) (n := 6) hown' hk' hins hini'
    (g := F0 m pc ls rest) rfl (by rw [hb]; exact d0) (Nat.le_refl _) (Nat.le_refl _)
  generalize hT1 : (T.setVm vm₁).pushCell { cls := cX, slots := kX.instanceTypes.map defaultValue, vm := .none } = T1 at X₁ st1
  have hcat : (Value.ref T.heap.size).category = 1 := rfl
  have hcellA : T1.heap[T.heap.size]? = some (freshCell cX kX) := by rw [← hT1]; exact State.heap_pushCell_size _ _
  have d3' : decode c.code (pc + 3) = .ok (.dup, 1) := by rw [hb]; exact d3
  have d4' : decode c.code (pc + 4) = .ok (.ldc_w is, 3) := by rw [hb]; exact d4
  have hstr' : vk_R own is text sa s' := vk_R.warm hW0 hstr
  obtain ⟨U, hsteps, hrun, hend, hW, hsame, ce, hce, hO⟩ := X₁.ctorThrowS hexec htr (own := own) (cls := cls) (names := names) (ic := ic) hown' hcls hnames h (fun x hx => nomatch hx) hfX hkX hcellA (by rw [hhp, hT]; exact Nat.le_refl _) (msg := .ref sa) rfl
    (g := { method := m, pc := pc + 7, locals := ls, stack := .ref sa :: .ref T.heap.size :: .ref T.heap.size :: rest, locked := none }) rfl hsize rfl rfl (rest := rest) rfl
    (by rw [hb]; exact d7) (by rw [hb]; exact d10) hout hRframes (by simp only [List.map_cons, List.sum_cons, hcat]; omega) hlocks
  obtain ⟨f1, f2⟩ := vx_frame hsame
  rw [hhp] at f1 f2
  have hWs : s.WarmedH U.vm := State.WarmedH.trans hW0 hW
  have hcl : s.vm.findClass cls = some ce.cls := by
    have h9 := hO.cls
    rw [hvm] at h9
    exact h9
  have hall : s.sameButNew ({ U with vm := s.vm } : State) locs mc ms := by
    subst hA
    obtain ⟨e1, e2⟩ := hsame
    rw [State.setFrames_setFrames] at e1
    have h2 : (T.setVm s.vm).sameButNew ({ U with vm := s.vm } : State) [] (0 + 1) (0 + 6) := ⟨e1, e2⟩
    have h3 := X.same.trans h2
    rw [List.append_nil] at h3
    exact h3.mono hc hs
  refine ⟨U, ?_, .threw T.heap.size, hrun, hend, Or.inr ⟨T.heap.size, rfl, cls, ce, locs, hx U hWs.alike f1 (fun q hq => f2 q hq (fun z hz => nomatch hz)), hce, hO.vm, hcl, hWs, hall, hf⟩⟩
  refine st1 _ ?_
  show Steps p.tables e below (T1.setTop { method := m, pc := pc + 3, locals := ls, stack := .ref T.heap.size :: rest, locked := none }) _
  jvm_step X₁.here [X₁.here.top, hexec, d3', Value.category]
  exact X₁.ldcStringW hexec (own := own) (text := text) (index := is) (a := sa) hown' hstr'.1 hstr'.2
    (g := { method := m, pc := pc + 4, locals := ls, stack := .ref T.heap.size :: .ref T.heap.size :: rest, locked := none }) rfl d4' _ hsteps
end Ends
section Bodies
variable {l : Launch}
theorem vx_ofW {y : MethodName} {ws ws' : List Cond} {rm : Room} {Pc : Array Value → State → Prop} {Qc : Array Value → State → Outcome → State → Prop} {XC : String → State → State → Prop} {mc ms : Nat} {free : Addr → Prop} {cc : ByteArray} {maxL : Nat} {ret : Option FieldType}
    (hy : plainName y.cls = true) (hw : ws = Cond.code y cc maxL ret :: ws')
    (body : ∀ p e s m args below meth c s₁, BodyLoose p l y (headSpec ws rm) cc maxL ret e s m args below meth c s₁ → c.maxLocals = maxL → (∀ x ∈ c.exceptionTable.toList, False) → Pc args s →
      W p l e (headSpec ws rm).room s m args below meth c s.heap [] 0 0 (vx_MQ below Qc XC args s mc ms free) (entryFrame m args maxL)) : vx_Met l y ws rm Pc Qc XC mc ms free := by
  refine MetFree.of_bodyS (code := cc) (maxLocals := maxL) (ret := ret) hy ?_ ?_
  · intro args s m h hn
    obtain ⟨meth, c, h1, h2, h3, h4, h5, h6, -, -⟩ := Cond.code_spec hn (atoms_spec (ws := ws) h _ (by rw [hw]; exact List.mem_cons_self))
    exact ⟨meth, c, h1, h2, h3, h4, h5, h6⟩
  · intro p e s m args below meth c s₁ B hml hP _
    have hh0 : s₁.heap = s.heap := by rw [B.state]; rfl
    have ht : ∀ x ∈ c.exceptionTable.toList, False := by
      obtain ⟨meth9, c9, h1, h2, -, -, -, -, h7, -⟩ := Cond.code_spec B.named (atoms_spec (ws := ws) B.pre _ (by rw [hw]; exact List.mem_cons_self))
      cases Option.some.inj (h1.symm.trans B.method)
      cases Option.some.inj (h2.symm.trans (Stand.of_body B).code)
      intro x hx
      rw [Array.isEmpty_iff.mp h7] at hx
      cases hx
    obtain ⟨t, a1, o, b1, b2, b3⟩ := body p e s m args below meth c s₁ B hml ht hP s₁ hh0 (Stand.of_body B)
    exact ⟨t, o, a1, b1, b2, b3⟩
/-- the table of a body with handlers -/
theorem vx_table {p : Program} {x y : MethodName} {S : Spec} {cc bytes : ByteArray} {maxL maxL' : Nat} {ret ret' : Option FieldType} {e : Env} {s s₁ : State} {m : MethodId} {args : Array Value} {below : List Frame} {meth : Method} {c : Code} {hh : List (Nat × Nat × Nat × Nat)}
    (B : BodyLoose p l y S cc maxL ret e s m args below meth c s₁) (h : (Cond.codeWith y bytes maxL' ret' hh).before args s = true) : c.exceptionTable.toList = tableOf hh := by
  obtain ⟨m9, meth9, c9, hn9, h1, h2, -, -, h6, -⟩ := Cond.codeWith_spec h
  cases Option.some.inj (hn9.symm.trans B.named)
  cases Option.some.inj (h1.symm.trans B.method)
  cases Option.some.inj (h2.symm.trans (Stand.of_body B).code)
  rw [← h6, table_eq]
end Bodies
end VXA
/-! ===== END ===== -/
/-! ===== BEGIN a static call of a method with an exception table ===== -/
section VXS
variable {p : Program} {l : Launch} {e : Env} {R : Room} {s : State} {m : MethodId} {args : Array Value} {below : List Frame} {meth : Method} {c : Code} {T : State} {H : Heap} {locs : List Loc} {cells slots : Nat}
abbrev vx_CSW (R : Room) (s : State) (args : Array Value) (own : String) (index : Nat) (y : MethodName) (bytes : ByteArray) (maxL : Nat) (ret : Option FieldType) (hh : List (Nat × Nat × Nat × Nat)) (ws : List Cond) (rm : Room) (mc ms n : Nat) : Prop :=
  (rm.cells = mc ∧ rm.slots = ms ∧ rm.frames + 1 ≤ R.frames ∧ 8 + (maxL + 11) + rm.locals ≤ R.locals ∧ (∀ w ∈ ws, ∀ (a' : Array Value) (U : State), s.WarmedH U.vm → w.before a' U = true) ∧ Cond.codeWith y bytes maxL ret hh ∈ ws) ∧
  (Cond.codeWith y bytes maxL ret hh).before args s = true ∧ (Cond.initialized y.cls).before args s = true ∧ (y.cls ≠ "java/lang/invoke/MethodHandle" ∧ y.cls ≠ "java/lang/invoke/VarHandle") ∧
  (∀ sig, parseMethodDescriptor y.desc = some sig → n = sig.parameters.length) ∧ (Cond.methodLink own index y).before args s = true ∧ (Cond.static y).before args s = true
theorem vx_cwSW {own : String} {index maxL mc ms : Nat} {y : MethodName} {bytes : ByteArray} {ret : Option FieldType} {hh : List (Nat × Nat × Nat × Nat)} {Ts ws ws' : List Cond} {rm : Room} (n : Nat) (ht : ∀ w ∈ Ts, w.before args s = true) (hT : GoodIn Ts (va_wsS own index y ws)) (hw : ws = Cond.codeWith y bytes maxL ret hh :: ws') (hrc : rm.cells = mc) (hrs : rm.slots = ms)
    (hd : y.cls ≠ "java/lang/invoke/MethodHandle" ∧ y.cls ≠ "java/lang/invoke/VarHandle" ∧ (parseMethodDescriptor y.desc).map (fun d => d.parameters.length) = some n) (hR : rm.frames + 1 ≤ R.frames ∧ 8 + (maxL + 11) + rm.locals ≤ R.locals) :
    vx_CSW R s args own index y bytes maxL ret hh ws rm mc ms n := by
  have ok : ∀ w ∈ va_wsS own index y ws, w.before args s = true := fun w h => ht w (hT w h).1
  have hG : GoodIn Ts ws := fun w h => hT w (by unfold va_wsS; exact List.mem_append_right _ h)
  have hc : Cond.codeWith y bytes maxL ret hh ∈ ws := by rw [hw]; exact List.mem_cons_self
  refine ⟨⟨hrc, hrs, hR.1, hR.2, pay_in ht hG, hc⟩, ht _ (hG _ hc).1, ok _ (by simp [va_wsS]), ⟨hd.1, hd.2.1⟩, fun sig h => ?_, ok _ (by simp [va_wsS]), ok _ (by simp [va_wsS])⟩
  have h2 := hd.2.2
  rw [h] at h2
  exact (Option.some.inj h2).symm
theorem vx_callSW (X : Stand p l e R s m args below meth c T locs cells slots) (hexec : p.tables.exec = Jvm.exec) {own : String} {index : Nat} {y : MethodName} {bytes : ByteArray} {maxL : Nat} {ret : Option FieldType} {hh : List (Nat × Nat × Nat × Nat)}
    (hown : s.vm.findClass own = some m.cls) (hlink : (Cond.methodLink own index y).before args s = true) (hstat : (Cond.static y).before args s = true) (hinit : (Cond.initialized y.cls).before args s = true)
    (hcode : (Cond.codeWith y bytes maxL ret hh).before args s = true) (hy : y.cls ≠ "java/lang/invoke/MethodHandle" ∧ y.cls ≠ "java/lang/invoke/VarHandle")
    {W9 : Nat} {Pre : Pt → Array Value → Prop} {Post : Pt → Array Value → Option Value → Pt → Prop} (hK : Back l R p e below s args y 3 W9 Pre Post)
    {g : JFrame} (hg : g.method = m) (hsize : g.locals.size = c.maxLocals) {argsL rest : List Value} (hlen : ∀ sig, parseMethodDescriptor y.desc = some sig → argsL.length = sig.parameters.length)
    (hstack : g.stack = argsL.reverse ++ rest) (hW : 2 * g.monitorRoom + (rest.map fun v => v.category).sum ≤ W9) (hdg : decode c.code g.pc = .ok (.invokestatic index, 3))
    (hpre : ∀ vm₁, s.WarmedH vm₁ → Pre ⟨T.setVm vm₁, locs, cells, slots⟩ argsL.toArray) :
    ∃ (v : Option Value) (vm₁ : Vm) (B : Pt), s.WarmedH vm₁ ∧ Stand p l e R s m args below meth c B.U B.locs B.cells B.slots ∧ Post ⟨T.setVm vm₁, locs, cells, slots⟩ argsL.toArray v B ∧
      ∀ target, Steps p.tables e below (B.U.setTop { g with pc := g.pc + 3, stack := v.toList ++ rest }) target → Steps p.tables e below (T.setTop g) target := by
  obtain ⟨mk, methM, cM, hnamed, hmethM, -, -, -, -, -, -, hsigM⟩ := Cond.codeWith_spec hcode
  have hstatic : methM.isStatic = true := Cond.static_spec hnamed hmethM hstat
  obtain ⟨kP, hkP, -⟩ := className_of_methodNamed hnamed
  have hinitP : kP.init = .initialized := Cond.initialized_spec (findClass_of_methodNamed hnamed) hkP hinit
  obtain ⟨vm₁, X₁, hstep₁⟩ := X.invokestatic hexec hown hlink hnamed hmethM hstatic hkP hinitP hy (g := g) hg (argsL := argsL) (rest := rest) (hlen _ hsigM) hstack hdg
  obtain ⟨v, B, X', hpost, hsteps⟩ := hK m meth c ⟨T.setVm vm₁, locs, cells, slots⟩ { g with stack := rest } (.invokestatic index) mk argsL.toArray X₁ hg hsize hdg hW (X₁.named hnamed) (hpre vm₁ X₁.warmed)
  exact ⟨v, vm₁, B, X₁.warmed, X', hpost, fun target h => hstep₁ _ fun acts => by rw [doInvoke_state]; exact hsteps.trans h⟩
theorem vx_runSW {y : MethodName} {bytes cc : ByteArray} {maxL nL mc ms n index : Nat} {ret : Option FieldType} {hh : List (Nat × Nat × Nat × Nat)} {ws : List Cond} {rm : Room} {Pc : Array Value → State → Prop} {Qc : Array Value → State → Outcome → State → Prop} {free : Addr → Prop} {Ts : List Cond} {own : String} {As rest : List Value} {g : JFrame}
    (S : CallFix p m c cc nL s args Ts own) (hM : Met l y ws rm Pc Qc mc ms free) (cw : vx_CSW R s args own index y bytes maxL ret hh ws rm mc ms n) (hp : PreS s H Pc As)
    (hg : g.method = m) (hn : As.length = n) (hsize : g.locals.size = nL) (hstack : g.stack = As.reverse ++ rest) (hW : 2 * g.monitorRoom + (rest.map fun v => v.category).sum ≤ 8) (hdg : decode cc g.pc = .ok (.invokestatic index, 3)) (hf : cells + mc ≤ R.cells ∧ slots + ms ≤ R.slots) :
    va_Run p l e R s m args below meth c H locs cells slots mc ms g rest (Qc As.toArray) (free) := by
  obtain ⟨⟨hrc, hrs, hfr, hlo, hws, hcw⟩, hcode, hini, hy, hlen, hl, hstt⟩ := cw
  have hK : Back l R p e below s args y 3 8 (PreOf R mc ms Pc) (PostOf Qc mc ms free) := va_backW (hh := hh) (bytes := bytes) (maxL := maxL) (ret := ret) hM hp.1 hrc hrs hfr hlo hws hcw (fun a' U hW => word_at hW (Or.inl (by first | rfl | simp [Cond.onTables, Cond.keeps, Cond.steady])) hini)
  obtain ⟨hx, hb, hml, ho, -⟩ := S
  intro T hT X
  obtain ⟨v, vm₁, ⟨U', l2, c2, s2⟩, hW₁, X', ⟨g', mk, t, L, e1, e2, hq, h1, hL, h2, h3⟩, st⟩ := vx_callSW X hx (hh := hh) (bytes := bytes) (maxL := maxL) (ret := ret) ho hl hstt hini hcode hy hK hg (hsize.trans hml.symm) (argsL := As) (rest := rest) (fun sig h => hn.trans (hlen sig h)) hstack hW (by rw [hb]; exact hdg)
    (fun vm₁ hW₁ => ⟨hf.1, hf.2, hp.2 (T.setVm vm₁) hT hW₁⟩)
  dsimp only [Pt.U, Pt.locs, Pt.cells, Pt.slots] at X' e1 e2 h1 h2 h3 st
  subst h1; subst h2; subst h3
  exact ⟨v, (T.setVm vm₁).calling g' mk As.toArray, t, U', L, hT, X', hL, e1, e2, hq, st⟩
/-- not caught here, past rows that name other classes: it goes on to the caller -/
theorem vx_outP {p : Program} {l : Launch} {e : Env} {R : Room} {s : State} {m : MethodId} {args : Array Value} {below : List Frame} {meth : Method} {c : Code} {H : Heap} {locs : List Loc} {cells slots : Nat} {free : Addr → Prop} {ls : Array Slot} {rest : List Value} {Qc : Array Value → State → Outcome → State → Prop} {XC : String → State → State → Prop}
    {pc : Nat} {own E : String} {ce : Cell} {q : Addr} {mc ms : Nat} (hown : s.vm.findClass own = some m.cls) (hlocks : meth.locks = false)
    (hpass : ∀ z ∈ c.exceptionTable.toList, covers z pc = false ∨ (z.catchType ≠ 0 ∧ ∃ nm : String, (Cond.classLink own z.catchType nm).before args s = true ∧ va_Nc E nm s)) (hcell : H[q]? = some ce) (hv : ce.vm = .none) (hcl : s.vm.findClass E = some ce.cls)
    (hx : ∀ t : State, t.heap = H → s.vm.Alike t.vm → XC E s t) (hf : ∀ z ∈ locs, free z.base) (hc : cells ≤ mc) (hs : slots ≤ ms) :
    vx_W p l e R s m args below meth c H locs cells slots (vx_MQ below Qc XC args s mc ms free) (F0 m pc ls rest) q := by
  intro T hT X
  have hpl : e.platform.magicAccessors = ({} : Platform).magicAccessors := by rw [X.admits.platform]
  obtain ⟨vm', hW', X', st⟩ := X.outThrough hlocks q (g := F0 m pc ls rest) rfl rfl rfl (cell := ce) (by rw [hT]; exact hcell) (by rw [hv]; rfl)
    (by obtain ⟨k9, h9, -⟩ := Vm.findClass_spec hcl; exact ⟨k9, h9⟩) (fun z hz => by
      rcases hpass z hz with h | ⟨hz0, nm, hl1, hn1⟩
      · exact Or.inl h
      · obtain ⟨c6, hc6, hcl6⟩ := Cond.classLink_spec hown hl1 e.platform hpl
        obtain ⟨a8, b8, h1, h2, h3⟩ := hn1
        cases Option.some.inj (h1.symm.trans hcl)
        cases Option.some.inj (h2.symm.trans hc6)
        exact Or.inr ⟨hz0, _, hcl6, h3⟩)
  obtain ⟨g₀, hfr⟩ := X'.frames_eq
  have hcell9 : ((T.setVm vm').setFrames (.throwing q :: below)).heap[q]? = some ce := by
    show T.heap[q]? = some ce
    rw [hT]; exact hcell
  have hend : Ended ((T.setVm vm').setFrames (.throwing q :: below)) below (.threw q) := State.frames_setFrames _ (State.cur_lt_of_frames hfr)
  refine ⟨(T.setVm vm').setFrames (.throwing q :: below), ?_, .threw q, X'.here.running, hend, Or.inr ⟨q, rfl, E, ce, locs, hx _ hT (X'.ends _).1.alike, hcell9, hv, hcl, (X'.ends _).1, (X'.ends _).2.mono hc hs, hf⟩⟩
  rw [X.pushThrowing_eq]
  exact st
/-- a thing of a world lies in the heap -/
theorem vx_lt {D : va_G} {cl : List vw_C} {ws : va_W} {H1 : Heap} (h : va_P D cl ws H1) {k : Nat} {q : Nat × va_E} (hk : ws[k]? = some q) : q.1 < H1.size := (h k q hk).lt
end VXS
/-! ===== END ===== -/
/-! ===== BEGIN methods with a table of their own: called by a name, returning or throwing ===== -/
section VXH
/-! vx_backW, vx_callVX, vx_callSX, vx_callVW, vx_runVW, vx_runVX, vx_runSX, vx_ofWH follow the same proofs as their sisters above (Free/Laws.lean, Shelf42/LK1.lean); vx_outP calls Shelf42/NT130.lean (outThrough). -/
section
variable {l : Launch} {R : Room} {p : Program} {e : Env} {below : List Frame} {s : State} {sargs : Array Value} {y : MethodName} {len W9 : Nat}
theorem vx_backW {ws : List Cond} {rm : Room} {Pc : Array Value → State → Prop} {Qc : Array Value → State → Outcome → State → Prop} {XC : String → State → State → Prop} {mc ms : Nat} {free : Addr → Prop} {bytes : ByteArray} {maxL : Nat} {ret : Option FieldType} {hh : List (Nat × Nat × Nat × Nat)}
    (hM : vx_Met l y ws rm Pc Qc XC mc ms free) (hblind : FrameBlind Pc) (hrc : rm.cells = mc) (hrs : rm.slots = ms)
    (hframes : rm.frames + 1 ≤ R.frames) (hlocals : W9 + (maxL + 11) + rm.locals ≤ R.locals)
    (hws : ∀ w ∈ ws, ∀ a' U, s.WarmedH U.vm → w.before a' U = true) (hcode : Cond.codeWith y bytes maxL ret hh ∈ ws) (hinit : ∀ a' U, s.WarmedH U.vm → (Cond.initialized y.cls).before a' U = true) :
    vx_Back l R p e below s sargs y len W9 (PreOf R mc ms Pc) (PostOf Qc mc ms free) (vx_Post XC mc ms free) := by
  intro m meth c A g ig mk a X hg hsize hdg hW hn hp
  have h1 : (headSpec ws rm).pre.before a A.U = true := atoms_intro fun w hw => hws w hw _ _ X.warmed
  have h2 : (Cond.codeWith y bytes maxL ret hh).before a A.U = true := hws _ hcode _ _ X.warmed
  have h3 : (Cond.initialized y.cls).before a A.U = true := hinit _ _ X.warmed
  have h4 : A.cells + (headSpec ws rm).room.cells ≤ R.cells := by rw [show (headSpec ws rm).room.cells = mc from hrc]; exact hp.1
  have h5 : A.slots + (headSpec ws rm).room.slots ≤ R.slots := by rw [show (headSpec ws rm).room.slots = ms from hrs]; exact hp.2.1
  have hPc : Pc a (A.U.calling g mk a) := hblind _ _ _ _ hp.2.2
  obtain ⟨U, Ls, c0, s0⟩ := A
  dsimp only [Pt.U, Pt.locs, Pt.cells, Pt.slots] at h1 h2 h3 h4 h5 X hn hPc ⊢
  obtain ⟨m9, methY, cY, hn9, hmY, hcY, -, hlY, -⟩ := Cond.codeWith_spec h2
  cases Option.some.inj (hn9.symm.trans hn)
  obtain ⟨kY, hkY, -⟩ := className_of_methodNamed hn
  have hinitY : kY.init = .initialized := Cond.initialized_spec (findClass_of_methodNamed hn) hkY h3
  have h : At U g.method c below := by rw [hg]; exact X.here
  have hlocals9 : W9 + (maxL + 11) + (headSpec ws rm).room.locals ≤ R.locals := hlocals
  have happ : (headSpec ws rm).appliesLoose y e.platform (U.calling g mk a) = true :=
    Spec.appliesLoose_calling (g := g) h hdg hn hkY hinitY
      (X.room_calling (g := g) (R' := (headSpec ws rm).room) hsize hmY hcY hframes (by rw [hlY]; omega) h4 h5) h1
  obtain ⟨mid, hmid⟩ := h.above
  have hfr : (U.setTop g).frames = (.java g :: mid) ++ below := by rw [State.frames_setTop' g h.top, hmid]; rfl
  obtain ⟨o, s₂, hsteps, -, hend, hq⟩ := Steps.callFree hM p X.admits X.cas X.clock (acts := []) hfr happ hPc trivial
  have hq' : vx_Q Qc XC mc ms free a (U.calling g mk a) o s₂ := hq
  rw [State.frames_setTop' g h.top] at hend
  obtain ⟨g₀, hg0⟩ := Option.isSome_iff_exists.mp h.top
  obtain ⟨r, hr⟩ := State.topJava?_eq_some.mp hg0
  have hr' : (({ U with heap := s₂.heap, slotsUsed := s₂.slotsUsed } : State).setVm s₂.vm).frames = .java g₀ :: r := hr
  rcases hq' with ⟨hqc, L, hfe, hL⟩ | ⟨q, rfl, E, ce, L, hx, hce, hcv, hcl, hW₂, hsm, hL⟩
  · obtain ⟨⟨v, rfl⟩, hW₂, e2, q2, q3, q4, q5, q6⟩ := id hfe
    have e3 : s₂ = ({ (U.calling g mk a).setFrames s₂.frames with heap := s₂.heap, slotsUsed := s₂.slotsUsed } : State).setVm s₂.vm := by
      have : s₂ = ({ s₂ with vm := (U.calling g mk a).vm } : State).setVm s₂.vm := rfl
      rw [e2] at this
      exact this
    obtain ⟨c₂, i₂, len₂, hc₂, hd₂, hf₂⟩ := hend
    have hW' : U.WarmedH s₂.vm := hW₂
    have hcc : c₂ = c := by
      have h1 : s₂.code? g.method = U.code? g.method := by
        rw [State.code?_eq, State.code?_eq, hW'.alike.method?]
      exact Option.some.inj (hc₂.symm.trans (h1.trans h.code))
    subst hcc
    have hlen : len₂ = len := by rw [hdg] at hd₂; cases hd₂; rfl
    subst hlen
    have hs₂ : s₂ = (({ U with heap := s₂.heap, slotsUsed := s₂.slotsUsed } : State).setVm s₂.vm).setTop { g with pc := g.pc + len₂, stack := v.toList ++ g.stack } := by
      refine e3.trans ?_
      rw [hf₂, State.calling_eq h.top, State.setFrames_setFrames, State.setTop_of_frames _ hr', hr]
      rfl
    have hsame : U.sameButNew ({ U with heap := s₂.heap, slotsUsed := s₂.slotsUsed } : State) L mc ms := by
      refine ⟨?_, q2, q3, q4, q5, q6⟩
      obtain ⟨t, ht, -⟩ := State.frames_cons hr
      show ({ U with heap := s₂.heap, slotsUsed := s₂.slotsUsed } : State) = { U.setFrames U.frames with heap := s₂.heap, slotsUsed := s₂.slotsUsed }
      rw [State.setFrames_self ht]
    subst hg
    refine Or.inl ⟨v, ⟨(({ U with heap := s₂.heap, slotsUsed := s₂.slotsUsed } : State).setVm s₂.vm), Ls ++ L, c0 + mc, s0 + ms⟩,
      ⟨X.admits, X.cas, X.clock, X.frames, X.room, X.hears, X.method, X.code, (X.here.setHeapUsed s₂.heap s₂.slotsUsed).setVm hW'.alike, X.tail, State.WarmedH.trans X.warmed hW', X.limits, X.bytes, X.same.trans (hsame.setVm s.vm)⟩,
      ⟨g, mk, s₂, L, rfl, rfl, hqc, rfl, hL, rfl, rfl⟩, ?_⟩
    show Steps p.tables e below _ ((({ U with heap := s₂.heap, slotsUsed := s₂.slotsUsed } : State).setVm s₂.vm).setTop { g with pc := g.pc + len₂, stack := v.toList ++ g.stack })
    rw [← hs₂]
    exact hsteps
  · obtain ⟨e2, q2, q3, q4, q5, q6⟩ := id hsm
    have e3 : s₂ = ({ (U.calling g mk a).setFrames s₂.frames with heap := s₂.heap, slotsUsed := s₂.slotsUsed } : State).setVm s₂.vm := by
      have : s₂ = ({ s₂ with vm := (U.calling g mk a).vm } : State).setVm s₂.vm := rfl
      rw [e2] at this
      exact this
    have hf₂ : s₂.frames = .throwing q :: .java g :: U.frames.tail := hend
    have hW' : U.WarmedH s₂.vm := hW₂
    have hs₂ : s₂ = ((({ U with heap := s₂.heap, slotsUsed := s₂.slotsUsed } : State).setVm s₂.vm).setTop g).pushFrame (.throwing q) := by
      refine e3.trans ?_
      rw [hf₂, State.calling_eq h.top, State.setFrames_setFrames, State.pushFrame, State.frames_setTop _ hr', State.setTop_of_frames _ hr', State.setFrames_setFrames, hr]
      rfl
    have hsame : U.sameButNew ({ U with heap := s₂.heap, slotsUsed := s₂.slotsUsed } : State) L mc ms := by
      refine ⟨?_, q2, q3, q4, q5, q6⟩
      obtain ⟨t, ht, -⟩ := State.frames_cons hr
      show ({ U with heap := s₂.heap, slotsUsed := s₂.slotsUsed } : State) = { U.setFrames U.frames with heap := s₂.heap, slotsUsed := s₂.slotsUsed }
      rw [State.setFrames_self ht]
    subst hg
    refine Or.inr ⟨q, ⟨(({ U with heap := s₂.heap, slotsUsed := s₂.slotsUsed } : State).setVm s₂.vm), Ls ++ L, c0 + mc, s0 + ms⟩,
      ⟨X.admits, X.cas, X.clock, X.frames, X.room, X.hears, X.method, X.code, (X.here.setHeapUsed s₂.heap s₂.slotsUsed).setVm hW'.alike, X.tail, State.WarmedH.trans X.warmed hW', X.limits, X.bytes, X.same.trans (hsame.setVm s.vm)⟩,
      ⟨g, mk, s₂, L, E, ce, rfl, rfl, hx, hce, hcv, hcl, rfl, hL, rfl, rfl⟩, ?_⟩
    show Steps p.tables e below _ (((({ U with heap := s₂.heap, slotsUsed := s₂.slotsUsed } : State).setVm s₂.vm).setTop g).pushFrame (.throwing q))
    rw [← hs₂]
    exact hsteps
end
variable {p : Program} {l : Launch} {e : Env} {R : Room} {s : State} {m : MethodId} {args : Array Value} {below : List Frame} {meth : Method} {c : Code} {T : State} {H : Heap} {locs : List Loc} {cells slots : Nat}
theorem vx_callVX (X : Stand p l e R s m args below meth c T locs cells slots) (hexec : p.tables.exec = Jvm.exec) {own C : String} {index : Nat} {y : MethodName} {bytes : ByteArray} {maxL : Nat} {ret : Option FieldType} {hh : List (Nat × Nat × Nat × Nat)}
    (hown : s.vm.findClass own = some m.cls) (hlink : (Cond.methodLink own index y).before args s = true) (hinst : (Cond.instanceMethod y).before args s = true) (hsel : (Cond.selects C y y).before args s = true)
    (hcode : (Cond.codeWith y bytes maxL ret hh).before args s = true) (hy : y.cls ≠ "java/lang/invoke/MethodHandle" ∧ y.cls ≠ "java/lang/invoke/VarHandle")
    {W9 : Nat} {Pre : Pt → Array Value → Prop} {Post : Pt → Array Value → Option Value → Pt → Prop} {PostX : Pt → Array Value → Addr → Pt → Prop} (hK : vx_Back l R p e below s args y 3 W9 Pre Post PostX)
    {b : Addr} {cellB : Cell} (hcell : T.heap[b]? = some cellB) (hobj : cellB.vm.isStatics = false) (hcls : s.vm.findClass C = some cellB.cls)
    {g : JFrame} (hg : g.method = m) (hsize : g.locals.size = c.maxLocals) {argsL rest : List Value} (hlen : ∀ sig, parseMethodDescriptor y.desc = some sig → argsL.length = sig.parameters.length)
    (hstack : g.stack = argsL.reverse ++ .ref b :: rest) (hW : 2 * g.monitorRoom + (rest.map fun v => v.category).sum ≤ W9) (hdg : decode c.code g.pc = .ok (.invokevirtual index, 3))
    (hpre : ∀ vm₁, s.WarmedH vm₁ → Pre ⟨T.setVm vm₁, locs, cells, slots⟩ (Value.ref b :: argsL).toArray) :
    (∃ (v : Option Value) (vm₁ : Vm) (B : Pt), s.WarmedH vm₁ ∧ Stand p l e R s m args below meth c B.U B.locs B.cells B.slots ∧ Post ⟨T.setVm vm₁, locs, cells, slots⟩ (Value.ref b :: argsL).toArray v B ∧
      ∀ target, Steps p.tables e below (B.U.setTop { g with pc := g.pc + 3, stack := v.toList ++ rest }) target → Steps p.tables e below (T.setTop g) target) ∨
    (∃ (q : Addr) (vm₁ : Vm) (B : Pt), s.WarmedH vm₁ ∧ Stand p l e R s m args below meth c B.U B.locs B.cells B.slots ∧ PostX ⟨T.setVm vm₁, locs, cells, slots⟩ (Value.ref b :: argsL).toArray q B ∧
      Steps p.tables e below (T.setTop g) ((B.U.setTop { g with stack := rest }).pushFrame (.throwing q))) := by
  obtain ⟨mk, methM, hnamed, hmethM, hstM, habM⟩ := Cond.instanceMethod_spec hinst
  obtain ⟨m8, methM', cM, hn8, hmethM', -, -, -, -, -, -, hsigM⟩ := Cond.codeWith_spec hcode
  cases Option.some.inj (hn8.symm.trans hnamed)
  cases hmethM.symm.trans hmethM'
  obtain ⟨c2, r2, m2, q1, q2, q3, q4, kP, hkP, hkPi⟩ := Cond.selects_spec hsel
  cases hcls.symm.trans q1
  cases (State.methodFound?_of_named hnamed hy).symm.trans q2
  cases hnamed.symm.trans q3
  have hselP : selectMethod e.platform s.vm cellB.cls mk = .method mk := by rw [Launch.admits_selectMethod X.admits]; exact q4
  obtain ⟨vm₁, X₁, hstep₁⟩ := X.invokevirtual hexec hown hlink hnamed hmethM hstM hkP hkPi hy (a := b) (cell := cellB) hcell
    (fun z h => by rw [h] at hobj; cases hobj) hselP hmethM habM hkP hkPi (g := g) hg (argsL := argsL) (rest := rest) (hlen _ hsigM) hstack hdg
  rcases hK m meth c ⟨T.setVm vm₁, locs, cells, slots⟩ { g with stack := rest } (.invokevirtual index) mk (Value.ref b :: argsL).toArray X₁ hg hsize hdg hW (X₁.named hnamed) (hpre vm₁ X₁.warmed) with ⟨v, B, X', hpost, hsteps⟩ | ⟨q, B, X', hpost, hsteps⟩
  · exact Or.inl ⟨v, vm₁, B, X₁.warmed, X', hpost, fun target h => hstep₁ _ fun acts => by rw [doInvoke_state]; exact hsteps.trans h⟩
  · exact Or.inr ⟨q, vm₁, B, X₁.warmed, X', hpost, hstep₁ _ fun acts => by rw [doInvoke_state]; exact hsteps⟩
theorem vx_callSX (X : Stand p l e R s m args below meth c T locs cells slots) (hexec : p.tables.exec = Jvm.exec) {own : String} {index : Nat} {y : MethodName} {bytes : ByteArray} {maxL : Nat} {ret : Option FieldType} {hh : List (Nat × Nat × Nat × Nat)}
    (hown : s.vm.findClass own = some m.cls) (hlink : (Cond.methodLink own index y).before args s = true) (hstat : (Cond.static y).before args s = true) (hinit : (Cond.initialized y.cls).before args s = true)
    (hcode : (Cond.codeWith y bytes maxL ret hh).before args s = true) (hy : y.cls ≠ "java/lang/invoke/MethodHandle" ∧ y.cls ≠ "java/lang/invoke/VarHandle")
    {W9 : Nat} {Pre : Pt → Array Value → Prop} {Post : Pt → Array Value → Option Value → Pt → Prop} {PostX : Pt → Array Value → Addr → Pt → Prop} (hK : vx_Back l R p e below s args y 3 W9 Pre Post PostX)
    {g : JFrame} (hg : g.method = m) (hsize : g.locals.size = c.maxLocals) {argsL rest : List Value} (hlen : ∀ sig, parseMethodDescriptor y.desc = some sig → argsL.length = sig.parameters.length)
    (hstack : g.stack = argsL.reverse ++ rest) (hW : 2 * g.monitorRoom + (rest.map fun v => v.category).sum ≤ W9) (hdg : decode c.code g.pc = .ok (.invokestatic index, 3))
    (hpre : ∀ vm₁, s.WarmedH vm₁ → Pre ⟨T.setVm vm₁, locs, cells, slots⟩ argsL.toArray) :
    (∃ (v : Option Value) (vm₁ : Vm) (B : Pt), s.WarmedH vm₁ ∧ Stand p l e R s m args below meth c B.U B.locs B.cells B.slots ∧ Post ⟨T.setVm vm₁, locs, cells, slots⟩ argsL.toArray v B ∧
      ∀ target, Steps p.tables e below (B.U.setTop { g with pc := g.pc + 3, stack := v.toList ++ rest }) target → Steps p.tables e below (T.setTop g) target) ∨
    (∃ (q : Addr) (vm₁ : Vm) (B : Pt), s.WarmedH vm₁ ∧ Stand p l e R s m args below meth c B.U B.locs B.cells B.slots ∧ PostX ⟨T.setVm vm₁, locs, cells, slots⟩ argsL.toArray q B ∧
      Steps p.tables e below (T.setTop g) ((B.U.setTop { g with stack := rest }).pushFrame (.throwing q))) := by
  obtain ⟨mk, methM, cM, hnamed, hmethM, -, -, -, -, -, -, hsigM⟩ := Cond.codeWith_spec hcode
  have hstatic : methM.isStatic = true := Cond.static_spec hnamed hmethM hstat
  obtain ⟨kP, hkP, -⟩ := className_of_methodNamed hnamed
  have hinitP : kP.init = .initialized := Cond.initialized_spec (findClass_of_methodNamed hnamed) hkP hinit
  obtain ⟨vm₁, X₁, hstep₁⟩ := X.invokestatic hexec hown hlink hnamed hmethM hstatic hkP hinitP hy (g := g) hg (argsL := argsL) (rest := rest) (hlen _ hsigM) hstack hdg
  rcases hK m meth c ⟨T.setVm vm₁, locs, cells, slots⟩ { g with stack := rest } (.invokestatic index) mk argsL.toArray X₁ hg hsize hdg hW (X₁.named hnamed) (hpre vm₁ X₁.warmed) with ⟨v, B, X', hpost, hsteps⟩ | ⟨q, B, X', hpost, hsteps⟩
  · exact Or.inl ⟨v, vm₁, B, X₁.warmed, X', hpost, fun target h => hstep₁ _ fun acts => by rw [doInvoke_state]; exact hsteps.trans h⟩
  · exact Or.inr ⟨q, vm₁, B, X₁.warmed, X', hpost, hstep₁ _ fun acts => by rw [doInvoke_state]; exact hsteps⟩
theorem vx_callVW (X : Stand p l e R s m args below meth c T locs cells slots) (hexec : p.tables.exec = Jvm.exec) {own C : String} {index : Nat} {y : MethodName} {bytes : ByteArray} {maxL : Nat} {ret : Option FieldType} {hh : List (Nat × Nat × Nat × Nat)}
    (hown : s.vm.findClass own = some m.cls) (hlink : (Cond.methodLink own index y).before args s = true) (hinst : (Cond.instanceMethod y).before args s = true) (hsel : (Cond.selects C y y).before args s = true)
    (hcode : (Cond.codeWith y bytes maxL ret hh).before args s = true) (hy : y.cls ≠ "java/lang/invoke/MethodHandle" ∧ y.cls ≠ "java/lang/invoke/VarHandle")
    {W9 : Nat} {Pre : Pt → Array Value → Prop} {Post : Pt → Array Value → Option Value → Pt → Prop} (hK : Back l R p e below s args y 3 W9 Pre Post)
    {b : Addr} {cellB : Cell} (hcell : T.heap[b]? = some cellB) (hobj : cellB.vm.isStatics = false) (hcls : s.vm.findClass C = some cellB.cls)
    {g : JFrame} (hg : g.method = m) (hsize : g.locals.size = c.maxLocals) {argsL rest : List Value} (hlen : ∀ sig, parseMethodDescriptor y.desc = some sig → argsL.length = sig.parameters.length)
    (hstack : g.stack = argsL.reverse ++ .ref b :: rest) (hW : 2 * g.monitorRoom + (rest.map fun v => v.category).sum ≤ W9) (hdg : decode c.code g.pc = .ok (.invokevirtual index, 3))
    (hpre : ∀ vm₁, s.WarmedH vm₁ → Pre ⟨T.setVm vm₁, locs, cells, slots⟩ (Value.ref b :: argsL).toArray) :
    ∃ (v : Option Value) (vm₁ : Vm) (B : Pt), s.WarmedH vm₁ ∧ Stand p l e R s m args below meth c B.U B.locs B.cells B.slots ∧ Post ⟨T.setVm vm₁, locs, cells, slots⟩ (Value.ref b :: argsL).toArray v B ∧
      ∀ target, Steps p.tables e below (B.U.setTop { g with pc := g.pc + 3, stack := v.toList ++ rest }) target → Steps p.tables e below (T.setTop g) target := by
  obtain ⟨mk, methM, hnamed, hmethM, hstM, habM⟩ := Cond.instanceMethod_spec hinst
  obtain ⟨m8, methM', cM, hn8, hmethM', -, -, -, -, -, -, hsigM⟩ := Cond.codeWith_spec hcode
  cases Option.some.inj (hn8.symm.trans hnamed)
  cases hmethM.symm.trans hmethM'
  obtain ⟨c2, r2, m2, q1, q2, q3, q4, kP, hkP, hkPi⟩ := Cond.selects_spec hsel
  cases hcls.symm.trans q1
  cases (State.methodFound?_of_named hnamed hy).symm.trans q2
  cases hnamed.symm.trans q3
  have hselP : selectMethod e.platform s.vm cellB.cls mk = .method mk := by rw [Launch.admits_selectMethod X.admits]; exact q4
  obtain ⟨vm₁, X₁, hstep₁⟩ := X.invokevirtual hexec hown hlink hnamed hmethM hstM hkP hkPi hy (a := b) (cell := cellB) hcell
    (fun z h => by rw [h] at hobj; cases hobj) hselP hmethM habM hkP hkPi (g := g) hg (argsL := argsL) (rest := rest) (hlen _ hsigM) hstack hdg
  obtain ⟨v, B, X', hpost, hsteps⟩ := hK m meth c ⟨T.setVm vm₁, locs, cells, slots⟩ { g with stack := rest } (.invokevirtual index) mk (Value.ref b :: argsL).toArray X₁ hg hsize hdg hW (X₁.named hnamed) (hpre vm₁ X₁.warmed)
  exact ⟨v, vm₁, B, X₁.warmed, X', hpost, fun target h => hstep₁ _ fun acts => by rw [doInvoke_state]; exact hsteps.trans h⟩
abbrev vx_CVW (R : Room) (s : State) (args : Array Value) (own C : String) (index : Nat) (y : MethodName) (bytes : ByteArray) (maxL : Nat) (ret : Option FieldType) (hh : List (Nat × Nat × Nat × Nat)) (ws : List Cond) (rm : Room) (mc ms n : Nat) : Prop :=
  (rm.cells = mc ∧ rm.slots = ms ∧ rm.frames + 1 ≤ R.frames ∧ 8 + (maxL + 11) + rm.locals ≤ R.locals ∧ (∀ w ∈ ws, ∀ (a' : Array Value) (U : State), s.WarmedH U.vm → w.before a' U = true) ∧ Cond.codeWith y bytes maxL ret hh ∈ ws) ∧
  (Cond.codeWith y bytes maxL ret hh).before args s = true ∧ (Cond.initialized y.cls).before args s = true ∧ (y.cls ≠ "java/lang/invoke/MethodHandle" ∧ y.cls ≠ "java/lang/invoke/VarHandle") ∧
  (∀ sig, parseMethodDescriptor y.desc = some sig → n = sig.parameters.length) ∧ (Cond.methodLink own index y).before args s = true ∧ (Cond.instanceMethod y).before args s = true ∧ (Cond.selects C y y).before args s = true
theorem vx_cwVW {own C : String} {index maxL mc ms : Nat} {y : MethodName} {bytes : ByteArray} {ret : Option FieldType} {hh : List (Nat × Nat × Nat × Nat)} {Ts ws ws' : List Cond} {rm : Room} (n : Nat) (ht : ∀ w ∈ Ts, w.before args s = true) (hT : GoodIn Ts (wsV own index C y ws)) (hw : ws = Cond.codeWith y bytes maxL ret hh :: ws') (hrc : rm.cells = mc) (hrs : rm.slots = ms)
    (hd : y.cls = C ∧ y.cls ≠ "java/lang/invoke/MethodHandle" ∧ y.cls ≠ "java/lang/invoke/VarHandle" ∧ (parseMethodDescriptor y.desc).map (fun d => d.parameters.length) = some n) (hR : rm.frames + 1 ≤ R.frames ∧ 8 + (maxL + 11) + rm.locals ≤ R.locals) :
    vx_CVW R s args own C index y bytes maxL ret hh ws rm mc ms n := by
  obtain ⟨hC, hd⟩ := hd
  subst hC
  have ok : ∀ w ∈ wsV own index y.cls y ws, w.before args s = true := fun w h => ht w (hT w h).1
  have hG : GoodIn Ts ws := fun w h => hT w (by unfold wsV; exact List.mem_append_right _ h)
  have hc : Cond.codeWith y bytes maxL ret hh ∈ ws := by rw [hw]; exact List.mem_cons_self
  refine ⟨⟨hrc, hrs, hR.1, hR.2, pay_in ht hG, hc⟩, ht _ (hG _ hc).1, ok _ (by simp [wsV]), ⟨hd.1, hd.2.1⟩, fun sig h => ?_, ok _ (by simp [wsV]), ok _ (by simp [wsV]), ok _ (by simp [wsV])⟩
  have h2 := hd.2.2
  rw [h] at h2
  exact (Option.some.inj h2).symm
theorem vx_runVW {y : MethodName} {bytes cc : ByteArray} {maxL nL mc ms n index : Nat} {ret : Option FieldType} {hh : List (Nat × Nat × Nat × Nat)} {ws : List Cond} {rm : Room} {Pc : Array Value → State → Prop} {Qc : Array Value → State → Outcome → State → Prop} {free : Addr → Prop} {Ts : List Cond} {own C : String} {b : Addr} {As rest : List Value} {g : JFrame}
    (S : CallFix p m c cc nL s args Ts own) (hM : Met l y ws rm Pc Qc mc ms free) (cw : vx_CVW R s args own C index y bytes maxL ret hh ws rm mc ms n) (hp : PreV s H C b Pc As)
    (hg : g.method = m) (hn : As.length = n) (hsize : g.locals.size = nL) (hstack : g.stack = As.reverse ++ .ref b :: rest) (hW : 2 * g.monitorRoom + (rest.map fun v => v.category).sum ≤ 8) (hdg : decode cc g.pc = .ok (.invokevirtual index, 3)) (hf : cells + mc ≤ R.cells ∧ slots + ms ≤ R.slots) :
    va_Run p l e R s m args below meth c H locs cells slots mc ms g rest (Qc (Value.ref b :: As).toArray) free := by
  obtain ⟨⟨hrc, hrs, hfr, hlo, hws, hcw⟩, hcode, hini, hy, hlen, hl, hin, hse⟩ := cw
  have hK : Back l R p e below s args y 3 8 (PreOf R mc ms Pc) (PostOf Qc mc ms free) := va_backW (hh := hh) (bytes := bytes) (maxL := maxL) (ret := ret) hM hp.1 hrc hrs hfr hlo hws hcw (fun a' U hW => word_at hW (Or.inl (by first | rfl | simp [Cond.onTables, Cond.keeps, Cond.steady])) hini)
  obtain ⟨hx, hb, hml, ho, -⟩ := S
  obtain ⟨-, ⟨cellB, hcB, hoB, hclB⟩, hPc⟩ := hp
  intro T hT X
  obtain ⟨v, vm₁, ⟨U', l2, c2, s2⟩, hW₁, X', ⟨g', mk, t, L, e1, e2, hq, h1, hL, h2, h3⟩, st⟩ := vx_callVW X hx (C := C) (hh := hh) (bytes := bytes) (maxL := maxL) (ret := ret) ho hl hin hse hcode hy hK (by rw [hT]; exact hcB) hoB hclB hg (hsize.trans hml.symm) (argsL := As) (rest := rest) (fun sig h => hn.trans (hlen sig h)) hstack hW (by rw [hb]; exact hdg)
    (fun vm₁ hW₁ => ⟨hf.1, hf.2, hPc (T.setVm vm₁) hT hW₁⟩)
  dsimp only [Pt.U, Pt.locs, Pt.cells, Pt.slots] at X' e1 e2 h1 h2 h3 st
  subst h1; subst h2; subst h3
  exact ⟨v, (T.setVm vm₁).calling g' mk (Value.ref b :: As).toArray, t, U', L, hT, X', hL, e1, e2, hq, st⟩
section
variable {y : MethodName} {bytes cc : ByteArray} {maxL nL mc ms n index : Nat} {ret : Option FieldType} {ws : List Cond} {rm : Room} {Pc : Array Value → State → Prop} {Qc : Array Value → State → Outcome → State → Prop} {XC : String → State → State → Prop} {free : Addr → Prop} {Ts : List Cond} {own C : String} {b : Addr} {As rest : List Value} {g : JFrame}
theorem vx_runVX {hh : List (Nat × Nat × Nat × Nat)} (S : CallFix p m c cc nL s args Ts own) (hM : vx_Met l y ws rm Pc Qc XC mc ms free) (cw : vx_CVW R s args own C index y bytes maxL ret hh ws rm mc ms n) (hp : PreV s H C b Pc As)
    (hg : g.method = m) (hn : As.length = n) (hsize : g.locals.size = nL) (hstack : g.stack = As.reverse ++ .ref b :: rest) (hW : 2 * g.monitorRoom + (rest.map fun v => v.category).sum ≤ 8) (hdg : decode cc g.pc = .ok (.invokevirtual index, 3)) (hf : cells + mc ≤ R.cells ∧ slots + ms ≤ R.slots) :
    vx_Run p l e R s m args below meth c H locs cells slots mc ms g rest (Qc (Value.ref b :: As).toArray) XC free := by
  obtain ⟨⟨hrc, hrs, hfr, hlo, hws, hcw⟩, hcode, hini, hy, hlen, hl, hin, hse⟩ := cw
  have hK : vx_Back l R p e below s args y 3 8 (PreOf R mc ms Pc) (PostOf Qc mc ms free) (vx_Post XC mc ms free) := vx_backW (hh := hh) (bytes := bytes) (maxL := maxL) (ret := ret) hM hp.1 hrc hrs hfr hlo hws hcw (fun a' U hW => word_at hW (Or.inl (by first | rfl | simp [Cond.onTables, Cond.keeps, Cond.steady])) hini)
  obtain ⟨hx, hb, hml, ho, -⟩ := S
  obtain ⟨-, ⟨cellB, hcB, hoB, hclB⟩, hPc⟩ := hp
  intro T hT X
  rcases vx_callVX X hx (C := C) (hh := hh) (bytes := bytes) (maxL := maxL) (ret := ret) ho hl hin hse hcode hy hK (by rw [hT]; exact hcB) hoB hclB hg (hsize.trans hml.symm) (argsL := As) (rest := rest) (fun sig h => hn.trans (hlen sig h)) hstack hW (by rw [hb]; exact hdg)
    (fun vm₁ hW₁ => ⟨hf.1, hf.2, hPc (T.setVm vm₁) hT hW₁⟩) with ⟨v, vm₁, ⟨U', l2, c2, s2⟩, hW₁, X', ⟨g', mk, t, L, e1, e2, hq, h1, hL, h2, h3⟩, st⟩ | ⟨q, vm₁, ⟨U', l2, c2, s2⟩, hW₁, X', ⟨g', mk, t, L, E, ce, e1, e2, hq, hce, hcv, hcl, h1, hL, h2, h3⟩, st⟩
  · dsimp only [Pt.U, Pt.locs, Pt.cells, Pt.slots] at X' e1 e2 h1 h2 h3 st
    subst h1; subst h2; subst h3
    exact Or.inl ⟨v, (T.setVm vm₁).calling g' mk (Value.ref b :: As).toArray, t, U', L, hT, X', hL, e1, e2, hq, st⟩
  · dsimp only [Pt.U, Pt.locs, Pt.cells, Pt.slots] at X' e1 e2 h1 h2 h3 st hcl
    subst h1; subst h2; subst h3
    exact Or.inr ⟨q, (T.setVm vm₁).calling g' mk (Value.ref b :: As).toArray, t, U', L, E, ce, hT, X', hL, e1, e2, hq, hce, hcv, vx_cls hW₁ hcl, st⟩
theorem vx_runSX {hh : List (Nat × Nat × Nat × Nat)} (S : CallFix p m c cc nL s args Ts own) (hM : vx_Met l y ws rm Pc Qc XC mc ms free) (cw : vx_CSW R s args own index y bytes maxL ret hh ws rm mc ms n) (hp : PreS s H Pc As)
    (hg : g.method = m) (hn : As.length = n) (hsize : g.locals.size = nL) (hstack : g.stack = As.reverse ++ rest) (hW : 2 * g.monitorRoom + (rest.map fun v => v.category).sum ≤ 8) (hdg : decode cc g.pc = .ok (.invokestatic index, 3)) (hf : cells + mc ≤ R.cells ∧ slots + ms ≤ R.slots) :
    vx_Run p l e R s m args below meth c H locs cells slots mc ms g rest (Qc As.toArray) XC free := by
  obtain ⟨⟨hrc, hrs, hfr, hlo, hws, hcw⟩, hcode, hini, hy, hlen, hl, hstt⟩ := cw
  have hK : vx_Back l R p e below s args y 3 8 (PreOf R mc ms Pc) (PostOf Qc mc ms free) (vx_Post XC mc ms free) := vx_backW (hh := hh) (bytes := bytes) (maxL := maxL) (ret := ret) hM hp.1 hrc hrs hfr hlo hws hcw (fun a' U hW => word_at hW (Or.inl (by first | rfl | simp [Cond.onTables, Cond.keeps, Cond.steady])) hini)
  obtain ⟨hx, hb, hml, ho, -⟩ := S
  intro T hT X
  rcases vx_callSX X hx (hh := hh) (bytes := bytes) (maxL := maxL) (ret := ret) ho hl hstt hini hcode hy hK hg (hsize.trans hml.symm) (argsL := As) (rest := rest) (fun sig h => hn.trans (hlen sig h)) hstack hW (by rw [hb]; exact hdg)
    (fun vm₁ hW₁ => ⟨hf.1, hf.2, hp.2 (T.setVm vm₁) hT hW₁⟩) with ⟨v, vm₁, ⟨U', l2, c2, s2⟩, hW₁, X', ⟨g', mk, t, L, e1, e2, hq, h1, hL, h2, h3⟩, st⟩ | ⟨q, vm₁, ⟨U', l2, c2, s2⟩, hW₁, X', ⟨g', mk, t, L, E, ce, e1, e2, hq, hce, hcv, hcl, h1, hL, h2, h3⟩, st⟩
  · dsimp only [Pt.U, Pt.locs, Pt.cells, Pt.slots] at X' e1 e2 h1 h2 h3 st
    subst h1; subst h2; subst h3
    exact Or.inl ⟨v, (T.setVm vm₁).calling g' mk As.toArray, t, U', L, hT, X', hL, e1, e2, hq, st⟩
  · dsimp only [Pt.U, Pt.locs, Pt.cells, Pt.slots] at X' e1 e2 h1 h2 h3 st hcl
    subst h1; subst h2; subst h3
    exact Or.inr ⟨q, (T.setVm vm₁).calling g' mk As.toArray, t, U', L, E, ce, hT, X', hL, e1, e2, hq, hce, hcv, vx_cls hW₁ hcl, st⟩
end
end VXH
theorem vx_ofWH {l : Launch} {y : MethodName} {ws ws' : List Cond} {rm : Room} {Pc : Array Value → State → Prop} {Qc : Array Value → State → Outcome → State → Prop} {XC : String → State → State → Prop} {mc ms : Nat} {free : Addr → Prop} {cc : ByteArray} {maxL : Nat} {ret : Option FieldType} {hh : List (Nat × Nat × Nat × Nat)}
    (hy : plainName y.cls = true) (hw : ws = Cond.codeWith y cc maxL ret hh :: ws')
    (body : ∀ p e s m args below meth c s₁, BodyLoose p l y (headSpec ws rm) cc maxL ret e s m args below meth c s₁ → c.maxLocals = maxL → Pc args s →
      W p l e (headSpec ws rm).room s m args below meth c s.heap [] 0 0 (vx_MQ below Qc XC args s mc ms free) (entryFrame m args maxL)) : vx_Met l y ws rm Pc Qc XC mc ms free := by
  refine MetFree.of_bodyS (code := cc) (maxLocals := maxL) (ret := ret) hy ?_ ?_
  · intro args s m h hn
    obtain ⟨m9, meth, c, hn9, h1, h2, h3, h4, -, h5, h6, -⟩ := Cond.codeWith_spec (atoms_spec (ws := ws) h _ (by rw [hw]; exact List.mem_cons_self))
    cases hn.symm.trans hn9
    exact ⟨meth, c, h1, h2, h3, h4, h5, h6⟩
  · intro p e s m args below meth c s₁ B hml hP _
    have hh0 : s₁.heap = s.heap := by rw [B.state]; rfl
    obtain ⟨t, a1, o, b1, b2, b3⟩ := body p e s m args below meth c s₁ B hml hP s₁ hh0 (Stand.of_body B)
    exact ⟨t, o, a1, b1, b2, b3⟩
/-! ===== END ===== -/
end
section

def RX0 : String := "Judgefold$Balloons"
def TX0 : u_T := fun k => match k with
  | 0 => ("Judgefold$Balloons", "states", "[C", true)
  | 1 => ("Judgefold$Balloons", "queues", "[[I", true)
  | 2 => ("Judgefold$Balloons", "queueSizes", "[I", true)
  | 3 => ("Judgefold$Balloons", "stocks", "[I", true)
  | 4 => ("Judgefold$Balloons", "outCounts", "[I", true)
  | _ => ("Judgefold$Balloons", "callBacks", "I", false)
def tyX0 : Nat → FieldType := fun k => match k with
  | 0 => .array .char
  | 1 => .array (.array .int)
  | 2 => .array .int
  | 3 => .array .int
  | 4 => .array .int
  | _ => .int
abbrev wsX00 : List Cond := u_ws RX0 TX0 6
theorem nmX0 : ∀ a, a < 6 → ∀ b, b < 6 → a ≠ b → (TX0 a).2.1 ≠ (TX0 b).2.1 := by decide +kernel
theorem tyX0_ok : ∀ k, k < 6 → parseFieldDescriptor (TX0 k).2.2.1 = some (tyX0 k) := by decide +kernel
abbrev cX0_init : ByteArray := prog_2_method_1_code
def yX0_init : MethodName := ⟨RX0, "<init>", "()V"⟩
abbrev cX0_follow : ByteArray := prog_2_method_2_code
def yX0_follow : MethodName := ⟨RX0, "follow", "(LJudgefold$Board;II)V"⟩
abbrev cX0_serve : ByteArray := prog_2_method_3_code
def yX0_serve : MethodName := ⟨RX0, "serve", "(I)V"⟩
abbrev cX0_isStockLeftOver : ByteArray := prog_2_method_4_code
def yX0_isStockLeftOver : MethodName := ⟨RX0, "isStockLeftOver", "()Z"⟩
abbrev cX0_takeAway : ByteArray := prog_2_method_5_code
def yX0_takeAway : MethodName := ⟨RX0, "takeAway", "(II)V"⟩
abbrev cX0_enqueue : ByteArray := prog_2_method_6_code
def yX0_enqueue : MethodName := ⟨RX0, "enqueue", "(II)V"⟩
abbrev cX0_leaveQueue : ByteArray := prog_2_method_7_code
def yX0_leaveQueue : MethodName := ⟨RX0, "leaveQueue", "(II)V"⟩
abbrev cX0_dropFromQueue : ByteArray := prog_2_method_8_code
def yX0_dropFromQueue : MethodName := ⟨RX0, "dropFromQueue", "(III)V"⟩
def RX1 : String := "Judgefold$Board"
def TX1 : u_T := fun k => match k with
  | 0 => ("Judgefold$Board", "failures", "[I", true)
  | 1 => ("Judgefold$Board", "firstMinutes", "[I", true)
  | 2 => ("Judgefold$Board", "solvedCounts", "[I", true)
  | 3 => ("Judgefold$Board", "penalties", "[I", true)
  | 4 => ("Judgefold$Board", "latestMinutes", "[I", true)
  | 5 => ("Judgefold$Board", "order", "[I", true)
  | _ => ("Judgefold$Board", "teamCount", "I", false)
def tyX1 : Nat → FieldType := fun k => match k with
  | 0 => .array .int
  | 1 => .array .int
  | 2 => .array .int
  | 3 => .array .int
  | 4 => .array .int
  | 5 => .array .int
  | _ => .int
abbrev wsX10 : List Cond := u_ws RX1 TX1 7
theorem nmX1 : ∀ a, a < 7 → ∀ b, b < 7 → a ≠ b → (TX1 a).2.1 ≠ (TX1 b).2.1 := by decide +kernel
theorem tyX1_ok : ∀ k, k < 7 → parseFieldDescriptor (TX1 k).2.2.1 = some (tyX1 k) := by decide +kernel
abbrev cX1_init : ByteArray := prog_3_method_1_code
def yX1_init : MethodName := ⟨RX1, "<init>", "()V"⟩
abbrev cX1_recount : ByteArray := prog_3_method_2_code
def yX1_recount : MethodName := ⟨RX1, "recount", "([LJudgefold$Run;IIZ)V"⟩
abbrev cX1_hasSolved : ByteArray := prog_3_method_3_code
def yX1_hasSolved : MethodName := ⟨RX1, "hasSolved", "(I)Z"⟩
abbrev cX1_rankOf : ByteArray := prog_3_method_4_code
def yX1_rankOf : MethodName := ⟨RX1, "rankOf", "(I)I"⟩
abbrev cX1_isLike : ByteArray := prog_3_method_5_code
def yX1_isLike : MethodName := ⟨RX1, "isLike", "(LJudgefold$Board;)Z"⟩
abbrev cX1_clear : ByteArray := prog_3_method_6_code
def yX1_clear : MethodName := ⟨RX1, "clear", "()V"⟩
abbrev cX1_count : ByteArray := prog_3_method_7_code
def yX1_count : MethodName := ⟨RX1, "count", "(LJudgefold$Run;)V"⟩
abbrev cX1_putInOrder : ByteArray := prog_3_method_8_code
def yX1_putInOrder : MethodName := ⟨RX1, "putInOrder", "()V"⟩
abbrev cX1_isAhead : ByteArray := prog_3_method_9_code
def yX1_isAhead : MethodName := ⟨RX1, "isAhead", "(II)Z"⟩
def RX2 : String := "Judgefold$Machine"
def TX2 : u_T := fun k => match k with
  | 0 => ("Judgefold$Machine", "places", "[I", true)
  | 1 => ("Judgefold$Machine", "output", "[I", true)
  | 2 => ("Judgefold$Machine", "outputSize", "I", false)
  | 3 => ("Judgefold$Machine", "inputsTaken", "I", false)
  | 4 => ("Judgefold$Machine", "nextStep", "I", false)
  | 5 => ("Judgefold$Machine", "stepsDone", "I", false)
  | _ => ("Judgefold$Machine", "ending", "C", false)
def tyX2 : Nat → FieldType := fun k => match k with
  | 0 => .array .int
  | 1 => .array .int
  | 2 => .int
  | 3 => .int
  | 4 => .int
  | 5 => .int
  | _ => .char
abbrev wsX20 : List Cond := u_ws RX2 TX2 7
theorem nmX2 : ∀ a, a < 7 → ∀ b, b < 7 → a ≠ b → (TX2 a).2.1 ≠ (TX2 b).2.1 := by decide +kernel
theorem tyX2_ok : ∀ k, k < 7 → parseFieldDescriptor (TX2 k).2.2.1 = some (tyX2 k) := by decide +kernel
abbrev cX2_init : ByteArray := prog_4_method_1_code
def yX2_init : MethodName := ⟨RX2, "<init>", "()V"⟩
abbrev cX2_execute : ByteArray := prog_4_method_2_code
def yX2_execute : MethodName := ⟨RX2, "execute", "(LJudgefold$Program;LJudgefold$Numbers;I)V"⟩
abbrev cX2_reset : ByteArray := prog_4_method_3_code
def yX2_reset : MethodName := ⟨RX2, "reset", "()V"⟩
abbrev cX2_doNextStep : ByteArray := prog_4_method_4_code
def yX2_doNextStep : MethodName := ⟨RX2, "doNextStep", "(LJudgefold$Program;LJudgefold$Numbers;)V"⟩
abbrev cX2_takeInput : ByteArray := prog_4_method_5_code
def yX2_takeInput : MethodName := ⟨RX2, "takeInput", "(ILJudgefold$Numbers;)V"⟩
abbrev cX2_putOut : ByteArray := prog_4_method_6_code
def yX2_putOut : MethodName := ⟨RX2, "putOut", "(I)V"⟩
abbrev cX2_divide : ByteArray := prog_4_method_7_code
def yX2_divide : MethodName := ⟨RX2, "divide", "(II)V"⟩
abbrev cX2_goIf : ByteArray := prog_4_method_8_code
def yX2_goIf : MethodName := ⟨RX2, "goIf", "(ZII)V"⟩
def RX3 : String := "Judgefold$Numbers"
def TX3 : u_T := fun k => match k with
  | 0 => ("Judgefold$Numbers", "input", "[I", true)
  | 1 => ("Judgefold$Numbers", "expected", "[I", true)
  | 2 => ("Judgefold$Numbers", "inputSize", "I", false)
  | _ => ("Judgefold$Numbers", "expectedSize", "I", false)
def tyX3 : Nat → FieldType := fun k => match k with
  | 0 => .array .int
  | 1 => .array .int
  | 2 => .int
  | _ => .int
abbrev wsX30 : List Cond := u_ws RX3 TX3 4
theorem nmX3 : ∀ a, a < 4 → ∀ b, b < 4 → a ≠ b → (TX3 a).2.1 ≠ (TX3 b).2.1 := by decide +kernel
theorem tyX3_ok : ∀ k, k < 4 → parseFieldDescriptor (TX3 k).2.2.1 = some (tyX3 k) := by decide +kernel
abbrev cX3_init : ByteArray := prog_5_method_1_code
def yX3_init : MethodName := ⟨RX3, "<init>", "()V"⟩
abbrev cX3_hasRoom : ByteArray := prog_5_method_2_code
def yX3_hasRoom : MethodName := ⟨RX3, "hasRoom", "(Z)Z"⟩
abbrev cX3_append : ByteArray := prog_5_method_3_code
def yX3_append : MethodName := ⟨RX3, "append", "(IZ)I"⟩
abbrev cX3_clear : ByteArray := prog_5_method_4_code
def yX3_clear : MethodName := ⟨RX3, "clear", "()I"⟩
abbrev cX3_copyFrom : ByteArray := prog_5_method_5_code
def yX3_copyFrom : MethodName := ⟨RX3, "copyFrom", "(LJudgefold$Numbers;)V"⟩
abbrev cX3_isExpected : ByteArray := prog_5_method_6_code
def yX3_isExpected : MethodName := ⟨RX3, "isExpected", "([II)Z"⟩
def RX4 : String := "Judgefold$Problem"
def TX4 : u_T := fun k => match k with
  | 0 => ("Judgefold$Problem", "contents", "[LJudgefold$Numbers;", true)
  | 1 => ("Judgefold$Problem", "colour", "I", false)
  | 2 => ("Judgefold$Problem", "limit", "I", false)
  | _ => ("Judgefold$Problem", "testCount", "I", false)
def tyX4 : Nat → FieldType := fun k => match k with
  | 0 => .array (.object "Judgefold$Numbers")
  | 1 => .int
  | 2 => .int
  | _ => .int
abbrev wsX40 : List Cond := u_ws RX4 TX4 4
theorem nmX4 : ∀ a, a < 4 → ∀ b, b < 4 → a ≠ b → (TX4 a).2.1 ≠ (TX4 b).2.1 := by decide +kernel
theorem tyX4_ok : ∀ k, k < 4 → parseFieldDescriptor (TX4 k).2.2.1 = some (tyX4 k) := by decide +kernel
abbrev cX4_init : ByteArray := prog_6_method_1_code
def yX4_init : MethodName := ⟨RX4, "<init>", "()V"⟩
abbrev cX4_hasTest : ByteArray := prog_6_method_2_code
def yX4_hasTest : MethodName := ⟨RX4, "hasTest", "(I)Z"⟩
def RX5 : String := "Judgefold$Program"
def TX5 : u_T := fun k => match k with
  | 0 => ("Judgefold$Program", "letters", "[C", true)
  | 1 => ("Judgefold$Program", "firsts", "[I", true)
  | 2 => ("Judgefold$Program", "seconds", "[I", true)
  | _ => ("Judgefold$Program", "size", "I", false)
def tyX5 : Nat → FieldType := fun k => match k with
  | 0 => .array .char
  | 1 => .array .int
  | 2 => .array .int
  | _ => .int
abbrev wsX50 : List Cond := u_ws RX5 TX5 4
theorem nmX5 : ∀ a, a < 4 → ∀ b, b < 4 → a ≠ b → (TX5 a).2.1 ≠ (TX5 b).2.1 := by decide +kernel
theorem tyX5_ok : ∀ k, k < 4 → parseFieldDescriptor (TX5 k).2.2.1 = some (tyX5 k) := by decide +kernel
abbrev cX5_init : ByteArray := prog_7_method_1_code
def yX5_init : MethodName := ⟨RX5, "<init>", "()V"⟩
abbrev cX5_append : ByteArray := prog_7_method_2_code
def yX5_append : MethodName := ⟨RX5, "append", "(CII)V"⟩
abbrev cX5_clear : ByteArray := prog_7_method_3_code
def yX5_clear : MethodName := ⟨RX5, "clear", "()I"⟩
abbrev cX5_copyFrom : ByteArray := prog_7_method_4_code
def yX5_copyFrom : MethodName := ⟨RX5, "copyFrom", "(LJudgefold$Program;)V"⟩
def RX6 : String := "Judgefold$Run"
def TX6 : u_T := fun k => match k with
  | 0 => ("Judgefold$Run", "program", "LJudgefold$Program;", true)
  | 1 => ("Judgefold$Run", "endings", "[C", true)
  | 2 => ("Judgefold$Run", "stepCounts", "[I", true)
  | 3 => ("Judgefold$Run", "slots", "[I", true)
  | 4 => ("Judgefold$Run", "team", "I", false)
  | 5 => ("Judgefold$Run", "problem", "I", false)
  | 6 => ("Judgefold$Run", "minute", "I", false)
  | 7 => ("Judgefold$Run", "isPending", "Z", false)
  | 8 => ("Judgefold$Run", "verdict", "C", false)
  | _ => ("Judgefold$Run", "failedTest", "I", false)
def tyX6 : Nat → FieldType := fun k => match k with
  | 0 => .object "Judgefold$Program"
  | 1 => .array .char
  | 2 => .array .int
  | 3 => .array .int
  | 4 => .int
  | 5 => .int
  | 6 => .int
  | 7 => .boolean
  | 8 => .char
  | _ => .int
abbrev wsX60 : List Cond := u_ws RX6 TX6 10
theorem nmX6 : ∀ a, a < 10 → ∀ b, b < 10 → a ≠ b → (TX6 a).2.1 ≠ (TX6 b).2.1 := by decide +kernel
theorem tyX6_ok : ∀ k, k < 10 → parseFieldDescriptor (TX6 k).2.2.1 = some (tyX6 k) := by decide +kernel
abbrev cX6_init : ByteArray := prog_8_method_1_code
def yX6_init : MethodName := ⟨RX6, "<init>", "()V"⟩
abbrev cX6_conclude : ByteArray := prog_8_method_2_code
def yX6_conclude : MethodName := ⟨RX6, "conclude", "(I)V"⟩
def RX7 : String := "Judgefold$Store"
def TX7 : u_T := fun k => match k with
  | 0 => ("Judgefold$Store", "numbers", "[I", true)
  | 1 => ("Judgefold$Store", "sizes", "[I", true)
  | 2 => ("Judgefold$Store", "users", "[I", true)
  | _ => ("Judgefold$Store", "usedSlots", "I", false)
def tyX7 : Nat → FieldType := fun k => match k with
  | 0 => .array .int
  | 1 => .array .int
  | 2 => .array .int
  | _ => .int
abbrev wsX70 : List Cond := u_ws RX7 TX7 4
theorem nmX7 : ∀ a, a < 4 → ∀ b, b < 4 → a ≠ b → (TX7 a).2.1 ≠ (TX7 b).2.1 := by decide +kernel
theorem tyX7_ok : ∀ k, k < 4 → parseFieldDescriptor (TX7 k).2.2.1 = some (tyX7 k) := by decide +kernel
abbrev cX7_init : ByteArray := prog_9_method_1_code
def yX7_init : MethodName := ⟨RX7, "<init>", "()V"⟩
abbrev cX7_keep : ByteArray := prog_9_method_2_code
def yX7_keep : MethodName := ⟨RX7, "keep", "([II)I"⟩
abbrev cX7_release : ByteArray := prog_9_method_3_code
def yX7_release : MethodName := ⟨RX7, "release", "(I)V"⟩
abbrev cX7_numberAt : ByteArray := prog_9_method_4_code
def yX7_numberAt : MethodName := ⟨RX7, "numberAt", "(II)I"⟩
abbrev cX7_isAlike : ByteArray := prog_9_method_5_code
def yX7_isAlike : MethodName := ⟨RX7, "isAlike", "(I[II)Z"⟩
abbrev cX7_addTo : ByteArray := prog_9_method_6_code
def yX7_addTo : MethodName := ⟨RX7, "addTo", "(JI)J"⟩
abbrev cX7_find : ByteArray := prog_9_method_7_code
def yX7_find : MethodName := ⟨RX7, "find", "([II)I"⟩
abbrev cX7_firstFree : ByteArray := prog_9_method_8_code
def yX7_firstFree : MethodName := ⟨RX7, "firstFree", "()I"⟩
abbrev cX7_fill : ByteArray := prog_9_method_9_code
def yX7_fill : MethodName := ⟨RX7, "fill", "(I[II)V"⟩
def RX8 : String := "Judgefold"
def TX8 : u_T := fun k => match k with
  | 0 => ("Judgefold", "typedProgram", "LJudgefold$Program;", true)
  | 1 => ("Judgefold", "typedNumbers", "LJudgefold$Numbers;", true)
  | 2 => ("Judgefold", "problems", "[LJudgefold$Problem;", true)
  | 3 => ("Judgefold", "runs", "[LJudgefold$Run;", true)
  | 4 => ("Judgefold", "machine", "LJudgefold$Machine;", true)
  | 5 => ("Judgefold", "store", "LJudgefold$Store;", true)
  | 6 => ("Judgefold", "balloons", "LJudgefold$Balloons;", true)
  | 7 => ("Judgefold", "trueBoard", "LJudgefold$Board;", true)
  | 8 => ("Judgefold", "publicBoard", "LJudgefold$Board;", true)
  | 9 => ("Judgefold", "freshBoard", "LJudgefold$Board;", true)
  | 10 => ("Judgefold", "problemCount", "I", false)
  | 11 => ("Judgefold", "teamCount", "I", false)
  | 12 => ("Judgefold", "runCount", "I", false)
  | _ => ("Judgefold", "freezeMinute", "I", false)
def tyX8 : Nat → FieldType := fun k => match k with
  | 0 => .object "Judgefold$Program"
  | 1 => .object "Judgefold$Numbers"
  | 2 => .array (.object "Judgefold$Problem")
  | 3 => .array (.object "Judgefold$Run")
  | 4 => .object "Judgefold$Machine"
  | 5 => .object "Judgefold$Store"
  | 6 => .object "Judgefold$Balloons"
  | 7 => .object "Judgefold$Board"
  | 8 => .object "Judgefold$Board"
  | 9 => .object "Judgefold$Board"
  | 10 => .int
  | 11 => .int
  | 12 => .int
  | _ => .int
abbrev wsX80 : List Cond := u_ws RX8 TX8 14
theorem nmX8 : ∀ a, a < 14 → ∀ b, b < 14 → a ≠ b → (TX8 a).2.1 ≠ (TX8 b).2.1 := by decide +kernel
theorem tyX8_ok : ∀ k, k < 14 → parseFieldDescriptor (TX8 k).2.2.1 = some (tyX8 k) := by decide +kernel
abbrev cX8_init : ByteArray := prog_1_method_1_code
def yX8_init : MethodName := ⟨RX8, "<init>", "()V"⟩
abbrev cX8_step : ByteArray := prog_1_method_2_code
def yX8_step : MethodName := ⟨RX8, "step", "(CII)I"⟩
abbrev cX8_number : ByteArray := prog_1_method_3_code
def yX8_number : MethodName := ⟨RX8, "number", "(IZ)I"⟩
abbrev cX8_wipe : ByteArray := prog_1_method_4_code
def yX8_wipe : MethodName := ⟨RX8, "wipe", "(Z)I"⟩
abbrev cX8_problem : ByteArray := prog_1_method_5_code
def yX8_problem : MethodName := ⟨RX8, "problem", "(II)I"⟩
abbrev cX8_test : ByteArray := prog_1_method_6_code
def yX8_test : MethodName := ⟨RX8, "test", "(I)I"⟩
abbrev cX8_fix : ByteArray := prog_1_method_7_code
def yX8_fix : MethodName := ⟨RX8, "fix", "(II)I"⟩
abbrev cX8_tests : ByteArray := prog_1_method_8_code
def yX8_tests : MethodName := ⟨RX8, "tests", "(I)I"⟩
abbrev cX8_team : ByteArray := prog_1_method_9_code
def yX8_team : MethodName := ⟨RX8, "team", "()I"⟩
abbrev cX8_submit : ByteArray := prog_1_method_10_code
def yX8_submit : MethodName := ⟨RX8, "submit", "(III)I"⟩
abbrev cX8_verdict : ByteArray := prog_1_method_11_code
def yX8_verdict : MethodName := ⟨RX8, "verdict", "(I)C"⟩
abbrev cX8_failed : ByteArray := prog_1_method_12_code
def yX8_failed : MethodName := ⟨RX8, "failed", "(I)I"⟩
abbrev cX8_ended : ByteArray := prog_1_method_13_code
def yX8_ended : MethodName := ⟨RX8, "ended", "(II)C"⟩
abbrev cX8_steps : ByteArray := prog_1_method_14_code
def yX8_steps : MethodName := ⟨RX8, "steps", "(II)I"⟩
abbrev cX8_outputs : ByteArray := prog_1_method_15_code
def yX8_outputs : MethodName := ⟨RX8, "outputs", "(II)I"⟩
abbrev cX8_output : ByteArray := prog_1_method_16_code
def yX8_output : MethodName := ⟨RX8, "output", "(III)I"⟩
abbrev cX8_kept : ByteArray := prog_1_method_17_code
def yX8_kept : MethodName := ⟨RX8, "kept", "()I"⟩
abbrev cX8_sharing : ByteArray := prog_1_method_18_code
def yX8_sharing : MethodName := ⟨RX8, "sharing", "(II)I"⟩
abbrev cX8_stock : ByteArray := prog_1_method_19_code
def yX8_stock : MethodName := ⟨RX8, "stock", "(II)I"⟩
abbrev cX8_inStock : ByteArray := prog_1_method_20_code
def yX8_inStock : MethodName := ⟨RX8, "inStock", "(I)I"⟩
abbrev cX8_out : ByteArray := prog_1_method_21_code
def yX8_out : MethodName := ⟨RX8, "out", "(I)I"⟩
abbrev cX8_balloon : ByteArray := prog_1_method_22_code
def yX8_balloon : MethodName := ⟨RX8, "balloon", "(II)C"⟩
abbrev cX8_waiting : ByteArray := prog_1_method_23_code
def yX8_waiting : MethodName := ⟨RX8, "waiting", "(II)I"⟩
abbrev cX8_calledBack : ByteArray := prog_1_method_24_code
def yX8_calledBack : MethodName := ⟨RX8, "calledBack", "()I"⟩
abbrev cX8_freeze : ByteArray := prog_1_method_25_code
def yX8_freeze : MethodName := ⟨RX8, "freeze", "(I)I"⟩
abbrev cX8_pending : ByteArray := prog_1_method_26_code
def yX8_pending : MethodName := ⟨RX8, "pending", "(II)I"⟩
abbrev cX8_open : ByteArray := prog_1_method_27_code
def yX8_open : MethodName := ⟨RX8, "open", "()I"⟩
abbrev cX8_solved : ByteArray := prog_1_method_28_code
def yX8_solved : MethodName := ⟨RX8, "solved", "(IZ)I"⟩
abbrev cX8_penalty : ByteArray := prog_1_method_29_code
def yX8_penalty : MethodName := ⟨RX8, "penalty", "(IZ)I"⟩
abbrev cX8_rank : ByteArray := prog_1_method_30_code
def yX8_rank : MethodName := ⟨RX8, "rank", "(IZ)I"⟩
abbrev cX8_ranked : ByteArray := prog_1_method_31_code
def yX8_ranked : MethodName := ⟨RX8, "ranked", "(IZ)I"⟩
abbrev cX8_acceptedShare : ByteArray := prog_1_method_32_code
def yX8_acceptedShare : MethodName := ⟨RX8, "acceptedShare", "()F"⟩
abbrev cX8_meanSteps : ByteArray := prog_1_method_33_code
def yX8_meanSteps : MethodName := ⟨RX8, "meanSteps", "()D"⟩
abbrev cX8_checksum : ByteArray := prog_1_method_34_code
def yX8_checksum : MethodName := ⟨RX8, "checksum", "()J"⟩
abbrev cX8_isTrue : ByteArray := prog_1_method_35_code
def yX8_isTrue : MethodName := ⟨RX8, "isTrue", "()Z"⟩
abbrev cX8_isWithin : ByteArray := prog_1_method_36_code
def yX8_isWithin : MethodName := ⟨RX8, "isWithin", "(III)Z"⟩
abbrev cX8_isPlace : ByteArray := prog_1_method_37_code
def yX8_isPlace : MethodName := ⟨RX8, "isPlace", "(I)Z"⟩
abbrev cX8_isNumber : ByteArray := prog_1_method_38_code
def yX8_isNumber : MethodName := ⟨RX8, "isNumber", "(I)Z"⟩
abbrev cX8_isColour : ByteArray := prog_1_method_39_code
def yX8_isColour : MethodName := ⟨RX8, "isColour", "(I)Z"⟩
abbrev cX8_isStep : ByteArray := prog_1_method_40_code
def yX8_isStep : MethodName := ⟨RX8, "isStep", "(CII)Z"⟩
abbrev cX8_spotOf : ByteArray := prog_1_method_41_code
def yX8_spotOf : MethodName := ⟨RX8, "spotOf", "(II)I"⟩
abbrev cX8_teamOf : ByteArray := prog_1_method_42_code
def yX8_teamOf : MethodName := ⟨RX8, "teamOf", "(I)I"⟩
abbrev cX8_hasProblem : ByteArray := prog_1_method_43_code
def yX8_hasProblem : MethodName := ⟨RX8, "hasProblem", "(I)Z"⟩
abbrev cX8_hasTeam : ByteArray := prog_1_method_44_code
def yX8_hasTeam : MethodName := ⟨RX8, "hasTeam", "(I)Z"⟩
abbrev cX8_hasRun : ByteArray := prog_1_method_45_code
def yX8_hasRun : MethodName := ⟨RX8, "hasRun", "(I)Z"⟩
abbrev cX8_hasTestOfRun : ByteArray := prog_1_method_46_code
def yX8_hasTestOfRun : MethodName := ⟨RX8, "hasTestOfRun", "(II)Z"⟩
abbrev cX8_testCountOf : ByteArray := prog_1_method_47_code
def yX8_testCountOf : MethodName := ⟨RX8, "testCountOf", "(LJudgefold$Run;)I"⟩
abbrev cX8_lastMinute : ByteArray := prog_1_method_48_code
def yX8_lastMinute : MethodName := ⟨RX8, "lastMinute", "()I"⟩
abbrev cX8_boardOf : ByteArray := prog_1_method_49_code
def yX8_boardOf : MethodName := ⟨RX8, "boardOf", "(Z)LJudgefold$Board;"⟩
abbrev cX8_recountBoards : ByteArray := prog_1_method_50_code
def yX8_recountBoards : MethodName := ⟨RX8, "recountBoards", "()V"⟩
abbrev cX8_judgeByAll : ByteArray := prog_1_method_51_code
def yX8_judgeByAll : MethodName := ⟨RX8, "judgeByAll", "(LJudgefold$Run;)V"⟩
abbrev cX8_judge : ByteArray := prog_1_method_52_code
def yX8_judge : MethodName := ⟨RX8, "judge", "(LJudgefold$Run;I)V"⟩
abbrev cX8_judgeAnew : ByteArray := prog_1_method_53_code
def yX8_judgeAnew : MethodName := ⟨RX8, "judgeAnew", "(II)I"⟩
abbrev cX8_countPending : ByteArray := prog_1_method_54_code
def yX8_countPending : MethodName := ⟨RX8, "countPending", "(II)I"⟩
abbrev cX8_lowestPendingProblem : ByteArray := prog_1_method_55_code
def yX8_lowestPendingProblem : MethodName := ⟨RX8, "lowestPendingProblem", "(I)I"⟩
abbrev cX8_lowestPendingTeam : ByteArray := prog_1_method_56_code
def yX8_lowestPendingTeam : MethodName := ⟨RX8, "lowestPendingTeam", "()I"⟩
abbrev cX8_openRuns : ByteArray := prog_1_method_57_code
def yX8_openRuns : MethodName := ⟨RX8, "openRuns", "(II)V"⟩
abbrev cX8_isRankedAnew : ByteArray := prog_1_method_58_code
def yX8_isRankedAnew : MethodName := ⟨RX8, "isRankedAnew", "(Z)Z"⟩
abbrev cX8_areBalloonsEarned : ByteArray := prog_1_method_59_code
def yX8_areBalloonsEarned : MethodName := ⟨RX8, "areBalloonsEarned", "()Z"⟩
abbrev cX8_areOutputsAnew : ByteArray := prog_1_method_60_code
def yX8_areOutputsAnew : MethodName := ⟨RX8, "areOutputsAnew", "()Z"⟩
def RX9 : String := "JudgefoldModel"
def TX9 : u_T := fun k => match k with
  | 0 => ("JudgefoldModel", "code", "I", false)
  | 1 => ("JudgefoldModel", "steps", "I", false)
  | 2 => ("JudgefoldModel", "letter", "[C", true)
  | 3 => ("JudgefoldModel", "stepA", "[I", true)
  | 4 => ("JudgefoldModel", "stepB", "[I", true)
  | 5 => ("JudgefoldModel", "inputs", "I", false)
  | 6 => ("JudgefoldModel", "expecteds", "I", false)
  | 7 => ("JudgefoldModel", "input", "[I", true)
  | 8 => ("JudgefoldModel", "expected", "[I", true)
  | 9 => ("JudgefoldModel", "problems", "I", false)
  | 10 => ("JudgefoldModel", "colour", "[I", true)
  | 11 => ("JudgefoldModel", "limit", "[I", true)
  | 12 => ("JudgefoldModel", "tests", "[I", true)
  | 13 => ("JudgefoldModel", "testInput", "[I", true)
  | 14 => ("JudgefoldModel", "testInputs", "[I", true)
  | 15 => ("JudgefoldModel", "testExpected", "[I", true)
  | 16 => ("JudgefoldModel", "testExpecteds", "[I", true)
  | 17 => ("JudgefoldModel", "teams", "I", false)
  | 18 => ("JudgefoldModel", "runs", "I", false)
  | 19 => ("JudgefoldModel", "team", "[I", true)
  | 20 => ("JudgefoldModel", "problem", "[I", true)
  | 21 => ("JudgefoldModel", "minute", "[I", true)
  | 22 => ("JudgefoldModel", "length", "[I", true)
  | 23 => ("JudgefoldModel", "runLetter", "[C", true)
  | 24 => ("JudgefoldModel", "runA", "[I", true)
  | 25 => ("JudgefoldModel", "runB", "[I", true)
  | 26 => ("JudgefoldModel", "end", "[C", true)
  | 27 => ("JudgefoldModel", "done", "[I", true)
  | 28 => ("JudgefoldModel", "output", "[I", true)
  | 29 => ("JudgefoldModel", "outputs", "[I", true)
  | 30 => ("JudgefoldModel", "place", "[I", true)
  | 31 => ("JudgefoldModel", "balloon", "[C", true)
  | 32 => ("JudgefoldModel", "since", "[I", true)
  | 33 => ("JudgefoldModel", "stock", "[I", true)
  | 34 => ("JudgefoldModel", "stamp", "I", false)
  | 35 => ("JudgefoldModel", "called", "I", false)
  | 36 => ("JudgefoldModel", "frozen", "I", false)
  | _ => ("JudgefoldModel", "isOpened", "[Z", true)
def tyX9 : Nat → FieldType := fun k => match k with
  | 0 => .int
  | 1 => .int
  | 2 => .array .char
  | 3 => .array .int
  | 4 => .array .int
  | 5 => .int
  | 6 => .int
  | 7 => .array .int
  | 8 => .array .int
  | 9 => .int
  | 10 => .array .int
  | 11 => .array .int
  | 12 => .array .int
  | 13 => .array .int
  | 14 => .array .int
  | 15 => .array .int
  | 16 => .array .int
  | 17 => .int
  | 18 => .int
  | 19 => .array .int
  | 20 => .array .int
  | 21 => .array .int
  | 22 => .array .int
  | 23 => .array .char
  | 24 => .array .int
  | 25 => .array .int
  | 26 => .array .char
  | 27 => .array .int
  | 28 => .array .int
  | 29 => .array .int
  | 30 => .array .int
  | 31 => .array .char
  | 32 => .array .int
  | 33 => .array .int
  | 34 => .int
  | 35 => .int
  | 36 => .int
  | _ => .array .boolean
abbrev wsX90 : List Cond := u_ws RX9 TX9 38
theorem nmX9 : ∀ a, a < 38 → ∀ b, b < 38 → a ≠ b → (TX9 a).2.1 ≠ (TX9 b).2.1 := by decide +kernel
theorem tyX9_ok : ∀ k, k < 38 → parseFieldDescriptor (TX9 k).2.2.1 = some (tyX9 k) := by decide +kernel
abbrev cX9_init : ByteArray := prog_11_method_1_code
def yX9_init : MethodName := ⟨RX9, "<init>", "()V"⟩
abbrev cX9_thrown : ByteArray := prog_11_method_2_code
def yX9_thrown : MethodName := ⟨RX9, "thrown", "()I"⟩
abbrev cX9_fails : ByteArray := prog_11_method_3_code
def yX9_fails : MethodName := ⟨RX9, "fails", "(I)Z"⟩
abbrev cX9_in : ByteArray := prog_11_method_4_code
def yX9_in : MethodName := ⟨RX9, "in", "(III)Z"⟩
abbrev cX9_isStep : ByteArray := prog_11_method_5_code
def yX9_isStep : MethodName := ⟨RX9, "isStep", "(CII)Z"⟩
abbrev cX9_step : ByteArray := prog_11_method_6_code
def yX9_step : MethodName := ⟨RX9, "step", "(CII)I"⟩
abbrev cX9_number : ByteArray := prog_11_method_7_code
def yX9_number : MethodName := ⟨RX9, "number", "(IZ)I"⟩
abbrev cX9_wipe : ByteArray := prog_11_method_8_code
def yX9_wipe : MethodName := ⟨RX9, "wipe", "(Z)I"⟩
abbrev cX9_isNoProblem : ByteArray := prog_11_method_9_code
def yX9_isNoProblem : MethodName := ⟨RX9, "isNoProblem", "(I)Z"⟩
abbrev cX9_isNoTeam : ByteArray := prog_11_method_10_code
def yX9_isNoTeam : MethodName := ⟨RX9, "isNoTeam", "(I)Z"⟩
abbrev cX9_isNoRun : ByteArray := prog_11_method_11_code
def yX9_isNoRun : MethodName := ⟨RX9, "isNoRun", "(I)Z"⟩
abbrev cX9_problem : ByteArray := prog_11_method_12_code
def yX9_problem : MethodName := ⟨RX9, "problem", "(II)I"⟩
abbrev cX9_lays : ByteArray := prog_11_method_13_code
def yX9_lays : MethodName := ⟨RX9, "lays", "(II)V"⟩
abbrev cX9_test : ByteArray := prog_11_method_14_code
def yX9_test : MethodName := ⟨RX9, "test", "(I)I"⟩
abbrev cX9_fix : ByteArray := prog_11_method_15_code
def yX9_fix : MethodName := ⟨RX9, "fix", "(II)I"⟩
abbrev cX9_tests : ByteArray := prog_11_method_16_code
def yX9_tests : MethodName := ⟨RX9, "tests", "(I)I"⟩
abbrev cX9_judges : ByteArray := prog_11_method_17_code
def yX9_judges : MethodName := ⟨RX9, "judges", "(II)V"⟩
abbrev cX9_tells : ByteArray := prog_11_method_18_code
def yX9_tells : MethodName := ⟨RX9, "tells", "(III)C"⟩
abbrev cX9_reckons : ByteArray := prog_11_method_19_code
def yX9_reckons : MethodName := ⟨RX9, "reckons", "(CII)C"⟩
abbrev cX9_isExpected : ByteArray := prog_11_method_20_code
def yX9_isExpected : MethodName := ⟨RX9, "isExpected", "(II)Z"⟩
abbrev cX9_failedOf : ByteArray := prog_11_method_21_code
def yX9_failedOf : MethodName := ⟨RX9, "failedOf", "(I)I"⟩
abbrev cX9_verdictOf : ByteArray := prog_11_method_22_code
def yX9_verdictOf : MethodName := ⟨RX9, "verdictOf", "(I)C"⟩
abbrev cX9_judgesAnew : ByteArray := prog_11_method_23_code
def yX9_judgesAnew : MethodName := ⟨RX9, "judgesAnew", "(III)I"⟩
abbrev cX9_hasSolved : ByteArray := prog_11_method_24_code
def yX9_hasSolved : MethodName := ⟨RX9, "hasSolved", "(II)Z"⟩
abbrev cX9_calls : ByteArray := prog_11_method_25_code
def yX9_calls : MethodName := ⟨RX9, "calls", "(I)V"⟩
abbrev cX9_sends : ByteArray := prog_11_method_26_code
def yX9_sends : MethodName := ⟨RX9, "sends", "(II)V"⟩
abbrev cX9_waitingAt : ByteArray := prog_11_method_27_code
def yX9_waitingAt : MethodName := ⟨RX9, "waitingAt", "(II)I"⟩
abbrev cX9_gives : ByteArray := prog_11_method_28_code
def yX9_gives : MethodName := ⟨RX9, "gives", "(I)V"⟩
abbrev cX9_team : ByteArray := prog_11_method_29_code
def yX9_team : MethodName := ⟨RX9, "team", "()I"⟩
abbrev cX9_submit : ByteArray := prog_11_method_30_code
def yX9_submit : MethodName := ⟨RX9, "submit", "(III)I"⟩
abbrev cX9_verdict : ByteArray := prog_11_method_31_code
def yX9_verdict : MethodName := ⟨RX9, "verdict", "(I)C"⟩
abbrev cX9_failed : ByteArray := prog_11_method_32_code
def yX9_failed : MethodName := ⟨RX9, "failed", "(I)I"⟩
abbrev cX9_isNoTest : ByteArray := prog_11_method_33_code
def yX9_isNoTest : MethodName := ⟨RX9, "isNoTest", "(II)Z"⟩
abbrev cX9_ended : ByteArray := prog_11_method_34_code
def yX9_ended : MethodName := ⟨RX9, "ended", "(II)C"⟩
abbrev cX9_steps : ByteArray := prog_11_method_35_code
def yX9_steps : MethodName := ⟨RX9, "steps", "(II)I"⟩
abbrev cX9_outputs : ByteArray := prog_11_method_36_code
def yX9_outputs : MethodName := ⟨RX9, "outputs", "(II)I"⟩
abbrev cX9_output : ByteArray := prog_11_method_37_code
def yX9_output : MethodName := ⟨RX9, "output", "(III)I"⟩
abbrev cX9_areAlike : ByteArray := prog_11_method_38_code
def yX9_areAlike : MethodName := ⟨RX9, "areAlike", "(IIII)Z"⟩
abbrev cX9_kept : ByteArray := prog_11_method_39_code
def yX9_kept : MethodName := ⟨RX9, "kept", "()I"⟩
abbrev cX9_isFirst : ByteArray := prog_11_method_40_code
def yX9_isFirst : MethodName := ⟨RX9, "isFirst", "(II)Z"⟩
abbrev cX9_sharing : ByteArray := prog_11_method_41_code
def yX9_sharing : MethodName := ⟨RX9, "sharing", "(II)I"⟩
abbrev cX9_isNoColour : ByteArray := prog_11_method_42_code
def yX9_isNoColour : MethodName := ⟨RX9, "isNoColour", "(I)Z"⟩
abbrev cX9_stock : ByteArray := prog_11_method_43_code
def yX9_stock : MethodName := ⟨RX9, "stock", "(II)I"⟩
abbrev cX9_inStock : ByteArray := prog_11_method_44_code
def yX9_inStock : MethodName := ⟨RX9, "inStock", "(I)I"⟩
abbrev cX9_out : ByteArray := prog_11_method_45_code
def yX9_out : MethodName := ⟨RX9, "out", "(I)I"⟩
abbrev cX9_balloon : ByteArray := prog_11_method_46_code
def yX9_balloon : MethodName := ⟨RX9, "balloon", "(II)C"⟩
abbrev cX9_waiting : ByteArray := prog_11_method_47_code
def yX9_waiting : MethodName := ⟨RX9, "waiting", "(II)I"⟩
abbrev cX9_calledBack : ByteArray := prog_11_method_48_code
def yX9_calledBack : MethodName := ⟨RX9, "calledBack", "()I"⟩
abbrev cX9_isPending : ByteArray := prog_11_method_49_code
def yX9_isPending : MethodName := ⟨RX9, "isPending", "(I)Z"⟩
abbrev cX9_pendingOf : ByteArray := prog_11_method_50_code
def yX9_pendingOf : MethodName := ⟨RX9, "pendingOf", "(II)I"⟩
abbrev cX9_freeze : ByteArray := prog_11_method_51_code
def yX9_freeze : MethodName := ⟨RX9, "freeze", "(I)I"⟩
abbrev cX9_pending : ByteArray := prog_11_method_52_code
def yX9_pending : MethodName := ⟨RX9, "pending", "(II)I"⟩
abbrev cX9_pendingIn : ByteArray := prog_11_method_53_code
def yX9_pendingIn : MethodName := ⟨RX9, "pendingIn", "(I)I"⟩
abbrev cX9_open : ByteArray := prog_11_method_54_code
def yX9_open : MethodName := ⟨RX9, "open", "()I"⟩
abbrev cX9_firstOf : ByteArray := prog_11_method_55_code
def yX9_firstOf : MethodName := ⟨RX9, "firstOf", "(IIZ)I"⟩
abbrev cX9_solvedBy : ByteArray := prog_11_method_56_code
def yX9_solvedBy : MethodName := ⟨RX9, "solvedBy", "(IZ)I"⟩
abbrev cX9_penaltyOf : ByteArray := prog_11_method_57_code
def yX9_penaltyOf : MethodName := ⟨RX9, "penaltyOf", "(IZ)I"⟩
abbrev cX9_latestOf : ByteArray := prog_11_method_58_code
def yX9_latestOf : MethodName := ⟨RX9, "latestOf", "(IZ)I"⟩
abbrev cX9_isAhead : ByteArray := prog_11_method_59_code
def yX9_isAhead : MethodName := ⟨RX9, "isAhead", "(IIZ)Z"⟩
abbrev cX9_rankOf : ByteArray := prog_11_method_60_code
def yX9_rankOf : MethodName := ⟨RX9, "rankOf", "(IZ)I"⟩
abbrev cX9_solved : ByteArray := prog_11_method_61_code
def yX9_solved : MethodName := ⟨RX9, "solved", "(IZ)I"⟩
abbrev cX9_penalty : ByteArray := prog_11_method_62_code
def yX9_penalty : MethodName := ⟨RX9, "penalty", "(IZ)I"⟩
abbrev cX9_rank : ByteArray := prog_11_method_63_code
def yX9_rank : MethodName := ⟨RX9, "rank", "(IZ)I"⟩
abbrev cX9_ranked : ByteArray := prog_11_method_64_code
def yX9_ranked : MethodName := ⟨RX9, "ranked", "(IZ)I"⟩
abbrev cX9_acceptedShare : ByteArray := prog_11_method_65_code
def yX9_acceptedShare : MethodName := ⟨RX9, "acceptedShare", "()F"⟩
abbrev cX9_meanSteps : ByteArray := prog_11_method_66_code
def yX9_meanSteps : MethodName := ⟨RX9, "meanSteps", "()D"⟩
abbrev cX9_checksum : ByteArray := prog_11_method_67_code
def yX9_checksum : MethodName := ⟨RX9, "checksum", "()J"⟩
abbrev cX9_isTrue : ByteArray := prog_11_method_68_code
def yX9_isTrue : MethodName := ⟨RX9, "isTrue", "()Z"⟩
def RJx145de : String := "java/io/Serializable"
def TJx145de : u_T := fun k => match k with
  | _ => ("", "", "", false)
def tyJx145de : Nat → FieldType := fun k => match k with
  | _ => .int
abbrev wsJx145de0 : List Cond := u_ws RJx145de TJx145de 0
theorem nmJx145de : ∀ a, a < 0 → ∀ b, b < 0 → a ≠ b → (TJx145de a).2.1 ≠ (TJx145de b).2.1 := by decide +kernel
theorem tyJx145de_ok : ∀ k, k < 0 → parseFieldDescriptor (TJx145de k).2.2.1 = some (tyJx145de k) := by decide +kernel
def RJx00060 : String := "java/lang/ArrayIndexOutOfBoundsException"
def TJx00060 : u_T := fun k => match k with
  | 0 => ("java/lang/Throwable", "backtrace", "Ljava/lang/Object;", false)
  | 1 => ("java/lang/Throwable", "detailMessage", "Ljava/lang/String;", false)
  | 2 => ("java/lang/Throwable", "cause", "Ljava/lang/Throwable;", false)
  | 3 => ("java/lang/Throwable", "stackTrace", "[Ljava/lang/StackTraceElement;", false)
  | 4 => ("java/lang/Throwable", "depth", "I", false)
  | _ => ("java/lang/Throwable", "suppressedExceptions", "Ljava/util/List;", false)
def tyJx00060 : Nat → FieldType := fun k => match k with
  | 0 => .object "java/lang/Object"
  | 1 => .object "java/lang/String"
  | 2 => .object "java/lang/Throwable"
  | 3 => .array (.object "java/lang/StackTraceElement")
  | 4 => .int
  | _ => .object "java/util/List"
abbrev wsJx000600 : List Cond := u_ws RJx00060 TJx00060 6
theorem nmJx00060 : ∀ a, a < 6 → ∀ b, b < 6 → a ≠ b → (TJx00060 a).2.1 ≠ (TJx00060 b).2.1 := by decide +kernel
theorem tyJx00060_ok : ∀ k, k < 6 → parseFieldDescriptor (TJx00060 k).2.2.1 = some (tyJx00060 k) := by decide +kernel
abbrev cJx00060_init_a7421 : ByteArray := prog_14_method_2_code
def yJx00060_init_a7421 : MethodName := ⟨RJx00060, "<init>", "(Ljava/lang/String;)V"⟩
def RJ9 : String := "java/lang/Math"
def TJ9 : u_T := fun k => match k with
  | _ => ("", "", "", false)
def tyJ9 : Nat → FieldType := fun k => match k with
  | _ => .int
abbrev wsJ90 : List Cond := u_ws RJ9 TJ9 0
theorem nmJ9 : ∀ a, a < 0 → ∀ b, b < 0 → a ≠ b → (TJ9 a).2.1 ≠ (TJ9 b).2.1 := by decide +kernel
theorem tyJ9_ok : ∀ k, k < 0 → parseFieldDescriptor (TJ9 k).2.2.1 = some (tyJ9 k) := by decide +kernel
abbrev cJ9_max_7cf53 : ByteArray := prog_19_method_65_code
def yJ9_max_7cf53 : MethodName := ⟨RJ9, "max", "(II)I"⟩
def RJ0 : String := "java/lang/String"
def TJ0 : u_T := fun k => match k with
  | 0 => ("java/lang/String", "value", "[B", true)
  | _ => ("java/lang/String", "coder", "B", true)
def tyJ0 : Nat → FieldType := fun k => match k with
  | 0 => .array .byte
  | _ => .byte
abbrev wsJ00 : List Cond := u_ws RJ0 TJ0 2
theorem nmJ0 : ∀ a, a < 2 → ∀ b, b < 2 → a ≠ b → (TJ0 a).2.1 ≠ (TJ0 b).2.1 := by decide +kernel
theorem tyJ0_ok : ∀ k, k < 2 → parseFieldDescriptor (TJ0 k).2.2.1 = some (tyJ0 k) := by decide +kernel
def RL : String := "JudgefoldLaw"
abbrev cL_step : ByteArray := method_3_code
def yL_step : MethodName := ⟨RL, "step", "(LJudgefold;CII[J)I"⟩
abbrev cL_number : ByteArray := method_4_code
def yL_number : MethodName := ⟨RL, "number", "(LJudgefold;IZ[J)I"⟩
abbrev cL_problem : ByteArray := method_5_code
def yL_problem : MethodName := ⟨RL, "problem", "(LJudgefold;II[J)I"⟩
abbrev cL_test : ByteArray := method_6_code
def yL_test : MethodName := ⟨RL, "test", "(LJudgefold;I[J)I"⟩
abbrev cL_fix : ByteArray := method_7_code
def yL_fix : MethodName := ⟨RL, "fix", "(LJudgefold;II[J)I"⟩
abbrev cL_tests : ByteArray := method_8_code
def yL_tests : MethodName := ⟨RL, "tests", "(LJudgefold;I[J)I"⟩
abbrev cL_team : ByteArray := method_9_code
def yL_team : MethodName := ⟨RL, "team", "(LJudgefold;[J)I"⟩
abbrev cL_submit : ByteArray := method_10_code
def yL_submit : MethodName := ⟨RL, "submit", "(LJudgefold;III[J)I"⟩
abbrev cL_verdict : ByteArray := method_11_code
def yL_verdict : MethodName := ⟨RL, "verdict", "(LJudgefold;I[J)I"⟩
abbrev cL_failed : ByteArray := method_12_code
def yL_failed : MethodName := ⟨RL, "failed", "(LJudgefold;I[J)I"⟩
abbrev cL_ended : ByteArray := method_13_code
def yL_ended : MethodName := ⟨RL, "ended", "(LJudgefold;II[J)I"⟩
abbrev cL_steps : ByteArray := method_14_code
def yL_steps : MethodName := ⟨RL, "steps", "(LJudgefold;II[J)I"⟩
abbrev cL_outputs : ByteArray := method_15_code
def yL_outputs : MethodName := ⟨RL, "outputs", "(LJudgefold;II[J)I"⟩
abbrev cL_output : ByteArray := method_16_code
def yL_output : MethodName := ⟨RL, "output", "(LJudgefold;III[J)I"⟩
abbrev cL_sharing : ByteArray := method_17_code
def yL_sharing : MethodName := ⟨RL, "sharing", "(LJudgefold;II[J)I"⟩
abbrev cL_stock : ByteArray := method_18_code
def yL_stock : MethodName := ⟨RL, "stock", "(LJudgefold;II[J)I"⟩
abbrev cL_inStock : ByteArray := method_19_code
def yL_inStock : MethodName := ⟨RL, "inStock", "(LJudgefold;I[J)I"⟩
abbrev cL_out : ByteArray := method_20_code
def yL_out : MethodName := ⟨RL, "out", "(LJudgefold;I[J)I"⟩
abbrev cL_balloon : ByteArray := method_21_code
def yL_balloon : MethodName := ⟨RL, "balloon", "(LJudgefold;II[J)I"⟩
abbrev cL_waiting : ByteArray := method_22_code
def yL_waiting : MethodName := ⟨RL, "waiting", "(LJudgefold;II[J)I"⟩
abbrev cL_freeze : ByteArray := method_23_code
def yL_freeze : MethodName := ⟨RL, "freeze", "(LJudgefold;I[J)I"⟩
abbrev cL_pending : ByteArray := method_24_code
def yL_pending : MethodName := ⟨RL, "pending", "(LJudgefold;II[J)I"⟩
abbrev cL_open : ByteArray := method_25_code
def yL_open : MethodName := ⟨RL, "open", "(LJudgefold;[J)I"⟩
abbrev cL_solved : ByteArray := method_26_code
def yL_solved : MethodName := ⟨RL, "solved", "(LJudgefold;IZ[J)I"⟩
abbrev cL_penalty : ByteArray := method_27_code
def yL_penalty : MethodName := ⟨RL, "penalty", "(LJudgefold;IZ[J)I"⟩
abbrev cL_rank : ByteArray := method_28_code
def yL_rank : MethodName := ⟨RL, "rank", "(LJudgefold;IZ[J)I"⟩
abbrev cL_ranked : ByteArray := method_29_code
def yL_ranked : MethodName := ⟨RL, "ranked", "(LJudgefold;IZ[J)I"⟩
abbrev cL_acceptedShare : ByteArray := method_30_code
def yL_acceptedShare : MethodName := ⟨RL, "acceptedShare", "(LJudgefold;[D)I"⟩
abbrev cL_meanSteps : ByteArray := method_31_code
def yL_meanSteps : MethodName := ⟨RL, "meanSteps", "(LJudgefold;[D)I"⟩
abbrev cL_law : ByteArray := code
def yL_law : MethodName := ⟨RL, "law", "([I)Z"⟩
def wsL_law0_r1 : List Cond := [Cond.classLink RL 8 RX8, Cond.instantiable RX8 14, Cond.initialized RX8, Cond.classLink RL 119 RX9, Cond.instantiable RX9 38, Cond.initialized RX9, Cond.arrayClass .long, Cond.arrayClass .double, Cond.methodLink RL 118 yX8_init, Cond.instanceMethod yX8_init, Cond.code yX8_init cX8_init 2 none, Cond.methodLink RX8 3 objectInit, Cond.instanceMethod objectInit, Cond.code objectInit ⟨#[0xb1]⟩ 1 none, Cond.classLink RX8 9 RX5, Cond.instantiable RX5 4, Cond.initialized RX5, Cond.fieldLink RX8 12 "Judgefold" "typedProgram" "LJudgefold$Program;", Cond.classLink RX8 16 RX3, Cond.instantiable RX3 4, Cond.initialized RX3, Cond.fieldLink RX8 19 "Judgefold" "typedNumbers" "LJudgefold$Numbers;", Cond.classLink RX8 23 RX4, Cond.fieldLink RX8 25 "Judgefold" "problems" "[LJudgefold$Problem;"]
def wsL_law0_r2 : List Cond := [Cond.classLink RX8 29 RX6, Cond.fieldLink RX8 31 "Judgefold" "runs" "[LJudgefold$Run;", Cond.classLink RX8 35 RX2, Cond.instantiable RX2 7, Cond.initialized RX2, Cond.fieldLink RX8 38 "Judgefold" "machine" "LJudgefold$Machine;", Cond.classLink RX8 42 RX7, Cond.instantiable RX7 4, Cond.initialized RX7, Cond.fieldLink RX8 45 "Judgefold" "store" "LJudgefold$Store;", Cond.classLink RX8 49 RX0, Cond.instantiable RX0 6, Cond.initialized RX0, Cond.fieldLink RX8 52 "Judgefold" "balloons" "LJudgefold$Balloons;", Cond.classLink RX8 56 RX1, Cond.instantiable RX1 7, Cond.initialized RX1, Cond.fieldLink RX8 59 "Judgefold" "trueBoard" "LJudgefold$Board;", Cond.fieldLink RX8 63 "Judgefold" "publicBoard" "LJudgefold$Board;", Cond.fieldLink RX8 66 "Judgefold" "freshBoard" "LJudgefold$Board;", Cond.fieldLink RX8 69 "Judgefold" "problemCount" "I", Cond.fieldLink RX8 73 "Judgefold" "teamCount" "I", Cond.fieldLink RX8 76 "Judgefold" "runCount" "I", Cond.fieldLink RX8 79 "Judgefold" "freezeMinute" "I"]
def wsL_law0_r3 : List Cond := [Cond.instantiable RX4 4, Cond.initialized RX4, Cond.instantiable RX6 10, Cond.initialized RX6, Cond.instanceMethod yX5_init, Cond.code yX5_init cX5_init 1 none, Cond.methodLink RX5 3 objectInit, Cond.arrayClass .char, Cond.fieldLink RX5 9 "Judgefold$Program" "letters" "[C", Cond.arrayClass .int, Cond.fieldLink RX5 15 "Judgefold$Program" "firsts" "[I", Cond.fieldLink RX5 19 "Judgefold$Program" "seconds" "[I", Cond.fieldLink RX5 22 "Judgefold$Program" "size" "I", Cond.instanceMethod yX3_init, Cond.code yX3_init cX3_init 1 none, Cond.methodLink RX3 3 objectInit, Cond.fieldLink RX3 9 "Judgefold$Numbers" "input" "[I", Cond.fieldLink RX3 15 "Judgefold$Numbers" "expected" "[I", Cond.fieldLink RX3 18 "Judgefold$Numbers" "inputSize" "I", Cond.fieldLink RX3 22 "Judgefold$Numbers" "expectedSize" "I", Cond.instanceMethod yX2_init, Cond.code yX2_init cX2_init 1 none, Cond.methodLink RX2 3 objectInit, Cond.fieldLink RX2 9 "Judgefold$Machine" "places" "[I"]
def wsL_law0_r4 : List Cond := [Cond.fieldLink RX2 15 "Judgefold$Machine" "output" "[I", Cond.fieldLink RX2 18 "Judgefold$Machine" "outputSize" "I", Cond.fieldLink RX2 22 "Judgefold$Machine" "inputsTaken" "I", Cond.fieldLink RX2 25 "Judgefold$Machine" "nextStep" "I", Cond.fieldLink RX2 28 "Judgefold$Machine" "stepsDone" "I", Cond.fieldLink RX2 31 "Judgefold$Machine" "ending" "C", Cond.instanceMethod yX7_init, Cond.code yX7_init cX7_init 1 none, Cond.methodLink RX7 3 objectInit, Cond.fieldLink RX7 9 "Judgefold$Store" "numbers" "[I", Cond.fieldLink RX7 15 "Judgefold$Store" "sizes" "[I", Cond.fieldLink RX7 18 "Judgefold$Store" "users" "[I", Cond.fieldLink RX7 21 "Judgefold$Store" "usedSlots" "I", Cond.methodLink RX8 51 yX0_init, Cond.instanceMethod yX0_init, Cond.code yX0_init cX0_init 2 none, Cond.methodLink RX0 3 objectInit, Cond.fieldLink RX0 9 "Judgefold$Balloons" "states" "[C", Cond.classLink RX0 15 "[[I", Cond.fieldLink RX0 17 "Judgefold$Balloons" "queues" "[[I", Cond.fieldLink RX0 20 "Judgefold$Balloons" "queueSizes" "[I", Cond.fieldLink RX0 24 "Judgefold$Balloons" "stocks" "[I", Cond.fieldLink RX0 27 "Judgefold$Balloons" "outCounts" "[I", Cond.fieldLink RX0 30 "Judgefold$Balloons" "callBacks" "I"]
def wsL_law0_r5 : List Cond := [Cond.instanceMethod yX1_init, Cond.code yX1_init cX1_init 1 none, Cond.methodLink RX1 3 objectInit, Cond.fieldLink RX1 9 "Judgefold$Board" "failures" "[I", Cond.fieldLink RX1 15 "Judgefold$Board" "firstMinutes" "[I", Cond.fieldLink RX1 18 "Judgefold$Board" "solvedCounts" "[I", Cond.fieldLink RX1 21 "Judgefold$Board" "penalties" "[I", Cond.fieldLink RX1 24 "Judgefold$Board" "latestMinutes" "[I", Cond.fieldLink RX1 27 "Judgefold$Board" "order" "[I", Cond.fieldLink RX1 30 "Judgefold$Board" "teamCount" "I", Cond.methodLink RX8 82 yX4_init, Cond.instanceMethod yX4_init, Cond.code yX4_init cX4_init 2 none, Cond.methodLink RX4 3 objectInit, Cond.classLink RX4 9 RX3, Cond.fieldLink RX4 11 "Judgefold$Problem" "contents" "[LJudgefold$Numbers;", Cond.fieldLink RX4 17 "Judgefold$Problem" "colour" "I", Cond.fieldLink RX4 21 "Judgefold$Problem" "limit" "I", Cond.fieldLink RX4 24 "Judgefold$Problem" "testCount" "I", Cond.methodLink RX8 83 yX6_init, Cond.instanceMethod yX6_init, Cond.code yX6_init cX6_init 2 none, Cond.methodLink RX6 3 objectInit, Cond.classLink RX6 9 RX5]
def wsL_law0_r6 : List Cond := [Cond.fieldLink RX6 12 "Judgefold$Run" "program" "LJudgefold$Program;", Cond.fieldLink RX6 18 "Judgefold$Run" "endings" "[C", Cond.fieldLink RX6 22 "Judgefold$Run" "stepCounts" "[I", Cond.fieldLink RX6 26 "Judgefold$Run" "slots" "[I", Cond.fieldLink RX6 29 "Judgefold$Run" "team" "I", Cond.fieldLink RX6 33 "Judgefold$Run" "problem" "I", Cond.fieldLink RX6 36 "Judgefold$Run" "minute" "I", Cond.fieldLink RX6 39 "Judgefold$Run" "isPending" "Z", Cond.fieldLink RX6 43 "Judgefold$Run" "verdict" "C", Cond.fieldLink RX6 47 "Judgefold$Run" "failedTest" "I", Cond.methodLink RL 121 yX9_init, Cond.instanceMethod yX9_init, Cond.code yX9_init cX9_init 1 none, Cond.methodLink RX9 1 objectInit, Cond.fieldLink RX9 7 "JudgefoldModel" "letter" "[C", Cond.fieldLink RX9 13 "JudgefoldModel" "stepA" "[I", Cond.fieldLink RX9 17 "JudgefoldModel" "stepB" "[I", Cond.fieldLink RX9 20 "JudgefoldModel" "input" "[I", Cond.fieldLink RX9 23 "JudgefoldModel" "expected" "[I", Cond.fieldLink RX9 26 "JudgefoldModel" "colour" "[I", Cond.fieldLink RX9 29 "JudgefoldModel" "limit" "[I", Cond.fieldLink RX9 32 "JudgefoldModel" "tests" "[I", Cond.fieldLink RX9 35 "JudgefoldModel" "testInput" "[I", Cond.fieldLink RX9 38 "JudgefoldModel" "testInputs" "[I"]
def wsL_law0_r7 : List Cond := [Cond.fieldLink RX9 41 "JudgefoldModel" "testExpected" "[I", Cond.fieldLink RX9 44 "JudgefoldModel" "testExpecteds" "[I", Cond.fieldLink RX9 47 "JudgefoldModel" "team" "[I", Cond.fieldLink RX9 50 "JudgefoldModel" "problem" "[I", Cond.fieldLink RX9 53 "JudgefoldModel" "minute" "[I", Cond.fieldLink RX9 56 "JudgefoldModel" "length" "[I", Cond.fieldLink RX9 59 "JudgefoldModel" "runLetter" "[C", Cond.fieldLink RX9 62 "JudgefoldModel" "runA" "[I", Cond.fieldLink RX9 65 "JudgefoldModel" "runB" "[I", Cond.fieldLink RX9 68 "JudgefoldModel" "end" "[C", Cond.fieldLink RX9 71 "JudgefoldModel" "done" "[I", Cond.fieldLink RX9 74 "JudgefoldModel" "output" "[I", Cond.fieldLink RX9 77 "JudgefoldModel" "outputs" "[I", Cond.fieldLink RX9 80 "JudgefoldModel" "place" "[I", Cond.fieldLink RX9 83 "JudgefoldModel" "balloon" "[C", Cond.fieldLink RX9 86 "JudgefoldModel" "since" "[I", Cond.fieldLink RX9 89 "JudgefoldModel" "stock" "[I", Cond.fieldLink RX9 92 "JudgefoldModel" "frozen" "I", Cond.arrayClass .boolean, Cond.fieldLink RX9 96 "JudgefoldModel" "isOpened" "[Z", Cond.methodLink RL 122 yL_step, Cond.static yL_step, Cond.initialized RL, Cond.codeWith yL_step cL_step 6 (some .int) [(0, 12, 15, 13), (0, 12, 19, 15)]]
def wsL_law0_r8 : List Cond := [Cond.classLink RL 13 "java/lang/IllegalArgumentException", Cond.classLink RL 15 "java/lang/IllegalStateException", Cond.methodLink RL 7 yX8_step, Cond.instanceMethod yX8_step, Cond.selects RX8 yX8_step yX8_step, Cond.code yX8_step cX8_step 4 (some .int), Cond.classLink RX8 88 "java/lang/IllegalArgumentException", Cond.initialized "java/lang/IllegalArgumentException", Cond.classLink RX8 94 "java/lang/IllegalStateException", Cond.initialized "java/lang/IllegalStateException", Cond.fieldLink RX8 91 "Judgefold$Program" "size" "I", Cond.methodLink RX8 84 yX8_isStep, Cond.static yX8_isStep, Cond.code yX8_isStep cX8_isStep 3 (some .boolean), Cond.methodLink RX8 322 yX8_isPlace, Cond.static yX8_isPlace, Cond.code yX8_isPlace cX8_isPlace 1 (some .boolean), Cond.methodLink RX8 120 yX8_isWithin, Cond.static yX8_isWithin, Cond.code yX8_isWithin cX8_isWithin 3 (some .boolean), Cond.methodLink RX8 101 yX8_isNumber, Cond.static yX8_isNumber, Cond.code yX8_isNumber cX8_isNumber 1 (some .boolean), Cond.methodLink RX8 97 yX5_append]
def wsL_law0_r9 : List Cond := [Cond.instanceMethod yX5_append, Cond.selects RX5 yX5_append yX5_append, Cond.code yX5_append cX5_append 4 none, Cond.methodLink RL 127 yX9_step, Cond.instanceMethod yX9_step, Cond.selects RX9 yX9_step yX9_step, Cond.code yX9_step cX9_step 4 (some .int), Cond.fieldLink RX9 111 "JudgefoldModel" "steps" "I", Cond.methodLink RX9 107 yX9_isStep, Cond.static yX9_isStep, Cond.code yX9_isStep cX9_isStep 3 (some .boolean), Cond.methodLink RX9 103 yX9_in, Cond.static yX9_in, Cond.code yX9_in cX9_in 3 (some .boolean), Cond.methodLink RX9 114 yX9_fails, Cond.instanceMethod yX9_fails, Cond.selects RX9 yX9_fails yX9_fails, Cond.code yX9_fails cX9_fails 2 (some .boolean), Cond.fieldLink RX9 100 "JudgefoldModel" "code" "I", Cond.methodLink RL 128 yX9_thrown, Cond.instanceMethod yX9_thrown, Cond.selects RX9 yX9_thrown yX9_thrown, Cond.code yX9_thrown cX9_thrown 1 (some .int), Cond.methodLink RL 131 yL_number]
def wsL_law0_r10 : List Cond := [Cond.static yL_number, Cond.codeWith yL_number cL_number 5 (some .int) [(0, 10, 13, 13), (0, 10, 17, 15)], Cond.methodLink RL 17 yX8_number, Cond.instanceMethod yX8_number, Cond.selects RX8 yX8_number yX8_number, Cond.code yX8_number cX8_number 3 (some .int), Cond.methodLink RX8 105 yX3_hasRoom, Cond.instanceMethod yX3_hasRoom, Cond.selects RX3 yX3_hasRoom yX3_hasRoom, Cond.code yX3_hasRoom cX3_hasRoom 2 (some .boolean), Cond.methodLink RX8 109 yX3_append, Cond.instanceMethod yX3_append, Cond.selects RX3 yX3_append yX3_append, Cond.code yX3_append cX3_append 3 (some .int), Cond.methodLink RX3 25 yX3_hasRoom, Cond.methodLink RL 134 yX9_number, Cond.instanceMethod yX9_number, Cond.selects RX9 yX9_number yX9_number, Cond.code yX9_number cX9_number 3 (some .int), Cond.fieldLink RX9 118 "JudgefoldModel" "expecteds" "I", Cond.fieldLink RX9 121 "JudgefoldModel" "inputs" "I", Cond.methodLink RL 135 yX8_wipe, Cond.instanceMethod yX8_wipe, Cond.selects RX8 yX8_wipe yX8_wipe]
def wsL_law0_r11 : List Cond := [Cond.code yX8_wipe cX8_wipe 2 (some .int), Cond.methodLink RX8 112 yX5_clear, Cond.instanceMethod yX5_clear, Cond.selects RX5 yX5_clear yX5_clear, Cond.code yX5_clear cX5_clear 2 (some .int), Cond.methodLink RX8 116 yX3_clear, Cond.instanceMethod yX3_clear, Cond.selects RX3 yX3_clear yX3_clear, Cond.code yX3_clear cX3_clear 2 (some .int), Cond.methodLink RL 139 yX9_wipe, Cond.instanceMethod yX9_wipe, Cond.selects RX9 yX9_wipe yX9_wipe, Cond.code yX9_wipe cX9_wipe 3 (some .int), Cond.methodLink RL 140 yL_problem, Cond.static yL_problem, Cond.codeWith yL_problem cL_problem 5 (some .int) [(0, 10, 13, 13), (0, 10, 17, 15)], Cond.methodLink RL 21 yX8_problem, Cond.instanceMethod yX8_problem, Cond.selects RX8 yX8_problem yX8_problem, Cond.code yX8_problem cX8_problem 3 (some .int), Cond.fieldLink RX8 124 "Judgefold$Problem" "colour" "I", Cond.fieldLink RX8 127 "Judgefold$Problem" "limit" "I", Cond.methodLink RX8 117 yX8_isColour, Cond.static yX8_isColour]
def wsL_law0_r12 : List Cond := [Cond.code yX8_isColour cX8_isColour 1 (some .boolean), Cond.methodLink RL 143 yX9_problem, Cond.instanceMethod yX9_problem, Cond.selects RX9 yX9_problem yX9_problem, Cond.code yX9_problem cX9_problem 3 (some .int), Cond.fieldLink RX9 124 "JudgefoldModel" "problems" "I", Cond.methodLink RL 144 yL_test, Cond.static yL_test, Cond.codeWith yL_test cL_test 4 (some .int) [(0, 9, 12, 29), (0, 9, 15, 15)], Cond.classLink RL 29 "java/lang/IndexOutOfBoundsException", Cond.methodLink RL 25 yX8_test, Cond.instanceMethod yX8_test, Cond.selects RX8 yX8_test yX8_test, Cond.code yX8_test cX8_test 3 (some .int), Cond.classLink RX8 133 "java/lang/IndexOutOfBoundsException", Cond.initialized "java/lang/IndexOutOfBoundsException", Cond.fieldLink RX8 136 "Judgefold$Problem" "testCount" "I", Cond.fieldLink RX8 139 "Judgefold$Problem" "contents" "[LJudgefold$Numbers;", Cond.methodLink RX8 130 yX8_hasProblem, Cond.instanceMethod yX8_hasProblem, Cond.selects RX8 yX8_hasProblem yX8_hasProblem, Cond.code yX8_hasProblem cX8_hasProblem 2 (some .boolean), Cond.methodLink RX8 143 yX3_copyFrom, Cond.instanceMethod yX3_copyFrom]
def wsL_law0_r13 : List Cond := [Cond.selects RX3 yX3_copyFrom yX3_copyFrom, Cond.code yX3_copyFrom cX3_copyFrom 3 none, Cond.methodLink RX3 29 yX3_clear, Cond.methodLink RX3 33 yX3_append, Cond.methodLink RX8 147 yX8_judgeAnew, Cond.instanceMethod yX8_judgeAnew, Cond.selects RX8 yX8_judgeAnew yX8_judgeAnew, Cond.code yX8_judgeAnew cX8_judgeAnew 6 (some .int), Cond.fieldLink RX8 166 "Judgefold$Run" "problem" "I", Cond.fieldLink RX8 193 "Judgefold$Run" "verdict" "C", Cond.methodLink RX8 329 yX8_judge, Cond.instanceMethod yX8_judge, Cond.selects RX8 yX8_judge yX8_judge, Cond.code yX8_judge cX8_judge 4 none, Cond.fieldLink RX8 176 "Judgefold$Run" "program" "LJudgefold$Program;", Cond.fieldLink RX8 215 "Judgefold$Run" "slots" "[I", Cond.fieldLink RX8 343 "Judgefold$Machine" "output" "[I", Cond.fieldLink RX8 346 "Judgefold$Machine" "outputSize" "I", Cond.fieldLink RX8 204 "Judgefold$Run" "endings" "[C", Cond.fieldLink RX8 353 "Judgefold$Machine" "ending" "C", Cond.fieldLink RX8 208 "Judgefold$Run" "stepCounts" "[I", Cond.fieldLink RX8 356 "Judgefold$Machine" "stepsDone" "I", Cond.methodLink RX8 336 yX2_execute, Cond.instanceMethod yX2_execute]
def wsL_law0_r14 : List Cond := [Cond.selects RX2 yX2_execute yX2_execute, Cond.code yX2_execute cX2_execute 5 none, Cond.fieldLink RX2 38 "Judgefold$Program" "size" "I", Cond.methodLink RX2 35 yX2_reset, Cond.instanceMethod yX2_reset, Cond.selects RX2 yX2_reset yX2_reset, Cond.code yX2_reset cX2_reset 2 none, Cond.methodLink RX2 43 yX2_doNextStep, Cond.instanceMethod yX2_doNextStep, Cond.selects RX2 yX2_doNextStep yX2_doNextStep, Cond.code yX2_doNextStep cX2_doNextStep 6 none, Cond.fieldLink RX2 53 "Judgefold$Program" "letters" "[C", Cond.fieldLink RX2 57 "Judgefold$Program" "firsts" "[I", Cond.fieldLink RX2 60 "Judgefold$Program" "seconds" "[I", Cond.methodLink RX2 63 yX2_takeInput, Cond.instanceMethod yX2_takeInput, Cond.selects RX2 yX2_takeInput yX2_takeInput, Cond.code yX2_takeInput cX2_takeInput 3 none, Cond.fieldLink RX2 79 "Judgefold$Numbers" "inputSize" "I", Cond.fieldLink RX2 82 "Judgefold$Numbers" "input" "[I", Cond.methodLink RX2 67 yX2_putOut, Cond.instanceMethod yX2_putOut, Cond.selects RX2 yX2_putOut yX2_putOut, Cond.code yX2_putOut cX2_putOut 2 none]
def wsL_law0_r15 : List Cond := [Cond.methodLink RX2 71 yX2_divide, Cond.instanceMethod yX2_divide, Cond.selects RX2 yX2_divide yX2_divide, Cond.code yX2_divide cX2_divide 3 none, Cond.methodLink RX2 75 yX2_goIf, Cond.instanceMethod yX2_goIf, Cond.selects RX2 yX2_goIf yX2_goIf, Cond.code yX2_goIf cX2_goIf 4 none, Cond.methodLink RX2 47 yX3_isExpected, Cond.instanceMethod yX3_isExpected, Cond.selects RX3 yX3_isExpected yX3_isExpected, Cond.code yX3_isExpected cX3_isExpected 4 (some .boolean), Cond.methodLink RX8 340 yX7_release, Cond.instanceMethod yX7_release, Cond.selects RX7 yX7_release yX7_release, Cond.code yX7_release cX7_release 2 none, Cond.methodLink RX8 349 yX7_keep, Cond.instanceMethod yX7_keep, Cond.selects RX7 yX7_keep yX7_keep, Cond.code yX7_keep cX7_keep 4 (some .int), Cond.methodLink RX7 25 yX7_find, Cond.instanceMethod yX7_find, Cond.selects RX7 yX7_find yX7_find, Cond.code yX7_find cX7_find 4 (some .int)]
def wsL_law0_r16 : List Cond := [Cond.methodLink RX7 43 yX7_isAlike, Cond.instanceMethod yX7_isAlike, Cond.selects RX7 yX7_isAlike yX7_isAlike, Cond.code yX7_isAlike cX7_isAlike 5 (some .boolean), Cond.methodLink RX7 37 yX7_numberAt, Cond.instanceMethod yX7_numberAt, Cond.selects RX7 yX7_numberAt yX7_numberAt, Cond.code yX7_numberAt cX7_numberAt 3 (some .int), Cond.methodLink RX7 29 yX7_firstFree, Cond.instanceMethod yX7_firstFree, Cond.selects RX7 yX7_firstFree yX7_firstFree, Cond.code yX7_firstFree cX7_firstFree 2 (some .int), Cond.methodLink RX7 33 yX7_fill, Cond.instanceMethod yX7_fill, Cond.selects RX7 yX7_fill yX7_fill, Cond.code yX7_fill cX7_fill 5 none, Cond.methodLink RX8 333 yX6_conclude, Cond.instanceMethod yX6_conclude, Cond.selects RX6 yX6_conclude yX6_conclude, Cond.code yX6_conclude cX6_conclude 3 none, Cond.methodLink RX8 154 yX8_recountBoards, Cond.instanceMethod yX8_recountBoards, Cond.selects RX8 yX8_recountBoards yX8_recountBoards, Cond.code yX8_recountBoards cX8_recountBoards 1 none]
def wsL_law0_r17 : List Cond := [Cond.methodLink RX8 325 yX1_recount, Cond.instanceMethod yX1_recount, Cond.selects RX1 yX1_recount yX1_recount, Cond.code yX1_recount cX1_recount 6 none, Cond.fieldLink RX1 37 "Judgefold$Run" "isPending" "Z", Cond.methodLink RX1 34 yX1_clear, Cond.instanceMethod yX1_clear, Cond.selects RX1 yX1_clear yX1_clear, Cond.code yX1_clear cX1_clear 2 none, Cond.methodLink RX1 43 yX1_count, Cond.instanceMethod yX1_count, Cond.selects RX1 yX1_count yX1_count, Cond.code yX1_count cX1_count 3 none, Cond.fieldLink RX1 50 "Judgefold$Run" "team" "I", Cond.fieldLink RX1 53 "Judgefold$Run" "problem" "I", Cond.fieldLink RX1 64 "Judgefold$Run" "verdict" "C", Cond.fieldLink RX1 68 "Judgefold$Run" "minute" "I", Cond.methodLink RX1 71 Lib.Math.max.name, Cond.static Lib.Math.max.name, Cond.initialized "java/lang/Math", Cond.code Lib.Math.max.name Lib.Math.max.code 2 (some .int), Cond.static yX8_spotOf, Cond.code yX8_spotOf cX8_spotOf 2 (some .int), Cond.methodLink RX1 60 yX1_hasSolved]
def wsL_law0_r18 : List Cond := [Cond.instanceMethod yX1_hasSolved, Cond.selects RX1 yX1_hasSolved yX1_hasSolved, Cond.code yX1_hasSolved cX1_hasSolved 2 (some .boolean), Cond.methodLink RX1 47 yX1_putInOrder, Cond.instanceMethod yX1_putInOrder, Cond.selects RX1 yX1_putInOrder yX1_putInOrder, Cond.code yX1_putInOrder cX1_putInOrder 3 none, Cond.methodLink RX1 76 yX1_isAhead, Cond.instanceMethod yX1_isAhead, Cond.selects RX1 yX1_isAhead yX1_isAhead, Cond.code yX1_isAhead cX1_isAhead 3 (some .boolean), Cond.methodLink RX8 186 yX0_follow, Cond.instanceMethod yX0_follow, Cond.selects RX0 yX0_follow yX0_follow, Cond.code yX0_follow cX0_follow 6 none, Cond.fieldLink RX0 34 "Judgefold$Board" "teamCount" "I", Cond.methodLink RX0 43 yX1_hasSolved, Cond.methodLink RX0 47 yX0_takeAway, Cond.instanceMethod yX0_takeAway, Cond.selects RX0 yX0_takeAway yX0_takeAway, Cond.code yX0_takeAway cX0_takeAway 3 none, Cond.methodLink RX0 62 yX0_leaveQueue, Cond.instanceMethod yX0_leaveQueue, Cond.selects RX0 yX0_leaveQueue yX0_leaveQueue]
def wsL_law0_r19 : List Cond := [Cond.code yX0_leaveQueue cX0_leaveQueue 4 none, Cond.methodLink RX0 58 yX0_dropFromQueue, Cond.instanceMethod yX0_dropFromQueue, Cond.selects RX0 yX0_dropFromQueue yX0_dropFromQueue, Cond.code yX0_dropFromQueue cX0_dropFromQueue 6 none, Cond.methodLink RX0 51 yX0_serve, Cond.instanceMethod yX0_serve, Cond.selects RX0 yX0_serve yX0_serve, Cond.code yX0_serve cX0_serve 3 none, Cond.methodLink RX0 55 yX0_enqueue, Cond.instanceMethod yX0_enqueue, Cond.selects RX0 yX0_enqueue yX0_enqueue, Cond.code yX0_enqueue cX0_enqueue 3 none, Cond.methodLink RL 147 yX9_test, Cond.instanceMethod yX9_test, Cond.selects RX9 yX9_test yX9_test, Cond.code yX9_test cX9_test 3 (some .int), Cond.methodLink RX9 133 yX9_isNoProblem, Cond.instanceMethod yX9_isNoProblem, Cond.selects RX9 yX9_isNoProblem yX9_isNoProblem, Cond.code yX9_isNoProblem cX9_isNoProblem 2 (some .boolean), Cond.methodLink RX9 136 yX9_lays, Cond.instanceMethod yX9_lays, Cond.selects RX9 yX9_lays yX9_lays]
def wsL_law0_r20 : List Cond := [Cond.code yX9_lays cX9_lays 4 none, Cond.methodLink RX9 140 yX9_judgesAnew, Cond.instanceMethod yX9_judgesAnew, Cond.selects RX9 yX9_judgesAnew yX9_judgesAnew, Cond.code yX9_judgesAnew cX9_judgesAnew 8 (some .int), Cond.fieldLink RX9 130 "JudgefoldModel" "runs" "I", Cond.methodLink RX9 160 yX9_verdictOf, Cond.instanceMethod yX9_verdictOf, Cond.selects RX9 yX9_verdictOf yX9_verdictOf, Cond.code yX9_verdictOf cX9_verdictOf 3 (some .char), Cond.methodLink RX9 156 yX9_failedOf, Cond.instanceMethod yX9_failedOf, Cond.selects RX9 yX9_failedOf yX9_failedOf, Cond.code yX9_failedOf cX9_failedOf 3 (some .int), Cond.methodLink RX9 164 yX9_judges, Cond.instanceMethod yX9_judges, Cond.selects RX9 yX9_judges yX9_judges, Cond.code yX9_judges cX9_judges 11 none, Cond.methodLink RX9 144 yX9_isExpected, Cond.instanceMethod yX9_isExpected, Cond.selects RX9 yX9_isExpected yX9_isExpected, Cond.code yX9_isExpected cX9_isExpected 6 (some .boolean), Cond.methodLink RX9 148 yX9_tells, Cond.instanceMethod yX9_tells]
def wsL_law0_r21 : List Cond := [Cond.selects RX9 yX9_tells yX9_tells, Cond.code yX9_tells cX9_tells 4 (some .char), Cond.methodLink RX9 152 yX9_reckons, Cond.instanceMethod yX9_reckons, Cond.selects RX9 yX9_reckons yX9_reckons, Cond.code yX9_reckons cX9_reckons 4 (some .char), Cond.methodLink RX9 167 yX9_calls, Cond.instanceMethod yX9_calls, Cond.selects RX9 yX9_calls yX9_calls, Cond.code yX9_calls cX9_calls 3 none, Cond.fieldLink RX9 127 "JudgefoldModel" "teams" "I", Cond.fieldLink RX9 174 "JudgefoldModel" "called" "I", Cond.methodLink RX9 171 yX9_hasSolved, Cond.instanceMethod yX9_hasSolved, Cond.selects RX9 yX9_hasSolved yX9_hasSolved, Cond.code yX9_hasSolved cX9_hasSolved 5 (some .boolean), Cond.methodLink RX9 177 yX9_gives, Cond.instanceMethod yX9_gives, Cond.selects RX9 yX9_gives yX9_gives, Cond.code yX9_gives cX9_gives 3 none, Cond.methodLink RX9 186 yX9_waitingAt, Cond.instanceMethod yX9_waitingAt, Cond.selects RX9 yX9_waitingAt yX9_waitingAt, Cond.code yX9_waitingAt cX9_waitingAt 9 (some .int)]
def wsL_law0_r22 : List Cond := [Cond.methodLink RX9 180 yX9_sends, Cond.instanceMethod yX9_sends, Cond.selects RX9 yX9_sends yX9_sends, Cond.code yX9_sends cX9_sends 3 none, Cond.fieldLink RX9 183 "JudgefoldModel" "stamp" "I", Cond.methodLink RL 148 yL_fix, Cond.static yL_fix, Cond.codeWith yL_fix cL_fix 5 (some .int) [(0, 10, 13, 29)], Cond.methodLink RL 31 yX8_fix, Cond.instanceMethod yX8_fix, Cond.selects RX8 yX8_fix yX8_fix, Cond.code yX8_fix cX8_fix 3 (some .int), Cond.methodLink RX8 151 yX4_hasTest, Cond.instanceMethod yX4_hasTest, Cond.selects RX4 yX4_hasTest yX4_hasTest, Cond.code yX4_hasTest cX4_hasTest 2 (some .boolean), Cond.methodLink RL 150 yX9_fix, Cond.instanceMethod yX9_fix, Cond.selects RX9 yX9_fix yX9_fix, Cond.code yX9_fix cX9_fix 3 (some .int), Cond.methodLink RL 151 yL_tests, Cond.static yL_tests, Cond.codeWith yL_tests cL_tests 4 (some .int) [(0, 9, 12, 29)], Cond.methodLink RL 34 yX8_tests]
def wsL_law0_r23 : List Cond := [Cond.instanceMethod yX8_tests, Cond.selects RX8 yX8_tests yX8_tests, Cond.code yX8_tests cX8_tests 2 (some .int), Cond.methodLink RL 153 yX9_tests, Cond.instanceMethod yX9_tests, Cond.selects RX9 yX9_tests yX9_tests, Cond.code yX9_tests cX9_tests 2 (some .int), Cond.methodLink RL 154 yL_team, Cond.static yL_team, Cond.codeWith yL_team cL_team 3 (some .int) [(0, 8, 11, 15)], Cond.methodLink RL 37 yX8_team, Cond.instanceMethod yX8_team, Cond.selects RX8 yX8_team yX8_team, Cond.code yX8_team cX8_team 1 (some .int), Cond.methodLink RL 157 yX9_team, Cond.instanceMethod yX9_team, Cond.selects RX9 yX9_team yX9_team, Cond.code yX9_team cX9_team 2 (some .int), Cond.methodLink RL 158 yL_submit, Cond.static yL_submit, Cond.codeWith yL_submit cL_submit 6 (some .int) [(0, 12, 15, 29), (0, 12, 19, 13), (0, 12, 23, 15)], Cond.methodLink RL 41 yX8_submit, Cond.instanceMethod yX8_submit, Cond.selects RX8 yX8_submit yX8_submit]
def wsL_law0_r24 : List Cond := [Cond.code yX8_submit cX8_submit 5 (some .int), Cond.fieldLink RX8 163 "Judgefold$Run" "team" "I", Cond.fieldLink RX8 169 "Judgefold$Run" "minute" "I", Cond.fieldLink RX8 172 "Judgefold$Run" "isPending" "Z", Cond.methodLink RX8 157 yX8_hasTeam, Cond.instanceMethod yX8_hasTeam, Cond.selects RX8 yX8_hasTeam yX8_hasTeam, Cond.code yX8_hasTeam cX8_hasTeam 2 (some .boolean), Cond.methodLink RX8 160 yX8_lastMinute, Cond.instanceMethod yX8_lastMinute, Cond.selects RX8 yX8_lastMinute yX8_lastMinute, Cond.code yX8_lastMinute cX8_lastMinute 1 (some .int), Cond.methodLink RX8 179 yX5_copyFrom, Cond.instanceMethod yX5_copyFrom, Cond.selects RX5 yX5_copyFrom yX5_copyFrom, Cond.code yX5_copyFrom cX5_copyFrom 3 none, Cond.methodLink RX5 26 yX5_append, Cond.methodLink RX8 182 yX8_judgeByAll, Cond.instanceMethod yX8_judgeByAll, Cond.selects RX8 yX8_judgeByAll yX8_judgeByAll, Cond.code yX8_judgeByAll cX8_judgeByAll 4 none, Cond.methodLink RX8 295 yX8_testCountOf, Cond.instanceMethod yX8_testCountOf, Cond.selects RX8 yX8_testCountOf yX8_testCountOf]
def wsL_law0_r25 : List Cond := [Cond.code yX8_testCountOf cX8_testCountOf 2 (some .int), Cond.methodLink RL 161 yX9_submit, Cond.instanceMethod yX9_submit, Cond.selects RX9 yX9_submit yX9_submit, Cond.code yX9_submit cX9_submit 7 (some .int), Cond.methodLink RX9 190 yX9_isNoTeam, Cond.instanceMethod yX9_isNoTeam, Cond.selects RX9 yX9_isNoTeam yX9_isNoTeam, Cond.code yX9_isNoTeam cX9_isNoTeam 2 (some .boolean), Cond.methodLink RL 162 yL_verdict, Cond.static yL_verdict, Cond.codeWith yL_verdict cL_verdict 4 (some .int) [(0, 9, 12, 29)], Cond.methodLink RL 45 yX8_verdict, Cond.instanceMethod yX8_verdict, Cond.selects RX8 yX8_verdict yX8_verdict, Cond.code yX8_verdict cX8_verdict 2 (some .char), Cond.methodLink RX8 190 yX8_hasRun, Cond.instanceMethod yX8_hasRun, Cond.selects RX8 yX8_hasRun yX8_hasRun, Cond.code yX8_hasRun cX8_hasRun 2 (some .boolean), Cond.methodLink RL 164 yX9_verdict, Cond.instanceMethod yX9_verdict, Cond.selects RX9 yX9_verdict yX9_verdict, Cond.code yX9_verdict cX9_verdict 2 (some .char)]
def wsL_law0_r26 : List Cond := [Cond.methodLink RX9 193 yX9_isNoRun, Cond.instanceMethod yX9_isNoRun, Cond.selects RX9 yX9_isNoRun yX9_isNoRun, Cond.code yX9_isNoRun cX9_isNoRun 2 (some .boolean), Cond.methodLink RL 165 yL_failed, Cond.static yL_failed, Cond.codeWith yL_failed cL_failed 4 (some .int) [(0, 9, 12, 29)], Cond.methodLink RL 49 yX8_failed, Cond.instanceMethod yX8_failed, Cond.selects RX8 yX8_failed yX8_failed, Cond.code yX8_failed cX8_failed 2 (some .int), Cond.fieldLink RX8 197 "Judgefold$Run" "failedTest" "I", Cond.methodLink RL 167 yX9_failed, Cond.instanceMethod yX9_failed, Cond.selects RX9 yX9_failed yX9_failed, Cond.code yX9_failed cX9_failed 2 (some .int), Cond.methodLink RL 168 yL_ended, Cond.static yL_ended, Cond.codeWith yL_ended cL_ended 5 (some .int) [(0, 10, 13, 29)], Cond.methodLink RL 52 yX8_ended, Cond.instanceMethod yX8_ended, Cond.selects RX8 yX8_ended yX8_ended, Cond.code yX8_ended cX8_ended 3 (some .char), Cond.methodLink RX8 200 yX8_hasTestOfRun]
def wsL_law0_r27 : List Cond := [Cond.instanceMethod yX8_hasTestOfRun, Cond.selects RX8 yX8_hasTestOfRun yX8_hasTestOfRun, Cond.code yX8_hasTestOfRun cX8_hasTestOfRun 3 (some .boolean), Cond.methodLink RL 170 yX9_ended, Cond.instanceMethod yX9_ended, Cond.selects RX9 yX9_ended yX9_ended, Cond.code yX9_ended cX9_ended 3 (some .char), Cond.methodLink RX9 196 yX9_isNoTest, Cond.instanceMethod yX9_isNoTest, Cond.selects RX9 yX9_isNoTest yX9_isNoTest, Cond.code yX9_isNoTest cX9_isNoTest 3 (some .boolean), Cond.methodLink RL 171 yL_steps, Cond.static yL_steps, Cond.codeWith yL_steps cL_steps 5 (some .int) [(0, 10, 13, 29)], Cond.methodLink RL 56 yX8_steps, Cond.instanceMethod yX8_steps, Cond.selects RX8 yX8_steps yX8_steps, Cond.code yX8_steps cX8_steps 3 (some .int), Cond.methodLink RL 173 yX9_steps, Cond.instanceMethod yX9_steps, Cond.selects RX9 yX9_steps yX9_steps, Cond.code yX9_steps cX9_steps 3 (some .int), Cond.methodLink RL 174 yL_outputs, Cond.static yL_outputs]
def wsL_law0_r28 : List Cond := [Cond.codeWith yL_outputs cL_outputs 5 (some .int) [(0, 10, 13, 29)], Cond.methodLink RL 59 yX8_outputs, Cond.instanceMethod yX8_outputs, Cond.selects RX8 yX8_outputs yX8_outputs, Cond.code yX8_outputs cX8_outputs 3 (some .int), Cond.fieldLink RX8 212 "Judgefold$Store" "sizes" "[I", Cond.methodLink RL 176 yX9_outputs, Cond.instanceMethod yX9_outputs, Cond.selects RX9 yX9_outputs yX9_outputs, Cond.code yX9_outputs cX9_outputs 3 (some .int), Cond.methodLink RL 177 yL_output, Cond.static yL_output, Cond.codeWith yL_output cL_output 6 (some .int) [(0, 12, 15, 29), (0, 12, 19, 65)], Cond.classLink RL 65 "java/util/NoSuchElementException", Cond.methodLink RL 62 yX8_output, Cond.instanceMethod yX8_output, Cond.selects RX8 yX8_output yX8_output, Cond.code yX8_output cX8_output 5 (some .int), Cond.classLink RX8 218 "java/util/NoSuchElementException", Cond.initialized "java/util/NoSuchElementException", Cond.methodLink RX8 221 yX7_numberAt, Cond.methodLink RL 179 yX9_output, Cond.instanceMethod yX9_output, Cond.selects RX9 yX9_output yX9_output]
def wsL_law0_r29 : List Cond := [Cond.code yX9_output cX9_output 4 (some .int), Cond.methodLink RL 180 yX8_kept, Cond.instanceMethod yX8_kept, Cond.selects RX8 yX8_kept yX8_kept, Cond.code yX8_kept cX8_kept 1 (some .int), Cond.fieldLink RX8 224 "Judgefold$Store" "usedSlots" "I", Cond.methodLink RL 183 yX9_kept, Cond.instanceMethod yX9_kept, Cond.selects RX9 yX9_kept yX9_kept, Cond.code yX9_kept cX9_kept 4 (some .int), Cond.methodLink RX9 199 yX9_isFirst, Cond.instanceMethod yX9_isFirst, Cond.selects RX9 yX9_isFirst yX9_isFirst, Cond.code yX9_isFirst cX9_isFirst 6 (some .boolean), Cond.methodLink RX9 202 yX9_areAlike, Cond.instanceMethod yX9_areAlike, Cond.selects RX9 yX9_areAlike yX9_areAlike, Cond.code yX9_areAlike cX9_areAlike 7 (some .boolean), Cond.methodLink RL 184 yL_sharing, Cond.static yL_sharing, Cond.codeWith yL_sharing cL_sharing 5 (some .int) [(0, 10, 13, 29)], Cond.methodLink RL 67 yX8_sharing, Cond.instanceMethod yX8_sharing, Cond.selects RX8 yX8_sharing yX8_sharing]
def wsL_law0_r30 : List Cond := [Cond.code yX8_sharing cX8_sharing 3 (some .int), Cond.fieldLink RX8 227 "Judgefold$Store" "users" "[I", Cond.methodLink RL 186 yX9_sharing, Cond.instanceMethod yX9_sharing, Cond.selects RX9 yX9_sharing yX9_sharing, Cond.code yX9_sharing cX9_sharing 6 (some .int), Cond.methodLink RL 187 yL_stock, Cond.static yL_stock, Cond.codeWith yL_stock cL_stock 5 (some .int) [(0, 10, 13, 13)], Cond.methodLink RL 70 yX8_stock, Cond.instanceMethod yX8_stock, Cond.selects RX8 yX8_stock yX8_stock, Cond.code yX8_stock cX8_stock 3 (some .int), Cond.fieldLink RX8 230 "Judgefold$Balloons" "stocks" "[I", Cond.methodLink RX8 233 yX0_serve, Cond.methodLink RL 189 yX9_stock, Cond.instanceMethod yX9_stock, Cond.selects RX9 yX9_stock yX9_stock, Cond.code yX9_stock cX9_stock 3 (some .int), Cond.methodLink RX9 206 yX9_isNoColour, Cond.static yX9_isNoColour, Cond.code yX9_isNoColour cX9_isNoColour 1 (some .boolean), Cond.methodLink RL 190 yL_inStock, Cond.static yL_inStock]
def wsL_law0_r31 : List Cond := [Cond.codeWith yL_inStock cL_inStock 4 (some .int) [(0, 9, 12, 13)], Cond.methodLink RL 73 yX8_inStock, Cond.instanceMethod yX8_inStock, Cond.selects RX8 yX8_inStock yX8_inStock, Cond.code yX8_inStock cX8_inStock 2 (some .int), Cond.methodLink RL 192 yX9_inStock, Cond.instanceMethod yX9_inStock, Cond.selects RX9 yX9_inStock yX9_inStock, Cond.code yX9_inStock cX9_inStock 2 (some .int), Cond.methodLink RL 193 yL_out, Cond.static yL_out, Cond.codeWith yL_out cL_out 4 (some .int) [(0, 9, 12, 13)], Cond.methodLink RL 76 yX8_out, Cond.instanceMethod yX8_out, Cond.selects RX8 yX8_out yX8_out, Cond.code yX8_out cX8_out 2 (some .int), Cond.fieldLink RX8 237 "Judgefold$Balloons" "outCounts" "[I", Cond.methodLink RL 195 yX9_out, Cond.instanceMethod yX9_out, Cond.selects RX9 yX9_out yX9_out, Cond.code yX9_out cX9_out 5 (some .int), Cond.methodLink RL 196 yL_balloon, Cond.static yL_balloon, Cond.codeWith yL_balloon cL_balloon 5 (some .int) [(0, 10, 13, 29)]]
def wsL_law0_r32 : List Cond := [Cond.methodLink RL 79 yX8_balloon, Cond.instanceMethod yX8_balloon, Cond.selects RX8 yX8_balloon yX8_balloon, Cond.code yX8_balloon cX8_balloon 3 (some .char), Cond.fieldLink RX8 240 "Judgefold$Balloons" "states" "[C", Cond.methodLink RX8 243 yX8_spotOf, Cond.methodLink RL 198 yX9_balloon, Cond.instanceMethod yX9_balloon, Cond.selects RX9 yX9_balloon yX9_balloon, Cond.code yX9_balloon cX9_balloon 3 (some .char), Cond.methodLink RL 199 yL_waiting, Cond.static yL_waiting, Cond.codeWith yL_waiting cL_waiting 5 (some .int) [(0, 10, 13, 13), (0, 10, 17, 65)], Cond.methodLink RL 82 yX8_waiting, Cond.instanceMethod yX8_waiting, Cond.selects RX8 yX8_waiting yX8_waiting, Cond.code yX8_waiting cX8_waiting 3 (some .int), Cond.fieldLink RX8 246 "Judgefold$Balloons" "queueSizes" "[I", Cond.fieldLink RX8 249 "Judgefold$Balloons" "queues" "[[I", Cond.methodLink RX8 253 yX8_teamOf, Cond.static yX8_teamOf, Cond.code yX8_teamOf cX8_teamOf 1 (some .int), Cond.methodLink RL 201 yX9_waiting, Cond.instanceMethod yX9_waiting]
def wsL_law0_r33 : List Cond := [Cond.selects RX9 yX9_waiting yX9_waiting, Cond.code yX9_waiting cX9_waiting 4 (some .int), Cond.methodLink RL 202 yX8_calledBack, Cond.instanceMethod yX8_calledBack, Cond.selects RX8 yX8_calledBack yX8_calledBack, Cond.code yX8_calledBack cX8_calledBack 1 (some .int), Cond.fieldLink RX8 257 "Judgefold$Balloons" "callBacks" "I", Cond.methodLink RL 205 yX9_calledBack, Cond.instanceMethod yX9_calledBack, Cond.selects RX9 yX9_calledBack yX9_calledBack, Cond.code yX9_calledBack cX9_calledBack 1 (some .int), Cond.methodLink RL 206 yL_freeze, Cond.static yL_freeze, Cond.codeWith yL_freeze cL_freeze 4 (some .int) [(0, 9, 12, 13), (0, 9, 15, 88)], Cond.classLink RL 88 "java/lang/UnsupportedOperationException", Cond.methodLink RL 85 yX8_freeze, Cond.instanceMethod yX8_freeze, Cond.selects RX8 yX8_freeze yX8_freeze, Cond.code yX8_freeze cX8_freeze 4 (some .int), Cond.classLink RX8 260 "java/lang/UnsupportedOperationException", Cond.initialized "java/lang/UnsupportedOperationException", Cond.methodLink RL 208 yX9_freeze, Cond.instanceMethod yX9_freeze, Cond.selects RX9 yX9_freeze yX9_freeze]
def wsL_law0_r34 : List Cond := [Cond.code yX9_freeze cX9_freeze 4 (some .int), Cond.methodLink RX9 209 yX9_isPending, Cond.instanceMethod yX9_isPending, Cond.selects RX9 yX9_isPending yX9_isPending, Cond.code yX9_isPending cX9_isPending 2 (some .boolean), Cond.methodLink RL 209 yL_pending, Cond.static yL_pending, Cond.codeWith yL_pending cL_pending 5 (some .int) [(0, 10, 13, 29)], Cond.methodLink RL 90 yX8_pending, Cond.instanceMethod yX8_pending, Cond.selects RX8 yX8_pending yX8_pending, Cond.code yX8_pending cX8_pending 3 (some .int), Cond.methodLink RX8 263 yX8_countPending, Cond.instanceMethod yX8_countPending, Cond.selects RX8 yX8_countPending yX8_countPending, Cond.code yX8_countPending cX8_countPending 5 (some .int), Cond.methodLink RL 211 yX9_pending, Cond.instanceMethod yX9_pending, Cond.selects RX9 yX9_pending yX9_pending, Cond.code yX9_pending cX9_pending 3 (some .int), Cond.methodLink RX9 212 yX9_pendingOf, Cond.instanceMethod yX9_pendingOf, Cond.selects RX9 yX9_pendingOf yX9_pendingOf, Cond.code yX9_pendingOf cX9_pendingOf 5 (some .int)]
def wsL_law0_r35 : List Cond := [Cond.methodLink RL 212 yL_open, Cond.static yL_open, Cond.codeWith yL_open cL_open 3 (some .int) [(0, 8, 11, 65)], Cond.methodLink RL 93 yX8_open, Cond.instanceMethod yX8_open, Cond.selects RX8 yX8_open yX8_open, Cond.code yX8_open cX8_open 2 (some .int), Cond.methodLink RX8 266 yX8_lowestPendingTeam, Cond.instanceMethod yX8_lowestPendingTeam, Cond.selects RX8 yX8_lowestPendingTeam yX8_lowestPendingTeam, Cond.code yX8_lowestPendingTeam cX8_lowestPendingTeam 3 (some .int), Cond.fieldLink RX8 289 "Judgefold$Board" "order" "[I", Cond.methodLink RX8 269 yX8_lowestPendingProblem, Cond.instanceMethod yX8_lowestPendingProblem, Cond.selects RX8 yX8_lowestPendingProblem yX8_lowestPendingProblem, Cond.code yX8_lowestPendingProblem cX8_lowestPendingProblem 3 (some .int), Cond.methodLink RX8 272 yX8_openRuns, Cond.instanceMethod yX8_openRuns, Cond.selects RX8 yX8_openRuns yX8_openRuns, Cond.code yX8_openRuns cX8_openRuns 4 none, Cond.methodLink RL 214 yX9_open, Cond.instanceMethod yX9_open, Cond.selects RX9 yX9_open yX9_open, Cond.code yX9_open cX9_open 4 (some .int)]
def wsL_law0_r36 : List Cond := [Cond.methodLink RX9 215 yX9_pendingIn, Cond.instanceMethod yX9_pendingIn, Cond.selects RX9 yX9_pendingIn yX9_pendingIn, Cond.code yX9_pendingIn cX9_pendingIn 3 (some .int), Cond.methodLink RX9 218 yX9_isAhead, Cond.instanceMethod yX9_isAhead, Cond.selects RX9 yX9_isAhead yX9_isAhead, Cond.code yX9_isAhead cX9_isAhead 5 (some .boolean), Cond.methodLink RX9 226 yX9_solvedBy, Cond.instanceMethod yX9_solvedBy, Cond.selects RX9 yX9_solvedBy yX9_solvedBy, Cond.code yX9_solvedBy cX9_solvedBy 5 (some .int), Cond.methodLink RX9 222 yX9_firstOf, Cond.instanceMethod yX9_firstOf, Cond.selects RX9 yX9_firstOf yX9_firstOf, Cond.code yX9_firstOf cX9_firstOf 5 (some .int), Cond.methodLink RX9 230 yX9_penaltyOf, Cond.instanceMethod yX9_penaltyOf, Cond.selects RX9 yX9_penaltyOf yX9_penaltyOf, Cond.code yX9_penaltyOf cX9_penaltyOf 7 (some .int), Cond.methodLink RX9 233 yX9_latestOf, Cond.instanceMethod yX9_latestOf, Cond.selects RX9 yX9_latestOf yX9_latestOf, Cond.code yX9_latestOf cX9_latestOf 6 (some .int)]
def wsL_law0_r37 : List Cond := [Cond.methodLink RL 215 yL_solved, Cond.static yL_solved, Cond.codeWith yL_solved cL_solved 5 (some .int) [(0, 10, 13, 29)], Cond.methodLink RL 96 yX8_solved, Cond.instanceMethod yX8_solved, Cond.selects RX8 yX8_solved yX8_solved, Cond.code yX8_solved cX8_solved 3 (some .int), Cond.fieldLink RX8 280 "Judgefold$Board" "solvedCounts" "[I", Cond.methodLink RX8 276 yX8_boardOf, Cond.instanceMethod yX8_boardOf, Cond.selects RX8 yX8_boardOf yX8_boardOf, Cond.code yX8_boardOf cX8_boardOf 2 (some (.object "Judgefold$Board")), Cond.methodLink RL 217 yX9_solved, Cond.instanceMethod yX9_solved, Cond.selects RX9 yX9_solved yX9_solved, Cond.code yX9_solved cX9_solved 3 (some .int), Cond.methodLink RL 218 yL_penalty, Cond.static yL_penalty, Cond.codeWith yL_penalty cL_penalty 5 (some .int) [(0, 10, 13, 29)], Cond.methodLink RL 99 yX8_penalty, Cond.instanceMethod yX8_penalty, Cond.selects RX8 yX8_penalty yX8_penalty, Cond.code yX8_penalty cX8_penalty 3 (some .int), Cond.fieldLink RX8 283 "Judgefold$Board" "penalties" "[I"]
def wsL_law0_r38 : List Cond := [Cond.methodLink RL 220 yX9_penalty, Cond.instanceMethod yX9_penalty, Cond.selects RX9 yX9_penalty yX9_penalty, Cond.code yX9_penalty cX9_penalty 3 (some .int), Cond.methodLink RL 221 yL_rank, Cond.static yL_rank, Cond.codeWith yL_rank cL_rank 5 (some .int) [(0, 10, 13, 29)], Cond.methodLink RL 102 yX8_rank, Cond.instanceMethod yX8_rank, Cond.selects RX8 yX8_rank yX8_rank, Cond.code yX8_rank cX8_rank 3 (some .int), Cond.methodLink RX8 286 yX1_rankOf, Cond.instanceMethod yX1_rankOf, Cond.selects RX1 yX1_rankOf yX1_rankOf, Cond.code yX1_rankOf cX1_rankOf 3 (some .int), Cond.methodLink RL 223 yX9_rank, Cond.instanceMethod yX9_rank, Cond.selects RX9 yX9_rank yX9_rank, Cond.code yX9_rank cX9_rank 3 (some .int), Cond.methodLink RX9 236 yX9_rankOf, Cond.instanceMethod yX9_rankOf, Cond.selects RX9 yX9_rankOf yX9_rankOf, Cond.code yX9_rankOf cX9_rankOf 5 (some .int), Cond.methodLink RL 224 yL_ranked]
def wsL_law0_r39 : List Cond := [Cond.static yL_ranked, Cond.codeWith yL_ranked cL_ranked 5 (some .int) [(0, 10, 13, 65)], Cond.methodLink RL 105 yX8_ranked, Cond.instanceMethod yX8_ranked, Cond.selects RX8 yX8_ranked yX8_ranked, Cond.code yX8_ranked cX8_ranked 3 (some .int), Cond.methodLink RL 226 yX9_ranked, Cond.instanceMethod yX9_ranked, Cond.selects RX9 yX9_ranked yX9_ranked, Cond.code yX9_ranked cX9_ranked 5 (some .int), Cond.methodLink RL 227 yL_acceptedShare, Cond.static yL_acceptedShare, Cond.codeWith yL_acceptedShare cL_acceptedShare 3 (some .int) [(0, 8, 11, 112)], Cond.classLink RL 112 "java/lang/ArithmeticException", Cond.methodLink RL 108 yX8_acceptedShare, Cond.instanceMethod yX8_acceptedShare, Cond.selects RX8 yX8_acceptedShare yX8_acceptedShare, Cond.code yX8_acceptedShare cX8_acceptedShare 3 (some .float), Cond.classLink RX8 292 "java/lang/ArithmeticException", Cond.initialized "java/lang/ArithmeticException", Cond.methodLink RL 230 yX9_acceptedShare, Cond.instanceMethod yX9_acceptedShare, Cond.selects RX9 yX9_acceptedShare yX9_acceptedShare, Cond.code yX9_acceptedShare cX9_acceptedShare 3 (some .float)]
def wsL_law0_r40 : List Cond := [Cond.methodLink RL 231 yL_meanSteps, Cond.static yL_meanSteps, Cond.codeWith yL_meanSteps cL_meanSteps 3 (some .int) [(0, 7, 10, 112)], Cond.methodLink RL 114 yX8_meanSteps, Cond.instanceMethod yX8_meanSteps, Cond.selects RX8 yX8_meanSteps yX8_meanSteps, Cond.code yX8_meanSteps cX8_meanSteps 6 (some .double), Cond.methodLink RL 233 yX9_meanSteps, Cond.instanceMethod yX9_meanSteps, Cond.selects RX9 yX9_meanSteps yX9_meanSteps, Cond.code yX9_meanSteps cX9_meanSteps 5 (some .double), Cond.methodLink RL 234 yX8_checksum, Cond.instanceMethod yX8_checksum, Cond.selects RX8 yX8_checksum yX8_checksum, Cond.code yX8_checksum cX8_checksum 6 (some .long), Cond.constantLong RX8 299 (7), Cond.constantLong RX8 301 (31), Cond.constantLong RX8 307 (1000), Cond.methodLink RX8 303 yX7_addTo, Cond.instanceMethod yX7_addTo, Cond.selects RX7 yX7_addTo yX7_addTo, Cond.code yX7_addTo cX7_addTo 7 (some .long), Cond.constantLong RX7 41 (31), Cond.methodLink RL 238 yX9_checksum]
def wsL_law0_r41 : List Cond := [Cond.instanceMethod yX9_checksum, Cond.selects RX9 yX9_checksum yX9_checksum, Cond.code yX9_checksum cX9_checksum 6 (some .long), Cond.constantLong RX9 239 (7), Cond.constantLong RX9 241 (31), Cond.constantLong RX9 243 (1000), Cond.methodLink RL 239 yX8_isTrue, Cond.instanceMethod yX8_isTrue, Cond.selects RX8 yX8_isTrue yX8_isTrue, Cond.code yX8_isTrue cX8_isTrue 1 (some .boolean), Cond.methodLink RX8 309 yX8_isRankedAnew, Cond.instanceMethod yX8_isRankedAnew, Cond.selects RX8 yX8_isRankedAnew yX8_isRankedAnew, Cond.code yX8_isRankedAnew cX8_isRankedAnew 2 (some .boolean), Cond.methodLink RX8 359 yX1_isLike, Cond.instanceMethod yX1_isLike, Cond.selects RX1 yX1_isLike yX1_isLike, Cond.code yX1_isLike cX1_isLike 3 (some .boolean), Cond.methodLink RX8 312 yX8_areBalloonsEarned, Cond.instanceMethod yX8_areBalloonsEarned, Cond.selects RX8 yX8_areBalloonsEarned yX8_areBalloonsEarned, Cond.code yX8_areBalloonsEarned cX8_areBalloonsEarned 5 (some .boolean), Cond.methodLink RX8 363 yX1_hasSolved, Cond.methodLink RX8 316 yX0_isStockLeftOver]
def wsL_law0_r42 : List Cond := [Cond.instanceMethod yX0_isStockLeftOver, Cond.selects RX0 yX0_isStockLeftOver yX0_isStockLeftOver, Cond.code yX0_isStockLeftOver cX0_isStockLeftOver 2 (some .boolean), Cond.methodLink RX8 319 yX8_areOutputsAnew, Cond.instanceMethod yX8_areOutputsAnew, Cond.selects RX8 yX8_areOutputsAnew yX8_areOutputsAnew, Cond.code yX8_areOutputsAnew cX8_areOutputsAnew 4 (some .boolean), Cond.methodLink RX8 366 yX7_isAlike, Cond.methodLink RL 243 yX9_isTrue, Cond.instanceMethod yX9_isTrue, Cond.selects RX9 yX9_isTrue yX9_isTrue, Cond.code yX9_isTrue cX9_isTrue 1 (some .boolean)]
def wsL_law0 : List Cond := (wsL_law0_r1 ++ (wsL_law0_r2 ++ (wsL_law0_r3 ++ (wsL_law0_r4 ++ (wsL_law0_r5 ++ (wsL_law0_r6 ++ (wsL_law0_r7 ++ (wsL_law0_r8 ++ (wsL_law0_r9 ++ (wsL_law0_r10 ++ (wsL_law0_r11 ++ (wsL_law0_r12 ++ (wsL_law0_r13 ++ (wsL_law0_r14 ++ (wsL_law0_r15 ++ (wsL_law0_r16 ++ (wsL_law0_r17 ++ (wsL_law0_r18 ++ (wsL_law0_r19 ++ (wsL_law0_r20 ++ (wsL_law0_r21 ++ (wsL_law0_r22 ++ (wsL_law0_r23 ++ (wsL_law0_r24 ++ (wsL_law0_r25 ++ (wsL_law0_r26 ++ (wsL_law0_r27 ++ (wsL_law0_r28 ++ (wsL_law0_r29 ++ (wsL_law0_r30 ++ (wsL_law0_r31 ++ (wsL_law0_r32 ++ (wsL_law0_r33 ++ (wsL_law0_r34 ++ (wsL_law0_r35 ++ (wsL_law0_r36 ++ (wsL_law0_r37 ++ (wsL_law0_r38 ++ (wsL_law0_r39 ++ (wsL_law0_r40 ++ (wsL_law0_r41 ++ wsL_law0_r42))))))))))))))))))))))))))))))))))))))))) ++ wsX80 ++ wsX90 ++ wsX50 ++ wsX30 ++ wsX20 ++ wsX70 ++ wsX00 ++ wsX10 ++ wsX40 ++ wsX60 ++ ([] : List Cond)
def wsL_law : List Cond := wsL_law0 ++ (vx_at0 RX8 90 "java/lang/IllegalArgumentException" ["java/lang/RuntimeException", "java/lang/Exception"]).filter goodWord ++ (vx_at0 RX8 96 "java/lang/IllegalStateException" ["java/lang/RuntimeException", "java/lang/Exception"]).filter goodWord ++ (vx_at0 RX8 135 "java/lang/IndexOutOfBoundsException" ["java/lang/RuntimeException", "java/lang/Exception"]).filter goodWord ++ (vx_at0 RX8 220 "java/util/NoSuchElementException" ["java/lang/RuntimeException", "java/lang/Exception"]).filter goodWord ++ (vx_at0 RX8 262 "java/lang/UnsupportedOperationException" ["java/lang/RuntimeException", "java/lang/Exception"]).filter goodWord ++ (vx_at0 RX8 294 "java/lang/ArithmeticException" ["java/lang/RuntimeException", "java/lang/Exception"]).filter goodWord
theorem inlX0 : ∀ w ∈ wsX00, w ∈ wsL_law := fun _ h => List.mem_append_left _ (List.mem_append_left _ (List.mem_append_left _ (List.mem_append_left _ (List.mem_append_left _ (List.mem_append_left _ (List.mem_append_left _ (List.mem_append_left _ (List.mem_append_left _ (List.mem_append_left _ (List.mem_append_right _ h))))))))))
theorem inlX1 : ∀ w ∈ wsX10, w ∈ wsL_law := fun _ h => List.mem_append_left _ (List.mem_append_left _ (List.mem_append_left _ (List.mem_append_left _ (List.mem_append_left _ (List.mem_append_left _ (List.mem_append_left _ (List.mem_append_left _ (List.mem_append_left _ (List.mem_append_right _ h)))))))))
theorem inlX2 : ∀ w ∈ wsX20, w ∈ wsL_law := fun _ h => List.mem_append_left _ (List.mem_append_left _ (List.mem_append_left _ (List.mem_append_left _ (List.mem_append_left _ (List.mem_append_left _ (List.mem_append_left _ (List.mem_append_left _ (List.mem_append_left _ (List.mem_append_left _ (List.mem_append_left _ (List.mem_append_left _ (List.mem_append_right _ h))))))))))))
theorem inlX3 : ∀ w ∈ wsX30, w ∈ wsL_law := fun _ h => List.mem_append_left _ (List.mem_append_left _ (List.mem_append_left _ (List.mem_append_left _ (List.mem_append_left _ (List.mem_append_left _ (List.mem_append_left _ (List.mem_append_left _ (List.mem_append_left _ (List.mem_append_left _ (List.mem_append_left _ (List.mem_append_left _ (List.mem_append_left _ (List.mem_append_right _ h)))))))))))))
theorem inlX4 : ∀ w ∈ wsX40, w ∈ wsL_law := fun _ h => List.mem_append_left _ (List.mem_append_left _ (List.mem_append_left _ (List.mem_append_left _ (List.mem_append_left _ (List.mem_append_left _ (List.mem_append_left _ (List.mem_append_left _ (List.mem_append_right _ h))))))))
theorem inlX5 : ∀ w ∈ wsX50, w ∈ wsL_law := fun _ h => List.mem_append_left _ (List.mem_append_left _ (List.mem_append_left _ (List.mem_append_left _ (List.mem_append_left _ (List.mem_append_left _ (List.mem_append_left _ (List.mem_append_left _ (List.mem_append_left _ (List.mem_append_left _ (List.mem_append_left _ (List.mem_append_left _ (List.mem_append_left _ (List.mem_append_left _ (List.mem_append_right _ h))))))))))))))
theorem inlX6 : ∀ w ∈ wsX60, w ∈ wsL_law := fun _ h => List.mem_append_left _ (List.mem_append_left _ (List.mem_append_left _ (List.mem_append_left _ (List.mem_append_left _ (List.mem_append_left _ (List.mem_append_left _ (List.mem_append_right _ h)))))))
theorem inlX7 : ∀ w ∈ wsX70, w ∈ wsL_law := fun _ h => List.mem_append_left _ (List.mem_append_left _ (List.mem_append_left _ (List.mem_append_left _ (List.mem_append_left _ (List.mem_append_left _ (List.mem_append_left _ (List.mem_append_left _ (List.mem_append_left _ (List.mem_append_left _ (List.mem_append_left _ (List.mem_append_right _ h)))))))))))
theorem inlX8 : ∀ w ∈ wsX80, w ∈ wsL_law := fun _ h => List.mem_append_left _ (List.mem_append_left _ (List.mem_append_left _ (List.mem_append_left _ (List.mem_append_left _ (List.mem_append_left _ (List.mem_append_left _ (List.mem_append_left _ (List.mem_append_left _ (List.mem_append_left _ (List.mem_append_left _ (List.mem_append_left _ (List.mem_append_left _ (List.mem_append_left _ (List.mem_append_left _ (List.mem_append_left _ (List.mem_append_right _ h))))))))))))))))
theorem inlX9 : ∀ w ∈ wsX90, w ∈ wsL_law := fun _ h => List.mem_append_left _ (List.mem_append_left _ (List.mem_append_left _ (List.mem_append_left _ (List.mem_append_left _ (List.mem_append_left _ (List.mem_append_left _ (List.mem_append_left _ (List.mem_append_left _ (List.mem_append_left _ (List.mem_append_left _ (List.mem_append_left _ (List.mem_append_left _ (List.mem_append_left _ (List.mem_append_left _ (List.mem_append_right _ h)))))))))))))))
end
section
def kT0 : List (Nat × Nat) := [(8, 14), (5, 4), (21, 20), (20, 20), (20, 20), (3, 4), (20, 4), (20, 6), (30, 5), (31, 40), (2, 7), (20, 4), (20, 6), (7, 4), (20, 1440), (20, 240), (20, 240), (0, 6), (21, 40), (33, 4), (20, 40), (20, 40), (20, 40), (20, 40), (20, 4), (20, 4), (20, 4), (1, 7), (20, 40), (20, 40), (20, 8), (20, 8), (20, 8), (20, 8), (1, 7), (20, 40), (20, 40), (20, 8), (20, 8), (20, 8), (20, 8), (1, 7), (20, 40), (20, 40), (20, 8), (20, 8), (20, 8), (20, 8)]
def kTP : List (Nat × Nat) := [(4, 4), (32, 6), (3, 4), (20, 4), (20, 6), (3, 4), (20, 4), (20, 6), (3, 4), (20, 4), (20, 6), (3, 4), (20, 4), (20, 6), (3, 4), (20, 4), (20, 6), (3, 4), (20, 4), (20, 6)]
def kTR : List (Nat × Nat) := [(6, 10), (5, 4), (21, 20), (20, 20), (20, 20), (21, 6), (20, 6), (20, 6)]
def kTM : List (Nat × Nat) := [(9, 38), (21, 20), (20, 20), (20, 20), (20, 4), (20, 6), (20, 5), (20, 5), (20, 5), (20, 120), (20, 30), (20, 180), (20, 30), (20, 40), (20, 40), (20, 40), (20, 40), (21, 800), (20, 800), (20, 800), (21, 240), (20, 240), (20, 1440), (20, 240), (20, 4), (21, 40), (20, 40), (20, 4), (22, 40), (23, 1), (24, 1)]
def sk0 : List (Nat × Int × Nat × Nat) := [(1, 1, 21, 40), (1, 2, 33, 4), (1, 7, 20, 4), (1, 8, 20, 4), (1, 9, 20, 4), (0, 0, 0, 0)]
def sk1 : List (Nat × Int × Nat × Nat) := [(1, 1, 20, 40), (1, 2, 20, 40), (1, 3, 20, 8), (1, 4, 20, 8), (1, 5, 20, 8), (1, 6, 20, 8), (0, 0, 0, 0)]
def sk2 : List (Nat × Int × Nat × Nat) := [(1, 1, 20, 4), (1, 2, 20, 6), (0, 0, 0, 0), (0, 0, 0, 0), (0, 0, 0, 0), (0, 0, 0, 0), (0, 0, 0, 0)]
def sk3 : List (Nat × Int × Nat × Nat) := [(1, 1, 20, 4), (1, 2, 20, 6), (0, 0, 0, 0), (0, 0, 0, 0)]
def sk4 : List (Nat × Int × Nat × Nat) := [(1, 1, 32, 6), (0, 0, 0, 0), (0, 0, 0, 0), (0, 0, 0, 0)]
def sk5 : List (Nat × Int × Nat × Nat) := [(1, 1, 21, 20), (1, 2, 20, 20), (1, 3, 20, 20), (0, 0, 0, 0)]
def sk6 : List (Nat × Int × Nat × Nat) := [(1, 1, 5, 4), (1, 5, 21, 6), (1, 6, 20, 6), (1, 7, 20, 6), (0, 0, 0, 0), (0, 0, 0, 0), (0, 0, 0, 0), (0, 0, 0, 0), (0, 0, 0, 0), (0, 0, 0, 0)]
def sk7 : List (Nat × Int × Nat × Nat) := [(1, 1, 20, 1440), (1, 2, 20, 240), (1, 3, 20, 240), (0, 0, 0, 0)]
def sk8 : List (Nat × Int × Nat × Nat) := [(1, 1, 5, 4), (1, 5, 3, 4), (1, 8, 30, 5), (1, 9, 31, 40), (1, 10, 2, 7), (1, 13, 7, 4), (1, 17, 0, 6), (1, 27, 1, 7), (1, 34, 1, 7), (1, 41, 1, 7), (0, 0, 0, 0), (0, 0, 0, 0), (0, 0, 0, 0), (0, 0, 0, 0)]
def sk9 : List (Nat × Int × Nat × Nat) := [(0, 0, 0, 0), (0, 0, 0, 0), (1, 1, 21, 20), (1, 2, 20, 20), (1, 3, 20, 20), (0, 0, 0, 0), (0, 0, 0, 0), (1, 4, 20, 4), (1, 5, 20, 6), (0, 0, 0, 0), (1, 6, 20, 5), (1, 7, 20, 5), (1, 8, 20, 5), (1, 9, 20, 120), (1, 10, 20, 30), (1, 11, 20, 180), (1, 12, 20, 30), (0, 0, 0, 0), (0, 0, 0, 0), (1, 13, 20, 40), (1, 14, 20, 40), (1, 15, 20, 40), (1, 16, 20, 40), (1, 17, 21, 800), (1, 18, 20, 800), (1, 19, 20, 800), (1, 20, 21, 240), (1, 21, 20, 240), (1, 22, 20, 1440), (1, 23, 20, 240), (1, 24, 20, 4), (1, 25, 21, 40), (1, 26, 20, 40), (1, 27, 20, 4), (0, 0, 0, 0), (0, 0, 0, 0), (0, 0, 0, 0), (1, 28, 22, 40)]
/-- all ints are Int32.ofInt of an integer; the memory: object, place -> integer -/
abbrev Mem : Type := Int → Int → Int
/-- the launch, the base address, where classes and array classes lie -/
abbrev GG : Type := Launch × Nat × va_G × (Nat → ClassId)
def iZ (z : Int) : Int32 := Int32.ofInt z
abbrev iv (z : Int) : Value := .int (iZ z)
abbrev rv (g : GG) (o : Int) : Value := .ref (g.2.1 + o.toNat)
abbrev kcl : List vw_C := [(RX0, TX0, 6), (RX1, TX1, 7), (RX2, TX2, 7), (RX3, TX3, 4), (RX4, TX4, 4), (RX5, TX5, 4), (RX6, TX6, 10), (RX7, TX7, 4), (RX8, TX8, 14), (RX9, TX9, 38)]
def kdN (n : Nat) : Nat × Nat := if n < 48 then kT0.getD n (99, 0) else if n < 148 then kTP.getD ((n - 48) % 20) (99, 0) else if n < 468 then kTR.getD ((n - 148) % 8) (99, 0) else kTM.getD (n - 468) (99, 0)
def kd (o : Int) : Nat × Nat := kdN o.toNat
/-- what a place holds: 0 an int, 1 a reference so much further on and to what, 2 a long, 3 a double -/
def sk (t k : Nat) : Nat × Int × Nat × Nat := match t with
  | 0 => sk0.getD k (0, 0, 0, 0)
  | 1 => sk1.getD k (0, 0, 0, 0)
  | 2 => sk2.getD k (0, 0, 0, 0)
  | 3 => sk3.getD k (0, 0, 0, 0)
  | 4 => sk4.getD k (0, 0, 0, 0)
  | 5 => sk5.getD k (0, 0, 0, 0)
  | 6 => sk6.getD k (0, 0, 0, 0)
  | 7 => sk7.getD k (0, 0, 0, 0)
  | 8 => sk8.getD k (0, 0, 0, 0)
  | 9 => sk9.getD k (0, 0, 0, 0)
  | 23 => (2, 0, 0, 0)
  | 24 => (3, 0, 0, 0)
  | 30 => (1, 40 + 20 * (k : Int), 4, 4)
  | 31 => (1, 139 + 8 * (k : Int), 6, 10)
  | 32 => (1, 1 + 3 * (k : Int), 3, 4)
  | 33 => (1, 1 + (k : Int), 20, 40)
  | _ => (0, 0, 0, 0)
def vl (g : GG) (o : Int) (t k : Nat) (z : Int) : Value := if (sk t k).1 = 0 then iv z else if (sk t k).1 = 1 then rv g (o + (sk t k).2.1) else if (sk t k).1 = 2 then .long (Int64.ofInt z) else .double (UInt64.ofNat z.toNat)
def OB (g : GG) (o : Int) (tn : Nat × Nat) (V : Nat → Value) (H : Heap) : Prop := if tn.1 < 10 then t_OB (g.2.1 + o.toNat) (g.2.2.1.1 tn.1) tn.2 (g.2.2.1.2 tn.1) H V else H[g.2.1 + o.toNat]? = some (arrV (g.2.2.2 tn.1) tn.2 V)
def rg (z : Int) : Prop := -2147483648 ≤ z ∧ z < 2147483648
def HP (g : GG) (M : Mem) (H : Heap) : Prop := (∀ o k : Int, o < 497 → rg (M o k)) ∧ ∀ o : Int, 0 ≤ o → o < 499 → OB g o (kd o) (fun k => vl g o (kd o).1 k (M o k)) H
def isK (t n : Nat) (o : Int) : Prop := 0 ≤ o ∧ o < 499 ∧ kd o = (t, n)
def clB (n k : Nat) : Bool := if (sk (kdN n).1 k).1 = 1 then decide (0 ≤ (sk (kdN n).1 k).2.1) && decide (n + (sk (kdN n).1 k).2.1.toNat < 499) && decide (kdN (n + (sk (kdN n).1 k).2.1.toNat) = ((sk (kdN n).1 k).2.2.1, (sk (kdN n).1 k).2.2.2)) else true
theorem clB_ok : (List.range 499).all (fun n => (List.range (kdN n).2).all (fun k => clB n k)) = true := by decide +kernel
theorem isK.ref {t n t' n' : Nat} {o d : Int} (h : isK t n o) (k : Nat) (hk : k < n) (hs : sk t k = (1, d, t', n')) : isK t' n' (o + d) := by
  obtain ⟨h0, h1, h2⟩ := h
  have h3 := List.all_eq_true.mp clB_ok o.toNat (List.mem_range.mpr (by omega))
  have hkd : kdN o.toNat = (t, n) := h2
  have h4 := List.all_eq_true.mp h3 k (List.mem_range.mpr (by rw [hkd]; exact hk))
  simp only [clB, hkd, hs, if_true, Bool.and_eq_true, decide_eq_true_eq] at h4
  obtain ⟨⟨a1, a2⟩, a3⟩ := h4
  refine ⟨by omega, by omega, ?_⟩
  show kdN (o + d).toNat = _
  rw [show (o + d).toNat = o.toNat + d.toNat by omega]
  exact a3
def up (M : Mem) (o k v : Int) : Mem := fun o' k' => if o' = o ∧ k' = k then v else M o' k'
theorem up_s (M : Mem) (o k v : Int) : up M o k v o k = v := by simp [up]
theorem up_o {M : Mem} {o k v o' k' : Int} (h : o' ≠ o) : up M o k v o' k' = M o' k' := by simp [up, h]
theorem up_k {M : Mem} {o k v o' k' : Int} (h : k' ≠ k) : up M o k v o' k' = M o' k' := by simp [up, h]
theorem up_n {M : Mem} {o k v o' k' : Int} (h : ¬ (o' = o ∧ k' = k)) : up M o k v o' k' = M o' k' := by simp only [up, if_neg h]
/-! ints -/
theorem iZ_add (a b : Int) : iZ a + iZ b = iZ (a + b) := (Int32.ofInt_add a b).symm
theorem iZ_sub (a b : Int) : iZ a - iZ b = iZ (a - b) := (Int32.ofInt_sub a b).symm
theorem iZ_mul (a b : Int) : iZ a * iZ b = iZ (a * b) := (Int32.ofInt_mul a b).symm
theorem iZ_ti {z : Int} (h : rg z) : (iZ z).toInt = z := Int32.toInt_ofInt_of_le (by have := h.1; omega) (by have := h.2; omega)
theorem iZ_of (x : Int32) : iZ x.toInt = x := Int32.ofInt_toInt x
theorem rg_of (x : Int32) : rg x.toInt := ⟨by have := Int32.le_toInt x; omega, by have := Int32.toInt_lt x; omega⟩
theorem iZ_lt {a b : Int} (ha : rg a) (hb : rg b) : iZ a < iZ b ↔ a < b := by rw [Int32.lt_iff_toInt_lt, iZ_ti ha, iZ_ti hb]
theorem iZ_le {a b : Int} (ha : rg a) (hb : rg b) : iZ a ≤ iZ b ↔ a ≤ b := by rw [Int32.le_iff_toInt_le, iZ_ti ha, iZ_ti hb]
theorem iZ_eq {a b : Int} (ha : rg a) (hb : rg b) : iZ a = iZ b ↔ a = b := by rw [← Int32.toInt_inj, iZ_ti ha, iZ_ti hb]
theorem iZ_0 : iZ 0 = 0 := rfl
theorem iZ_cl {z : Int} (h0 : 0 ≤ z) (h1 : z < 2147483648) : (iZ z).toNatClampNeg = z.toNat := Int32.toNatClampNeg_ofInt_of_le (by omega) (by omega)
theorem iZ_in {z : Int} {n : Nat} (h0 : 0 ≤ z) (h1 : z < n) (hn : n < 2147483648) : ¬ (iZ z < 0 ∨ n ≤ (iZ z).toNatClampNeg) := by
  rw [iZ_cl h0 (by omega)]
  rintro (h | h)
  · rw [← iZ_0, iZ_lt ⟨by omega, by omega⟩ ⟨by omega, by omega⟩] at h; omega
  · omega
theorem rg_0 : rg 0 := ⟨by omega, by omega⟩
end
section
/-- a method: bytes, class, locals, what it returns -/
abbrev MI : Type := ByteArray × String × Nat × Option FieldType
def KK (g : GG) (U : State) : Prop := va_K g.2.2.1 kcl [] U ∧ ArrOfT U (g.2.2.2 20) .int ∧ ArrOfT U (g.2.2.2 21) .char ∧ ArrOfT U (g.2.2.2 22) .boolean ∧ ArrOfT U (g.2.2.2 23) .long ∧ ArrOfT U (g.2.2.2 24) .double ∧ ArrOfT U (g.2.2.2 30) (.object "Judgefold$Problem") ∧ ArrOfT U (g.2.2.2 31) (.object "Judgefold$Run") ∧ ArrOfT U (g.2.2.2 32) (.object "Judgefold$Numbers") ∧ ArrOfT U (g.2.2.2 33) (.array .int)
theorem KK.moved {g : GG} {u U : State} (hvm : u.vm.Alike U.vm) (h : KK g u) : KK g U := ⟨va_K.moved hvm h.1, arrOfT_moved hvm h.2.1, arrOfT_moved hvm h.2.2.1, arrOfT_moved hvm h.2.2.2.1, arrOfT_moved hvm h.2.2.2.2.1, arrOfT_moved hvm h.2.2.2.2.2.1, arrOfT_moved hvm h.2.2.2.2.2.2.1, arrOfT_moved hvm h.2.2.2.2.2.2.2.1, arrOfT_moved hvm h.2.2.2.2.2.2.2.2.1, arrOfT_moved hvm h.2.2.2.2.2.2.2.2.2⟩
abbrev gA (g : GG) : Nat → Prop := fun q => g.2.1 ≤ q
/-- the two statics that a throw reads -/
def ZZ (g : GG) (U : State) (H : Heap) : Prop := vx_Zq Bundle.tN "UNASSIGNED_STACK" Bundle.steD (gA g) U H ∧ vx_Zq Bundle.tN "SUPPRESSED_SENTINEL" Bundle.listD (gA g) U H
theorem ZZ.moved {g : GG} {u U : State} {H : Heap} (hvm : u.vm.Alike U.vm) (h : ZZ g u H) : ZZ g U H := ⟨vx_Zq.moved hvm h.1, vx_Zq.moved hvm h.2⟩
theorem ZZ.kept {g : GG} {U : State} {H H1 : Heap} (h : ZZ g U H) (hq : ∀ a : Nat, a < H.size → ¬ gA g a → H1[a]? = H[a]?) : ZZ g U H1 := ⟨h.1.kept hq, h.2.kept hq⟩
def Cx (g : GG) (μ : MI) (p : Program) (s : State) (m : MethodId) (args : Array Value) (meth : Method) (c : Code) : Prop :=
  p.tables.exec = Jvm.exec ∧ c.code = μ.1 ∧ meth.sig.returnType = μ.2.2.2 ∧ c.maxLocals = μ.2.2.1 ∧ s.vm.findClass μ.2.1 = some m.cls ∧ (∀ w ∈ wsL_law, w.before args s = true) ∧ meth.locks = false ∧ KK g s ∧ ZZ g s s.heap ∧ ∀ x ∈ c.exceptionTable.toList, False
/-- from this point of the method the memory M, the locals lv, the stack st come to F -/
def Ok (g : GG) (μ : MI) (R : Room) (F : List Frame → Array Value → State → State → Prop) (pc : Nat) (lv : List (Nat × Value)) (st : List Value) (M : Mem) : Prop :=
  ∀ (p : Program) (e : Env) (s : State) (m : MethodId) (args : Array Value) (below : List Frame) (meth : Method) (c : Code) (H : Heap) (locs : List Loc) (ls : Array Slot),
    Cx g μ p s m args meth c → HP g M H → va_S (gA g) s.heap H locs → lv_has ls μ.2.2.1 lv →
    W p g.1 e R s m args below meth c H locs 0 0 (F below args s) (F0 m pc ls st)
def Pcx (g : GG) (as : List Value) (M : Mem) : Array Value → State → Prop := fun a U => a = as.toArray ∧ HP g M U.heap ∧ KK g U ∧ ZZ g U U.heap
def Qcx (g : GG) (post : Option Value → Mem → Prop) : Array Value → State → Outcome → State → Prop := fun _ st o t => (∃ (v : Option Value) (M' : Mem), o = .returned v ∧ post v M' ∧ HP g M' t.heap) ∧ va_F (gA g) st t
theorem Pcx.blind {g : GG} {as : List Value} {M : Mem} : FrameBlind (Pcx g as M) := by
  intro a U fr mk h
  obtain ⟨h1, h2, h3, h4⟩ := h
  exact ⟨h1, h2, KK.moved (u := U) (U := U.calling fr mk a) (Vm.Alike.refl U.vm) h3, ZZ.moved (u := U) (U := U.calling fr mk a) (Vm.Alike.refl U.vm) h4⟩
def rmd (d : Nat) : Room := { frames := d + 1, cells := 0, slots := 0, locals := 40 * (d + 1) }
/-- a contract -/
def Ct (g : GG) (y : MethodName) (cc : ByteArray) (nL : Nat) (ret : Option FieldType) (d : Nat) (as : List Value) (M : Mem) (post : Option Value → Mem → Prop) : Prop :=
  Met g.1 y (Cond.code y cc nL ret :: wsL_law) (rmd d) (Pcx g as M) (Qcx g post) 0 0 (gA g)
abbrev FQ (g : GG) (post : Option Value → Mem → Prop) : List Frame → Array Value → State → State → Prop := fun below args s => MQ below (Qcx g post) args s 0 0 (gA g)
theorem ct_of {g : GG} {y : MethodName} {cc : ByteArray} {nL : Nat} {ret : Option FieldType} {d : Nat} {as : List Value} {M : Mem} {post : Option Value → Mem → Prop} (hy : plainName y.cls = true) (ha : (lg_sl as).length ≤ nL)
    (body : Ok g (cc, y.cls, nL, ret) (rmd d) (FQ g post) 0 (lv_args 0 as) [] M) : Ct g y cc nL ret d as M post := by
  refine Met.ofW (cc := cc) (maxL := nL) (ret := ret) hy rfl ?_
  intro p e s m args below meth c s₁ B hml hv
  obtain ⟨rfl, hP, hK, hZ⟩ := hv
  have hts := atoms_spec (ws := Cond.code y cc nL ret :: wsL_law) B.pre
  have ht : ∀ x ∈ c.exceptionTable.toList, False := by
    obtain ⟨meth9, c9, h1, h2, -, -, -, -, h7, -⟩ := Cond.code_spec B.named (hts _ List.mem_cons_self)
    cases Option.some.inj (h1.symm.trans B.method)
    cases Option.some.inj (h2.symm.trans (Stand.of_body B).code)
    intro x hx
    rw [Array.isEmpty_iff.mp h7] at hx
    cases hx
  have hl := lv_entry as (n := nL) ha
  rw [lg_entry_eq]
  exact body p e s m _ below meth c s.heap [] _ ⟨B.exec, B.bytes, B.returns, hml, findClass_of_methodNamed B.named, fun w h => hts w (List.mem_cons_of_mem _ h), B.notSynchronized, hK, hZ, ht⟩ hP va_S.rf hl
theorem x_sub {g : GG} {μ : MI} {R : Room} {F : List Frame → Array Value → State → State → Prop} {pc : Nat} {lv lv' : List (Nat × Value)} {st : List Value} {M : Mem} (ks : List Nat) (hs : lv_pick lv ks = lv') (k : Ok g μ R F pc lv' st M) : Ok g μ R F pc lv st M :=
  fun p e s m args below meth c H locs ls hC hP hS hl => k p e s m args below meth c H locs ls hC hP hS (lv_sub hl ks hs)
end
section
/-- an integer as the int that stands for it -/
def wr (z : Int) : Int := (iZ z).toInt
theorem rg_wr (z : Int) : rg (wr z) := rg_of _
theorem iZ_wr (z : Int) : iZ (wr z) = iZ z := iZ_of _
theorem wr_id {z : Int} (h : rg z) : wr z = z := iZ_ti h
/-- the machine's division -/
def dv (a b : Int) : Int := (iZ a / iZ b).toInt
theorem rg_dv (a b : Int) : rg (dv a b) := rg_of _
theorem iZ_dv (a b : Int) : iZ (dv a b) = iZ a / iZ b := iZ_of _
theorem iZ_ne0 {z : Int} (h : rg z) (h0 : z ≠ 0) : ¬ iZ z = 0 := fun q => h0 ((iZ_eq h rg_0).mp (q.trans iZ_0.symm))
theorem iZ_div {a b : Int} (ha : 0 ≤ a) (ha2 : a < 2147483648) (hb : 0 < b) (hb2 : b < 2147483648) : iZ a / iZ b = iZ (a / b) := by
  have e1 : iZ (a.tdiv b) = iZ a / iZ b := Int32.ofInt_tdiv (by show (-2147483648 : Int) ≤ a; omega) (by show a ≤ 2147483647; omega) (by show (-2147483648 : Int) ≤ b; omega) (by show b ≤ 2147483647; omega)
  rw [← e1, Int.tdiv_eq_ediv_of_nonneg ha]
theorem iZ_or {a b : Int} (ha : a = 0 ∨ a = 1) (hb : b = 0 ∨ b = 1) : iZ a ||| iZ b = iZ (if a = 1 ∨ b = 1 then 1 else 0) := by
  rcases ha with rfl | rfl <;> rcases hb with rfl | rfl <;> rfl
theorem iZ_l {a : Int} (h : rg a) : (iZ a).toInt64 = Int64.ofInt a := by
  rw [← iZ_ti h, iZ_of, Int64.ofInt_int32ToInt]
theorem iZ_char {z : Int} (h0 : 0 ≤ z) (h1 : z < 65536) : narrow .char (iv z) = iv z := by
  have h := (pk_charN (q := z.toNat) (by omega)).1
  have e : iZ z = nI z.toNat := by
    unfold iZ nI
    conv => lhs; rw [← Int.toNat_of_nonneg h0]
    rfl
  rw [show iv z = .int (nI z.toNat) by rw [← e]]
  exact h
theorem iZ_charF {z : Int} (h0 : 0 ≤ z) (h1 : z < 65536) : fits .char (iv z) = true := by
  have h := (pk_charN (q := z.toNat) (by omega)).2
  have e : iZ z = nI z.toNat := by
    unfold iZ nI
    conv => lhs; rw [← Int.toNat_of_nonneg h0]
    rfl
  rw [show iv z = .int (nI z.toNat) by rw [← e]]
  exact h
theorem iZ_bool {z : Int} (h : z = 0 ∨ z = 1) : narrow .boolean (iv z) = iv z := by rcases h with rfl | rfl <;> rfl
theorem iZ_boolF {z : Int} (h : z = 0 ∨ z = 1) : fits .boolean (iv z) = true := by rcases h with rfl | rfl <;> rfl
/-- a field's link: the class's own pool entry, the class in kcl, its place -/
def FL (own : String) (idx t n k : Nat) : Prop := ∃ (C : String) (T : u_T), kcl[t]? = some (C, T, n) ∧ k < n ∧ Cond.fieldLink own idx (T k).1 (T k).2.1 (T k).2.2.1 ∈ wsL_law ∧ ∀ w ∈ u_ws C T n, w ∈ wsL_law
def FW (own : String) (idx t n k : Nat) (ty : FieldType) : Prop := ∃ (C : String) (T : u_T) (ty0 : Nat → FieldType), kcl[t]? = some (C, T, n) ∧ k < n ∧ Cond.fieldLink own idx (T k).1 (T k).2.1 (T k).2.2.1 ∈ wsL_law ∧ (∀ w ∈ u_ws C T n, w ∈ wsL_law) ∧
  (T k).2.2.2 = false ∧ parseFieldDescriptor (T k).2.2.1 = some ty ∧ (∀ k, k < n → parseFieldDescriptor (T k).2.2.1 = some (ty0 k)) ∧ (∀ a, a < n → ∀ b, b < n → a ≠ b → (T a).2.1 ≠ (T b).2.1)
theorem FL.t10 {own : String} {idx t n k : Nat} (h : FL own idx t n k) : t < 10 := by
  obtain ⟨C, T, hc, -⟩ := h
  exact (List.getElem?_eq_some_iff.mp hc).1
theorem FW.fl {own : String} {idx t n k : Nat} {ty : FieldType} (h : FW own idx t n k ty) : FL own idx t n k := by
  obtain ⟨C, T, ty0, hc, hk, hl, hi, -⟩ := h
  exact ⟨C, T, hc, hk, hl, hi⟩
theorem kd497 : ∀ n : Nat, n < 499 → 497 ≤ n → (kdN n).1 = 23 ∨ (kdN n).1 = 24 := by
  intro n h1 h2
  rcases (show n = 497 ∨ n = 498 by omega) with rfl | rfl <;> decide +kernel
theorem x_lt497a {t n : Nat} {o : Int} (hk : isK t n o) (h : t ≠ 23 ∧ t ≠ 24) : o < 497 := by
  obtain ⟨h0, h1, h2⟩ := hk
  by_cases h3 : o < 497
  · exact h3
  · have h4 := kd497 o.toNat (by omega) (by omega)
    rw [show kdN o.toNat = (t, n) from h2] at h4
    omega
theorem x_lt497 {own : String} {idx t n k : Nat} {o : Int} (hk : isK t n o) (hf : FL own idx t n k) : o < 497 := x_lt497a hk (by have := hf.t10; omega)
theorem x_obj {g : GG} {M : Mem} {H : Heap} {t n : Nat} {o : Int} (hk : isK t n o) (ht : t < 10) (hP : HP g M H) : t_OB (g.2.1 + o.toNat) (g.2.2.1.1 t) n (g.2.2.1.2 t) H (fun k => vl g o t k (M o k)) := by
  have h := hP.2 o hk.1 hk.2.1
  rw [hk.2.2] at h
  simpa [OB, ht] using h
theorem x_arr {g : GG} {M : Mem} {H : Heap} {t n : Nat} {o : Int} (hk : isK t n o) (ht : ¬ t < 10) (hP : HP g M H) : H[g.2.1 + o.toNat]? = some (arrV (g.2.2.2 t) n (fun k => vl g o t k (M o k))) := by
  have h := hP.2 o hk.1 hk.2.1
  rw [hk.2.2] at h
  simpa [OB, ht] using h
theorem HP.other {g : GG} {M : Mem} {H H1 : Heap} {o k z : Int} (hP : HP g M H) (ho : 0 ≤ o) (hz : o < 497 → rg z) (h3 : ∀ q : Nat, q ≠ g.2.1 + o.toNat → H1[q]? = H[q]?) (hob : OB g o (kd o) (fun j => vl g o (kd o).1 j (up M o k z o j)) H1) : HP g (up M o k z) H1 := by
  refine ⟨fun o' k' h => ?_, fun o' h0 h1 => ?_⟩
  · by_cases e : o' = o ∧ k' = k
    · obtain ⟨rfl, rfl⟩ := e
      rw [up_s]
      exact hz h
    · rw [up_n e]
      exact hP.1 o' k' h
  · by_cases e : o' = o
    · subst e
      exact hob
    · have hb := hP.2 o' h0 h1
      have e2 : (fun j : Nat => vl g o' (kd o').1 j (up M o k z o' j)) = (fun j : Nat => vl g o' (kd o').1 j (M o' j)) := by
        funext j
        rw [up_o e]
      rw [e2]
      have hq : H1[g.2.1 + o'.toNat]? = H[g.2.1 + o'.toNat]? := h3 _ (by omega)
      unfold OB at hb ⊢
      split at hb
      · rename_i hlt
        rw [if_pos hlt]
        exact hb.kept hq
      · rename_i hlt
        rw [if_neg hlt, hq]
        exact hb
theorem x_arrSet {g : GG} {M : Mem} {H H1 : Heap} {t n : Nat} {o i z : Int} (hk : isK t n o) (ht : ¬ t < 10) (hs : ∀ k : Nat, (sk t k).1 = 0) (hP : HP g M H) (hz : rg z) (h0 : 0 ≤ i) (h1 : i < n)
    (e1 : H1[g.2.1 + o.toNat]? = some ((arrV (g.2.2.2 t) n (fun k => vl g o t k (M o k))).setSlot i.toNat (iv z))) (e3 : ∀ q : Nat, q ≠ g.2.1 + o.toNat → H1[q]? = H[q]?) : HP g (up M o i z) H1 := by
  refine hP.other hk.1 (fun _ => hz) e3 ?_
  rw [hk.2.2]
  unfold OB
  rw [if_neg ht, e1, arrV_store]
  congr 2
  funext j
  by_cases hj : j = i.toNat
  · subst hj
    have hi : ((i.toNat : Nat) : Int) = i := Int.toNat_of_nonneg h0
    simp [updV, hi, up_s, vl, hs]
  · have hne : ((j : Nat) : Int) ≠ i := by omega
    simp [updV, hj, up_k hne]
section XH
variable {g : GG} {μ : MI} {R : Room} {pc : Nat} {st : List Value} {M : Mem} {p : Program} {e : Env} {s : State} {m : MethodId} {args : Array Value} {below : List Frame} {meth : Method} {c : Code} {H : Heap} {locs : List Loc} {ls : Array Slot} {Q : State → Prop}
theorem x_getW {t n k idx : Nat} {o : Int} (hC : Cx g μ p s m args meth c) (hd : decode μ.1 pc = .ok (.getfield idx, 3)) (hf : FL μ.2.1 idx t n k) (hk : isK t n o) (hP : HP g M H)
    (kk : W p g.1 e R s m args below meth c H locs 0 0 Q (F0 m (pc + 3) ls (vl g o t k (M o k) :: st))) : W p g.1 e R s m args below meth c H locs 0 0 Q (F0 m pc ls (rv g o :: st)) := by
  have ht := hf.t10
  obtain ⟨hx, hb, hr, hml, hown, hts, hlk, hK, hZ, hex⟩ := hC
  obtain ⟨C, T, hc, hkn, hlink, hin⟩ := hf
  obtain ⟨cell, q1, q2, q3, q4⟩ := x_obj hk ht hP
  obtain ⟨hS, hfc, kC, hkC, hkind⟩ := hK.1.1 t _ hc
  obtain ⟨cf, kf, fi, f, hi, hsl⟩ := hS k hkn
  refine W.getf hx hb hown (hts _ hlink) hi (u_facts hfc hkC (u_lays hts hin hkn) hi).1 q1 (by rw [q3]; exact fun h => by cases h) (v := vl g o t k (M o k)) ?_ rfl rfl hd kk
  rw [hsl]
  exact q4 k hkn
theorem x_putW {t n k idx : Nat} {o z : Int} {ty : FieldType} (hC : Cx g μ p s m args meth c) (hd : decode μ.1 pc = .ok (.putfield idx, 3)) (hf : FW μ.2.1 idx t n k ty) (hk : isK t n o) (hs : (sk t k).1 = 0) (hz : rg z) (hn : narrow ty (iv z) = iv z) (hfit : fits ty (iv z) = true) (hP : HP g M H) (hS0 : va_S (gA g) s.heap H locs)
    (kk : ∀ (H1 : Heap) (locs1 : List Loc), HP g (up M o k z) H1 → va_S (gA g) s.heap H1 locs1 → W p g.1 e R s m args below meth c H1 locs1 0 0 Q (F0 m (pc + 3) ls st)) : W p g.1 e R s m args below meth c H locs 0 0 Q (F0 m pc ls (iv z :: rv g o :: st)) := by
  have ht := hf.fl.t10
  obtain ⟨hx, hb, hr, hml, hown, hts, hlk, hK, hZ, hex⟩ := hC
  obtain ⟨C, T, ty0, hc, hkn, hlink, hin, hfin, hpd, hty, hnm⟩ := hf
  have hap := va_apart (own := μ.2.1) hts hin ty0 hty hnm hK.1 hc
  obtain ⟨cell, q1, q2, q3, q4⟩ := x_obj hk ht hP
  obtain ⟨hS, hfc, kC, hkC, hkind⟩ := hK.1.1 t _ hc
  obtain ⟨cf, kf, fi, f, hi, hsl⟩ := hS k hkn
  have hlay := hts _ (hin _ (u_in_lay hkn))
  unfold u_lay at hlay
  rw [if_neg (by rw [hfin]; decide)] at hlay
  have hst := (u_facts hfc hkC (u_lays hts hin hkn) hi).1
  have h6 := u_store hfc hkC hkind hlay hi hpd hn hfit
  refine W.putK hx hb (f := f) ⟨hown, hts _ hlink, ⟨_, _, _, hi⟩, hst⟩ (by rw [q2]; exact h6) q1 q3 (by rw [hsl]; exact k2_hasslot (q4 k hkn)) rfl rfl hd fun H' e1 e2 e3 => ?_
  rw [hsl] at e1 ⊢
  refine kk H' _ (hP.other hk.1 (fun _ => hz) e3 ?_) (hS0.put e2 e3 (Nat.le_add_right _ _))
  rw [hk.2.2]
  unfold OB
  rw [if_pos ht]
  refine t_OB.to (V := updV (fun k => vl g o t k (M o k)) k (iv z)) ⟨_, e1, q2, q3, t_set q4 hap hkn (iv z)⟩ (fun j _ => ?_)
  by_cases hj : j = k
  · subst hj
    simp [updV, up_s, vl, hs]
  · have hne : ((j : Nat) : Int) ≠ (k : Int) := by omega
    simp [updV, hj, up_k hne]
end XH
end
section
section XR
variable {g : GG} {μ : MI} {R : Room} {F : List Frame → Array Value → State → State → Prop} {pc : Nat} {lv : List (Nat × Value)} {st : List Value} {M : Mem}
theorem x_iconst {n : Int} (z : Int) (hd : decode μ.1 pc = .ok (.iconst n, 1)) (hz : Int32.ofInt n = iZ z) (k : Ok g μ R F (pc + 1) lv (iv z :: st) M) : Ok g μ R F pc lv st M := by
  intro p e s m args below meth c H locs ls hC hP hS hl
  exact lv_iconst hC.1 hC.2.1 hd hz (k p e s m args below meth c H locs ls hC hP hS hl)

theorem x_bipush {n : Int} (z : Int) (hd : decode μ.1 pc = .ok (.bipush n, 2)) (hz : (Int8.ofInt n).toInt32 = iZ z) (k : Ok g μ R F (pc + 2) lv (iv z :: st) M) : Ok g μ R F pc lv st M := by
  intro p e s m args below meth c H locs ls hC hP hS hl
  exact lv_bipush hC.1 hC.2.1 hd hz (k p e s m args below meth c H locs ls hC hP hS hl)

theorem x_sipush {n : Int} (z : Int) (hd : decode μ.1 pc = .ok (.sipush n, 3)) (hz : (Int16.ofInt n).toInt32 = iZ z) (k : Ok g μ R F (pc + 3) lv (iv z :: st) M) : Ok g μ R F pc lv st M := by
  intro p e s m args below meth c H locs ls hC hP hS hl
  exact lv_sipush hC.1 hC.2.1 hd hz (k p e s m args below meth c H locs ls hC hP hS hl)

theorem x_iload {i : Nat} {z : Int} (j : Nat) (hd : decode μ.1 pc = .ok (.iload i, 2)) (hv : lv[j]? = some (i, iv z)) (k : Ok g μ R F (pc + 2) lv (iv z :: st) M) : Ok g μ R F pc lv st M := by
  intro p e s m args below meth c H locs ls hC hP hS hl
  exact lv_iload hC.1 hC.2.1 hd (lv_at hl j hv) (k p e s m args below meth c H locs ls hC hP hS hl)

theorem x_iload_n {i : Nat} {q : Fin 4} {z : Int} (j : Nat) (hd : decode μ.1 pc = .ok (.iload_n q, 1)) (hi : (q : Nat) = i) (hv : lv[j]? = some (i, iv z)) (k : Ok g μ R F (pc + 1) lv (iv z :: st) M) : Ok g μ R F pc lv st M := by
  intro p e s m args below meth c H locs ls hC hP hS hl
  exact lv_iload_n hC.1 hC.2.1 hd hi (lv_at hl j hv) (k p e s m args below meth c H locs ls hC hP hS hl)

theorem x_aload {i : Nat} {a : Nat} (j : Nat) (hd : decode μ.1 pc = .ok (.aload i, 2)) (hv : lv[j]? = some (i, .ref a)) (k : Ok g μ R F (pc + 2) lv (.ref a :: st) M) : Ok g μ R F pc lv st M := by
  intro p e s m args below meth c H locs ls hC hP hS hl
  exact lv_aload hC.1 hC.2.1 hd (lv_at hl j hv) (k p e s m args below meth c H locs ls hC hP hS hl)

theorem x_aload_n {i : Nat} {q : Fin 4} {a : Nat} (j : Nat) (hd : decode μ.1 pc = .ok (.aload_n q, 1)) (hi : (q : Nat) = i) (hv : lv[j]? = some (i, .ref a)) (k : Ok g μ R F (pc + 1) lv (.ref a :: st) M) : Ok g μ R F pc lv st M := by
  intro p e s m args below meth c H locs ls hC hP hS hl
  exact lv_aload_n hC.1 hC.2.1 hd hi (lv_at hl j hv) (k p e s m args below meth c H locs ls hC hP hS hl)

theorem x_lload {i : Nat} {x : Int64} (j : Nat) (hd : decode μ.1 pc = .ok (.lload i, 2)) (hv : lv[j]? = some (i, .long x)) (k : Ok g μ R F (pc + 2) lv (.long x :: st) M) : Ok g μ R F pc lv st M := by
  intro p e s m args below meth c H locs ls hC hP hS hl
  exact lv_lload hC.1 hC.2.1 hd (lv_at hl j hv) (k p e s m args below meth c H locs ls hC hP hS hl)

theorem x_lload_n {i : Nat} {q : Fin 4} {x : Int64} (j : Nat) (hd : decode μ.1 pc = .ok (.lload_n q, 1)) (hi : (q : Nat) = i) (hv : lv[j]? = some (i, .long x)) (k : Ok g μ R F (pc + 1) lv (.long x :: st) M) : Ok g μ R F pc lv st M := by
  intro p e s m args below meth c H locs ls hC hP hS hl
  exact lv_lload_n hC.1 hC.2.1 hd hi (lv_at hl j hv) (k p e s m args below meth c H locs ls hC hP hS hl)

theorem x_istore {i : Nat} {z : Int} {lv' : List (Nat × Value)} (hd : decode μ.1 pc = .ok (.istore i, 2)) (hn : i < μ.2.2.1) (hv : (i, iv z) :: lv.filter (fun q => !(q.1 == i) && !(q.1 + 1 == i && q.2.category == 2)) = lv') (k : Ok g μ R F (pc + 2) lv' st M) : Ok g μ R F pc lv (iv z :: st) M := by
  intro p e s m args below meth c H locs ls hC hP hS hl
  exact lv_istore hC.1 hC.2.1 hd hl hn hv (fun ls hl => k p e s m args below meth c H locs ls hC hP hS hl)

theorem x_istore_n {i : Nat} {q : Fin 4} {z : Int} {lv' : List (Nat × Value)} (hd : decode μ.1 pc = .ok (.istore_n q, 1)) (hi : (q : Nat) = i) (hn : i < μ.2.2.1) (hv : (i, iv z) :: lv.filter (fun q => !(q.1 == i) && !(q.1 + 1 == i && q.2.category == 2)) = lv') (k : Ok g μ R F (pc + 1) lv' st M) : Ok g μ R F pc lv (iv z :: st) M := by
  intro p e s m args below meth c H locs ls hC hP hS hl
  exact lv_istore_n hC.1 hC.2.1 hd hi hl hn hv (fun ls hl => k p e s m args below meth c H locs ls hC hP hS hl)

theorem x_astore {i : Nat} {a : Nat} {lv' : List (Nat × Value)} (hd : decode μ.1 pc = .ok (.astore i, 2)) (hn : i < μ.2.2.1) (hv : (i, .ref a) :: lv.filter (fun q => !(q.1 == i) && !(q.1 + 1 == i && q.2.category == 2)) = lv') (k : Ok g μ R F (pc + 2) lv' st M) : Ok g μ R F pc lv (.ref a :: st) M := by
  intro p e s m args below meth c H locs ls hC hP hS hl
  exact lv_astore hC.1 hC.2.1 hd hl hn hv (fun ls hl => k p e s m args below meth c H locs ls hC hP hS hl)

theorem x_astore_n {i : Nat} {q : Fin 4} {a : Nat} {lv' : List (Nat × Value)} (hd : decode μ.1 pc = .ok (.astore_n q, 1)) (hi : (q : Nat) = i) (hn : i < μ.2.2.1) (hv : (i, .ref a) :: lv.filter (fun q => !(q.1 == i) && !(q.1 + 1 == i && q.2.category == 2)) = lv') (k : Ok g μ R F (pc + 1) lv' st M) : Ok g μ R F pc lv (.ref a :: st) M := by
  intro p e s m args below meth c H locs ls hC hP hS hl
  exact lv_astore_n hC.1 hC.2.1 hd hi hl hn hv (fun ls hl => k p e s m args below meth c H locs ls hC hP hS hl)

theorem x_lstore {i : Nat} {x : Int64} {lv' : List (Nat × Value)} (hd : decode μ.1 pc = .ok (.lstore i, 2)) (hn : i + 1 < μ.2.2.1) (hv : (i, .long x) :: lv.filter (fun q => !(q.1 == i) && (!(q.1 == i + 1) && !(q.1 + 1 == i && q.2.category == 2))) = lv') (k : Ok g μ R F (pc + 2) lv' st M) : Ok g μ R F pc lv (.long x :: st) M := by
  intro p e s m args below meth c H locs ls hC hP hS hl
  exact lv_lstore hC.1 hC.2.1 hd hl hn hv (fun ls hl => k p e s m args below meth c H locs ls hC hP hS hl)

theorem x_lstore_n {i : Nat} {q : Fin 4} {x : Int64} {lv' : List (Nat × Value)} (hd : decode μ.1 pc = .ok (.lstore_n q, 1)) (hi : (q : Nat) = i) (hn : i + 1 < μ.2.2.1) (hv : (i, .long x) :: lv.filter (fun q => !(q.1 == i) && (!(q.1 == i + 1) && !(q.1 + 1 == i && q.2.category == 2))) = lv') (k : Ok g μ R F (pc + 1) lv' st M) : Ok g μ R F pc lv (.long x :: st) M := by
  intro p e s m args below meth c H locs ls hC hP hS hl
  exact lv_lstore_n hC.1 hC.2.1 hd hi hl hn hv (fun ls hl => k p e s m args below meth c H locs ls hC hP hS hl)

theorem x_iinc {i : Nat} {n z : Int} {lv' : List (Nat × Value)} (j : Nat) (hd : decode μ.1 pc = .ok (.iinc i n, 3)) (hj : lv[j]? = some (i, iv z)) (hn : i < μ.2.2.1) (hv : (i, iv (z + n)) :: lv.filter (fun q => !(q.1 == i) && !(q.1 + 1 == i && q.2.category == 2)) = lv') (k : Ok g μ R F (pc + 3) lv' st M) : Ok g μ R F pc lv st M := by
  intro p e s m args below meth c H locs ls hC hP hS hl
  exact lv_iinc hC.1 hC.2.1 hd hl hj (iZ_add z n) hn hv (fun ls hl => k p e s m args below meth c H locs ls hC hP hS hl)

theorem x_iadd {a b : Int} (hd : decode μ.1 pc = .ok (.iadd, 1)) (k : Ok g μ R F (pc + 1) lv (iv (a + b) :: st) M) : Ok g μ R F pc lv (iv b :: iv a :: st) M := by
  intro p e s m args below meth c H locs ls hC hP hS hl
  refine lv_iadd hC.1 hC.2.1 hd ?_
  rw [iZ_add]
  exact k p e s m args below meth c H locs ls hC hP hS hl

theorem x_iaddw {a b : Int} (hd : decode μ.1 pc = .ok (.iadd, 1)) (k : Ok g μ R F (pc + 1) lv (iv (wr (a + b)) :: st) M) : Ok g μ R F pc lv (iv b :: iv a :: st) M := by
  intro p e s m args below meth c H locs ls hC hP hS hl
  refine lv_iadd hC.1 hC.2.1 hd ?_
  rw [iZ_add, ← iZ_wr]
  exact k p e s m args below meth c H locs ls hC hP hS hl

theorem x_isub {a b : Int} (hd : decode μ.1 pc = .ok (.isub, 1)) (k : Ok g μ R F (pc + 1) lv (iv (a - b) :: st) M) : Ok g μ R F pc lv (iv b :: iv a :: st) M := by
  intro p e s m args below meth c H locs ls hC hP hS hl
  refine lv_isub hC.1 hC.2.1 hd ?_
  rw [iZ_sub]
  exact k p e s m args below meth c H locs ls hC hP hS hl

theorem x_isubw {a b : Int} (hd : decode μ.1 pc = .ok (.isub, 1)) (k : Ok g μ R F (pc + 1) lv (iv (wr (a - b)) :: st) M) : Ok g μ R F pc lv (iv b :: iv a :: st) M := by
  intro p e s m args below meth c H locs ls hC hP hS hl
  refine lv_isub hC.1 hC.2.1 hd ?_
  rw [iZ_sub, ← iZ_wr]
  exact k p e s m args below meth c H locs ls hC hP hS hl

theorem x_imul {a b : Int} (hd : decode μ.1 pc = .ok (.imul, 1)) (k : Ok g μ R F (pc + 1) lv (iv (a * b) :: st) M) : Ok g μ R F pc lv (iv b :: iv a :: st) M := by
  intro p e s m args below meth c H locs ls hC hP hS hl
  refine lv_imul hC.1 hC.2.1 hd ?_
  rw [iZ_mul]
  exact k p e s m args below meth c H locs ls hC hP hS hl

theorem x_imulw {a b : Int} (hd : decode μ.1 pc = .ok (.imul, 1)) (k : Ok g μ R F (pc + 1) lv (iv (wr (a * b)) :: st) M) : Ok g μ R F pc lv (iv b :: iv a :: st) M := by
  intro p e s m args below meth c H locs ls hC hP hS hl
  refine lv_imul hC.1 hC.2.1 hd ?_
  rw [iZ_mul, ← iZ_wr]
  exact k p e s m args below meth c H locs ls hC hP hS hl

theorem x_idivp {a b : Int} (hd : decode μ.1 pc = .ok (.idiv, 1)) (ha : 0 ≤ a) (ha2 : a < 2147483648) (hb : 0 < b) (hb2 : b < 2147483648) (k : Ok g μ R F (pc + 1) lv (iv (a / b) :: st) M) : Ok g μ R F pc lv (iv b :: iv a :: st) M := by
  intro p e s m args below meth c H locs ls hC hP hS hl
  refine lv_idiv hC.1 hC.2.1 hd (iZ_ne0 ⟨by omega, hb2⟩ (by omega)) ?_
  rw [iZ_div ha ha2 hb hb2]
  exact k p e s m args below meth c H locs ls hC hP hS hl

theorem x_iremp {a b : Int} (hd : decode μ.1 pc = .ok (.irem, 1)) (ha : 0 ≤ a) (ha2 : a < 2147483648) (hb : 0 < b) (hb2 : b < 2147483648) (k : Ok g μ R F (pc + 1) lv (iv (a % b) :: st) M) : Ok g μ R F pc lv (iv b :: iv a :: st) M := by
  intro p e s m args below meth c H locs ls hC hP hS hl
  refine lv_irem hC.1 hC.2.1 hd (iZ_ne0 ⟨by omega, hb2⟩ (by omega)) ?_
  rw [iZ_div ha ha2 hb hb2, iZ_mul, iZ_sub, show a - a / b * b = a % b by rw [Int.emod_def, Int.mul_comm]]
  exact k p e s m args below meth c H locs ls hC hP hS hl

theorem x_idivw {a b : Int} (hd : decode μ.1 pc = .ok (.idiv, 1)) (hb : rg b) (hb0 : b ≠ 0) (k : Ok g μ R F (pc + 1) lv (iv (dv a b) :: st) M) : Ok g μ R F pc lv (iv b :: iv a :: st) M := by
  intro p e s m args below meth c H locs ls hC hP hS hl
  refine lv_idiv hC.1 hC.2.1 hd (iZ_ne0 hb hb0) ?_
  rw [← iZ_dv]
  exact k p e s m args below meth c H locs ls hC hP hS hl

theorem x_ior {a b : Int} (hd : decode μ.1 pc = .ok (.ior, 1)) (ha : a = 0 ∨ a = 1) (hb : b = 0 ∨ b = 1) (k : Ok g μ R F (pc + 1) lv (iv (if a = 1 ∨ b = 1 then 1 else 0) :: st) M) : Ok g μ R F pc lv (iv b :: iv a :: st) M := by
  intro p e s m args below meth c H locs ls hC hP hS hl
  refine lv_ior hC.1 hC.2.1 hd ?_
  rw [iZ_or ha hb]
  exact k p e s m args below meth c H locs ls hC hP hS hl

theorem x_dup {v : Value} (hd : decode μ.1 pc = .ok (.dup, 1)) (hc : v.category = 1) (k : Ok g μ R F (pc + 1) lv (v :: v :: st) M) : Ok g μ R F pc lv (v :: st) M := by
  intro p e s m args below meth c H locs ls hC hP hS hl
  exact lv_dup hC.1 hC.2.1 hd hc (k p e s m args below meth c H locs ls hC hP hS hl)

theorem x_dup2 {v w : Value} (hd : decode μ.1 pc = .ok (.dup2, 1)) (hc : v.category = 1) (hc2 : w.category = 1) (k : Ok g μ R F (pc + 1) lv (v :: w :: v :: w :: st) M) : Ok g μ R F pc lv (v :: w :: st) M := by
  intro p e s m args below meth c H locs ls hC hP hS hl
  exact lv_dup2_11 hC.1 hC.2.1 hd hc hc2 (k p e s m args below meth c H locs ls hC hP hS hl)

theorem x_pop {v : Value} (hd : decode μ.1 pc = .ok (.pop, 1)) (hc : v.category = 1) (k : Ok g μ R F (pc + 1) lv st M) : Ok g μ R F pc lv (v :: st) M := by
  intro p e s m args below meth c H locs ls hC hP hS hl
  exact lv_pop hC.1 hC.2.1 hd hc (k p e s m args below meth c H locs ls hC hP hS hl)

theorem x_goto {off : Int} {tgt : Nat} (hd : decode μ.1 pc = .ok (.goto off, 3)) (ht : (pc : Int) + off = (tgt : Int)) (k : Ok g μ R F tgt lv st M) : Ok g μ R F pc lv st M := by
  intro p e s m args below meth c H locs ls hC hP hS hl
  exact lv_goto hC.1 hC.2.1 hd ht (k p e s m args below meth c H locs ls hC hP hS hl)

theorem x_icmp_lt {a b off : Int} {tgt : Nat} (hd : decode μ.1 pc = .ok (.if_icmp .lt off, 3)) (ht : (pc : Int) + off = (tgt : Int)) (ha : rg a) (hb : rg b) (kt : a < b → Ok g μ R F tgt lv st M) (kf : ¬ (a < b) → Ok g μ R F (pc + 3) lv st M) : Ok g μ R F pc lv (iv b :: iv a :: st) M := by
  intro p e s m args below meth c H locs ls hC hP hS hl
  exact lv_icmp_lt hC.1 hC.2.1 hd ht (fun q => kt ((iZ_lt ha hb).mp q) p e s m args below meth c H locs ls hC hP hS hl) (fun q => kf (fun z => q ((iZ_lt ha hb).mpr z)) p e s m args below meth c H locs ls hC hP hS hl)

theorem x_icmp_ge {a b off : Int} {tgt : Nat} (hd : decode μ.1 pc = .ok (.if_icmp .ge off, 3)) (ht : (pc : Int) + off = (tgt : Int)) (ha : rg a) (hb : rg b) (kt : b ≤ a → Ok g μ R F tgt lv st M) (kf : ¬ (b ≤ a) → Ok g μ R F (pc + 3) lv st M) : Ok g μ R F pc lv (iv b :: iv a :: st) M := by
  intro p e s m args below meth c H locs ls hC hP hS hl
  exact lv_icmp_ge hC.1 hC.2.1 hd ht (fun q => kt ((iZ_le hb ha).mp q) p e s m args below meth c H locs ls hC hP hS hl) (fun q => kf (fun z => q ((iZ_le hb ha).mpr z)) p e s m args below meth c H locs ls hC hP hS hl)

theorem x_icmp_gt {a b off : Int} {tgt : Nat} (hd : decode μ.1 pc = .ok (.if_icmp .gt off, 3)) (ht : (pc : Int) + off = (tgt : Int)) (ha : rg a) (hb : rg b) (kt : b < a → Ok g μ R F tgt lv st M) (kf : ¬ (b < a) → Ok g μ R F (pc + 3) lv st M) : Ok g μ R F pc lv (iv b :: iv a :: st) M := by
  intro p e s m args below meth c H locs ls hC hP hS hl
  exact lv_icmp_gt hC.1 hC.2.1 hd ht (fun q => kt ((iZ_lt hb ha).mp q) p e s m args below meth c H locs ls hC hP hS hl) (fun q => kf (fun z => q ((iZ_lt hb ha).mpr z)) p e s m args below meth c H locs ls hC hP hS hl)

theorem x_icmp_le {a b off : Int} {tgt : Nat} (hd : decode μ.1 pc = .ok (.if_icmp .le off, 3)) (ht : (pc : Int) + off = (tgt : Int)) (ha : rg a) (hb : rg b) (kt : a ≤ b → Ok g μ R F tgt lv st M) (kf : ¬ (a ≤ b) → Ok g μ R F (pc + 3) lv st M) : Ok g μ R F pc lv (iv b :: iv a :: st) M := by
  intro p e s m args below meth c H locs ls hC hP hS hl
  exact lv_icmp_le hC.1 hC.2.1 hd ht (fun q => kt ((iZ_le ha hb).mp q) p e s m args below meth c H locs ls hC hP hS hl) (fun q => kf (fun z => q ((iZ_le ha hb).mpr z)) p e s m args below meth c H locs ls hC hP hS hl)

theorem x_icmp_eq {a b off : Int} {tgt : Nat} (hd : decode μ.1 pc = .ok (.if_icmp .eq off, 3)) (ht : (pc : Int) + off = (tgt : Int)) (ha : rg a) (hb : rg b) (kt : a = b → Ok g μ R F tgt lv st M) (kf : ¬ (a = b) → Ok g μ R F (pc + 3) lv st M) : Ok g μ R F pc lv (iv b :: iv a :: st) M := by
  intro p e s m args below meth c H locs ls hC hP hS hl
  exact lv_icmp_eq hC.1 hC.2.1 hd ht (fun q => kt ((iZ_eq ha hb).mp q) p e s m args below meth c H locs ls hC hP hS hl) (fun q => kf (fun z => q ((iZ_eq ha hb).mpr z)) p e s m args below meth c H locs ls hC hP hS hl)

theorem x_icmp_ne {a b off : Int} {tgt : Nat} (hd : decode μ.1 pc = .ok (.if_icmp .ne off, 3)) (ht : (pc : Int) + off = (tgt : Int)) (ha : rg a) (hb : rg b) (kt : ¬ a = b → Ok g μ R F tgt lv st M) (kf : a = b → Ok g μ R F (pc + 3) lv st M) : Ok g μ R F pc lv (iv b :: iv a :: st) M := by
  intro p e s m args below meth c H locs ls hC hP hS hl
  exact lv_icmp_ne hC.1 hC.2.1 hd ht (fun q => kt ((not_congr (iZ_eq ha hb)).mp q) p e s m args below meth c H locs ls hC hP hS hl) (fun q => kf ((iZ_eq ha hb).mp q) p e s m args below meth c H locs ls hC hP hS hl)

theorem x_if_lt {a off : Int} {tgt : Nat} (hd : decode μ.1 pc = .ok (.ifCond .lt off, 3)) (ht : (pc : Int) + off = (tgt : Int)) (ha : rg a) (kt : a < 0 → Ok g μ R F tgt lv st M) (kf : ¬ (a < 0) → Ok g μ R F (pc + 3) lv st M) : Ok g μ R F pc lv (iv a :: st) M := by
  intro p e s m args below meth c H locs ls hC hP hS hl
  exact lv_if_lt hC.1 hC.2.1 hd ht (fun q => kt ((iZ_lt ha rg_0).mp q) p e s m args below meth c H locs ls hC hP hS hl) (fun q => kf (fun z => q ((iZ_lt ha rg_0).mpr z)) p e s m args below meth c H locs ls hC hP hS hl)

theorem x_if_ge {a off : Int} {tgt : Nat} (hd : decode μ.1 pc = .ok (.ifCond .ge off, 3)) (ht : (pc : Int) + off = (tgt : Int)) (ha : rg a) (kt : 0 ≤ a → Ok g μ R F tgt lv st M) (kf : ¬ (0 ≤ a) → Ok g μ R F (pc + 3) lv st M) : Ok g μ R F pc lv (iv a :: st) M := by
  intro p e s m args below meth c H locs ls hC hP hS hl
  exact lv_if_ge hC.1 hC.2.1 hd ht (fun q => kt ((iZ_le rg_0 ha).mp q) p e s m args below meth c H locs ls hC hP hS hl) (fun q => kf (fun z => q ((iZ_le rg_0 ha).mpr z)) p e s m args below meth c H locs ls hC hP hS hl)

theorem x_if_gt {a off : Int} {tgt : Nat} (hd : decode μ.1 pc = .ok (.ifCond .gt off, 3)) (ht : (pc : Int) + off = (tgt : Int)) (ha : rg a) (kt : 0 < a → Ok g μ R F tgt lv st M) (kf : ¬ (0 < a) → Ok g μ R F (pc + 3) lv st M) : Ok g μ R F pc lv (iv a :: st) M := by
  intro p e s m args below meth c H locs ls hC hP hS hl
  exact lv_if_gt hC.1 hC.2.1 hd ht (fun q => kt ((iZ_lt rg_0 ha).mp q) p e s m args below meth c H locs ls hC hP hS hl) (fun q => kf (fun z => q ((iZ_lt rg_0 ha).mpr z)) p e s m args below meth c H locs ls hC hP hS hl)

theorem x_if_le {a off : Int} {tgt : Nat} (hd : decode μ.1 pc = .ok (.ifCond .le off, 3)) (ht : (pc : Int) + off = (tgt : Int)) (ha : rg a) (kt : a ≤ 0 → Ok g μ R F tgt lv st M) (kf : ¬ (a ≤ 0) → Ok g μ R F (pc + 3) lv st M) : Ok g μ R F pc lv (iv a :: st) M := by
  intro p e s m args below meth c H locs ls hC hP hS hl
  exact lv_if_le hC.1 hC.2.1 hd ht (fun q => kt ((iZ_le ha rg_0).mp q) p e s m args below meth c H locs ls hC hP hS hl) (fun q => kf (fun z => q ((iZ_le ha rg_0).mpr z)) p e s m args below meth c H locs ls hC hP hS hl)

theorem x_if_eq {a off : Int} {tgt : Nat} (hd : decode μ.1 pc = .ok (.ifCond .eq off, 3)) (ht : (pc : Int) + off = (tgt : Int)) (ha : rg a) (kt : a = 0 → Ok g μ R F tgt lv st M) (kf : ¬ (a = 0) → Ok g μ R F (pc + 3) lv st M) : Ok g μ R F pc lv (iv a :: st) M := by
  intro p e s m args below meth c H locs ls hC hP hS hl
  exact lv_if_eq hC.1 hC.2.1 hd ht (fun q => kt ((iZ_eq ha rg_0).mp q) p e s m args below meth c H locs ls hC hP hS hl) (fun q => kf (fun z => q ((iZ_eq ha rg_0).mpr z)) p e s m args below meth c H locs ls hC hP hS hl)

theorem x_if_ne {a off : Int} {tgt : Nat} (hd : decode μ.1 pc = .ok (.ifCond .ne off, 3)) (ht : (pc : Int) + off = (tgt : Int)) (ha : rg a) (kt : ¬ a = 0 → Ok g μ R F tgt lv st M) (kf : a = 0 → Ok g μ R F (pc + 3) lv st M) : Ok g μ R F pc lv (iv a :: st) M := by
  intro p e s m args below meth c H locs ls hC hP hS hl
  exact lv_if_ne hC.1 hC.2.1 hd ht (fun q => kt ((not_congr (iZ_eq ha rg_0)).mp q) p e s m args below meth c H locs ls hC hP hS hl) (fun q => kf ((iZ_eq ha rg_0).mp q) p e s m args below meth c H locs ls hC hP hS hl)

theorem x_lookup {a dflt off : Int} {ps : Array (Int × Int)} {len tgt : Nat} (hd : decode μ.1 pc = .ok (.lookupswitch dflt ps, len)) (ha : rg a) (hp : (ps.toList.zip (ps.toList.drop 1)).all (fun (a, next) => a.1 < next.1) = true) (ho : Op.lookupswitch.offset ps.toList dflt a = off) (ht : (pc : Int) + off = (tgt : Int)) (k : Ok g μ R F tgt lv st M) : Ok g μ R F pc lv (iv a :: st) M := by
  intro p e s m args below meth c H locs ls hC hP hS hl
  exact lv_lookup hC.1 hC.2.1 hd hp (by rw [iZ_ti ha]; exact ho) ht (k p e s m args below meth c H locs ls hC hP hS hl)

theorem x_tabOut {a dflt lo hi : Int} {offs : Array Int} {len tgt : Nat} (hd : decode μ.1 pc = .ok (.tableswitch dflt lo hi offs, len)) (ha : rg a) (h : a < lo ∨ hi < a) (ht : (pc : Int) + dflt = (tgt : Int)) (k : Ok g μ R F tgt lv st M) : Ok g μ R F pc lv (iv a :: st) M := by
  intro p e s m args below meth c H locs ls hC hP hS hl
  exact lv_tableOut hC.1 hC.2.1 hd (by rw [iZ_ti ha]; exact h) ht (k p e s m args below meth c H locs ls hC hP hS hl)

theorem x_tabIn {a dflt lo hi off : Int} {offs : Array Int} {len tgt : Nat} (hd : decode μ.1 pc = .ok (.tableswitch dflt lo hi offs, len)) (ha : rg a) (h1 : ¬ a < lo) (h2 : ¬ hi < a) (ho : offs[(a - lo).toNat]? = some off) (ht : (pc : Int) + off = (tgt : Int)) (k : Ok g μ R F tgt lv st M) : Ok g μ R F pc lv (iv a :: st) M := by
  intro p e s m args below meth c H locs ls hC hP hS hl
  exact lv_tableIn hC.1 hC.2.1 hd (by rw [iZ_ti ha]; exact h1) (by rw [iZ_ti ha]; exact h2) (by rw [iZ_ti ha]; exact ho) ht (k p e s m args below meth c H locs ls hC hP hS hl)

theorem x_i2l {a : Int} (hd : decode μ.1 pc = .ok (.i2l, 1)) (ha : rg a) (k : Ok g μ R F (pc + 1) lv (.long (Int64.ofInt a) :: st) M) : Ok g μ R F pc lv (iv a :: st) M := by
  intro p e s m args below meth c H locs ls hC hP hS hl
  exact lv_i2l hC.1 hC.2.1 hd (iZ_l ha) (k p e s m args below meth c H locs ls hC hP hS hl)

theorem x_ladd {x y : Int64} (hd : decode μ.1 pc = .ok (.ladd, 1)) (k : Ok g μ R F (pc + 1) lv (.long (x + y) :: st) M) : Ok g μ R F pc lv (.long y :: .long x :: st) M := by
  intro p e s m args below meth c H locs ls hC hP hS hl
  exact lv_ladd hC.1 hC.2.1 hd (k p e s m args below meth c H locs ls hC hP hS hl)

theorem x_lmul {x y : Int64} (hd : decode μ.1 pc = .ok (.lmul, 1)) (k : Ok g μ R F (pc + 1) lv (.long (x * y) :: st) M) : Ok g μ R F pc lv (.long y :: .long x :: st) M := by
  intro p e s m args below meth c H locs ls hC hP hS hl
  exact lv_lmul hC.1 hC.2.1 hd (k p e s m args below meth c H locs ls hC hP hS hl)

theorem x_ldc2 {v : Int64} {idx : Nat} (hd : decode μ.1 pc = .ok (.ldc2_w idx, 3)) (hw : Cond.constantLong μ.2.1 idx v ∈ wsL_law) (k : Ok g μ R F (pc + 3) lv (.long v :: st) M) : Ok g μ R F pc lv st M := by
  intro p e s m args below meth c H locs ls hC hP hS hl
  exact lv_ldc2 hC.1 hC.2.1 hC.2.2.2.2.1 (hC.2.2.2.2.2.1 _ hw) hd (k p e s m args below meth c H locs ls hC hP hS hl)

theorem x_geti {t n k idx : Nat} {o kI : Int} (hd : decode μ.1 pc = .ok (.getfield idx, 3)) (hf : FL μ.2.1 idx t n k) (hk : isK t n o) (hs : (sk t k).1 = 0) (hI : ((k : Nat) : Int) = kI) (kk : rg (M o kI) → Ok g μ R F (pc + 3) lv (iv (M o kI) :: st) M) : Ok g μ R F pc lv (rv g o :: st) M := by
  intro p e s m args below meth c H locs ls hC hP hS hl
  subst hI
  have h9 := x_getW (p := p) (e := e) (R := R) (below := below) (Q := F below args s) (meth := meth) (locs := locs) (ls := ls) (st := st) hC hd hf hk hP
  rw [show vl g o t k (M o k) = iv (M o k) by simp [vl, hs]] at h9
  exact h9 (kk (hP.1 o k (x_lt497 hk hf)) p e s m args below meth c H locs ls hC hP hS hl)

theorem x_getr {t n k idx : Nat} {o : Int} {d : Int} {t' n' : Nat} (hd : decode μ.1 pc = .ok (.getfield idx, 3)) (hf : FL μ.2.1 idx t n k) (hk : isK t n o) (hs : sk t k = (1, d, t', n')) (kk : isK t' n' (o + d) → Ok g μ R F (pc + 3) lv (rv g (o + d) :: st) M) : Ok g μ R F pc lv (rv g o :: st) M := by
  intro p e s m args below meth c H locs ls hC hP hS hl
  have h9 := x_getW (p := p) (e := e) (R := R) (below := below) (Q := F below args s) (meth := meth) (locs := locs) (ls := ls) (st := st) hC hd hf hk hP
  rw [show vl g o t k (M o k) = rv g (o + d) by simp [vl, hs]] at h9
  obtain ⟨C, T, hc, hkn, hlink, hin⟩ := hf
  exact h9 (kk (hk.ref k hkn hs) p e s m args below meth c H locs ls hC hP hS hl)

theorem x_puti {t n k idx : Nat} {o z kI : Int} {ty : FieldType} (hd : decode μ.1 pc = .ok (.putfield idx, 3)) (hf : FW μ.2.1 idx t n k ty) (hk : isK t n o) (hs : (sk t k).1 = 0) (hz : rg z) (hn : narrow ty (iv z) = iv z) (hfit : fits ty (iv z) = true) (hI : ((k : Nat) : Int) = kI) (kk : Ok g μ R F (pc + 3) lv st (up M o kI z)) : Ok g μ R F pc lv (iv z :: rv g o :: st) M := by
  intro p e s m args below meth c H locs ls hC hP hS hl
  subst hI
  exact x_putW hC hd hf hk hs hz hn hfit hP hS (fun H1 locs1 hP1 hS1 => kk p e s m args below meth c H1 locs1 ls hC hP1 hS1 hl)

theorem x_iald {n : Nat} {o i : Int} (hd : decode μ.1 pc = .ok (.iaload, 1)) (hk : isK 20 n o) (h0 : 0 ≤ i) (h1 : i < n) (hn : n < 2147483648) (kk : rg (M o i) → Ok g μ R F (pc + 1) lv (iv (M o i) :: st) M) : Ok g μ R F pc lv (iv i :: rv g o :: st) M := by
  intro p e s m args below meth c H locs ls hC hP hS hl
  obtain ⟨hx, hb, hr, hml, hown, hts, hlk, hK, hZ, hex⟩ := id hC
  have hc := x_arr hk (by decide) hP
  refine W.iald (v := iv (M o i)) hx hb hc (hK.2.1 n _) (fun q => by cases q) (by rw [arrV_size]; exact iZ_in h0 h1 hn) ?_ rfl rfl hd ?_
  · rw [iZ_cl h0 (by omega), arrV_read _ _ (by omega)]
    simp [vl, sk, Int.toNat_of_nonneg h0]
  · exact kk (hP.1 o i (x_lt497a hk (by decide))) p e s m args below meth c H locs ls hC hP hS hl

theorem x_cald {n : Nat} {o i : Int} (hd : decode μ.1 pc = .ok (.caload, 1)) (hk : isK 21 n o) (h0 : 0 ≤ i) (h1 : i < n) (hn : n < 2147483648) (kk : rg (M o i) → Ok g μ R F (pc + 1) lv (iv (M o i) :: st) M) : Ok g μ R F pc lv (iv i :: rv g o :: st) M := by
  intro p e s m args below meth c H locs ls hC hP hS hl
  obtain ⟨hx, hb, hr, hml, hown, hts, hlk, hK, hZ, hex⟩ := id hC
  have hc := x_arr hk (by decide) hP
  refine W.cald (v := iv (M o i)) hx hb hc (hK.2.2.1 n _) (fun q => by cases q) (by rw [arrV_size]; exact iZ_in h0 h1 hn) ?_ rfl rfl hd ?_
  · rw [iZ_cl h0 (by omega), arrV_read _ _ (by omega)]
    simp [vl, sk, Int.toNat_of_nonneg h0]
  · exact kk (hP.1 o i (x_lt497a hk (by decide))) p e s m args below meth c H locs ls hC hP hS hl

theorem x_zald {n : Nat} {o i : Int} (hd : decode μ.1 pc = .ok (.baload, 1)) (hk : isK 22 n o) (h0 : 0 ≤ i) (h1 : i < n) (hn : n < 2147483648) (kk : rg (M o i) → Ok g μ R F (pc + 1) lv (iv (M o i) :: st) M) : Ok g μ R F pc lv (iv i :: rv g o :: st) M := by
  intro p e s m args below meth c H locs ls hC hP hS hl
  obtain ⟨hx, hb, hr, hml, hown, hts, hlk, hK, hZ, hex⟩ := id hC
  have hc := x_arr hk (by decide) hP
  refine W.zald (v := iv (M o i)) hx hb hc (hK.2.2.2.1 n _) (fun q => by cases q) (by rw [arrV_size]; exact iZ_in h0 h1 hn) ?_ rfl rfl hd ?_
  · rw [iZ_cl h0 (by omega), arrV_read _ _ (by omega)]
    simp [vl, sk, Int.toNat_of_nonneg h0]
  · exact kk (hP.1 o i (x_lt497a hk (by decide))) p e s m args below meth c H locs ls hC hP hS hl

theorem x_aald30 {n : Nat} {o i : Int} (hd : decode μ.1 pc = .ok (.aaload, 1)) (hk : isK 30 n o) (h0 : 0 ≤ i) (h1 : i < n) (hn : n < 2147483648) (kk : isK 4 4 (o + (40 + 20 * i)) → Ok g μ R F (pc + 1) lv (rv g (o + (40 + 20 * i)) :: st) M) : Ok g μ R F pc lv (iv i :: rv g o :: st) M := by
  intro p e s m args below meth c H locs ls hC hP hS hl
  obtain ⟨hx, hb, hr, hml, hown, hts, hlk, hK, hZ, hex⟩ := id hC
  have hc := x_arr hk (by decide) hP
  have hi : ((i.toNat : Nat) : Int) = i := Int.toNat_of_nonneg h0
  refine W.aald (v := rv g (o + (40 + 20 * i))) (ty := .object "Judgefold$Problem") hx hb hc (hK.2.2.2.2.2.2.1 n _) rfl (fun q => by cases q) (by rw [arrV_size]; exact iZ_in h0 h1 hn) ?_ rfl rfl hd ?_
  · rw [iZ_cl h0 (by omega), arrV_read _ _ (by omega)]
    simp [vl, sk, hi]
  · exact kk (by have h := hk.ref i.toNat (by omega) (d := 40 + 20 * i) (t' := 4) (n' := 4) (by simp only [sk, hi]); exact h) p e s m args below meth c H locs ls hC hP hS hl

theorem x_aald31 {n : Nat} {o i : Int} (hd : decode μ.1 pc = .ok (.aaload, 1)) (hk : isK 31 n o) (h0 : 0 ≤ i) (h1 : i < n) (hn : n < 2147483648) (kk : isK 6 10 (o + (139 + 8 * i)) → Ok g μ R F (pc + 1) lv (rv g (o + (139 + 8 * i)) :: st) M) : Ok g μ R F pc lv (iv i :: rv g o :: st) M := by
  intro p e s m args below meth c H locs ls hC hP hS hl
  obtain ⟨hx, hb, hr, hml, hown, hts, hlk, hK, hZ, hex⟩ := id hC
  have hc := x_arr hk (by decide) hP
  have hi : ((i.toNat : Nat) : Int) = i := Int.toNat_of_nonneg h0
  refine W.aald (v := rv g (o + (139 + 8 * i))) (ty := .object "Judgefold$Run") hx hb hc (hK.2.2.2.2.2.2.2.1 n _) rfl (fun q => by cases q) (by rw [arrV_size]; exact iZ_in h0 h1 hn) ?_ rfl rfl hd ?_
  · rw [iZ_cl h0 (by omega), arrV_read _ _ (by omega)]
    simp [vl, sk, hi]
  · exact kk (by have h := hk.ref i.toNat (by omega) (d := 139 + 8 * i) (t' := 6) (n' := 10) (by simp only [sk, hi]); exact h) p e s m args below meth c H locs ls hC hP hS hl

theorem x_aald32 {n : Nat} {o i : Int} (hd : decode μ.1 pc = .ok (.aaload, 1)) (hk : isK 32 n o) (h0 : 0 ≤ i) (h1 : i < n) (hn : n < 2147483648) (kk : isK 3 4 (o + (1 + 3 * i)) → Ok g μ R F (pc + 1) lv (rv g (o + (1 + 3 * i)) :: st) M) : Ok g μ R F pc lv (iv i :: rv g o :: st) M := by
  intro p e s m args below meth c H locs ls hC hP hS hl
  obtain ⟨hx, hb, hr, hml, hown, hts, hlk, hK, hZ, hex⟩ := id hC
  have hc := x_arr hk (by decide) hP
  have hi : ((i.toNat : Nat) : Int) = i := Int.toNat_of_nonneg h0
  refine W.aald (v := rv g (o + (1 + 3 * i))) (ty := .object "Judgefold$Numbers") hx hb hc (hK.2.2.2.2.2.2.2.2.1 n _) rfl (fun q => by cases q) (by rw [arrV_size]; exact iZ_in h0 h1 hn) ?_ rfl rfl hd ?_
  · rw [iZ_cl h0 (by omega), arrV_read _ _ (by omega)]
    simp [vl, sk, hi]
  · exact kk (by have h := hk.ref i.toNat (by omega) (d := 1 + 3 * i) (t' := 3) (n' := 4) (by simp only [sk, hi]); exact h) p e s m args below meth c H locs ls hC hP hS hl

theorem x_aald33 {n : Nat} {o i : Int} (hd : decode μ.1 pc = .ok (.aaload, 1)) (hk : isK 33 n o) (h0 : 0 ≤ i) (h1 : i < n) (hn : n < 2147483648) (kk : isK 20 40 (o + (1 + i)) → Ok g μ R F (pc + 1) lv (rv g (o + (1 + i)) :: st) M) : Ok g μ R F pc lv (iv i :: rv g o :: st) M := by
  intro p e s m args below meth c H locs ls hC hP hS hl
  obtain ⟨hx, hb, hr, hml, hown, hts, hlk, hK, hZ, hex⟩ := id hC
  have hc := x_arr hk (by decide) hP
  have hi : ((i.toNat : Nat) : Int) = i := Int.toNat_of_nonneg h0
  refine W.aald (v := rv g (o + (1 + i))) (ty := .array .int) hx hb hc (hK.2.2.2.2.2.2.2.2.2 n _) rfl (fun q => by cases q) (by rw [arrV_size]; exact iZ_in h0 h1 hn) ?_ rfl rfl hd ?_
  · rw [iZ_cl h0 (by omega), arrV_read _ _ (by omega)]
    simp [vl, sk, hi]
  · exact kk (by have h := hk.ref i.toNat (by omega) (d := 1 + i) (t' := 20) (n' := 40) (by simp only [sk, hi]); exact h) p e s m args below meth c H locs ls hC hP hS hl

theorem x_iast {n : Nat} {o i z : Int} (hd : decode μ.1 pc = .ok (.iastore, 1)) (hk : isK 20 n o) (h0 : 0 ≤ i) (h1 : i < n) (hn : n < 2147483648) (hz : rg z) (kk : Ok g μ R F (pc + 1) lv st (up M o i z)) : Ok g μ R F pc lv (iv z :: iv i :: rv g o :: st) M := by
  intro p e s m args below meth c H locs ls hC hP hS hl
  obtain ⟨hx, hb, hr, hml, hown, hts, hlk, hK, hZ, hex⟩ := id hC
  have hc := x_arr hk (by decide) hP
  refine W.iast hx hb hc (hK.2.1 n _) (fun q => by cases q) (by rw [arrV_size]; exact iZ_in h0 h1 hn) rfl rfl hd (fun H1 e1 e2 e3 => ?_)
  exact kk p e s m args below meth c H1 _ ls hC (x_arrSet hk (by decide) (fun _ => rfl) hP hz h0 h1 (by rw [iZ_cl h0 (by omega)] at e1; exact e1) e3) (hS.put e2 e3 (Nat.le_add_right _ _)) hl

theorem x_cast {n : Nat} {o i z : Int} (hd : decode μ.1 pc = .ok (.castore, 1)) (hk : isK 21 n o) (h0 : 0 ≤ i) (h1 : i < n) (hn : n < 2147483648) (hz : rg z) (hc0 : 0 ≤ z) (hc1 : z < 65536) (kk : Ok g μ R F (pc + 1) lv st (up M o i z)) : Ok g μ R F pc lv (iv z :: iv i :: rv g o :: st) M := by
  intro p e s m args below meth c H locs ls hC hP hS hl
  obtain ⟨hx, hb, hr, hml, hown, hts, hlk, hK, hZ, hex⟩ := id hC
  have hc := x_arr hk (by decide) hP
  refine W.cast hx hb hc (hK.2.2.1 n _) (fun q => by cases q) (by rw [arrV_size]; exact iZ_in h0 h1 hn) rfl rfl hd (fun H1 e1 e2 e3 => ?_)
  rw [iZ_char hc0 hc1] at e1
  exact kk p e s m args below meth c H1 _ ls hC (x_arrSet hk (by decide) (fun _ => rfl) hP hz h0 h1 (by rw [iZ_cl h0 (by omega)] at e1; exact e1) e3) (hS.put e2 e3 (Nat.le_add_right _ _)) hl

theorem x_zast {n : Nat} {o i z : Int} (hd : decode μ.1 pc = .ok (.bastore, 1)) (hk : isK 22 n o) (h0 : 0 ≤ i) (h1 : i < n) (hn : n < 2147483648) (hz : rg z) (hz01 : z = 0 ∨ z = 1) (kk : Ok g μ R F (pc + 1) lv st (up M o i z)) : Ok g μ R F pc lv (iv z :: iv i :: rv g o :: st) M := by
  intro p e s m args below meth c H locs ls hC hP hS hl
  obtain ⟨hx, hb, hr, hml, hown, hts, hlk, hK, hZ, hex⟩ := id hC
  have hc := x_arr hk (by decide) hP
  refine W.zast hx hb hc (hK.2.2.2.1 n _) (fun q => by cases q) (by rw [arrV_size]; exact iZ_in h0 h1 hn) rfl rfl hd (fun H1 e1 e2 e3 => ?_)
  rw [iZ_bool hz01] at e1
  exact kk p e s m args below meth c H1 _ ls hC (x_arrSet hk (by decide) (fun _ => rfl) hP hz h0 h1 (by rw [iZ_cl h0 (by omega)] at e1; exact e1) e3) (hS.put e2 e3 (Nat.le_add_right _ _)) hl

theorem x_alen {t n : Nat} {o : Int} {ty : FieldType} (hd : decode μ.1 pc = .ok (.arraylength, 1)) (hk : isK t n o) (ht : ¬ t < 10) (hty : ∀ (U : State), KK g U → ArrOfT U (g.2.2.2 t) ty) (k : Ok g μ R F (pc + 1) lv (iv n :: st) M) : Ok g μ R F pc lv (rv g o :: st) M := by
  intro p e s m args below meth c H locs ls hC hP hS hl
  obtain ⟨hx, hb, hr, hml, hown, hts, hlk, hK, hZ, hex⟩ := id hC
  have hc := x_arr hk ht hP
  exact W.alen hx hb hc (hty s hK n _) (by rw [arrV_size]; rfl) rfl rfl hd (k p e s m args below meth c H locs ls hC hP hS hl)

end XR
end
section
def pI (P : Int → Mem → Prop) : Option Value → Mem → Prop := fun v M => ∃ z, v = some (iv z) ∧ P z M
def pV (P : Mem → Prop) : Option Value → Mem → Prop := fun v M => v = none ∧ P M
def pL (P : Int64 → Mem → Prop) : Option Value → Mem → Prop := fun v M => ∃ x, v = some (.long x) ∧ P x M
def pR (g : GG) (P : Int → Mem → Prop) : Option Value → Mem → Prop := fun v M => ∃ o, v = some (rv g o) ∧ P o M
/-- the words of a call of y, of the class kcl[t], by the class own -/
def VL (own : String) (idx t : Nat) (y : MethodName) (cc : ByteArray) (nL : Nat) (ret : Option FieldType) (n : Nat) : Prop :=
  (∃ (T : u_T) (N : Nat), kcl[t]? = some (y.cls, T, N)) ∧ Cond.methodLink own idx y ∈ wsL_law ∧ Cond.instanceMethod y ∈ wsL_law ∧ Cond.selects y.cls y y ∈ wsL_law ∧ Cond.initialized y.cls ∈ wsL_law ∧ Cond.code y cc nL ret ∈ wsL_law ∧ (y.cls ≠ "java/lang/invoke/MethodHandle" ∧ y.cls ≠ "java/lang/invoke/VarHandle") ∧ (parseMethodDescriptor y.desc).map (fun d => d.parameters.length) = some n
def SL (own : String) (idx : Nat) (y : MethodName) (cc : ByteArray) (nL : Nat) (ret : Option FieldType) (n : Nat) : Prop :=
  Cond.methodLink own idx y ∈ wsL_law ∧ Cond.static y ∈ wsL_law ∧ Cond.initialized y.cls ∈ wsL_law ∧ Cond.code y cc nL ret ∈ wsL_law ∧ (y.cls ≠ "java/lang/invoke/MethodHandle" ∧ y.cls ≠ "java/lang/invoke/VarHandle") ∧ (parseMethodDescriptor y.desc).map (fun d => d.parameters.length) = some n
theorem wsL_good : wsL_law.all goodWord = true := by decide +kernel
theorem wsL_in {y : MethodName} {cc : ByteArray} {nL : Nat} {ret : Option FieldType} (h : Cond.code y cc nL ret ∈ wsL_law) : GoodIn wsL_law (Cond.code y cc nL ret :: wsL_law) := fun w hw => by
  have h1 : w ∈ wsL_law := (List.mem_cons.mp hw).elim (fun e => e ▸ h) id
  exact ⟨h1, good_of_word (List.all_eq_true.mp wsL_good w h1)⟩
section XC
variable {g : GG} {μ : MI} {R : Room} {F : List Frame → Array Value → State → State → Prop} {pc : Nat} {lv : List (Nat × Value)} {st rest : List Value} {M : Mem}
theorem va_S.call {g : GG} {H0 H H1 : Heap} {locs L : List Loc} (hS : va_S (gA g) H0 H locs) (hz : H.size ≤ H1.size) (hk : ∀ q : Nat, q < H.size → ¬ gA g q → H1[q]? = H[q]?) (hL : ∀ q ∈ L, gA g q.base) : va_S (gA g) H0 H1 (locs ++ L) :=
  ⟨Nat.le_trans hS.1 hz, fun q h1 h2 => by rw [hk q (Nat.lt_of_lt_of_le h1 hS.1) h2]; exact hS.2.1 q h1 h2, fun q hq => by
    rcases List.mem_append.mp hq with h | h
    · exact hS.2.2 q h
    · exact hL q h⟩
theorem x_callV {t n idx : Nat} {o : Int} {y : MethodName} {cc : ByteArray} {nL d na : Nat} {ret : Option FieldType} {as : List Value} {post : Option Value → Mem → Prop}
    (hd : decode μ.1 pc = .ok (.invokevirtual idx, 3)) (hw : VL μ.2.1 idx t y cc nL ret na) (hk : isK t n o) (hC : Ct g y cc nL ret d (rv g o :: as) M post) (hst : st = as.reverse ++ rv g o :: rest) (hn : as.length = na) (hcat : (rest.map fun v => v.category).sum ≤ 8)
    (hR : d + 2 ≤ R.frames ∧ 8 + (nL + 11) + 40 * (d + 1) ≤ R.locals) (kk : ∀ (v : Option Value) (M' : Mem), post v M' → Ok g μ R F (pc + 3) lv (v.toList ++ rest) M') : Ok g μ R F pc lv st M := by
  intro p e s m args below meth c H locs ls hCx hP hS hl
  obtain ⟨hx, hb, hr, hml, hown, hts, hlk, hK, hZ, hex⟩ := id hCx
  obtain ⟨⟨T, N, hkc⟩, w1, w2, w3, w4, w5, w6, w7⟩ := hw
  have ht : t < 10 := (List.getElem?_eq_some_iff.mp hkc).1
  intro T0 hT X
  have cw : CallW R s args μ.2.1 y.cls idx y cc nL ret (Cond.code y cc nL ret :: wsL_law) (rmd d) 0 0 na :=
    ⟨callB_of na hts (wsL_in w5) rfl rfl rfl (hts _ w4) (hts _ w1) ⟨w6.1, w6.2, w7⟩ ⟨hR.1, hR.2⟩, hts _ w2, hts _ w3⟩
  have hp : PreV s H y.cls (g.2.1 + o.toNat) (Pcx g (rv g o :: as) M) as := by
    refine ⟨Pcx.blind, ?_, fun U hU hW => ⟨rfl, by rw [hU]; exact hP, KK.moved hW.alike hK, by rw [hU]; exact ZZ.moved hW.alike (hZ.kept hS.2.1)⟩⟩
    obtain ⟨cell, q1, q2, q3, q4⟩ := x_obj hk ht hP
    exact ⟨cell, q1, by rw [q3]; rfl, by rw [q2]; exact (hK.1.1 t _ hkc).2.1⟩
  obtain ⟨v, st₀, tt, T', L, h0, X', hL, e1, e2, ⟨⟨v', M', hv, hpost, hHP⟩, hF⟩, stp⟩ := va_runV (As := as) (rest := rest) (g := F0 m pc ls st) ⟨hx, hb, hml, hown, hts⟩ hC cw hp rfl hn hl.1 hst (by simpa [F0, JFrame.monitorRoom] using hcat) hd ⟨Nat.zero_le _, Nat.zero_le _⟩ T0 hT X
  cases hv
  obtain ⟨f1, f2⟩ := hF
  rw [h0] at f1 f2
  have hS1 : va_S (gA g) s.heap T'.heap (locs ++ L) := hS.call (by rw [e1]; exact f1) (fun q h1 h2 => by rw [e1]; exact f2 q h1 h2) hL
  obtain ⟨t2, a1, b1⟩ := kk v M' hpost p e s m args below meth c T'.heap (locs ++ L) ls hCx (by rw [e1]; exact hHP) hS1 hl T' rfl X'
  exact ⟨t2, stp t2 a1, b1⟩
theorem x_callS {idx : Nat} {y : MethodName} {cc : ByteArray} {nL d na : Nat} {ret : Option FieldType} {as : List Value} {post : Option Value → Mem → Prop}
    (hd : decode μ.1 pc = .ok (.invokestatic idx, 3)) (hw : SL μ.2.1 idx y cc nL ret na) (hC : Ct g y cc nL ret d as M post) (hst : st = as.reverse ++ rest) (hn : as.length = na) (hcat : (rest.map fun v => v.category).sum ≤ 8)
    (hR : d + 2 ≤ R.frames ∧ 8 + (nL + 11) + 40 * (d + 1) ≤ R.locals) (kk : ∀ (v : Option Value) (M' : Mem), post v M' → Ok g μ R F (pc + 3) lv (v.toList ++ rest) M') : Ok g μ R F pc lv st M := by
  intro p e s m args below meth c H locs ls hCx hP hS hl
  obtain ⟨hx, hb, hr, hml, hown, hts, hlk, hK, hZ, hex⟩ := id hCx
  obtain ⟨w1, w2, w4, w5, w6, w7⟩ := hw
  intro T0 hT X
  have cw : CallB R s args μ.2.1 idx y cc nL ret (Cond.code y cc nL ret :: wsL_law) (rmd d) 0 0 na ∧ (Cond.static y).before args s = true :=
    ⟨callB_of na hts (wsL_in w5) rfl rfl rfl (hts _ w4) (hts _ w1) ⟨w6.1, w6.2, w7⟩ ⟨hR.1, hR.2⟩, hts _ w2⟩
  have hp : PreS s H (Pcx g as M) as := ⟨Pcx.blind, fun U hU hW => ⟨rfl, by rw [hU]; exact hP, KK.moved hW.alike hK, by rw [hU]; exact ZZ.moved hW.alike (hZ.kept hS.2.1)⟩⟩
  obtain ⟨v, st₀, tt, T', L, h0, X', hL, e1, e2, ⟨⟨v', M', hv, hpost, hHP⟩, hF⟩, stp⟩ := va_runS (As := as) (rest := rest) (g := F0 m pc ls st) ⟨hx, hb, hml, hown, hts⟩ hC cw hp rfl hn hl.1 hst (by simpa [F0, JFrame.monitorRoom] using hcat) hd ⟨Nat.zero_le _, Nat.zero_le _⟩ T0 hT X
  cases hv
  obtain ⟨f1, f2⟩ := hF
  rw [h0] at f1 f2
  have hS1 : va_S (gA g) s.heap T'.heap (locs ++ L) := hS.call (by rw [e1]; exact f1) (fun q h1 h2 => by rw [e1]; exact f2 q h1 h2) hL
  obtain ⟨t2, a1, b1⟩ := kk v M' hpost p e s m args below meth c T'.heap (locs ++ L) ls hCx (by rw [e1]; exact hHP) hS1 hl T' rfl X'
  exact ⟨t2, stp t2 a1, b1⟩
theorem x_iret {post : Option Value → Mem → Prop} {z : Int} {ty : FieldType} (hd : decode μ.1 pc = .ok (.ireturn, 1)) (hr : μ.2.2.2 = some ty) (hn : narrow ty (iv z) = iv z) (hq : post (some (iv z)) M) : Ok g μ R (FQ g post) pc lv [iv z] M := by
  intro p e s m args below meth c H locs ls hC hP hS hl
  exact W.zret hC.1 hC.2.1 (hC.2.2.1.trans hr) hn (fun t ht hW => ⟨⟨_, M, rfl, hq, by rw [ht]; exact hP⟩, hS.F ht⟩) hS.2.2 hd hC.2.2.2.2.2.2.1
theorem x_vret {post : Option Value → Mem → Prop} (hd : decode μ.1 pc = .ok (.return_, 1)) (hr : μ.2.2.2 = none) (hq : post none M) : Ok g μ R (FQ g post) pc lv [] M := by
  intro p e s m args below meth c H locs ls hC hP hS hl
  exact W.vret hC.1 hC.2.1 (hC.2.2.1.trans hr) (fun t ht hW => ⟨⟨_, M, rfl, hq, by rw [ht]; exact hP⟩, hS.F ht⟩) hS.2.2 hd hC.2.2.2.2.2.2.1
theorem x_lret {post : Option Value → Mem → Prop} {x : Int64} (hd : decode μ.1 pc = .ok (.lreturn, 1)) (hr : μ.2.2.2 = some .long) (hq : post (some (.long x)) M) : Ok g μ R (FQ g post) pc lv [.long x] M := by
  intro p e s m args below meth c H locs ls hC hP hS hl
  exact W.lret hC.1 hC.2.1 (hC.2.2.1.trans hr) (fun t ht hW => ⟨⟨_, M, rfl, hq, by rw [ht]; exact hP⟩, hS.F ht⟩) hS.2.2 hd hC.2.2.2.2.2.2.1
theorem x_aret {post : Option Value → Mem → Prop} {o : Int} {C : String} (hd : decode μ.1 pc = .ok (.areturn, 1)) (hr : μ.2.2.2 = some (.object C)) (hq : post (some (rv g o)) M) : Ok g μ R (FQ g post) pc lv [rv g o] M := by
  intro p e s m args below meth c H locs ls hC hP hS hl
  exact W.aret hC.1 hC.2.1 (hC.2.2.1.trans hr) (Or.inl ⟨_, rfl⟩) (Or.inr ⟨_, rfl⟩) (fun t ht hW => ⟨⟨_, M, rfl, hq, by rw [ht]; exact hP⟩, hS.F ht⟩) hS.2.2 hd hC.2.2.2.2.2.2.1
theorem x_callVI {t n idx : Nat} {o : Int} {y : MethodName} {cc : ByteArray} {nL d na : Nat} {ret : Option FieldType} {as : List Value} {P : Int → Mem → Prop}
    (hd : decode μ.1 pc = .ok (.invokevirtual idx, 3)) (hw : VL μ.2.1 idx t y cc nL ret na) (hk : isK t n o) (hC : Ct g y cc nL ret d (rv g o :: as) M (pI P)) (hst : st = as.reverse ++ rv g o :: rest) (hn : as.length = na) (hcat : (rest.map fun v => v.category).sum ≤ 8)
    (hR : d + 2 ≤ R.frames ∧ 8 + (nL + 11) + 40 * (d + 1) ≤ R.locals) (kk : ∀ (z : Int) (M' : Mem), P z M' → Ok g μ R F (pc + 3) lv (iv z :: rest) M') : Ok g μ R F pc lv st M :=
  x_callV hd hw hk hC hst hn hcat hR (fun v M' ⟨z, hv, h⟩ => by subst hv; exact kk z M' h)
theorem x_callVV {t n idx : Nat} {o : Int} {y : MethodName} {cc : ByteArray} {nL d na : Nat} {ret : Option FieldType} {as : List Value} {P : Mem → Prop}
    (hd : decode μ.1 pc = .ok (.invokevirtual idx, 3)) (hw : VL μ.2.1 idx t y cc nL ret na) (hk : isK t n o) (hC : Ct g y cc nL ret d (rv g o :: as) M (pV P)) (hst : st = as.reverse ++ rv g o :: rest) (hn : as.length = na) (hcat : (rest.map fun v => v.category).sum ≤ 8)
    (hR : d + 2 ≤ R.frames ∧ 8 + (nL + 11) + 40 * (d + 1) ≤ R.locals) (kk : ∀ (M' : Mem), P M' → Ok g μ R F (pc + 3) lv rest M') : Ok g μ R F pc lv st M :=
  x_callV hd hw hk hC hst hn hcat hR (fun v M' ⟨hv, h⟩ => by subst hv; exact kk M' h)
theorem x_callVL {t n idx : Nat} {o : Int} {y : MethodName} {cc : ByteArray} {nL d na : Nat} {ret : Option FieldType} {as : List Value} {P : Int64 → Mem → Prop}
    (hd : decode μ.1 pc = .ok (.invokevirtual idx, 3)) (hw : VL μ.2.1 idx t y cc nL ret na) (hk : isK t n o) (hC : Ct g y cc nL ret d (rv g o :: as) M (pL P)) (hst : st = as.reverse ++ rv g o :: rest) (hn : as.length = na) (hcat : (rest.map fun v => v.category).sum ≤ 8)
    (hR : d + 2 ≤ R.frames ∧ 8 + (nL + 11) + 40 * (d + 1) ≤ R.locals) (kk : ∀ (x : Int64) (M' : Mem), P x M' → Ok g μ R F (pc + 3) lv (.long x :: rest) M') : Ok g μ R F pc lv st M :=
  x_callV hd hw hk hC hst hn hcat hR (fun v M' ⟨z, hv, h⟩ => by subst hv; exact kk z M' h)
theorem x_callVR {t n idx : Nat} {o : Int} {y : MethodName} {cc : ByteArray} {nL d na : Nat} {ret : Option FieldType} {as : List Value} {P : Int → Mem → Prop}
    (hd : decode μ.1 pc = .ok (.invokevirtual idx, 3)) (hw : VL μ.2.1 idx t y cc nL ret na) (hk : isK t n o) (hC : Ct g y cc nL ret d (rv g o :: as) M (pR g P)) (hst : st = as.reverse ++ rv g o :: rest) (hn : as.length = na) (hcat : (rest.map fun v => v.category).sum ≤ 8)
    (hR : d + 2 ≤ R.frames ∧ 8 + (nL + 11) + 40 * (d + 1) ≤ R.locals) (kk : ∀ (z : Int) (M' : Mem), P z M' → Ok g μ R F (pc + 3) lv (rv g z :: rest) M') : Ok g μ R F pc lv st M :=
  x_callV hd hw hk hC hst hn hcat hR (fun v M' ⟨z, hv, h⟩ => by subst hv; exact kk z M' h)
theorem x_callSI {idx : Nat} {y : MethodName} {cc : ByteArray} {nL d na : Nat} {ret : Option FieldType} {as : List Value} {P : Int → Mem → Prop}
    (hd : decode μ.1 pc = .ok (.invokestatic idx, 3)) (hw : SL μ.2.1 idx y cc nL ret na) (hC : Ct g y cc nL ret d as M (pI P)) (hst : st = as.reverse ++ rest) (hn : as.length = na) (hcat : (rest.map fun v => v.category).sum ≤ 8)
    (hR : d + 2 ≤ R.frames ∧ 8 + (nL + 11) + 40 * (d + 1) ≤ R.locals) (kk : ∀ (z : Int) (M' : Mem), P z M' → Ok g μ R F (pc + 3) lv (iv z :: rest) M') : Ok g μ R F pc lv st M :=
  x_callS hd hw hC hst hn hcat hR (fun v M' ⟨z, hv, h⟩ => by subst hv; exact kk z M' h)
end XC
end
section
theorem inr1 : ∀ w ∈ wsL_law0_r1, w ∈ wsL_law := fun _ h => List.mem_append_left _ (List.mem_append_left _ (List.mem_append_left _ (List.mem_append_left _ (List.mem_append_left _ (List.mem_append_left _ (List.mem_append_left _ (List.mem_append_left _ (List.mem_append_left _ (List.mem_append_left _ (List.mem_append_left _ (List.mem_append_left _ (List.mem_append_left _ (List.mem_append_left _ (List.mem_append_left _ (List.mem_append_left _ (List.mem_append_left _ (List.mem_append_left _ (h))))))))))))))))))
theorem inr2 : ∀ w ∈ wsL_law0_r2, w ∈ wsL_law := fun _ h => List.mem_append_left _ (List.mem_append_left _ (List.mem_append_left _ (List.mem_append_left _ (List.mem_append_left _ (List.mem_append_left _ (List.mem_append_left _ (List.mem_append_left _ (List.mem_append_left _ (List.mem_append_left _ (List.mem_append_left _ (List.mem_append_left _ (List.mem_append_left _ (List.mem_append_left _ (List.mem_append_left _ (List.mem_append_left _ (List.mem_append_left _ (List.mem_append_right _ (List.mem_append_left _ (h)))))))))))))))))))
theorem inr3 : ∀ w ∈ wsL_law0_r3, w ∈ wsL_law := fun _ h => List.mem_append_left _ (List.mem_append_left _ (List.mem_append_left _ (List.mem_append_left _ (List.mem_append_left _ (List.mem_append_left _ (List.mem_append_left _ (List.mem_append_left _ (List.mem_append_left _ (List.mem_append_left _ (List.mem_append_left _ (List.mem_append_left _ (List.mem_append_left _ (List.mem_append_left _ (List.mem_append_left _ (List.mem_append_left _ (List.mem_append_left _ (List.mem_append_right _ (List.mem_append_right _ (List.mem_append_left _ (h))))))))))))))))))))
theorem inr4 : ∀ w ∈ wsL_law0_r4, w ∈ wsL_law := fun _ h => List.mem_append_left _ (List.mem_append_left _ (List.mem_append_left _ (List.mem_append_left _ (List.mem_append_left _ (List.mem_append_left _ (List.mem_append_left _ (List.mem_append_left _ (List.mem_append_left _ (List.mem_append_left _ (List.mem_append_left _ (List.mem_append_left _ (List.mem_append_left _ (List.mem_append_left _ (List.mem_append_left _ (List.mem_append_left _ (List.mem_append_left _ (List.mem_append_right _ (List.mem_append_right _ (List.mem_append_right _ (List.mem_append_left _ (h)))))))))))))))))))))
theorem inr5 : ∀ w ∈ wsL_law0_r5, w ∈ wsL_law := fun _ h => List.mem_append_left _ (List.mem_append_left _ (List.mem_append_left _ (List.mem_append_left _ (List.mem_append_left _ (List.mem_append_left _ (List.mem_append_left _ (List.mem_append_left _ (List.mem_append_left _ (List.mem_append_left _ (List.mem_append_left _ (List.mem_append_left _ (List.mem_append_left _ (List.mem_append_left _ (List.mem_append_left _ (List.mem_append_left _ (List.mem_append_left _ (List.mem_append_right _ (List.mem_append_right _ (List.mem_append_right _ (List.mem_append_right _ (List.mem_append_left _ (h))))))))))))))))))))))
theorem inr6 : ∀ w ∈ wsL_law0_r6, w ∈ wsL_law := fun _ h => List.mem_append_left _ (List.mem_append_left _ (List.mem_append_left _ (List.mem_append_left _ (List.mem_append_left _ (List.mem_append_left _ (List.mem_append_left _ (List.mem_append_left _ (List.mem_append_left _ (List.mem_append_left _ (List.mem_append_left _ (List.mem_append_left _ (List.mem_append_left _ (List.mem_append_left _ (List.mem_append_left _ (List.mem_append_left _ (List.mem_append_left _ (List.mem_append_right _ (List.mem_append_right _ (List.mem_append_right _ (List.mem_append_right _ (List.mem_append_right _ (List.mem_append_left _ (h)))))))))))))))))))))))
theorem inr7 : ∀ w ∈ wsL_law0_r7, w ∈ wsL_law := fun _ h => List.mem_append_left _ (List.mem_append_left _ (List.mem_append_left _ (List.mem_append_left _ (List.mem_append_left _ (List.mem_append_left _ (List.mem_append_left _ (List.mem_append_left _ (List.mem_append_left _ (List.mem_append_left _ (List.mem_append_left _ (List.mem_append_left _ (List.mem_append_left _ (List.mem_append_left _ (List.mem_append_left _ (List.mem_append_left _ (List.mem_append_left _ (List.mem_append_right _ (List.mem_append_right _ (List.mem_append_right _ (List.mem_append_right _ (List.mem_append_right _ (List.mem_append_right _ (List.mem_append_left _ (h))))))))))))))))))))))))
theorem inr8 : ∀ w ∈ wsL_law0_r8, w ∈ wsL_law := fun _ h => List.mem_append_left _ (List.mem_append_left _ (List.mem_append_left _ (List.mem_append_left _ (List.mem_append_left _ (List.mem_append_left _ (List.mem_append_left _ (List.mem_append_left _ (List.mem_append_left _ (List.mem_append_left _ (List.mem_append_left _ (List.mem_append_left _ (List.mem_append_left _ (List.mem_append_left _ (List.mem_append_left _ (List.mem_append_left _ (List.mem_append_left _ (List.mem_append_right _ (List.mem_append_right _ (List.mem_append_right _ (List.mem_append_right _ (List.mem_append_right _ (List.mem_append_right _ (List.mem_append_right _ (List.mem_append_left _ (h)))))))))))))))))))))))))
theorem inr9 : ∀ w ∈ wsL_law0_r9, w ∈ wsL_law := fun _ h => List.mem_append_left _ (List.mem_append_left _ (List.mem_append_left _ (List.mem_append_left _ (List.mem_append_left _ (List.mem_append_left _ (List.mem_append_left _ (List.mem_append_left _ (List.mem_append_left _ (List.mem_append_left _ (List.mem_append_left _ (List.mem_append_left _ (List.mem_append_left _ (List.mem_append_left _ (List.mem_append_left _ (List.mem_append_left _ (List.mem_append_left _ (List.mem_append_right _ (List.mem_append_right _ (List.mem_append_right _ (List.mem_append_right _ (List.mem_append_right _ (List.mem_append_right _ (List.mem_append_right _ (List.mem_append_right _ (List.mem_append_left _ (h))))))))))))))))))))))))))
theorem inr10 : ∀ w ∈ wsL_law0_r10, w ∈ wsL_law := fun _ h => List.mem_append_left _ (List.mem_append_left _ (List.mem_append_left _ (List.mem_append_left _ (List.mem_append_left _ (List.mem_append_left _ (List.mem_append_left _ (List.mem_append_left _ (List.mem_append_left _ (List.mem_append_left _ (List.mem_append_left _ (List.mem_append_left _ (List.mem_append_left _ (List.mem_append_left _ (List.mem_append_left _ (List.mem_append_left _ (List.mem_append_left _ (List.mem_append_right _ (List.mem_append_right _ (List.mem_append_right _ (List.mem_append_right _ (List.mem_append_right _ (List.mem_append_right _ (List.mem_append_right _ (List.mem_append_right _ (List.mem_append_right _ (List.mem_append_left _ (h)))))))))))))))))))))))))))
theorem inr11 : ∀ w ∈ wsL_law0_r11, w ∈ wsL_law := fun _ h => List.mem_append_left _ (List.mem_append_left _ (List.mem_append_left _ (List.mem_append_left _ (List.mem_append_left _ (List.mem_append_left _ (List.mem_append_left _ (List.mem_append_left _ (List.mem_append_left _ (List.mem_append_left _ (List.mem_append_left _ (List.mem_append_left _ (List.mem_append_left _ (List.mem_append_left _ (List.mem_append_left _ (List.mem_append_left _ (List.mem_append_left _ (List.mem_append_right _ (List.mem_append_right _ (List.mem_append_right _ (List.mem_append_right _ (List.mem_append_right _ (List.mem_append_right _ (List.mem_append_right _ (List.mem_append_right _ (List.mem_append_right _ (List.mem_append_right _ (List.mem_append_left _ (h))))))))))))))))))))))))))))
theorem inr12 : ∀ w ∈ wsL_law0_r12, w ∈ wsL_law := fun _ h => List.mem_append_left _ (List.mem_append_left _ (List.mem_append_left _ (List.mem_append_left _ (List.mem_append_left _ (List.mem_append_left _ (List.mem_append_left _ (List.mem_append_left _ (List.mem_append_left _ (List.mem_append_left _ (List.mem_append_left _ (List.mem_append_left _ (List.mem_append_left _ (List.mem_append_left _ (List.mem_append_left _ (List.mem_append_left _ (List.mem_append_left _ (List.mem_append_right _ (List.mem_append_right _ (List.mem_append_right _ (List.mem_append_right _ (List.mem_append_right _ (List.mem_append_right _ (List.mem_append_right _ (List.mem_append_right _ (List.mem_append_right _ (List.mem_append_right _ (List.mem_append_right _ (List.mem_append_left _ (h)))))))))))))))))))))))))))))
theorem inr13 : ∀ w ∈ wsL_law0_r13, w ∈ wsL_law := fun _ h => List.mem_append_left _ (List.mem_append_left _ (List.mem_append_left _ (List.mem_append_left _ (List.mem_append_left _ (List.mem_append_left _ (List.mem_append_left _ (List.mem_append_left _ (List.mem_append_left _ (List.mem_append_left _ (List.mem_append_left _ (List.mem_append_left _ (List.mem_append_left _ (List.mem_append_left _ (List.mem_append_left _ (List.mem_append_left _ (List.mem_append_left _ (List.mem_append_right _ (List.mem_append_right _ (List.mem_append_right _ (List.mem_append_right _ (List.mem_append_right _ (List.mem_append_right _ (List.mem_append_right _ (List.mem_append_right _ (List.mem_append_right _ (List.mem_append_right _ (List.mem_append_right _ (List.mem_append_right _ (List.mem_append_left _ (h))))))))))))))))))))))))))))))
theorem inr14 : ∀ w ∈ wsL_law0_r14, w ∈ wsL_law := fun _ h => List.mem_append_left _ (List.mem_append_left _ (List.mem_append_left _ (List.mem_append_left _ (List.mem_append_left _ (List.mem_append_left _ (List.mem_append_left _ (List.mem_append_left _ (List.mem_append_left _ (List.mem_append_left _ (List.mem_append_left _ (List.mem_append_left _ (List.mem_append_left _ (List.mem_append_left _ (List.mem_append_left _ (List.mem_append_left _ (List.mem_append_left _ (List.mem_append_right _ (List.mem_append_right _ (List.mem_append_right _ (List.mem_append_right _ (List.mem_append_right _ (List.mem_append_right _ (List.mem_append_right _ (List.mem_append_right _ (List.mem_append_right _ (List.mem_append_right _ (List.mem_append_right _ (List.mem_append_right _ (List.mem_append_right _ (List.mem_append_left _ (h)))))))))))))))))))))))))))))))
theorem inr15 : ∀ w ∈ wsL_law0_r15, w ∈ wsL_law := fun _ h => List.mem_append_left _ (List.mem_append_left _ (List.mem_append_left _ (List.mem_append_left _ (List.mem_append_left _ (List.mem_append_left _ (List.mem_append_left _ (List.mem_append_left _ (List.mem_append_left _ (List.mem_append_left _ (List.mem_append_left _ (List.mem_append_left _ (List.mem_append_left _ (List.mem_append_left _ (List.mem_append_left _ (List.mem_append_left _ (List.mem_append_left _ (List.mem_append_right _ (List.mem_append_right _ (List.mem_append_right _ (List.mem_append_right _ (List.mem_append_right _ (List.mem_append_right _ (List.mem_append_right _ (List.mem_append_right _ (List.mem_append_right _ (List.mem_append_right _ (List.mem_append_right _ (List.mem_append_right _ (List.mem_append_right _ (List.mem_append_right _ (List.mem_append_left _ (h))))))))))))))))))))))))))))))))
theorem inr16 : ∀ w ∈ wsL_law0_r16, w ∈ wsL_law := fun _ h => List.mem_append_left _ (List.mem_append_left _ (List.mem_append_left _ (List.mem_append_left _ (List.mem_append_left _ (List.mem_append_left _ (List.mem_append_left _ (List.mem_append_left _ (List.mem_append_left _ (List.mem_append_left _ (List.mem_append_left _ (List.mem_append_left _ (List.mem_append_left _ (List.mem_append_left _ (List.mem_append_left _ (List.mem_append_left _ (List.mem_append_left _ (List.mem_append_right _ (List.mem_append_right _ (List.mem_append_right _ (List.mem_append_right _ (List.mem_append_right _ (List.mem_append_right _ (List.mem_append_right _ (List.mem_append_right _ (List.mem_append_right _ (List.mem_append_right _ (List.mem_append_right _ (List.mem_append_right _ (List.mem_append_right _ (List.mem_append_right _ (List.mem_append_right _ (List.mem_append_left _ (h)))))))))))))))))))))))))))))))))
theorem inr17 : ∀ w ∈ wsL_law0_r17, w ∈ wsL_law := fun _ h => List.mem_append_left _ (List.mem_append_left _ (List.mem_append_left _ (List.mem_append_left _ (List.mem_append_left _ (List.mem_append_left _ (List.mem_append_left _ (List.mem_append_left _ (List.mem_append_left _ (List.mem_append_left _ (List.mem_append_left _ (List.mem_append_left _ (List.mem_append_left _ (List.mem_append_left _ (List.mem_append_left _ (List.mem_append_left _ (List.mem_append_left _ (List.mem_append_right _ (List.mem_append_right _ (List.mem_append_right _ (List.mem_append_right _ (List.mem_append_right _ (List.mem_append_right _ (List.mem_append_right _ (List.mem_append_right _ (List.mem_append_right _ (List.mem_append_right _ (List.mem_append_right _ (List.mem_append_right _ (List.mem_append_right _ (List.mem_append_right _ (List.mem_append_right _ (List.mem_append_right _ (List.mem_append_left _ (h))))))))))))))))))))))))))))))))))
theorem inr18 : ∀ w ∈ wsL_law0_r18, w ∈ wsL_law := fun _ h => List.mem_append_left _ (List.mem_append_left _ (List.mem_append_left _ (List.mem_append_left _ (List.mem_append_left _ (List.mem_append_left _ (List.mem_append_left _ (List.mem_append_left _ (List.mem_append_left _ (List.mem_append_left _ (List.mem_append_left _ (List.mem_append_left _ (List.mem_append_left _ (List.mem_append_left _ (List.mem_append_left _ (List.mem_append_left _ (List.mem_append_left _ (List.mem_append_right _ (List.mem_append_right _ (List.mem_append_right _ (List.mem_append_right _ (List.mem_append_right _ (List.mem_append_right _ (List.mem_append_right _ (List.mem_append_right _ (List.mem_append_right _ (List.mem_append_right _ (List.mem_append_right _ (List.mem_append_right _ (List.mem_append_right _ (List.mem_append_right _ (List.mem_append_right _ (List.mem_append_right _ (List.mem_append_right _ (List.mem_append_left _ (h)))))))))))))))))))))))))))))))))))
theorem inr19 : ∀ w ∈ wsL_law0_r19, w ∈ wsL_law := fun _ h => List.mem_append_left _ (List.mem_append_left _ (List.mem_append_left _ (List.mem_append_left _ (List.mem_append_left _ (List.mem_append_left _ (List.mem_append_left _ (List.mem_append_left _ (List.mem_append_left _ (List.mem_append_left _ (List.mem_append_left _ (List.mem_append_left _ (List.mem_append_left _ (List.mem_append_left _ (List.mem_append_left _ (List.mem_append_left _ (List.mem_append_left _ (List.mem_append_right _ (List.mem_append_right _ (List.mem_append_right _ (List.mem_append_right _ (List.mem_append_right _ (List.mem_append_right _ (List.mem_append_right _ (List.mem_append_right _ (List.mem_append_right _ (List.mem_append_right _ (List.mem_append_right _ (List.mem_append_right _ (List.mem_append_right _ (List.mem_append_right _ (List.mem_append_right _ (List.mem_append_right _ (List.mem_append_right _ (List.mem_append_right _ (List.mem_append_left _ (h))))))))))))))))))))))))))))))))))))
theorem inr20 : ∀ w ∈ wsL_law0_r20, w ∈ wsL_law := fun _ h => List.mem_append_left _ (List.mem_append_left _ (List.mem_append_left _ (List.mem_append_left _ (List.mem_append_left _ (List.mem_append_left _ (List.mem_append_left _ (List.mem_append_left _ (List.mem_append_left _ (List.mem_append_left _ (List.mem_append_left _ (List.mem_append_left _ (List.mem_append_left _ (List.mem_append_left _ (List.mem_append_left _ (List.mem_append_left _ (List.mem_append_left _ (List.mem_append_right _ (List.mem_append_right _ (List.mem_append_right _ (List.mem_append_right _ (List.mem_append_right _ (List.mem_append_right _ (List.mem_append_right _ (List.mem_append_right _ (List.mem_append_right _ (List.mem_append_right _ (List.mem_append_right _ (List.mem_append_right _ (List.mem_append_right _ (List.mem_append_right _ (List.mem_append_right _ (List.mem_append_right _ (List.mem_append_right _ (List.mem_append_right _ (List.mem_append_right _ (List.mem_append_left _ (h)))))))))))))))))))))))))))))))))))))
theorem inr21 : ∀ w ∈ wsL_law0_r21, w ∈ wsL_law := fun _ h => List.mem_append_left _ (List.mem_append_left _ (List.mem_append_left _ (List.mem_append_left _ (List.mem_append_left _ (List.mem_append_left _ (List.mem_append_left _ (List.mem_append_left _ (List.mem_append_left _ (List.mem_append_left _ (List.mem_append_left _ (List.mem_append_left _ (List.mem_append_left _ (List.mem_append_left _ (List.mem_append_left _ (List.mem_append_left _ (List.mem_append_left _ (List.mem_append_right _ (List.mem_append_right _ (List.mem_append_right _ (List.mem_append_right _ (List.mem_append_right _ (List.mem_append_right _ (List.mem_append_right _ (List.mem_append_right _ (List.mem_append_right _ (List.mem_append_right _ (List.mem_append_right _ (List.mem_append_right _ (List.mem_append_right _ (List.mem_append_right _ (List.mem_append_right _ (List.mem_append_right _ (List.mem_append_right _ (List.mem_append_right _ (List.mem_append_right _ (List.mem_append_right _ (List.mem_append_left _ (h))))))))))))))))))))))))))))))))))))))
theorem inr22 : ∀ w ∈ wsL_law0_r22, w ∈ wsL_law := fun _ h => List.mem_append_left _ (List.mem_append_left _ (List.mem_append_left _ (List.mem_append_left _ (List.mem_append_left _ (List.mem_append_left _ (List.mem_append_left _ (List.mem_append_left _ (List.mem_append_left _ (List.mem_append_left _ (List.mem_append_left _ (List.mem_append_left _ (List.mem_append_left _ (List.mem_append_left _ (List.mem_append_left _ (List.mem_append_left _ (List.mem_append_left _ (List.mem_append_right _ (List.mem_append_right _ (List.mem_append_right _ (List.mem_append_right _ (List.mem_append_right _ (List.mem_append_right _ (List.mem_append_right _ (List.mem_append_right _ (List.mem_append_right _ (List.mem_append_right _ (List.mem_append_right _ (List.mem_append_right _ (List.mem_append_right _ (List.mem_append_right _ (List.mem_append_right _ (List.mem_append_right _ (List.mem_append_right _ (List.mem_append_right _ (List.mem_append_right _ (List.mem_append_right _ (List.mem_append_right _ (List.mem_append_left _ (h)))))))))))))))))))))))))))))))))))))))
theorem inr23 : ∀ w ∈ wsL_law0_r23, w ∈ wsL_law := fun _ h => List.mem_append_left _ (List.mem_append_left _ (List.mem_append_left _ (List.mem_append_left _ (List.mem_append_left _ (List.mem_append_left _ (List.mem_append_left _ (List.mem_append_left _ (List.mem_append_left _ (List.mem_append_left _ (List.mem_append_left _ (List.mem_append_left _ (List.mem_append_left _ (List.mem_append_left _ (List.mem_append_left _ (List.mem_append_left _ (List.mem_append_left _ (List.mem_append_right _ (List.mem_append_right _ (List.mem_append_right _ (List.mem_append_right _ (List.mem_append_right _ (List.mem_append_right _ (List.mem_append_right _ (List.mem_append_right _ (List.mem_append_right _ (List.mem_append_right _ (List.mem_append_right _ (List.mem_append_right _ (List.mem_append_right _ (List.mem_append_right _ (List.mem_append_right _ (List.mem_append_right _ (List.mem_append_right _ (List.mem_append_right _ (List.mem_append_right _ (List.mem_append_right _ (List.mem_append_right _ (List.mem_append_right _ (List.mem_append_left _ (h))))))))))))))))))))))))))))))))))))))))
theorem inr24 : ∀ w ∈ wsL_law0_r24, w ∈ wsL_law := fun _ h => List.mem_append_left _ (List.mem_append_left _ (List.mem_append_left _ (List.mem_append_left _ (List.mem_append_left _ (List.mem_append_left _ (List.mem_append_left _ (List.mem_append_left _ (List.mem_append_left _ (List.mem_append_left _ (List.mem_append_left _ (List.mem_append_left _ (List.mem_append_left _ (List.mem_append_left _ (List.mem_append_left _ (List.mem_append_left _ (List.mem_append_left _ (List.mem_append_right _ (List.mem_append_right _ (List.mem_append_right _ (List.mem_append_right _ (List.mem_append_right _ (List.mem_append_right _ (List.mem_append_right _ (List.mem_append_right _ (List.mem_append_right _ (List.mem_append_right _ (List.mem_append_right _ (List.mem_append_right _ (List.mem_append_right _ (List.mem_append_right _ (List.mem_append_right _ (List.mem_append_right _ (List.mem_append_right _ (List.mem_append_right _ (List.mem_append_right _ (List.mem_append_right _ (List.mem_append_right _ (List.mem_append_right _ (List.mem_append_right _ (List.mem_append_left _ (h)))))))))))))))))))))))))))))))))))))))))
theorem inr25 : ∀ w ∈ wsL_law0_r25, w ∈ wsL_law := fun _ h => List.mem_append_left _ (List.mem_append_left _ (List.mem_append_left _ (List.mem_append_left _ (List.mem_append_left _ (List.mem_append_left _ (List.mem_append_left _ (List.mem_append_left _ (List.mem_append_left _ (List.mem_append_left _ (List.mem_append_left _ (List.mem_append_left _ (List.mem_append_left _ (List.mem_append_left _ (List.mem_append_left _ (List.mem_append_left _ (List.mem_append_left _ (List.mem_append_right _ (List.mem_append_right _ (List.mem_append_right _ (List.mem_append_right _ (List.mem_append_right _ (List.mem_append_right _ (List.mem_append_right _ (List.mem_append_right _ (List.mem_append_right _ (List.mem_append_right _ (List.mem_append_right _ (List.mem_append_right _ (List.mem_append_right _ (List.mem_append_right _ (List.mem_append_right _ (List.mem_append_right _ (List.mem_append_right _ (List.mem_append_right _ (List.mem_append_right _ (List.mem_append_right _ (List.mem_append_right _ (List.mem_append_right _ (List.mem_append_right _ (List.mem_append_right _ (List.mem_append_left _ (h))))))))))))))))))))))))))))))))))))))))))
theorem inr26 : ∀ w ∈ wsL_law0_r26, w ∈ wsL_law := fun _ h => List.mem_append_left _ (List.mem_append_left _ (List.mem_append_left _ (List.mem_append_left _ (List.mem_append_left _ (List.mem_append_left _ (List.mem_append_left _ (List.mem_append_left _ (List.mem_append_left _ (List.mem_append_left _ (List.mem_append_left _ (List.mem_append_left _ (List.mem_append_left _ (List.mem_append_left _ (List.mem_append_left _ (List.mem_append_left _ (List.mem_append_left _ (List.mem_append_right _ (List.mem_append_right _ (List.mem_append_right _ (List.mem_append_right _ (List.mem_append_right _ (List.mem_append_right _ (List.mem_append_right _ (List.mem_append_right _ (List.mem_append_right _ (List.mem_append_right _ (List.mem_append_right _ (List.mem_append_right _ (List.mem_append_right _ (List.mem_append_right _ (List.mem_append_right _ (List.mem_append_right _ (List.mem_append_right _ (List.mem_append_right _ (List.mem_append_right _ (List.mem_append_right _ (List.mem_append_right _ (List.mem_append_right _ (List.mem_append_right _ (List.mem_append_right _ (List.mem_append_right _ (List.mem_append_left _ (h)))))))))))))))))))))))))))))))))))))))))))
theorem inr27 : ∀ w ∈ wsL_law0_r27, w ∈ wsL_law := fun _ h => List.mem_append_left _ (List.mem_append_left _ (List.mem_append_left _ (List.mem_append_left _ (List.mem_append_left _ (List.mem_append_left _ (List.mem_append_left _ (List.mem_append_left _ (List.mem_append_left _ (List.mem_append_left _ (List.mem_append_left _ (List.mem_append_left _ (List.mem_append_left _ (List.mem_append_left _ (List.mem_append_left _ (List.mem_append_left _ (List.mem_append_left _ (List.mem_append_right _ (List.mem_append_right _ (List.mem_append_right _ (List.mem_append_right _ (List.mem_append_right _ (List.mem_append_right _ (List.mem_append_right _ (List.mem_append_right _ (List.mem_append_right _ (List.mem_append_right _ (List.mem_append_right _ (List.mem_append_right _ (List.mem_append_right _ (List.mem_append_right _ (List.mem_append_right _ (List.mem_append_right _ (List.mem_append_right _ (List.mem_append_right _ (List.mem_append_right _ (List.mem_append_right _ (List.mem_append_right _ (List.mem_append_right _ (List.mem_append_right _ (List.mem_append_right _ (List.mem_append_right _ (List.mem_append_right _ (List.mem_append_left _ (h))))))))))))))))))))))))))))))))))))))))))))
theorem inr28 : ∀ w ∈ wsL_law0_r28, w ∈ wsL_law := fun _ h => List.mem_append_left _ (List.mem_append_left _ (List.mem_append_left _ (List.mem_append_left _ (List.mem_append_left _ (List.mem_append_left _ (List.mem_append_left _ (List.mem_append_left _ (List.mem_append_left _ (List.mem_append_left _ (List.mem_append_left _ (List.mem_append_left _ (List.mem_append_left _ (List.mem_append_left _ (List.mem_append_left _ (List.mem_append_left _ (List.mem_append_left _ (List.mem_append_right _ (List.mem_append_right _ (List.mem_append_right _ (List.mem_append_right _ (List.mem_append_right _ (List.mem_append_right _ (List.mem_append_right _ (List.mem_append_right _ (List.mem_append_right _ (List.mem_append_right _ (List.mem_append_right _ (List.mem_append_right _ (List.mem_append_right _ (List.mem_append_right _ (List.mem_append_right _ (List.mem_append_right _ (List.mem_append_right _ (List.mem_append_right _ (List.mem_append_right _ (List.mem_append_right _ (List.mem_append_right _ (List.mem_append_right _ (List.mem_append_right _ (List.mem_append_right _ (List.mem_append_right _ (List.mem_append_right _ (List.mem_append_right _ (List.mem_append_left _ (h)))))))))))))))))))))))))))))))))))))))))))))
theorem inr29 : ∀ w ∈ wsL_law0_r29, w ∈ wsL_law := fun _ h => List.mem_append_left _ (List.mem_append_left _ (List.mem_append_left _ (List.mem_append_left _ (List.mem_append_left _ (List.mem_append_left _ (List.mem_append_left _ (List.mem_append_left _ (List.mem_append_left _ (List.mem_append_left _ (List.mem_append_left _ (List.mem_append_left _ (List.mem_append_left _ (List.mem_append_left _ (List.mem_append_left _ (List.mem_append_left _ (List.mem_append_left _ (List.mem_append_right _ (List.mem_append_right _ (List.mem_append_right _ (List.mem_append_right _ (List.mem_append_right _ (List.mem_append_right _ (List.mem_append_right _ (List.mem_append_right _ (List.mem_append_right _ (List.mem_append_right _ (List.mem_append_right _ (List.mem_append_right _ (List.mem_append_right _ (List.mem_append_right _ (List.mem_append_right _ (List.mem_append_right _ (List.mem_append_right _ (List.mem_append_right _ (List.mem_append_right _ (List.mem_append_right _ (List.mem_append_right _ (List.mem_append_right _ (List.mem_append_right _ (List.mem_append_right _ (List.mem_append_right _ (List.mem_append_right _ (List.mem_append_right _ (List.mem_append_right _ (List.mem_append_left _ (h))))))))))))))))))))))))))))))))))))))))))))))
theorem inr30 : ∀ w ∈ wsL_law0_r30, w ∈ wsL_law := fun _ h => List.mem_append_left _ (List.mem_append_left _ (List.mem_append_left _ (List.mem_append_left _ (List.mem_append_left _ (List.mem_append_left _ (List.mem_append_left _ (List.mem_append_left _ (List.mem_append_left _ (List.mem_append_left _ (List.mem_append_left _ (List.mem_append_left _ (List.mem_append_left _ (List.mem_append_left _ (List.mem_append_left _ (List.mem_append_left _ (List.mem_append_left _ (List.mem_append_right _ (List.mem_append_right _ (List.mem_append_right _ (List.mem_append_right _ (List.mem_append_right _ (List.mem_append_right _ (List.mem_append_right _ (List.mem_append_right _ (List.mem_append_right _ (List.mem_append_right _ (List.mem_append_right _ (List.mem_append_right _ (List.mem_append_right _ (List.mem_append_right _ (List.mem_append_right _ (List.mem_append_right _ (List.mem_append_right _ (List.mem_append_right _ (List.mem_append_right _ (List.mem_append_right _ (List.mem_append_right _ (List.mem_append_right _ (List.mem_append_right _ (List.mem_append_right _ (List.mem_append_right _ (List.mem_append_right _ (List.mem_append_right _ (List.mem_append_right _ (List.mem_append_right _ (List.mem_append_left _ (h)))))))))))))))))))))))))))))))))))))))))))))))
theorem inr31 : ∀ w ∈ wsL_law0_r31, w ∈ wsL_law := fun _ h => List.mem_append_left _ (List.mem_append_left _ (List.mem_append_left _ (List.mem_append_left _ (List.mem_append_left _ (List.mem_append_left _ (List.mem_append_left _ (List.mem_append_left _ (List.mem_append_left _ (List.mem_append_left _ (List.mem_append_left _ (List.mem_append_left _ (List.mem_append_left _ (List.mem_append_left _ (List.mem_append_left _ (List.mem_append_left _ (List.mem_append_left _ (List.mem_append_right _ (List.mem_append_right _ (List.mem_append_right _ (List.mem_append_right _ (List.mem_append_right _ (List.mem_append_right _ (List.mem_append_right _ (List.mem_append_right _ (List.mem_append_right _ (List.mem_append_right _ (List.mem_append_right _ (List.mem_append_right _ (List.mem_append_right _ (List.mem_append_right _ (List.mem_append_right _ (List.mem_append_right _ (List.mem_append_right _ (List.mem_append_right _ (List.mem_append_right _ (List.mem_append_right _ (List.mem_append_right _ (List.mem_append_right _ (List.mem_append_right _ (List.mem_append_right _ (List.mem_append_right _ (List.mem_append_right _ (List.mem_append_right _ (List.mem_append_right _ (List.mem_append_right _ (List.mem_append_right _ (List.mem_append_left _ (h))))))))))))))))))))))))))))))))))))))))))))))))
theorem inr32 : ∀ w ∈ wsL_law0_r32, w ∈ wsL_law := fun _ h => List.mem_append_left _ (List.mem_append_left _ (List.mem_append_left _ (List.mem_append_left _ (List.mem_append_left _ (List.mem_append_left _ (List.mem_append_left _ (List.mem_append_left _ (List.mem_append_left _ (List.mem_append_left _ (List.mem_append_left _ (List.mem_append_left _ (List.mem_append_left _ (List.mem_append_left _ (List.mem_append_left _ (List.mem_append_left _ (List.mem_append_left _ (List.mem_append_right _ (List.mem_append_right _ (List.mem_append_right _ (List.mem_append_right _ (List.mem_append_right _ (List.mem_append_right _ (List.mem_append_right _ (List.mem_append_right _ (List.mem_append_right _ (List.mem_append_right _ (List.mem_append_right _ (List.mem_append_right _ (List.mem_append_right _ (List.mem_append_right _ (List.mem_append_right _ (List.mem_append_right _ (List.mem_append_right _ (List.mem_append_right _ (List.mem_append_right _ (List.mem_append_right _ (List.mem_append_right _ (List.mem_append_right _ (List.mem_append_right _ (List.mem_append_right _ (List.mem_append_right _ (List.mem_append_right _ (List.mem_append_right _ (List.mem_append_right _ (List.mem_append_right _ (List.mem_append_right _ (List.mem_append_right _ (List.mem_append_left _ (h)))))))))))))))))))))))))))))))))))))))))))))))))
theorem inr33 : ∀ w ∈ wsL_law0_r33, w ∈ wsL_law := fun _ h => List.mem_append_left _ (List.mem_append_left _ (List.mem_append_left _ (List.mem_append_left _ (List.mem_append_left _ (List.mem_append_left _ (List.mem_append_left _ (List.mem_append_left _ (List.mem_append_left _ (List.mem_append_left _ (List.mem_append_left _ (List.mem_append_left _ (List.mem_append_left _ (List.mem_append_left _ (List.mem_append_left _ (List.mem_append_left _ (List.mem_append_left _ (List.mem_append_right _ (List.mem_append_right _ (List.mem_append_right _ (List.mem_append_right _ (List.mem_append_right _ (List.mem_append_right _ (List.mem_append_right _ (List.mem_append_right _ (List.mem_append_right _ (List.mem_append_right _ (List.mem_append_right _ (List.mem_append_right _ (List.mem_append_right _ (List.mem_append_right _ (List.mem_append_right _ (List.mem_append_right _ (List.mem_append_right _ (List.mem_append_right _ (List.mem_append_right _ (List.mem_append_right _ (List.mem_append_right _ (List.mem_append_right _ (List.mem_append_right _ (List.mem_append_right _ (List.mem_append_right _ (List.mem_append_right _ (List.mem_append_right _ (List.mem_append_right _ (List.mem_append_right _ (List.mem_append_right _ (List.mem_append_right _ (List.mem_append_right _ (List.mem_append_left _ (h))))))))))))))))))))))))))))))))))))))))))))))))))
theorem inr34 : ∀ w ∈ wsL_law0_r34, w ∈ wsL_law := fun _ h => List.mem_append_left _ (List.mem_append_left _ (List.mem_append_left _ (List.mem_append_left _ (List.mem_append_left _ (List.mem_append_left _ (List.mem_append_left _ (List.mem_append_left _ (List.mem_append_left _ (List.mem_append_left _ (List.mem_append_left _ (List.mem_append_left _ (List.mem_append_left _ (List.mem_append_left _ (List.mem_append_left _ (List.mem_append_left _ (List.mem_append_left _ (List.mem_append_right _ (List.mem_append_right _ (List.mem_append_right _ (List.mem_append_right _ (List.mem_append_right _ (List.mem_append_right _ (List.mem_append_right _ (List.mem_append_right _ (List.mem_append_right _ (List.mem_append_right _ (List.mem_append_right _ (List.mem_append_right _ (List.mem_append_right _ (List.mem_append_right _ (List.mem_append_right _ (List.mem_append_right _ (List.mem_append_right _ (List.mem_append_right _ (List.mem_append_right _ (List.mem_append_right _ (List.mem_append_right _ (List.mem_append_right _ (List.mem_append_right _ (List.mem_append_right _ (List.mem_append_right _ (List.mem_append_right _ (List.mem_append_right _ (List.mem_append_right _ (List.mem_append_right _ (List.mem_append_right _ (List.mem_append_right _ (List.mem_append_right _ (List.mem_append_right _ (List.mem_append_left _ (h)))))))))))))))))))))))))))))))))))))))))))))))))))
theorem inr35 : ∀ w ∈ wsL_law0_r35, w ∈ wsL_law := fun _ h => List.mem_append_left _ (List.mem_append_left _ (List.mem_append_left _ (List.mem_append_left _ (List.mem_append_left _ (List.mem_append_left _ (List.mem_append_left _ (List.mem_append_left _ (List.mem_append_left _ (List.mem_append_left _ (List.mem_append_left _ (List.mem_append_left _ (List.mem_append_left _ (List.mem_append_left _ (List.mem_append_left _ (List.mem_append_left _ (List.mem_append_left _ (List.mem_append_right _ (List.mem_append_right _ (List.mem_append_right _ (List.mem_append_right _ (List.mem_append_right _ (List.mem_append_right _ (List.mem_append_right _ (List.mem_append_right _ (List.mem_append_right _ (List.mem_append_right _ (List.mem_append_right _ (List.mem_append_right _ (List.mem_append_right _ (List.mem_append_right _ (List.mem_append_right _ (List.mem_append_right _ (List.mem_append_right _ (List.mem_append_right _ (List.mem_append_right _ (List.mem_append_right _ (List.mem_append_right _ (List.mem_append_right _ (List.mem_append_right _ (List.mem_append_right _ (List.mem_append_right _ (List.mem_append_right _ (List.mem_append_right _ (List.mem_append_right _ (List.mem_append_right _ (List.mem_append_right _ (List.mem_append_right _ (List.mem_append_right _ (List.mem_append_right _ (List.mem_append_right _ (List.mem_append_left _ (h))))))))))))))))))))))))))))))))))))))))))))))))))))
theorem inr36 : ∀ w ∈ wsL_law0_r36, w ∈ wsL_law := fun _ h => List.mem_append_left _ (List.mem_append_left _ (List.mem_append_left _ (List.mem_append_left _ (List.mem_append_left _ (List.mem_append_left _ (List.mem_append_left _ (List.mem_append_left _ (List.mem_append_left _ (List.mem_append_left _ (List.mem_append_left _ (List.mem_append_left _ (List.mem_append_left _ (List.mem_append_left _ (List.mem_append_left _ (List.mem_append_left _ (List.mem_append_left _ (List.mem_append_right _ (List.mem_append_right _ (List.mem_append_right _ (List.mem_append_right _ (List.mem_append_right _ (List.mem_append_right _ (List.mem_append_right _ (List.mem_append_right _ (List.mem_append_right _ (List.mem_append_right _ (List.mem_append_right _ (List.mem_append_right _ (List.mem_append_right _ (List.mem_append_right _ (List.mem_append_right _ (List.mem_append_right _ (List.mem_append_right _ (List.mem_append_right _ (List.mem_append_right _ (List.mem_append_right _ (List.mem_append_right _ (List.mem_append_right _ (List.mem_append_right _ (List.mem_append_right _ (List.mem_append_right _ (List.mem_append_right _ (List.mem_append_right _ (List.mem_append_right _ (List.mem_append_right _ (List.mem_append_right _ (List.mem_append_right _ (List.mem_append_right _ (List.mem_append_right _ (List.mem_append_right _ (List.mem_append_right _ (List.mem_append_left _ (h)))))))))))))))))))))))))))))))))))))))))))))))))))))
theorem inr37 : ∀ w ∈ wsL_law0_r37, w ∈ wsL_law := fun _ h => List.mem_append_left _ (List.mem_append_left _ (List.mem_append_left _ (List.mem_append_left _ (List.mem_append_left _ (List.mem_append_left _ (List.mem_append_left _ (List.mem_append_left _ (List.mem_append_left _ (List.mem_append_left _ (List.mem_append_left _ (List.mem_append_left _ (List.mem_append_left _ (List.mem_append_left _ (List.mem_append_left _ (List.mem_append_left _ (List.mem_append_left _ (List.mem_append_right _ (List.mem_append_right _ (List.mem_append_right _ (List.mem_append_right _ (List.mem_append_right _ (List.mem_append_right _ (List.mem_append_right _ (List.mem_append_right _ (List.mem_append_right _ (List.mem_append_right _ (List.mem_append_right _ (List.mem_append_right _ (List.mem_append_right _ (List.mem_append_right _ (List.mem_append_right _ (List.mem_append_right _ (List.mem_append_right _ (List.mem_append_right _ (List.mem_append_right _ (List.mem_append_right _ (List.mem_append_right _ (List.mem_append_right _ (List.mem_append_right _ (List.mem_append_right _ (List.mem_append_right _ (List.mem_append_right _ (List.mem_append_right _ (List.mem_append_right _ (List.mem_append_right _ (List.mem_append_right _ (List.mem_append_right _ (List.mem_append_right _ (List.mem_append_right _ (List.mem_append_right _ (List.mem_append_right _ (List.mem_append_right _ (List.mem_append_left _ (h))))))))))))))))))))))))))))))))))))))))))))))))))))))
theorem inr38 : ∀ w ∈ wsL_law0_r38, w ∈ wsL_law := fun _ h => List.mem_append_left _ (List.mem_append_left _ (List.mem_append_left _ (List.mem_append_left _ (List.mem_append_left _ (List.mem_append_left _ (List.mem_append_left _ (List.mem_append_left _ (List.mem_append_left _ (List.mem_append_left _ (List.mem_append_left _ (List.mem_append_left _ (List.mem_append_left _ (List.mem_append_left _ (List.mem_append_left _ (List.mem_append_left _ (List.mem_append_left _ (List.mem_append_right _ (List.mem_append_right _ (List.mem_append_right _ (List.mem_append_right _ (List.mem_append_right _ (List.mem_append_right _ (List.mem_append_right _ (List.mem_append_right _ (List.mem_append_right _ (List.mem_append_right _ (List.mem_append_right _ (List.mem_append_right _ (List.mem_append_right _ (List.mem_append_right _ (List.mem_append_right _ (List.mem_append_right _ (List.mem_append_right _ (List.mem_append_right _ (List.mem_append_right _ (List.mem_append_right _ (List.mem_append_right _ (List.mem_append_right _ (List.mem_append_right _ (List.mem_append_right _ (List.mem_append_right _ (List.mem_append_right _ (List.mem_append_right _ (List.mem_append_right _ (List.mem_append_right _ (List.mem_append_right _ (List.mem_append_right _ (List.mem_append_right _ (List.mem_append_right _ (List.mem_append_right _ (List.mem_append_right _ (List.mem_append_right _ (List.mem_append_right _ (List.mem_append_left _ (h)))))))))))))))))))))))))))))))))))))))))))))))))))))))
theorem inr39 : ∀ w ∈ wsL_law0_r39, w ∈ wsL_law := fun _ h => List.mem_append_left _ (List.mem_append_left _ (List.mem_append_left _ (List.mem_append_left _ (List.mem_append_left _ (List.mem_append_left _ (List.mem_append_left _ (List.mem_append_left _ (List.mem_append_left _ (List.mem_append_left _ (List.mem_append_left _ (List.mem_append_left _ (List.mem_append_left _ (List.mem_append_left _ (List.mem_append_left _ (List.mem_append_left _ (List.mem_append_left _ (List.mem_append_right _ (List.mem_append_right _ (List.mem_append_right _ (List.mem_append_right _ (List.mem_append_right _ (List.mem_append_right _ (List.mem_append_right _ (List.mem_append_right _ (List.mem_append_right _ (List.mem_append_right _ (List.mem_append_right _ (List.mem_append_right _ (List.mem_append_right _ (List.mem_append_right _ (List.mem_append_right _ (List.mem_append_right _ (List.mem_append_right _ (List.mem_append_right _ (List.mem_append_right _ (List.mem_append_right _ (List.mem_append_right _ (List.mem_append_right _ (List.mem_append_right _ (List.mem_append_right _ (List.mem_append_right _ (List.mem_append_right _ (List.mem_append_right _ (List.mem_append_right _ (List.mem_append_right _ (List.mem_append_right _ (List.mem_append_right _ (List.mem_append_right _ (List.mem_append_right _ (List.mem_append_right _ (List.mem_append_right _ (List.mem_append_right _ (List.mem_append_right _ (List.mem_append_right _ (List.mem_append_left _ (h))))))))))))))))))))))))))))))))))))))))))))))))))))))))
theorem inr40 : ∀ w ∈ wsL_law0_r40, w ∈ wsL_law := fun _ h => List.mem_append_left _ (List.mem_append_left _ (List.mem_append_left _ (List.mem_append_left _ (List.mem_append_left _ (List.mem_append_left _ (List.mem_append_left _ (List.mem_append_left _ (List.mem_append_left _ (List.mem_append_left _ (List.mem_append_left _ (List.mem_append_left _ (List.mem_append_left _ (List.mem_append_left _ (List.mem_append_left _ (List.mem_append_left _ (List.mem_append_left _ (List.mem_append_right _ (List.mem_append_right _ (List.mem_append_right _ (List.mem_append_right _ (List.mem_append_right _ (List.mem_append_right _ (List.mem_append_right _ (List.mem_append_right _ (List.mem_append_right _ (List.mem_append_right _ (List.mem_append_right _ (List.mem_append_right _ (List.mem_append_right _ (List.mem_append_right _ (List.mem_append_right _ (List.mem_append_right _ (List.mem_append_right _ (List.mem_append_right _ (List.mem_append_right _ (List.mem_append_right _ (List.mem_append_right _ (List.mem_append_right _ (List.mem_append_right _ (List.mem_append_right _ (List.mem_append_right _ (List.mem_append_right _ (List.mem_append_right _ (List.mem_append_right _ (List.mem_append_right _ (List.mem_append_right _ (List.mem_append_right _ (List.mem_append_right _ (List.mem_append_right _ (List.mem_append_right _ (List.mem_append_right _ (List.mem_append_right _ (List.mem_append_right _ (List.mem_append_right _ (List.mem_append_right _ (List.mem_append_left _ (h)))))))))))))))))))))))))))))))))))))))))))))))))))))))))
theorem inr41 : ∀ w ∈ wsL_law0_r41, w ∈ wsL_law := fun _ h => List.mem_append_left _ (List.mem_append_left _ (List.mem_append_left _ (List.mem_append_left _ (List.mem_append_left _ (List.mem_append_left _ (List.mem_append_left _ (List.mem_append_left _ (List.mem_append_left _ (List.mem_append_left _ (List.mem_append_left _ (List.mem_append_left _ (List.mem_append_left _ (List.mem_append_left _ (List.mem_append_left _ (List.mem_append_left _ (List.mem_append_left _ (List.mem_append_right _ (List.mem_append_right _ (List.mem_append_right _ (List.mem_append_right _ (List.mem_append_right _ (List.mem_append_right _ (List.mem_append_right _ (List.mem_append_right _ (List.mem_append_right _ (List.mem_append_right _ (List.mem_append_right _ (List.mem_append_right _ (List.mem_append_right _ (List.mem_append_right _ (List.mem_append_right _ (List.mem_append_right _ (List.mem_append_right _ (List.mem_append_right _ (List.mem_append_right _ (List.mem_append_right _ (List.mem_append_right _ (List.mem_append_right _ (List.mem_append_right _ (List.mem_append_right _ (List.mem_append_right _ (List.mem_append_right _ (List.mem_append_right _ (List.mem_append_right _ (List.mem_append_right _ (List.mem_append_right _ (List.mem_append_right _ (List.mem_append_right _ (List.mem_append_right _ (List.mem_append_right _ (List.mem_append_right _ (List.mem_append_right _ (List.mem_append_right _ (List.mem_append_right _ (List.mem_append_right _ (List.mem_append_right _ (List.mem_append_left _ (h))))))))))))))))))))))))))))))))))))))))))))))))))))))))))
theorem inr42 : ∀ w ∈ wsL_law0_r42, w ∈ wsL_law := fun _ h => List.mem_append_left _ (List.mem_append_left _ (List.mem_append_left _ (List.mem_append_left _ (List.mem_append_left _ (List.mem_append_left _ (List.mem_append_left _ (List.mem_append_left _ (List.mem_append_left _ (List.mem_append_left _ (List.mem_append_left _ (List.mem_append_left _ (List.mem_append_left _ (List.mem_append_left _ (List.mem_append_left _ (List.mem_append_left _ (List.mem_append_left _ (List.mem_append_right _ (List.mem_append_right _ (List.mem_append_right _ (List.mem_append_right _ (List.mem_append_right _ (List.mem_append_right _ (List.mem_append_right _ (List.mem_append_right _ (List.mem_append_right _ (List.mem_append_right _ (List.mem_append_right _ (List.mem_append_right _ (List.mem_append_right _ (List.mem_append_right _ (List.mem_append_right _ (List.mem_append_right _ (List.mem_append_right _ (List.mem_append_right _ (List.mem_append_right _ (List.mem_append_right _ (List.mem_append_right _ (List.mem_append_right _ (List.mem_append_right _ (List.mem_append_right _ (List.mem_append_right _ (List.mem_append_right _ (List.mem_append_right _ (List.mem_append_right _ (List.mem_append_right _ (List.mem_append_right _ (List.mem_append_right _ (List.mem_append_right _ (List.mem_append_right _ (List.mem_append_right _ (List.mem_append_right _ (List.mem_append_right _ (List.mem_append_right _ (List.mem_append_right _ (List.mem_append_right _ (List.mem_append_right _ (List.mem_append_right _ (h))))))))))))))))))))))))))))))))))))))))))))))))))))))))))
theorem fl8_12 : FL RX8 12 8 14 0 := ⟨RX8, TX8, rfl, by decide, inr1 _ (List.mem_of_getElem? (i := 17) rfl), inlX8⟩
theorem fl8_19 : FL RX8 19 8 14 1 := ⟨RX8, TX8, rfl, by decide, inr1 _ (List.mem_of_getElem? (i := 21) rfl), inlX8⟩
theorem fl8_25 : FL RX8 25 8 14 2 := ⟨RX8, TX8, rfl, by decide, inr1 _ (List.mem_of_getElem? (i := 23) rfl), inlX8⟩
theorem fl8_31 : FL RX8 31 8 14 3 := ⟨RX8, TX8, rfl, by decide, inr2 _ (List.mem_of_getElem? (i := 1) rfl), inlX8⟩
theorem fl8_38 : FL RX8 38 8 14 4 := ⟨RX8, TX8, rfl, by decide, inr2 _ (List.mem_of_getElem? (i := 5) rfl), inlX8⟩
theorem fl8_45 : FL RX8 45 8 14 5 := ⟨RX8, TX8, rfl, by decide, inr2 _ (List.mem_of_getElem? (i := 9) rfl), inlX8⟩
theorem fl8_52 : FL RX8 52 8 14 6 := ⟨RX8, TX8, rfl, by decide, inr2 _ (List.mem_of_getElem? (i := 13) rfl), inlX8⟩
theorem fl8_59 : FL RX8 59 8 14 7 := ⟨RX8, TX8, rfl, by decide, inr2 _ (List.mem_of_getElem? (i := 17) rfl), inlX8⟩
theorem fl8_63 : FL RX8 63 8 14 8 := ⟨RX8, TX8, rfl, by decide, inr2 _ (List.mem_of_getElem? (i := 18) rfl), inlX8⟩
theorem fl8_66 : FL RX8 66 8 14 9 := ⟨RX8, TX8, rfl, by decide, inr2 _ (List.mem_of_getElem? (i := 19) rfl), inlX8⟩
theorem fw8_69 : FW RX8 69 8 14 10 .int := ⟨RX8, TX8, tyX8, rfl, by decide, inr2 _ (List.mem_of_getElem? (i := 20) rfl), inlX8, rfl, by decide +kernel, tyX8_ok, nmX8⟩
theorem fl8_69 : FL RX8 69 8 14 10 := fw8_69.fl
theorem fw8_73 : FW RX8 73 8 14 11 .int := ⟨RX8, TX8, tyX8, rfl, by decide, inr2 _ (List.mem_of_getElem? (i := 21) rfl), inlX8, rfl, by decide +kernel, tyX8_ok, nmX8⟩
theorem fl8_73 : FL RX8 73 8 14 11 := fw8_73.fl
theorem fw8_76 : FW RX8 76 8 14 12 .int := ⟨RX8, TX8, tyX8, rfl, by decide, inr2 _ (List.mem_of_getElem? (i := 22) rfl), inlX8, rfl, by decide +kernel, tyX8_ok, nmX8⟩
theorem fl8_76 : FL RX8 76 8 14 12 := fw8_76.fl
theorem fw8_79 : FW RX8 79 8 14 13 .int := ⟨RX8, TX8, tyX8, rfl, by decide, inr2 _ (List.mem_of_getElem? (i := 23) rfl), inlX8, rfl, by decide +kernel, tyX8_ok, nmX8⟩
theorem fl8_79 : FL RX8 79 8 14 13 := fw8_79.fl
theorem fl5_9 : FL RX5 9 5 4 0 := ⟨RX5, TX5, rfl, by decide, inr3 _ (List.mem_of_getElem? (i := 8) rfl), inlX5⟩
theorem fl5_15 : FL RX5 15 5 4 1 := ⟨RX5, TX5, rfl, by decide, inr3 _ (List.mem_of_getElem? (i := 10) rfl), inlX5⟩
theorem fl5_19 : FL RX5 19 5 4 2 := ⟨RX5, TX5, rfl, by decide, inr3 _ (List.mem_of_getElem? (i := 11) rfl), inlX5⟩
theorem fw5_22 : FW RX5 22 5 4 3 .int := ⟨RX5, TX5, tyX5, rfl, by decide, inr3 _ (List.mem_of_getElem? (i := 12) rfl), inlX5, rfl, by decide +kernel, tyX5_ok, nmX5⟩
theorem fl5_22 : FL RX5 22 5 4 3 := fw5_22.fl
theorem fl3_9 : FL RX3 9 3 4 0 := ⟨RX3, TX3, rfl, by decide, inr3 _ (List.mem_of_getElem? (i := 16) rfl), inlX3⟩
theorem fl3_15 : FL RX3 15 3 4 1 := ⟨RX3, TX3, rfl, by decide, inr3 _ (List.mem_of_getElem? (i := 17) rfl), inlX3⟩
theorem fw3_18 : FW RX3 18 3 4 2 .int := ⟨RX3, TX3, tyX3, rfl, by decide, inr3 _ (List.mem_of_getElem? (i := 18) rfl), inlX3, rfl, by decide +kernel, tyX3_ok, nmX3⟩
theorem fl3_18 : FL RX3 18 3 4 2 := fw3_18.fl
theorem fw3_22 : FW RX3 22 3 4 3 .int := ⟨RX3, TX3, tyX3, rfl, by decide, inr3 _ (List.mem_of_getElem? (i := 19) rfl), inlX3, rfl, by decide +kernel, tyX3_ok, nmX3⟩
theorem fl3_22 : FL RX3 22 3 4 3 := fw3_22.fl
theorem fl2_9 : FL RX2 9 2 7 0 := ⟨RX2, TX2, rfl, by decide, inr3 _ (List.mem_of_getElem? (i := 23) rfl), inlX2⟩
theorem fl2_15 : FL RX2 15 2 7 1 := ⟨RX2, TX2, rfl, by decide, inr4 _ (List.mem_of_getElem? (i := 0) rfl), inlX2⟩
theorem fw2_18 : FW RX2 18 2 7 2 .int := ⟨RX2, TX2, tyX2, rfl, by decide, inr4 _ (List.mem_of_getElem? (i := 1) rfl), inlX2, rfl, by decide +kernel, tyX2_ok, nmX2⟩
theorem fl2_18 : FL RX2 18 2 7 2 := fw2_18.fl
theorem fw2_22 : FW RX2 22 2 7 3 .int := ⟨RX2, TX2, tyX2, rfl, by decide, inr4 _ (List.mem_of_getElem? (i := 2) rfl), inlX2, rfl, by decide +kernel, tyX2_ok, nmX2⟩
theorem fl2_22 : FL RX2 22 2 7 3 := fw2_22.fl
theorem fw2_25 : FW RX2 25 2 7 4 .int := ⟨RX2, TX2, tyX2, rfl, by decide, inr4 _ (List.mem_of_getElem? (i := 3) rfl), inlX2, rfl, by decide +kernel, tyX2_ok, nmX2⟩
theorem fl2_25 : FL RX2 25 2 7 4 := fw2_25.fl
theorem fw2_28 : FW RX2 28 2 7 5 .int := ⟨RX2, TX2, tyX2, rfl, by decide, inr4 _ (List.mem_of_getElem? (i := 4) rfl), inlX2, rfl, by decide +kernel, tyX2_ok, nmX2⟩
theorem fl2_28 : FL RX2 28 2 7 5 := fw2_28.fl
theorem fw2_31 : FW RX2 31 2 7 6 .char := ⟨RX2, TX2, tyX2, rfl, by decide, inr4 _ (List.mem_of_getElem? (i := 5) rfl), inlX2, rfl, by decide +kernel, tyX2_ok, nmX2⟩
theorem fl2_31 : FL RX2 31 2 7 6 := fw2_31.fl
theorem fl7_9 : FL RX7 9 7 4 0 := ⟨RX7, TX7, rfl, by decide, inr4 _ (List.mem_of_getElem? (i := 9) rfl), inlX7⟩
theorem fl7_15 : FL RX7 15 7 4 1 := ⟨RX7, TX7, rfl, by decide, inr4 _ (List.mem_of_getElem? (i := 10) rfl), inlX7⟩
theorem fl7_18 : FL RX7 18 7 4 2 := ⟨RX7, TX7, rfl, by decide, inr4 _ (List.mem_of_getElem? (i := 11) rfl), inlX7⟩
theorem fw7_21 : FW RX7 21 7 4 3 .int := ⟨RX7, TX7, tyX7, rfl, by decide, inr4 _ (List.mem_of_getElem? (i := 12) rfl), inlX7, rfl, by decide +kernel, tyX7_ok, nmX7⟩
theorem fl7_21 : FL RX7 21 7 4 3 := fw7_21.fl
theorem fl0_9 : FL RX0 9 0 6 0 := ⟨RX0, TX0, rfl, by decide, inr4 _ (List.mem_of_getElem? (i := 17) rfl), inlX0⟩
theorem fl0_17 : FL RX0 17 0 6 1 := ⟨RX0, TX0, rfl, by decide, inr4 _ (List.mem_of_getElem? (i := 19) rfl), inlX0⟩
theorem fl0_20 : FL RX0 20 0 6 2 := ⟨RX0, TX0, rfl, by decide, inr4 _ (List.mem_of_getElem? (i := 20) rfl), inlX0⟩
theorem fl0_24 : FL RX0 24 0 6 3 := ⟨RX0, TX0, rfl, by decide, inr4 _ (List.mem_of_getElem? (i := 21) rfl), inlX0⟩
theorem fl0_27 : FL RX0 27 0 6 4 := ⟨RX0, TX0, rfl, by decide, inr4 _ (List.mem_of_getElem? (i := 22) rfl), inlX0⟩
theorem fw0_30 : FW RX0 30 0 6 5 .int := ⟨RX0, TX0, tyX0, rfl, by decide, inr4 _ (List.mem_of_getElem? (i := 23) rfl), inlX0, rfl, by decide +kernel, tyX0_ok, nmX0⟩
theorem fl0_30 : FL RX0 30 0 6 5 := fw0_30.fl
theorem fl1_9 : FL RX1 9 1 7 0 := ⟨RX1, TX1, rfl, by decide, inr5 _ (List.mem_of_getElem? (i := 3) rfl), inlX1⟩
theorem fl1_15 : FL RX1 15 1 7 1 := ⟨RX1, TX1, rfl, by decide, inr5 _ (List.mem_of_getElem? (i := 4) rfl), inlX1⟩
theorem fl1_18 : FL RX1 18 1 7 2 := ⟨RX1, TX1, rfl, by decide, inr5 _ (List.mem_of_getElem? (i := 5) rfl), inlX1⟩
theorem fl1_21 : FL RX1 21 1 7 3 := ⟨RX1, TX1, rfl, by decide, inr5 _ (List.mem_of_getElem? (i := 6) rfl), inlX1⟩
theorem fl1_24 : FL RX1 24 1 7 4 := ⟨RX1, TX1, rfl, by decide, inr5 _ (List.mem_of_getElem? (i := 7) rfl), inlX1⟩
theorem fl1_27 : FL RX1 27 1 7 5 := ⟨RX1, TX1, rfl, by decide, inr5 _ (List.mem_of_getElem? (i := 8) rfl), inlX1⟩
theorem fw1_30 : FW RX1 30 1 7 6 .int := ⟨RX1, TX1, tyX1, rfl, by decide, inr5 _ (List.mem_of_getElem? (i := 9) rfl), inlX1, rfl, by decide +kernel, tyX1_ok, nmX1⟩
theorem fl1_30 : FL RX1 30 1 7 6 := fw1_30.fl
theorem fl4_11 : FL RX4 11 4 4 0 := ⟨RX4, TX4, rfl, by decide, inr5 _ (List.mem_of_getElem? (i := 15) rfl), inlX4⟩
theorem fw4_17 : FW RX4 17 4 4 1 .int := ⟨RX4, TX4, tyX4, rfl, by decide, inr5 _ (List.mem_of_getElem? (i := 16) rfl), inlX4, rfl, by decide +kernel, tyX4_ok, nmX4⟩
theorem fl4_17 : FL RX4 17 4 4 1 := fw4_17.fl
theorem fw4_21 : FW RX4 21 4 4 2 .int := ⟨RX4, TX4, tyX4, rfl, by decide, inr5 _ (List.mem_of_getElem? (i := 17) rfl), inlX4, rfl, by decide +kernel, tyX4_ok, nmX4⟩
theorem fl4_21 : FL RX4 21 4 4 2 := fw4_21.fl
theorem fw4_24 : FW RX4 24 4 4 3 .int := ⟨RX4, TX4, tyX4, rfl, by decide, inr5 _ (List.mem_of_getElem? (i := 18) rfl), inlX4, rfl, by decide +kernel, tyX4_ok, nmX4⟩
theorem fl4_24 : FL RX4 24 4 4 3 := fw4_24.fl
theorem fl6_12 : FL RX6 12 6 10 0 := ⟨RX6, TX6, rfl, by decide, inr6 _ (List.mem_of_getElem? (i := 0) rfl), inlX6⟩
theorem fl6_18 : FL RX6 18 6 10 1 := ⟨RX6, TX6, rfl, by decide, inr6 _ (List.mem_of_getElem? (i := 1) rfl), inlX6⟩
theorem fl6_22 : FL RX6 22 6 10 2 := ⟨RX6, TX6, rfl, by decide, inr6 _ (List.mem_of_getElem? (i := 2) rfl), inlX6⟩
theorem fl6_26 : FL RX6 26 6 10 3 := ⟨RX6, TX6, rfl, by decide, inr6 _ (List.mem_of_getElem? (i := 3) rfl), inlX6⟩
theorem fw6_29 : FW RX6 29 6 10 4 .int := ⟨RX6, TX6, tyX6, rfl, by decide, inr6 _ (List.mem_of_getElem? (i := 4) rfl), inlX6, rfl, by decide +kernel, tyX6_ok, nmX6⟩
theorem fl6_29 : FL RX6 29 6 10 4 := fw6_29.fl
theorem fw6_33 : FW RX6 33 6 10 5 .int := ⟨RX6, TX6, tyX6, rfl, by decide, inr6 _ (List.mem_of_getElem? (i := 5) rfl), inlX6, rfl, by decide +kernel, tyX6_ok, nmX6⟩
theorem fl6_33 : FL RX6 33 6 10 5 := fw6_33.fl
theorem fw6_36 : FW RX6 36 6 10 6 .int := ⟨RX6, TX6, tyX6, rfl, by decide, inr6 _ (List.mem_of_getElem? (i := 6) rfl), inlX6, rfl, by decide +kernel, tyX6_ok, nmX6⟩
theorem fl6_36 : FL RX6 36 6 10 6 := fw6_36.fl
theorem fw6_39 : FW RX6 39 6 10 7 .boolean := ⟨RX6, TX6, tyX6, rfl, by decide, inr6 _ (List.mem_of_getElem? (i := 7) rfl), inlX6, rfl, by decide +kernel, tyX6_ok, nmX6⟩
theorem fl6_39 : FL RX6 39 6 10 7 := fw6_39.fl
theorem fw6_43 : FW RX6 43 6 10 8 .char := ⟨RX6, TX6, tyX6, rfl, by decide, inr6 _ (List.mem_of_getElem? (i := 8) rfl), inlX6, rfl, by decide +kernel, tyX6_ok, nmX6⟩
theorem fl6_43 : FL RX6 43 6 10 8 := fw6_43.fl
theorem fw6_47 : FW RX6 47 6 10 9 .int := ⟨RX6, TX6, tyX6, rfl, by decide, inr6 _ (List.mem_of_getElem? (i := 9) rfl), inlX6, rfl, by decide +kernel, tyX6_ok, nmX6⟩
theorem fl6_47 : FL RX6 47 6 10 9 := fw6_47.fl
theorem fl9_7 : FL RX9 7 9 38 2 := ⟨RX9, TX9, rfl, by decide, inr6 _ (List.mem_of_getElem? (i := 14) rfl), inlX9⟩
theorem fl9_13 : FL RX9 13 9 38 3 := ⟨RX9, TX9, rfl, by decide, inr6 _ (List.mem_of_getElem? (i := 15) rfl), inlX9⟩
theorem fl9_17 : FL RX9 17 9 38 4 := ⟨RX9, TX9, rfl, by decide, inr6 _ (List.mem_of_getElem? (i := 16) rfl), inlX9⟩
theorem fl9_20 : FL RX9 20 9 38 7 := ⟨RX9, TX9, rfl, by decide, inr6 _ (List.mem_of_getElem? (i := 17) rfl), inlX9⟩
theorem fl9_23 : FL RX9 23 9 38 8 := ⟨RX9, TX9, rfl, by decide, inr6 _ (List.mem_of_getElem? (i := 18) rfl), inlX9⟩
theorem fl9_26 : FL RX9 26 9 38 10 := ⟨RX9, TX9, rfl, by decide, inr6 _ (List.mem_of_getElem? (i := 19) rfl), inlX9⟩
theorem fl9_29 : FL RX9 29 9 38 11 := ⟨RX9, TX9, rfl, by decide, inr6 _ (List.mem_of_getElem? (i := 20) rfl), inlX9⟩
theorem fl9_32 : FL RX9 32 9 38 12 := ⟨RX9, TX9, rfl, by decide, inr6 _ (List.mem_of_getElem? (i := 21) rfl), inlX9⟩
theorem fl9_35 : FL RX9 35 9 38 13 := ⟨RX9, TX9, rfl, by decide, inr6 _ (List.mem_of_getElem? (i := 22) rfl), inlX9⟩
theorem fl9_38 : FL RX9 38 9 38 14 := ⟨RX9, TX9, rfl, by decide, inr6 _ (List.mem_of_getElem? (i := 23) rfl), inlX9⟩
theorem fl9_41 : FL RX9 41 9 38 15 := ⟨RX9, TX9, rfl, by decide, inr7 _ (List.mem_of_getElem? (i := 0) rfl), inlX9⟩
theorem fl9_44 : FL RX9 44 9 38 16 := ⟨RX9, TX9, rfl, by decide, inr7 _ (List.mem_of_getElem? (i := 1) rfl), inlX9⟩
theorem fl9_47 : FL RX9 47 9 38 19 := ⟨RX9, TX9, rfl, by decide, inr7 _ (List.mem_of_getElem? (i := 2) rfl), inlX9⟩
theorem fl9_50 : FL RX9 50 9 38 20 := ⟨RX9, TX9, rfl, by decide, inr7 _ (List.mem_of_getElem? (i := 3) rfl), inlX9⟩
theorem fl9_53 : FL RX9 53 9 38 21 := ⟨RX9, TX9, rfl, by decide, inr7 _ (List.mem_of_getElem? (i := 4) rfl), inlX9⟩
theorem fl9_56 : FL RX9 56 9 38 22 := ⟨RX9, TX9, rfl, by decide, inr7 _ (List.mem_of_getElem? (i := 5) rfl), inlX9⟩
theorem fl9_59 : FL RX9 59 9 38 23 := ⟨RX9, TX9, rfl, by decide, inr7 _ (List.mem_of_getElem? (i := 6) rfl), inlX9⟩
theorem fl9_62 : FL RX9 62 9 38 24 := ⟨RX9, TX9, rfl, by decide, inr7 _ (List.mem_of_getElem? (i := 7) rfl), inlX9⟩
theorem fl9_65 : FL RX9 65 9 38 25 := ⟨RX9, TX9, rfl, by decide, inr7 _ (List.mem_of_getElem? (i := 8) rfl), inlX9⟩
theorem fl9_68 : FL RX9 68 9 38 26 := ⟨RX9, TX9, rfl, by decide, inr7 _ (List.mem_of_getElem? (i := 9) rfl), inlX9⟩
theorem fl9_71 : FL RX9 71 9 38 27 := ⟨RX9, TX9, rfl, by decide, inr7 _ (List.mem_of_getElem? (i := 10) rfl), inlX9⟩
theorem fl9_74 : FL RX9 74 9 38 28 := ⟨RX9, TX9, rfl, by decide, inr7 _ (List.mem_of_getElem? (i := 11) rfl), inlX9⟩
theorem fl9_77 : FL RX9 77 9 38 29 := ⟨RX9, TX9, rfl, by decide, inr7 _ (List.mem_of_getElem? (i := 12) rfl), inlX9⟩
theorem fl9_80 : FL RX9 80 9 38 30 := ⟨RX9, TX9, rfl, by decide, inr7 _ (List.mem_of_getElem? (i := 13) rfl), inlX9⟩
theorem fl9_83 : FL RX9 83 9 38 31 := ⟨RX9, TX9, rfl, by decide, inr7 _ (List.mem_of_getElem? (i := 14) rfl), inlX9⟩
theorem fl9_86 : FL RX9 86 9 38 32 := ⟨RX9, TX9, rfl, by decide, inr7 _ (List.mem_of_getElem? (i := 15) rfl), inlX9⟩
theorem fl9_89 : FL RX9 89 9 38 33 := ⟨RX9, TX9, rfl, by decide, inr7 _ (List.mem_of_getElem? (i := 16) rfl), inlX9⟩
theorem fw9_92 : FW RX9 92 9 38 36 .int := ⟨RX9, TX9, tyX9, rfl, by decide, inr7 _ (List.mem_of_getElem? (i := 17) rfl), inlX9, rfl, by decide +kernel, tyX9_ok, nmX9⟩
theorem fl9_92 : FL RX9 92 9 38 36 := fw9_92.fl
theorem fl9_96 : FL RX9 96 9 38 37 := ⟨RX9, TX9, rfl, by decide, inr7 _ (List.mem_of_getElem? (i := 19) rfl), inlX9⟩
theorem fw8_91 : FW RX8 91 5 4 3 .int := ⟨RX5, TX5, tyX5, rfl, by decide, inr8 _ (List.mem_of_getElem? (i := 10) rfl), inlX5, rfl, by decide +kernel, tyX5_ok, nmX5⟩
theorem fl8_91 : FL RX8 91 5 4 3 := fw8_91.fl
theorem sl8_84 : SL RX8 84 yX8_isStep cX8_isStep 3 (some .boolean) 3 := ⟨inr8 _ (List.mem_of_getElem? (i := 11) rfl), inr8 _ (List.mem_of_getElem? (i := 12) rfl), inr1 _ (List.mem_of_getElem? (i := 2) rfl), inr8 _ (List.mem_of_getElem? (i := 13) rfl), ⟨by decide +kernel, by decide +kernel⟩, by decide +kernel⟩
theorem sl8_322 : SL RX8 322 yX8_isPlace cX8_isPlace 1 (some .boolean) 1 := ⟨inr8 _ (List.mem_of_getElem? (i := 14) rfl), inr8 _ (List.mem_of_getElem? (i := 15) rfl), inr1 _ (List.mem_of_getElem? (i := 2) rfl), inr8 _ (List.mem_of_getElem? (i := 16) rfl), ⟨by decide +kernel, by decide +kernel⟩, by decide +kernel⟩
theorem sl8_120 : SL RX8 120 yX8_isWithin cX8_isWithin 3 (some .boolean) 3 := ⟨inr8 _ (List.mem_of_getElem? (i := 17) rfl), inr8 _ (List.mem_of_getElem? (i := 18) rfl), inr1 _ (List.mem_of_getElem? (i := 2) rfl), inr8 _ (List.mem_of_getElem? (i := 19) rfl), ⟨by decide +kernel, by decide +kernel⟩, by decide +kernel⟩
theorem sl8_101 : SL RX8 101 yX8_isNumber cX8_isNumber 1 (some .boolean) 1 := ⟨inr8 _ (List.mem_of_getElem? (i := 20) rfl), inr8 _ (List.mem_of_getElem? (i := 21) rfl), inr1 _ (List.mem_of_getElem? (i := 2) rfl), inr8 _ (List.mem_of_getElem? (i := 22) rfl), ⟨by decide +kernel, by decide +kernel⟩, by decide +kernel⟩
theorem vl8_97 : VL RX8 97 5 yX5_append cX5_append 4 none 3 := ⟨⟨TX5, 4, rfl⟩, inr8 _ (List.mem_of_getElem? (i := 23) rfl), inr9 _ (List.mem_of_getElem? (i := 0) rfl), inr9 _ (List.mem_of_getElem? (i := 1) rfl), inr1 _ (List.mem_of_getElem? (i := 16) rfl), inr9 _ (List.mem_of_getElem? (i := 2) rfl), ⟨by decide +kernel, by decide +kernel⟩, by decide +kernel⟩
theorem fw9_111 : FW RX9 111 9 38 1 .int := ⟨RX9, TX9, tyX9, rfl, by decide, inr9 _ (List.mem_of_getElem? (i := 7) rfl), inlX9, rfl, by decide +kernel, tyX9_ok, nmX9⟩
theorem fl9_111 : FL RX9 111 9 38 1 := fw9_111.fl
theorem sl9_107 : SL RX9 107 yX9_isStep cX9_isStep 3 (some .boolean) 3 := ⟨inr9 _ (List.mem_of_getElem? (i := 8) rfl), inr9 _ (List.mem_of_getElem? (i := 9) rfl), inr1 _ (List.mem_of_getElem? (i := 5) rfl), inr9 _ (List.mem_of_getElem? (i := 10) rfl), ⟨by decide +kernel, by decide +kernel⟩, by decide +kernel⟩
theorem sl9_103 : SL RX9 103 yX9_in cX9_in 3 (some .boolean) 3 := ⟨inr9 _ (List.mem_of_getElem? (i := 11) rfl), inr9 _ (List.mem_of_getElem? (i := 12) rfl), inr1 _ (List.mem_of_getElem? (i := 5) rfl), inr9 _ (List.mem_of_getElem? (i := 13) rfl), ⟨by decide +kernel, by decide +kernel⟩, by decide +kernel⟩
theorem vl9_114 : VL RX9 114 9 yX9_fails cX9_fails 2 (some .boolean) 1 := ⟨⟨TX9, 38, rfl⟩, inr9 _ (List.mem_of_getElem? (i := 14) rfl), inr9 _ (List.mem_of_getElem? (i := 15) rfl), inr9 _ (List.mem_of_getElem? (i := 16) rfl), inr1 _ (List.mem_of_getElem? (i := 5) rfl), inr9 _ (List.mem_of_getElem? (i := 17) rfl), ⟨by decide +kernel, by decide +kernel⟩, by decide +kernel⟩
theorem fw9_100 : FW RX9 100 9 38 0 .int := ⟨RX9, TX9, tyX9, rfl, by decide, inr9 _ (List.mem_of_getElem? (i := 18) rfl), inlX9, rfl, by decide +kernel, tyX9_ok, nmX9⟩
theorem fl9_100 : FL RX9 100 9 38 0 := fw9_100.fl
theorem vl8_105 : VL RX8 105 3 yX3_hasRoom cX3_hasRoom 2 (some .boolean) 1 := ⟨⟨TX3, 4, rfl⟩, inr10 _ (List.mem_of_getElem? (i := 6) rfl), inr10 _ (List.mem_of_getElem? (i := 7) rfl), inr10 _ (List.mem_of_getElem? (i := 8) rfl), inr1 _ (List.mem_of_getElem? (i := 20) rfl), inr10 _ (List.mem_of_getElem? (i := 9) rfl), ⟨by decide +kernel, by decide +kernel⟩, by decide +kernel⟩
theorem vl8_109 : VL RX8 109 3 yX3_append cX3_append 3 (some .int) 2 := ⟨⟨TX3, 4, rfl⟩, inr10 _ (List.mem_of_getElem? (i := 10) rfl), inr10 _ (List.mem_of_getElem? (i := 11) rfl), inr10 _ (List.mem_of_getElem? (i := 12) rfl), inr1 _ (List.mem_of_getElem? (i := 20) rfl), inr10 _ (List.mem_of_getElem? (i := 13) rfl), ⟨by decide +kernel, by decide +kernel⟩, by decide +kernel⟩
theorem vl3_25 : VL RX3 25 3 yX3_hasRoom cX3_hasRoom 2 (some .boolean) 1 := ⟨⟨TX3, 4, rfl⟩, inr10 _ (List.mem_of_getElem? (i := 14) rfl), inr10 _ (List.mem_of_getElem? (i := 7) rfl), inr10 _ (List.mem_of_getElem? (i := 8) rfl), inr1 _ (List.mem_of_getElem? (i := 20) rfl), inr10 _ (List.mem_of_getElem? (i := 9) rfl), ⟨by decide +kernel, by decide +kernel⟩, by decide +kernel⟩
theorem fw9_118 : FW RX9 118 9 38 6 .int := ⟨RX9, TX9, tyX9, rfl, by decide, inr10 _ (List.mem_of_getElem? (i := 19) rfl), inlX9, rfl, by decide +kernel, tyX9_ok, nmX9⟩
theorem fl9_118 : FL RX9 118 9 38 6 := fw9_118.fl
theorem fw9_121 : FW RX9 121 9 38 5 .int := ⟨RX9, TX9, tyX9, rfl, by decide, inr10 _ (List.mem_of_getElem? (i := 20) rfl), inlX9, rfl, by decide +kernel, tyX9_ok, nmX9⟩
theorem fl9_121 : FL RX9 121 9 38 5 := fw9_121.fl
theorem vl8_112 : VL RX8 112 5 yX5_clear cX5_clear 2 (some .int) 0 := ⟨⟨TX5, 4, rfl⟩, inr11 _ (List.mem_of_getElem? (i := 1) rfl), inr11 _ (List.mem_of_getElem? (i := 2) rfl), inr11 _ (List.mem_of_getElem? (i := 3) rfl), inr1 _ (List.mem_of_getElem? (i := 16) rfl), inr11 _ (List.mem_of_getElem? (i := 4) rfl), ⟨by decide +kernel, by decide +kernel⟩, by decide +kernel⟩
theorem vl8_116 : VL RX8 116 3 yX3_clear cX3_clear 2 (some .int) 0 := ⟨⟨TX3, 4, rfl⟩, inr11 _ (List.mem_of_getElem? (i := 5) rfl), inr11 _ (List.mem_of_getElem? (i := 6) rfl), inr11 _ (List.mem_of_getElem? (i := 7) rfl), inr1 _ (List.mem_of_getElem? (i := 20) rfl), inr11 _ (List.mem_of_getElem? (i := 8) rfl), ⟨by decide +kernel, by decide +kernel⟩, by decide +kernel⟩
theorem fw8_124 : FW RX8 124 4 4 1 .int := ⟨RX4, TX4, tyX4, rfl, by decide, inr11 _ (List.mem_of_getElem? (i := 20) rfl), inlX4, rfl, by decide +kernel, tyX4_ok, nmX4⟩
theorem fl8_124 : FL RX8 124 4 4 1 := fw8_124.fl
theorem fw8_127 : FW RX8 127 4 4 2 .int := ⟨RX4, TX4, tyX4, rfl, by decide, inr11 _ (List.mem_of_getElem? (i := 21) rfl), inlX4, rfl, by decide +kernel, tyX4_ok, nmX4⟩
theorem fl8_127 : FL RX8 127 4 4 2 := fw8_127.fl
theorem sl8_117 : SL RX8 117 yX8_isColour cX8_isColour 1 (some .boolean) 1 := ⟨inr11 _ (List.mem_of_getElem? (i := 22) rfl), inr11 _ (List.mem_of_getElem? (i := 23) rfl), inr1 _ (List.mem_of_getElem? (i := 2) rfl), inr12 _ (List.mem_of_getElem? (i := 0) rfl), ⟨by decide +kernel, by decide +kernel⟩, by decide +kernel⟩
theorem fw9_124 : FW RX9 124 9 38 9 .int := ⟨RX9, TX9, tyX9, rfl, by decide, inr12 _ (List.mem_of_getElem? (i := 5) rfl), inlX9, rfl, by decide +kernel, tyX9_ok, nmX9⟩
theorem fl9_124 : FL RX9 124 9 38 9 := fw9_124.fl
theorem fw8_136 : FW RX8 136 4 4 3 .int := ⟨RX4, TX4, tyX4, rfl, by decide, inr12 _ (List.mem_of_getElem? (i := 16) rfl), inlX4, rfl, by decide +kernel, tyX4_ok, nmX4⟩
theorem fl8_136 : FL RX8 136 4 4 3 := fw8_136.fl
theorem fl8_139 : FL RX8 139 4 4 0 := ⟨RX4, TX4, rfl, by decide, inr12 _ (List.mem_of_getElem? (i := 17) rfl), inlX4⟩
theorem vl8_130 : VL RX8 130 8 yX8_hasProblem cX8_hasProblem 2 (some .boolean) 1 := ⟨⟨TX8, 14, rfl⟩, inr12 _ (List.mem_of_getElem? (i := 18) rfl), inr12 _ (List.mem_of_getElem? (i := 19) rfl), inr12 _ (List.mem_of_getElem? (i := 20) rfl), inr1 _ (List.mem_of_getElem? (i := 2) rfl), inr12 _ (List.mem_of_getElem? (i := 21) rfl), ⟨by decide +kernel, by decide +kernel⟩, by decide +kernel⟩
theorem vl8_143 : VL RX8 143 3 yX3_copyFrom cX3_copyFrom 3 none 1 := ⟨⟨TX3, 4, rfl⟩, inr12 _ (List.mem_of_getElem? (i := 22) rfl), inr12 _ (List.mem_of_getElem? (i := 23) rfl), inr13 _ (List.mem_of_getElem? (i := 0) rfl), inr1 _ (List.mem_of_getElem? (i := 20) rfl), inr13 _ (List.mem_of_getElem? (i := 1) rfl), ⟨by decide +kernel, by decide +kernel⟩, by decide +kernel⟩
theorem vl3_29 : VL RX3 29 3 yX3_clear cX3_clear 2 (some .int) 0 := ⟨⟨TX3, 4, rfl⟩, inr13 _ (List.mem_of_getElem? (i := 2) rfl), inr11 _ (List.mem_of_getElem? (i := 6) rfl), inr11 _ (List.mem_of_getElem? (i := 7) rfl), inr1 _ (List.mem_of_getElem? (i := 20) rfl), inr11 _ (List.mem_of_getElem? (i := 8) rfl), ⟨by decide +kernel, by decide +kernel⟩, by decide +kernel⟩
theorem vl3_33 : VL RX3 33 3 yX3_append cX3_append 3 (some .int) 2 := ⟨⟨TX3, 4, rfl⟩, inr13 _ (List.mem_of_getElem? (i := 3) rfl), inr10 _ (List.mem_of_getElem? (i := 11) rfl), inr10 _ (List.mem_of_getElem? (i := 12) rfl), inr1 _ (List.mem_of_getElem? (i := 20) rfl), inr10 _ (List.mem_of_getElem? (i := 13) rfl), ⟨by decide +kernel, by decide +kernel⟩, by decide +kernel⟩
theorem vl8_147 : VL RX8 147 8 yX8_judgeAnew cX8_judgeAnew 6 (some .int) 2 := ⟨⟨TX8, 14, rfl⟩, inr13 _ (List.mem_of_getElem? (i := 4) rfl), inr13 _ (List.mem_of_getElem? (i := 5) rfl), inr13 _ (List.mem_of_getElem? (i := 6) rfl), inr1 _ (List.mem_of_getElem? (i := 2) rfl), inr13 _ (List.mem_of_getElem? (i := 7) rfl), ⟨by decide +kernel, by decide +kernel⟩, by decide +kernel⟩
theorem fw8_166 : FW RX8 166 6 10 5 .int := ⟨RX6, TX6, tyX6, rfl, by decide, inr13 _ (List.mem_of_getElem? (i := 8) rfl), inlX6, rfl, by decide +kernel, tyX6_ok, nmX6⟩
theorem fl8_166 : FL RX8 166 6 10 5 := fw8_166.fl
theorem fw8_193 : FW RX8 193 6 10 8 .char := ⟨RX6, TX6, tyX6, rfl, by decide, inr13 _ (List.mem_of_getElem? (i := 9) rfl), inlX6, rfl, by decide +kernel, tyX6_ok, nmX6⟩
theorem fl8_193 : FL RX8 193 6 10 8 := fw8_193.fl
theorem vl8_329 : VL RX8 329 8 yX8_judge cX8_judge 4 none 2 := ⟨⟨TX8, 14, rfl⟩, inr13 _ (List.mem_of_getElem? (i := 10) rfl), inr13 _ (List.mem_of_getElem? (i := 11) rfl), inr13 _ (List.mem_of_getElem? (i := 12) rfl), inr1 _ (List.mem_of_getElem? (i := 2) rfl), inr13 _ (List.mem_of_getElem? (i := 13) rfl), ⟨by decide +kernel, by decide +kernel⟩, by decide +kernel⟩
theorem fl8_176 : FL RX8 176 6 10 0 := ⟨RX6, TX6, rfl, by decide, inr13 _ (List.mem_of_getElem? (i := 14) rfl), inlX6⟩
theorem fl8_215 : FL RX8 215 6 10 3 := ⟨RX6, TX6, rfl, by decide, inr13 _ (List.mem_of_getElem? (i := 15) rfl), inlX6⟩
theorem fl8_343 : FL RX8 343 2 7 1 := ⟨RX2, TX2, rfl, by decide, inr13 _ (List.mem_of_getElem? (i := 16) rfl), inlX2⟩
theorem fw8_346 : FW RX8 346 2 7 2 .int := ⟨RX2, TX2, tyX2, rfl, by decide, inr13 _ (List.mem_of_getElem? (i := 17) rfl), inlX2, rfl, by decide +kernel, tyX2_ok, nmX2⟩
theorem fl8_346 : FL RX8 346 2 7 2 := fw8_346.fl
theorem fl8_204 : FL RX8 204 6 10 1 := ⟨RX6, TX6, rfl, by decide, inr13 _ (List.mem_of_getElem? (i := 18) rfl), inlX6⟩
theorem fw8_353 : FW RX8 353 2 7 6 .char := ⟨RX2, TX2, tyX2, rfl, by decide, inr13 _ (List.mem_of_getElem? (i := 19) rfl), inlX2, rfl, by decide +kernel, tyX2_ok, nmX2⟩
theorem fl8_353 : FL RX8 353 2 7 6 := fw8_353.fl
theorem fl8_208 : FL RX8 208 6 10 2 := ⟨RX6, TX6, rfl, by decide, inr13 _ (List.mem_of_getElem? (i := 20) rfl), inlX6⟩
theorem fw8_356 : FW RX8 356 2 7 5 .int := ⟨RX2, TX2, tyX2, rfl, by decide, inr13 _ (List.mem_of_getElem? (i := 21) rfl), inlX2, rfl, by decide +kernel, tyX2_ok, nmX2⟩
theorem fl8_356 : FL RX8 356 2 7 5 := fw8_356.fl
theorem vl8_336 : VL RX8 336 2 yX2_execute cX2_execute 5 none 3 := ⟨⟨TX2, 7, rfl⟩, inr13 _ (List.mem_of_getElem? (i := 22) rfl), inr13 _ (List.mem_of_getElem? (i := 23) rfl), inr14 _ (List.mem_of_getElem? (i := 0) rfl), inr2 _ (List.mem_of_getElem? (i := 4) rfl), inr14 _ (List.mem_of_getElem? (i := 1) rfl), ⟨by decide +kernel, by decide +kernel⟩, by decide +kernel⟩
theorem fw2_38 : FW RX2 38 5 4 3 .int := ⟨RX5, TX5, tyX5, rfl, by decide, inr14 _ (List.mem_of_getElem? (i := 2) rfl), inlX5, rfl, by decide +kernel, tyX5_ok, nmX5⟩
theorem fl2_38 : FL RX2 38 5 4 3 := fw2_38.fl
theorem vl2_35 : VL RX2 35 2 yX2_reset cX2_reset 2 none 0 := ⟨⟨TX2, 7, rfl⟩, inr14 _ (List.mem_of_getElem? (i := 3) rfl), inr14 _ (List.mem_of_getElem? (i := 4) rfl), inr14 _ (List.mem_of_getElem? (i := 5) rfl), inr2 _ (List.mem_of_getElem? (i := 4) rfl), inr14 _ (List.mem_of_getElem? (i := 6) rfl), ⟨by decide +kernel, by decide +kernel⟩, by decide +kernel⟩
theorem vl2_43 : VL RX2 43 2 yX2_doNextStep cX2_doNextStep 6 none 2 := ⟨⟨TX2, 7, rfl⟩, inr14 _ (List.mem_of_getElem? (i := 7) rfl), inr14 _ (List.mem_of_getElem? (i := 8) rfl), inr14 _ (List.mem_of_getElem? (i := 9) rfl), inr2 _ (List.mem_of_getElem? (i := 4) rfl), inr14 _ (List.mem_of_getElem? (i := 10) rfl), ⟨by decide +kernel, by decide +kernel⟩, by decide +kernel⟩
theorem fl2_53 : FL RX2 53 5 4 0 := ⟨RX5, TX5, rfl, by decide, inr14 _ (List.mem_of_getElem? (i := 11) rfl), inlX5⟩
theorem fl2_57 : FL RX2 57 5 4 1 := ⟨RX5, TX5, rfl, by decide, inr14 _ (List.mem_of_getElem? (i := 12) rfl), inlX5⟩
theorem fl2_60 : FL RX2 60 5 4 2 := ⟨RX5, TX5, rfl, by decide, inr14 _ (List.mem_of_getElem? (i := 13) rfl), inlX5⟩
theorem vl2_63 : VL RX2 63 2 yX2_takeInput cX2_takeInput 3 none 2 := ⟨⟨TX2, 7, rfl⟩, inr14 _ (List.mem_of_getElem? (i := 14) rfl), inr14 _ (List.mem_of_getElem? (i := 15) rfl), inr14 _ (List.mem_of_getElem? (i := 16) rfl), inr2 _ (List.mem_of_getElem? (i := 4) rfl), inr14 _ (List.mem_of_getElem? (i := 17) rfl), ⟨by decide +kernel, by decide +kernel⟩, by decide +kernel⟩
theorem fw2_79 : FW RX2 79 3 4 2 .int := ⟨RX3, TX3, tyX3, rfl, by decide, inr14 _ (List.mem_of_getElem? (i := 18) rfl), inlX3, rfl, by decide +kernel, tyX3_ok, nmX3⟩
theorem fl2_79 : FL RX2 79 3 4 2 := fw2_79.fl
theorem fl2_82 : FL RX2 82 3 4 0 := ⟨RX3, TX3, rfl, by decide, inr14 _ (List.mem_of_getElem? (i := 19) rfl), inlX3⟩
theorem vl2_67 : VL RX2 67 2 yX2_putOut cX2_putOut 2 none 1 := ⟨⟨TX2, 7, rfl⟩, inr14 _ (List.mem_of_getElem? (i := 20) rfl), inr14 _ (List.mem_of_getElem? (i := 21) rfl), inr14 _ (List.mem_of_getElem? (i := 22) rfl), inr2 _ (List.mem_of_getElem? (i := 4) rfl), inr14 _ (List.mem_of_getElem? (i := 23) rfl), ⟨by decide +kernel, by decide +kernel⟩, by decide +kernel⟩
theorem vl2_71 : VL RX2 71 2 yX2_divide cX2_divide 3 none 2 := ⟨⟨TX2, 7, rfl⟩, inr15 _ (List.mem_of_getElem? (i := 0) rfl), inr15 _ (List.mem_of_getElem? (i := 1) rfl), inr15 _ (List.mem_of_getElem? (i := 2) rfl), inr2 _ (List.mem_of_getElem? (i := 4) rfl), inr15 _ (List.mem_of_getElem? (i := 3) rfl), ⟨by decide +kernel, by decide +kernel⟩, by decide +kernel⟩
theorem vl2_75 : VL RX2 75 2 yX2_goIf cX2_goIf 4 none 3 := ⟨⟨TX2, 7, rfl⟩, inr15 _ (List.mem_of_getElem? (i := 4) rfl), inr15 _ (List.mem_of_getElem? (i := 5) rfl), inr15 _ (List.mem_of_getElem? (i := 6) rfl), inr2 _ (List.mem_of_getElem? (i := 4) rfl), inr15 _ (List.mem_of_getElem? (i := 7) rfl), ⟨by decide +kernel, by decide +kernel⟩, by decide +kernel⟩
theorem vl2_47 : VL RX2 47 3 yX3_isExpected cX3_isExpected 4 (some .boolean) 2 := ⟨⟨TX3, 4, rfl⟩, inr15 _ (List.mem_of_getElem? (i := 8) rfl), inr15 _ (List.mem_of_getElem? (i := 9) rfl), inr15 _ (List.mem_of_getElem? (i := 10) rfl), inr1 _ (List.mem_of_getElem? (i := 20) rfl), inr15 _ (List.mem_of_getElem? (i := 11) rfl), ⟨by decide +kernel, by decide +kernel⟩, by decide +kernel⟩
theorem vl8_340 : VL RX8 340 7 yX7_release cX7_release 2 none 1 := ⟨⟨TX7, 4, rfl⟩, inr15 _ (List.mem_of_getElem? (i := 12) rfl), inr15 _ (List.mem_of_getElem? (i := 13) rfl), inr15 _ (List.mem_of_getElem? (i := 14) rfl), inr2 _ (List.mem_of_getElem? (i := 8) rfl), inr15 _ (List.mem_of_getElem? (i := 15) rfl), ⟨by decide +kernel, by decide +kernel⟩, by decide +kernel⟩
theorem vl8_349 : VL RX8 349 7 yX7_keep cX7_keep 4 (some .int) 2 := ⟨⟨TX7, 4, rfl⟩, inr15 _ (List.mem_of_getElem? (i := 16) rfl), inr15 _ (List.mem_of_getElem? (i := 17) rfl), inr15 _ (List.mem_of_getElem? (i := 18) rfl), inr2 _ (List.mem_of_getElem? (i := 8) rfl), inr15 _ (List.mem_of_getElem? (i := 19) rfl), ⟨by decide +kernel, by decide +kernel⟩, by decide +kernel⟩
theorem vl7_25 : VL RX7 25 7 yX7_find cX7_find 4 (some .int) 2 := ⟨⟨TX7, 4, rfl⟩, inr15 _ (List.mem_of_getElem? (i := 20) rfl), inr15 _ (List.mem_of_getElem? (i := 21) rfl), inr15 _ (List.mem_of_getElem? (i := 22) rfl), inr2 _ (List.mem_of_getElem? (i := 8) rfl), inr15 _ (List.mem_of_getElem? (i := 23) rfl), ⟨by decide +kernel, by decide +kernel⟩, by decide +kernel⟩
theorem vl7_43 : VL RX7 43 7 yX7_isAlike cX7_isAlike 5 (some .boolean) 3 := ⟨⟨TX7, 4, rfl⟩, inr16 _ (List.mem_of_getElem? (i := 0) rfl), inr16 _ (List.mem_of_getElem? (i := 1) rfl), inr16 _ (List.mem_of_getElem? (i := 2) rfl), inr2 _ (List.mem_of_getElem? (i := 8) rfl), inr16 _ (List.mem_of_getElem? (i := 3) rfl), ⟨by decide +kernel, by decide +kernel⟩, by decide +kernel⟩
theorem vl7_37 : VL RX7 37 7 yX7_numberAt cX7_numberAt 3 (some .int) 2 := ⟨⟨TX7, 4, rfl⟩, inr16 _ (List.mem_of_getElem? (i := 4) rfl), inr16 _ (List.mem_of_getElem? (i := 5) rfl), inr16 _ (List.mem_of_getElem? (i := 6) rfl), inr2 _ (List.mem_of_getElem? (i := 8) rfl), inr16 _ (List.mem_of_getElem? (i := 7) rfl), ⟨by decide +kernel, by decide +kernel⟩, by decide +kernel⟩
theorem vl7_29 : VL RX7 29 7 yX7_firstFree cX7_firstFree 2 (some .int) 0 := ⟨⟨TX7, 4, rfl⟩, inr16 _ (List.mem_of_getElem? (i := 8) rfl), inr16 _ (List.mem_of_getElem? (i := 9) rfl), inr16 _ (List.mem_of_getElem? (i := 10) rfl), inr2 _ (List.mem_of_getElem? (i := 8) rfl), inr16 _ (List.mem_of_getElem? (i := 11) rfl), ⟨by decide +kernel, by decide +kernel⟩, by decide +kernel⟩
theorem vl7_33 : VL RX7 33 7 yX7_fill cX7_fill 5 none 3 := ⟨⟨TX7, 4, rfl⟩, inr16 _ (List.mem_of_getElem? (i := 12) rfl), inr16 _ (List.mem_of_getElem? (i := 13) rfl), inr16 _ (List.mem_of_getElem? (i := 14) rfl), inr2 _ (List.mem_of_getElem? (i := 8) rfl), inr16 _ (List.mem_of_getElem? (i := 15) rfl), ⟨by decide +kernel, by decide +kernel⟩, by decide +kernel⟩
theorem vl8_333 : VL RX8 333 6 yX6_conclude cX6_conclude 3 none 1 := ⟨⟨TX6, 10, rfl⟩, inr16 _ (List.mem_of_getElem? (i := 16) rfl), inr16 _ (List.mem_of_getElem? (i := 17) rfl), inr16 _ (List.mem_of_getElem? (i := 18) rfl), inr3 _ (List.mem_of_getElem? (i := 3) rfl), inr16 _ (List.mem_of_getElem? (i := 19) rfl), ⟨by decide +kernel, by decide +kernel⟩, by decide +kernel⟩
theorem vl8_154 : VL RX8 154 8 yX8_recountBoards cX8_recountBoards 1 none 0 := ⟨⟨TX8, 14, rfl⟩, inr16 _ (List.mem_of_getElem? (i := 20) rfl), inr16 _ (List.mem_of_getElem? (i := 21) rfl), inr16 _ (List.mem_of_getElem? (i := 22) rfl), inr1 _ (List.mem_of_getElem? (i := 2) rfl), inr16 _ (List.mem_of_getElem? (i := 23) rfl), ⟨by decide +kernel, by decide +kernel⟩, by decide +kernel⟩
theorem vl8_325 : VL RX8 325 1 yX1_recount cX1_recount 6 none 4 := ⟨⟨TX1, 7, rfl⟩, inr17 _ (List.mem_of_getElem? (i := 0) rfl), inr17 _ (List.mem_of_getElem? (i := 1) rfl), inr17 _ (List.mem_of_getElem? (i := 2) rfl), inr2 _ (List.mem_of_getElem? (i := 16) rfl), inr17 _ (List.mem_of_getElem? (i := 3) rfl), ⟨by decide +kernel, by decide +kernel⟩, by decide +kernel⟩
theorem fw1_37 : FW RX1 37 6 10 7 .boolean := ⟨RX6, TX6, tyX6, rfl, by decide, inr17 _ (List.mem_of_getElem? (i := 4) rfl), inlX6, rfl, by decide +kernel, tyX6_ok, nmX6⟩
theorem fl1_37 : FL RX1 37 6 10 7 := fw1_37.fl
theorem vl1_34 : VL RX1 34 1 yX1_clear cX1_clear 2 none 0 := ⟨⟨TX1, 7, rfl⟩, inr17 _ (List.mem_of_getElem? (i := 5) rfl), inr17 _ (List.mem_of_getElem? (i := 6) rfl), inr17 _ (List.mem_of_getElem? (i := 7) rfl), inr2 _ (List.mem_of_getElem? (i := 16) rfl), inr17 _ (List.mem_of_getElem? (i := 8) rfl), ⟨by decide +kernel, by decide +kernel⟩, by decide +kernel⟩
theorem vl1_43 : VL RX1 43 1 yX1_count cX1_count 3 none 1 := ⟨⟨TX1, 7, rfl⟩, inr17 _ (List.mem_of_getElem? (i := 9) rfl), inr17 _ (List.mem_of_getElem? (i := 10) rfl), inr17 _ (List.mem_of_getElem? (i := 11) rfl), inr2 _ (List.mem_of_getElem? (i := 16) rfl), inr17 _ (List.mem_of_getElem? (i := 12) rfl), ⟨by decide +kernel, by decide +kernel⟩, by decide +kernel⟩
theorem fw1_50 : FW RX1 50 6 10 4 .int := ⟨RX6, TX6, tyX6, rfl, by decide, inr17 _ (List.mem_of_getElem? (i := 13) rfl), inlX6, rfl, by decide +kernel, tyX6_ok, nmX6⟩
theorem fl1_50 : FL RX1 50 6 10 4 := fw1_50.fl
theorem fw1_53 : FW RX1 53 6 10 5 .int := ⟨RX6, TX6, tyX6, rfl, by decide, inr17 _ (List.mem_of_getElem? (i := 14) rfl), inlX6, rfl, by decide +kernel, tyX6_ok, nmX6⟩
theorem fl1_53 : FL RX1 53 6 10 5 := fw1_53.fl
theorem fw1_64 : FW RX1 64 6 10 8 .char := ⟨RX6, TX6, tyX6, rfl, by decide, inr17 _ (List.mem_of_getElem? (i := 15) rfl), inlX6, rfl, by decide +kernel, tyX6_ok, nmX6⟩
theorem fl1_64 : FL RX1 64 6 10 8 := fw1_64.fl
theorem fw1_68 : FW RX1 68 6 10 6 .int := ⟨RX6, TX6, tyX6, rfl, by decide, inr17 _ (List.mem_of_getElem? (i := 16) rfl), inlX6, rfl, by decide +kernel, tyX6_ok, nmX6⟩
theorem fl1_68 : FL RX1 68 6 10 6 := fw1_68.fl
theorem vl1_60 : VL RX1 60 1 yX1_hasSolved cX1_hasSolved 2 (some .boolean) 1 := ⟨⟨TX1, 7, rfl⟩, inr17 _ (List.mem_of_getElem? (i := 23) rfl), inr18 _ (List.mem_of_getElem? (i := 0) rfl), inr18 _ (List.mem_of_getElem? (i := 1) rfl), inr2 _ (List.mem_of_getElem? (i := 16) rfl), inr18 _ (List.mem_of_getElem? (i := 2) rfl), ⟨by decide +kernel, by decide +kernel⟩, by decide +kernel⟩
theorem vl1_47 : VL RX1 47 1 yX1_putInOrder cX1_putInOrder 3 none 0 := ⟨⟨TX1, 7, rfl⟩, inr18 _ (List.mem_of_getElem? (i := 3) rfl), inr18 _ (List.mem_of_getElem? (i := 4) rfl), inr18 _ (List.mem_of_getElem? (i := 5) rfl), inr2 _ (List.mem_of_getElem? (i := 16) rfl), inr18 _ (List.mem_of_getElem? (i := 6) rfl), ⟨by decide +kernel, by decide +kernel⟩, by decide +kernel⟩
theorem vl1_76 : VL RX1 76 1 yX1_isAhead cX1_isAhead 3 (some .boolean) 2 := ⟨⟨TX1, 7, rfl⟩, inr18 _ (List.mem_of_getElem? (i := 7) rfl), inr18 _ (List.mem_of_getElem? (i := 8) rfl), inr18 _ (List.mem_of_getElem? (i := 9) rfl), inr2 _ (List.mem_of_getElem? (i := 16) rfl), inr18 _ (List.mem_of_getElem? (i := 10) rfl), ⟨by decide +kernel, by decide +kernel⟩, by decide +kernel⟩
theorem vl8_186 : VL RX8 186 0 yX0_follow cX0_follow 6 none 3 := ⟨⟨TX0, 6, rfl⟩, inr18 _ (List.mem_of_getElem? (i := 11) rfl), inr18 _ (List.mem_of_getElem? (i := 12) rfl), inr18 _ (List.mem_of_getElem? (i := 13) rfl), inr2 _ (List.mem_of_getElem? (i := 12) rfl), inr18 _ (List.mem_of_getElem? (i := 14) rfl), ⟨by decide +kernel, by decide +kernel⟩, by decide +kernel⟩
theorem fw0_34 : FW RX0 34 1 7 6 .int := ⟨RX1, TX1, tyX1, rfl, by decide, inr18 _ (List.mem_of_getElem? (i := 15) rfl), inlX1, rfl, by decide +kernel, tyX1_ok, nmX1⟩
theorem fl0_34 : FL RX0 34 1 7 6 := fw0_34.fl
theorem vl0_43 : VL RX0 43 1 yX1_hasSolved cX1_hasSolved 2 (some .boolean) 1 := ⟨⟨TX1, 7, rfl⟩, inr18 _ (List.mem_of_getElem? (i := 16) rfl), inr18 _ (List.mem_of_getElem? (i := 0) rfl), inr18 _ (List.mem_of_getElem? (i := 1) rfl), inr2 _ (List.mem_of_getElem? (i := 16) rfl), inr18 _ (List.mem_of_getElem? (i := 2) rfl), ⟨by decide +kernel, by decide +kernel⟩, by decide +kernel⟩
theorem vl0_47 : VL RX0 47 0 yX0_takeAway cX0_takeAway 3 none 2 := ⟨⟨TX0, 6, rfl⟩, inr18 _ (List.mem_of_getElem? (i := 17) rfl), inr18 _ (List.mem_of_getElem? (i := 18) rfl), inr18 _ (List.mem_of_getElem? (i := 19) rfl), inr2 _ (List.mem_of_getElem? (i := 12) rfl), inr18 _ (List.mem_of_getElem? (i := 20) rfl), ⟨by decide +kernel, by decide +kernel⟩, by decide +kernel⟩
theorem vl0_62 : VL RX0 62 0 yX0_leaveQueue cX0_leaveQueue 4 none 2 := ⟨⟨TX0, 6, rfl⟩, inr18 _ (List.mem_of_getElem? (i := 21) rfl), inr18 _ (List.mem_of_getElem? (i := 22) rfl), inr18 _ (List.mem_of_getElem? (i := 23) rfl), inr2 _ (List.mem_of_getElem? (i := 12) rfl), inr19 _ (List.mem_of_getElem? (i := 0) rfl), ⟨by decide +kernel, by decide +kernel⟩, by decide +kernel⟩
theorem vl0_58 : VL RX0 58 0 yX0_dropFromQueue cX0_dropFromQueue 6 none 3 := ⟨⟨TX0, 6, rfl⟩, inr19 _ (List.mem_of_getElem? (i := 1) rfl), inr19 _ (List.mem_of_getElem? (i := 2) rfl), inr19 _ (List.mem_of_getElem? (i := 3) rfl), inr2 _ (List.mem_of_getElem? (i := 12) rfl), inr19 _ (List.mem_of_getElem? (i := 4) rfl), ⟨by decide +kernel, by decide +kernel⟩, by decide +kernel⟩
theorem vl0_51 : VL RX0 51 0 yX0_serve cX0_serve 3 none 1 := ⟨⟨TX0, 6, rfl⟩, inr19 _ (List.mem_of_getElem? (i := 5) rfl), inr19 _ (List.mem_of_getElem? (i := 6) rfl), inr19 _ (List.mem_of_getElem? (i := 7) rfl), inr2 _ (List.mem_of_getElem? (i := 12) rfl), inr19 _ (List.mem_of_getElem? (i := 8) rfl), ⟨by decide +kernel, by decide +kernel⟩, by decide +kernel⟩
theorem vl0_55 : VL RX0 55 0 yX0_enqueue cX0_enqueue 3 none 2 := ⟨⟨TX0, 6, rfl⟩, inr19 _ (List.mem_of_getElem? (i := 9) rfl), inr19 _ (List.mem_of_getElem? (i := 10) rfl), inr19 _ (List.mem_of_getElem? (i := 11) rfl), inr2 _ (List.mem_of_getElem? (i := 12) rfl), inr19 _ (List.mem_of_getElem? (i := 12) rfl), ⟨by decide +kernel, by decide +kernel⟩, by decide +kernel⟩
theorem vl9_133 : VL RX9 133 9 yX9_isNoProblem cX9_isNoProblem 2 (some .boolean) 1 := ⟨⟨TX9, 38, rfl⟩, inr19 _ (List.mem_of_getElem? (i := 17) rfl), inr19 _ (List.mem_of_getElem? (i := 18) rfl), inr19 _ (List.mem_of_getElem? (i := 19) rfl), inr1 _ (List.mem_of_getElem? (i := 5) rfl), inr19 _ (List.mem_of_getElem? (i := 20) rfl), ⟨by decide +kernel, by decide +kernel⟩, by decide +kernel⟩
theorem vl9_136 : VL RX9 136 9 yX9_lays cX9_lays 4 none 2 := ⟨⟨TX9, 38, rfl⟩, inr19 _ (List.mem_of_getElem? (i := 21) rfl), inr19 _ (List.mem_of_getElem? (i := 22) rfl), inr19 _ (List.mem_of_getElem? (i := 23) rfl), inr1 _ (List.mem_of_getElem? (i := 5) rfl), inr20 _ (List.mem_of_getElem? (i := 0) rfl), ⟨by decide +kernel, by decide +kernel⟩, by decide +kernel⟩
theorem vl9_140 : VL RX9 140 9 yX9_judgesAnew cX9_judgesAnew 8 (some .int) 3 := ⟨⟨TX9, 38, rfl⟩, inr20 _ (List.mem_of_getElem? (i := 1) rfl), inr20 _ (List.mem_of_getElem? (i := 2) rfl), inr20 _ (List.mem_of_getElem? (i := 3) rfl), inr1 _ (List.mem_of_getElem? (i := 5) rfl), inr20 _ (List.mem_of_getElem? (i := 4) rfl), ⟨by decide +kernel, by decide +kernel⟩, by decide +kernel⟩
theorem fw9_130 : FW RX9 130 9 38 18 .int := ⟨RX9, TX9, tyX9, rfl, by decide, inr20 _ (List.mem_of_getElem? (i := 5) rfl), inlX9, rfl, by decide +kernel, tyX9_ok, nmX9⟩
theorem fl9_130 : FL RX9 130 9 38 18 := fw9_130.fl
theorem vl9_160 : VL RX9 160 9 yX9_verdictOf cX9_verdictOf 3 (some .char) 1 := ⟨⟨TX9, 38, rfl⟩, inr20 _ (List.mem_of_getElem? (i := 6) rfl), inr20 _ (List.mem_of_getElem? (i := 7) rfl), inr20 _ (List.mem_of_getElem? (i := 8) rfl), inr1 _ (List.mem_of_getElem? (i := 5) rfl), inr20 _ (List.mem_of_getElem? (i := 9) rfl), ⟨by decide +kernel, by decide +kernel⟩, by decide +kernel⟩
theorem vl9_156 : VL RX9 156 9 yX9_failedOf cX9_failedOf 3 (some .int) 1 := ⟨⟨TX9, 38, rfl⟩, inr20 _ (List.mem_of_getElem? (i := 10) rfl), inr20 _ (List.mem_of_getElem? (i := 11) rfl), inr20 _ (List.mem_of_getElem? (i := 12) rfl), inr1 _ (List.mem_of_getElem? (i := 5) rfl), inr20 _ (List.mem_of_getElem? (i := 13) rfl), ⟨by decide +kernel, by decide +kernel⟩, by decide +kernel⟩
theorem vl9_164 : VL RX9 164 9 yX9_judges cX9_judges 11 none 2 := ⟨⟨TX9, 38, rfl⟩, inr20 _ (List.mem_of_getElem? (i := 14) rfl), inr20 _ (List.mem_of_getElem? (i := 15) rfl), inr20 _ (List.mem_of_getElem? (i := 16) rfl), inr1 _ (List.mem_of_getElem? (i := 5) rfl), inr20 _ (List.mem_of_getElem? (i := 17) rfl), ⟨by decide +kernel, by decide +kernel⟩, by decide +kernel⟩
theorem vl9_144 : VL RX9 144 9 yX9_isExpected cX9_isExpected 6 (some .boolean) 2 := ⟨⟨TX9, 38, rfl⟩, inr20 _ (List.mem_of_getElem? (i := 18) rfl), inr20 _ (List.mem_of_getElem? (i := 19) rfl), inr20 _ (List.mem_of_getElem? (i := 20) rfl), inr1 _ (List.mem_of_getElem? (i := 5) rfl), inr20 _ (List.mem_of_getElem? (i := 21) rfl), ⟨by decide +kernel, by decide +kernel⟩, by decide +kernel⟩
theorem vl9_148 : VL RX9 148 9 yX9_tells cX9_tells 4 (some .char) 3 := ⟨⟨TX9, 38, rfl⟩, inr20 _ (List.mem_of_getElem? (i := 22) rfl), inr20 _ (List.mem_of_getElem? (i := 23) rfl), inr21 _ (List.mem_of_getElem? (i := 0) rfl), inr1 _ (List.mem_of_getElem? (i := 5) rfl), inr21 _ (List.mem_of_getElem? (i := 1) rfl), ⟨by decide +kernel, by decide +kernel⟩, by decide +kernel⟩
theorem vl9_152 : VL RX9 152 9 yX9_reckons cX9_reckons 4 (some .char) 3 := ⟨⟨TX9, 38, rfl⟩, inr21 _ (List.mem_of_getElem? (i := 2) rfl), inr21 _ (List.mem_of_getElem? (i := 3) rfl), inr21 _ (List.mem_of_getElem? (i := 4) rfl), inr1 _ (List.mem_of_getElem? (i := 5) rfl), inr21 _ (List.mem_of_getElem? (i := 5) rfl), ⟨by decide +kernel, by decide +kernel⟩, by decide +kernel⟩
theorem vl9_167 : VL RX9 167 9 yX9_calls cX9_calls 3 none 1 := ⟨⟨TX9, 38, rfl⟩, inr21 _ (List.mem_of_getElem? (i := 6) rfl), inr21 _ (List.mem_of_getElem? (i := 7) rfl), inr21 _ (List.mem_of_getElem? (i := 8) rfl), inr1 _ (List.mem_of_getElem? (i := 5) rfl), inr21 _ (List.mem_of_getElem? (i := 9) rfl), ⟨by decide +kernel, by decide +kernel⟩, by decide +kernel⟩
theorem fw9_127 : FW RX9 127 9 38 17 .int := ⟨RX9, TX9, tyX9, rfl, by decide, inr21 _ (List.mem_of_getElem? (i := 10) rfl), inlX9, rfl, by decide +kernel, tyX9_ok, nmX9⟩
theorem fl9_127 : FL RX9 127 9 38 17 := fw9_127.fl
theorem fw9_174 : FW RX9 174 9 38 35 .int := ⟨RX9, TX9, tyX9, rfl, by decide, inr21 _ (List.mem_of_getElem? (i := 11) rfl), inlX9, rfl, by decide +kernel, tyX9_ok, nmX9⟩
theorem fl9_174 : FL RX9 174 9 38 35 := fw9_174.fl
theorem vl9_171 : VL RX9 171 9 yX9_hasSolved cX9_hasSolved 5 (some .boolean) 2 := ⟨⟨TX9, 38, rfl⟩, inr21 _ (List.mem_of_getElem? (i := 12) rfl), inr21 _ (List.mem_of_getElem? (i := 13) rfl), inr21 _ (List.mem_of_getElem? (i := 14) rfl), inr1 _ (List.mem_of_getElem? (i := 5) rfl), inr21 _ (List.mem_of_getElem? (i := 15) rfl), ⟨by decide +kernel, by decide +kernel⟩, by decide +kernel⟩
theorem vl9_177 : VL RX9 177 9 yX9_gives cX9_gives 3 none 1 := ⟨⟨TX9, 38, rfl⟩, inr21 _ (List.mem_of_getElem? (i := 16) rfl), inr21 _ (List.mem_of_getElem? (i := 17) rfl), inr21 _ (List.mem_of_getElem? (i := 18) rfl), inr1 _ (List.mem_of_getElem? (i := 5) rfl), inr21 _ (List.mem_of_getElem? (i := 19) rfl), ⟨by decide +kernel, by decide +kernel⟩, by decide +kernel⟩
theorem vl9_186 : VL RX9 186 9 yX9_waitingAt cX9_waitingAt 9 (some .int) 2 := ⟨⟨TX9, 38, rfl⟩, inr21 _ (List.mem_of_getElem? (i := 20) rfl), inr21 _ (List.mem_of_getElem? (i := 21) rfl), inr21 _ (List.mem_of_getElem? (i := 22) rfl), inr1 _ (List.mem_of_getElem? (i := 5) rfl), inr21 _ (List.mem_of_getElem? (i := 23) rfl), ⟨by decide +kernel, by decide +kernel⟩, by decide +kernel⟩
theorem vl9_180 : VL RX9 180 9 yX9_sends cX9_sends 3 none 2 := ⟨⟨TX9, 38, rfl⟩, inr22 _ (List.mem_of_getElem? (i := 0) rfl), inr22 _ (List.mem_of_getElem? (i := 1) rfl), inr22 _ (List.mem_of_getElem? (i := 2) rfl), inr1 _ (List.mem_of_getElem? (i := 5) rfl), inr22 _ (List.mem_of_getElem? (i := 3) rfl), ⟨by decide +kernel, by decide +kernel⟩, by decide +kernel⟩
theorem fw9_183 : FW RX9 183 9 38 34 .int := ⟨RX9, TX9, tyX9, rfl, by decide, inr22 _ (List.mem_of_getElem? (i := 4) rfl), inlX9, rfl, by decide +kernel, tyX9_ok, nmX9⟩
theorem fl9_183 : FL RX9 183 9 38 34 := fw9_183.fl
theorem vl8_151 : VL RX8 151 4 yX4_hasTest cX4_hasTest 2 (some .boolean) 1 := ⟨⟨TX4, 4, rfl⟩, inr22 _ (List.mem_of_getElem? (i := 12) rfl), inr22 _ (List.mem_of_getElem? (i := 13) rfl), inr22 _ (List.mem_of_getElem? (i := 14) rfl), inr3 _ (List.mem_of_getElem? (i := 1) rfl), inr22 _ (List.mem_of_getElem? (i := 15) rfl), ⟨by decide +kernel, by decide +kernel⟩, by decide +kernel⟩
theorem fw8_163 : FW RX8 163 6 10 4 .int := ⟨RX6, TX6, tyX6, rfl, by decide, inr24 _ (List.mem_of_getElem? (i := 1) rfl), inlX6, rfl, by decide +kernel, tyX6_ok, nmX6⟩
theorem fl8_163 : FL RX8 163 6 10 4 := fw8_163.fl
theorem fw8_169 : FW RX8 169 6 10 6 .int := ⟨RX6, TX6, tyX6, rfl, by decide, inr24 _ (List.mem_of_getElem? (i := 2) rfl), inlX6, rfl, by decide +kernel, tyX6_ok, nmX6⟩
theorem fl8_169 : FL RX8 169 6 10 6 := fw8_169.fl
theorem fw8_172 : FW RX8 172 6 10 7 .boolean := ⟨RX6, TX6, tyX6, rfl, by decide, inr24 _ (List.mem_of_getElem? (i := 3) rfl), inlX6, rfl, by decide +kernel, tyX6_ok, nmX6⟩
theorem fl8_172 : FL RX8 172 6 10 7 := fw8_172.fl
theorem vl8_157 : VL RX8 157 8 yX8_hasTeam cX8_hasTeam 2 (some .boolean) 1 := ⟨⟨TX8, 14, rfl⟩, inr24 _ (List.mem_of_getElem? (i := 4) rfl), inr24 _ (List.mem_of_getElem? (i := 5) rfl), inr24 _ (List.mem_of_getElem? (i := 6) rfl), inr1 _ (List.mem_of_getElem? (i := 2) rfl), inr24 _ (List.mem_of_getElem? (i := 7) rfl), ⟨by decide +kernel, by decide +kernel⟩, by decide +kernel⟩
theorem vl8_160 : VL RX8 160 8 yX8_lastMinute cX8_lastMinute 1 (some .int) 0 := ⟨⟨TX8, 14, rfl⟩, inr24 _ (List.mem_of_getElem? (i := 8) rfl), inr24 _ (List.mem_of_getElem? (i := 9) rfl), inr24 _ (List.mem_of_getElem? (i := 10) rfl), inr1 _ (List.mem_of_getElem? (i := 2) rfl), inr24 _ (List.mem_of_getElem? (i := 11) rfl), ⟨by decide +kernel, by decide +kernel⟩, by decide +kernel⟩
theorem vl8_179 : VL RX8 179 5 yX5_copyFrom cX5_copyFrom 3 none 1 := ⟨⟨TX5, 4, rfl⟩, inr24 _ (List.mem_of_getElem? (i := 12) rfl), inr24 _ (List.mem_of_getElem? (i := 13) rfl), inr24 _ (List.mem_of_getElem? (i := 14) rfl), inr1 _ (List.mem_of_getElem? (i := 16) rfl), inr24 _ (List.mem_of_getElem? (i := 15) rfl), ⟨by decide +kernel, by decide +kernel⟩, by decide +kernel⟩
theorem vl5_26 : VL RX5 26 5 yX5_append cX5_append 4 none 3 := ⟨⟨TX5, 4, rfl⟩, inr24 _ (List.mem_of_getElem? (i := 16) rfl), inr9 _ (List.mem_of_getElem? (i := 0) rfl), inr9 _ (List.mem_of_getElem? (i := 1) rfl), inr1 _ (List.mem_of_getElem? (i := 16) rfl), inr9 _ (List.mem_of_getElem? (i := 2) rfl), ⟨by decide +kernel, by decide +kernel⟩, by decide +kernel⟩
theorem vl8_182 : VL RX8 182 8 yX8_judgeByAll cX8_judgeByAll 4 none 1 := ⟨⟨TX8, 14, rfl⟩, inr24 _ (List.mem_of_getElem? (i := 17) rfl), inr24 _ (List.mem_of_getElem? (i := 18) rfl), inr24 _ (List.mem_of_getElem? (i := 19) rfl), inr1 _ (List.mem_of_getElem? (i := 2) rfl), inr24 _ (List.mem_of_getElem? (i := 20) rfl), ⟨by decide +kernel, by decide +kernel⟩, by decide +kernel⟩
theorem vl8_295 : VL RX8 295 8 yX8_testCountOf cX8_testCountOf 2 (some .int) 1 := ⟨⟨TX8, 14, rfl⟩, inr24 _ (List.mem_of_getElem? (i := 21) rfl), inr24 _ (List.mem_of_getElem? (i := 22) rfl), inr24 _ (List.mem_of_getElem? (i := 23) rfl), inr1 _ (List.mem_of_getElem? (i := 2) rfl), inr25 _ (List.mem_of_getElem? (i := 0) rfl), ⟨by decide +kernel, by decide +kernel⟩, by decide +kernel⟩
theorem vl9_190 : VL RX9 190 9 yX9_isNoTeam cX9_isNoTeam 2 (some .boolean) 1 := ⟨⟨TX9, 38, rfl⟩, inr25 _ (List.mem_of_getElem? (i := 5) rfl), inr25 _ (List.mem_of_getElem? (i := 6) rfl), inr25 _ (List.mem_of_getElem? (i := 7) rfl), inr1 _ (List.mem_of_getElem? (i := 5) rfl), inr25 _ (List.mem_of_getElem? (i := 8) rfl), ⟨by decide +kernel, by decide +kernel⟩, by decide +kernel⟩
theorem vl8_190 : VL RX8 190 8 yX8_hasRun cX8_hasRun 2 (some .boolean) 1 := ⟨⟨TX8, 14, rfl⟩, inr25 _ (List.mem_of_getElem? (i := 16) rfl), inr25 _ (List.mem_of_getElem? (i := 17) rfl), inr25 _ (List.mem_of_getElem? (i := 18) rfl), inr1 _ (List.mem_of_getElem? (i := 2) rfl), inr25 _ (List.mem_of_getElem? (i := 19) rfl), ⟨by decide +kernel, by decide +kernel⟩, by decide +kernel⟩
theorem vl9_193 : VL RX9 193 9 yX9_isNoRun cX9_isNoRun 2 (some .boolean) 1 := ⟨⟨TX9, 38, rfl⟩, inr26 _ (List.mem_of_getElem? (i := 0) rfl), inr26 _ (List.mem_of_getElem? (i := 1) rfl), inr26 _ (List.mem_of_getElem? (i := 2) rfl), inr1 _ (List.mem_of_getElem? (i := 5) rfl), inr26 _ (List.mem_of_getElem? (i := 3) rfl), ⟨by decide +kernel, by decide +kernel⟩, by decide +kernel⟩
theorem fw8_197 : FW RX8 197 6 10 9 .int := ⟨RX6, TX6, tyX6, rfl, by decide, inr26 _ (List.mem_of_getElem? (i := 11) rfl), inlX6, rfl, by decide +kernel, tyX6_ok, nmX6⟩
theorem fl8_197 : FL RX8 197 6 10 9 := fw8_197.fl
theorem vl8_200 : VL RX8 200 8 yX8_hasTestOfRun cX8_hasTestOfRun 3 (some .boolean) 2 := ⟨⟨TX8, 14, rfl⟩, inr26 _ (List.mem_of_getElem? (i := 23) rfl), inr27 _ (List.mem_of_getElem? (i := 0) rfl), inr27 _ (List.mem_of_getElem? (i := 1) rfl), inr1 _ (List.mem_of_getElem? (i := 2) rfl), inr27 _ (List.mem_of_getElem? (i := 2) rfl), ⟨by decide +kernel, by decide +kernel⟩, by decide +kernel⟩
theorem vl9_196 : VL RX9 196 9 yX9_isNoTest cX9_isNoTest 3 (some .boolean) 2 := ⟨⟨TX9, 38, rfl⟩, inr27 _ (List.mem_of_getElem? (i := 7) rfl), inr27 _ (List.mem_of_getElem? (i := 8) rfl), inr27 _ (List.mem_of_getElem? (i := 9) rfl), inr1 _ (List.mem_of_getElem? (i := 5) rfl), inr27 _ (List.mem_of_getElem? (i := 10) rfl), ⟨by decide +kernel, by decide +kernel⟩, by decide +kernel⟩
theorem fl8_212 : FL RX8 212 7 4 1 := ⟨RX7, TX7, rfl, by decide, inr28 _ (List.mem_of_getElem? (i := 5) rfl), inlX7⟩
theorem vl8_221 : VL RX8 221 7 yX7_numberAt cX7_numberAt 3 (some .int) 2 := ⟨⟨TX7, 4, rfl⟩, inr28 _ (List.mem_of_getElem? (i := 20) rfl), inr16 _ (List.mem_of_getElem? (i := 5) rfl), inr16 _ (List.mem_of_getElem? (i := 6) rfl), inr2 _ (List.mem_of_getElem? (i := 8) rfl), inr16 _ (List.mem_of_getElem? (i := 7) rfl), ⟨by decide +kernel, by decide +kernel⟩, by decide +kernel⟩
theorem fw8_224 : FW RX8 224 7 4 3 .int := ⟨RX7, TX7, tyX7, rfl, by decide, inr29 _ (List.mem_of_getElem? (i := 5) rfl), inlX7, rfl, by decide +kernel, tyX7_ok, nmX7⟩
theorem fl8_224 : FL RX8 224 7 4 3 := fw8_224.fl
theorem vl9_199 : VL RX9 199 9 yX9_isFirst cX9_isFirst 6 (some .boolean) 2 := ⟨⟨TX9, 38, rfl⟩, inr29 _ (List.mem_of_getElem? (i := 10) rfl), inr29 _ (List.mem_of_getElem? (i := 11) rfl), inr29 _ (List.mem_of_getElem? (i := 12) rfl), inr1 _ (List.mem_of_getElem? (i := 5) rfl), inr29 _ (List.mem_of_getElem? (i := 13) rfl), ⟨by decide +kernel, by decide +kernel⟩, by decide +kernel⟩
theorem vl9_202 : VL RX9 202 9 yX9_areAlike cX9_areAlike 7 (some .boolean) 4 := ⟨⟨TX9, 38, rfl⟩, inr29 _ (List.mem_of_getElem? (i := 14) rfl), inr29 _ (List.mem_of_getElem? (i := 15) rfl), inr29 _ (List.mem_of_getElem? (i := 16) rfl), inr1 _ (List.mem_of_getElem? (i := 5) rfl), inr29 _ (List.mem_of_getElem? (i := 17) rfl), ⟨by decide +kernel, by decide +kernel⟩, by decide +kernel⟩
theorem fl8_227 : FL RX8 227 7 4 2 := ⟨RX7, TX7, rfl, by decide, inr30 _ (List.mem_of_getElem? (i := 1) rfl), inlX7⟩
theorem fl8_230 : FL RX8 230 0 6 3 := ⟨RX0, TX0, rfl, by decide, inr30 _ (List.mem_of_getElem? (i := 13) rfl), inlX0⟩
theorem vl8_233 : VL RX8 233 0 yX0_serve cX0_serve 3 none 1 := ⟨⟨TX0, 6, rfl⟩, inr30 _ (List.mem_of_getElem? (i := 14) rfl), inr19 _ (List.mem_of_getElem? (i := 6) rfl), inr19 _ (List.mem_of_getElem? (i := 7) rfl), inr2 _ (List.mem_of_getElem? (i := 12) rfl), inr19 _ (List.mem_of_getElem? (i := 8) rfl), ⟨by decide +kernel, by decide +kernel⟩, by decide +kernel⟩
theorem sl9_206 : SL RX9 206 yX9_isNoColour cX9_isNoColour 1 (some .boolean) 1 := ⟨inr30 _ (List.mem_of_getElem? (i := 19) rfl), inr30 _ (List.mem_of_getElem? (i := 20) rfl), inr1 _ (List.mem_of_getElem? (i := 5) rfl), inr30 _ (List.mem_of_getElem? (i := 21) rfl), ⟨by decide +kernel, by decide +kernel⟩, by decide +kernel⟩
theorem fl8_237 : FL RX8 237 0 6 4 := ⟨RX0, TX0, rfl, by decide, inr31 _ (List.mem_of_getElem? (i := 16) rfl), inlX0⟩
theorem fl8_240 : FL RX8 240 0 6 0 := ⟨RX0, TX0, rfl, by decide, inr32 _ (List.mem_of_getElem? (i := 4) rfl), inlX0⟩
theorem sl8_243 : SL RX8 243 yX8_spotOf cX8_spotOf 2 (some .int) 2 := ⟨inr32 _ (List.mem_of_getElem? (i := 5) rfl), inr17 _ (List.mem_of_getElem? (i := 21) rfl), inr1 _ (List.mem_of_getElem? (i := 2) rfl), inr17 _ (List.mem_of_getElem? (i := 22) rfl), ⟨by decide +kernel, by decide +kernel⟩, by decide +kernel⟩
theorem fl8_246 : FL RX8 246 0 6 2 := ⟨RX0, TX0, rfl, by decide, inr32 _ (List.mem_of_getElem? (i := 17) rfl), inlX0⟩
theorem fl8_249 : FL RX8 249 0 6 1 := ⟨RX0, TX0, rfl, by decide, inr32 _ (List.mem_of_getElem? (i := 18) rfl), inlX0⟩
theorem sl8_253 : SL RX8 253 yX8_teamOf cX8_teamOf 1 (some .int) 1 := ⟨inr32 _ (List.mem_of_getElem? (i := 19) rfl), inr32 _ (List.mem_of_getElem? (i := 20) rfl), inr1 _ (List.mem_of_getElem? (i := 2) rfl), inr32 _ (List.mem_of_getElem? (i := 21) rfl), ⟨by decide +kernel, by decide +kernel⟩, by decide +kernel⟩
theorem fw8_257 : FW RX8 257 0 6 5 .int := ⟨RX0, TX0, tyX0, rfl, by decide, inr33 _ (List.mem_of_getElem? (i := 6) rfl), inlX0, rfl, by decide +kernel, tyX0_ok, nmX0⟩
theorem fl8_257 : FL RX8 257 0 6 5 := fw8_257.fl
theorem vl9_209 : VL RX9 209 9 yX9_isPending cX9_isPending 2 (some .boolean) 1 := ⟨⟨TX9, 38, rfl⟩, inr34 _ (List.mem_of_getElem? (i := 1) rfl), inr34 _ (List.mem_of_getElem? (i := 2) rfl), inr34 _ (List.mem_of_getElem? (i := 3) rfl), inr1 _ (List.mem_of_getElem? (i := 5) rfl), inr34 _ (List.mem_of_getElem? (i := 4) rfl), ⟨by decide +kernel, by decide +kernel⟩, by decide +kernel⟩
theorem vl8_263 : VL RX8 263 8 yX8_countPending cX8_countPending 5 (some .int) 2 := ⟨⟨TX8, 14, rfl⟩, inr34 _ (List.mem_of_getElem? (i := 12) rfl), inr34 _ (List.mem_of_getElem? (i := 13) rfl), inr34 _ (List.mem_of_getElem? (i := 14) rfl), inr1 _ (List.mem_of_getElem? (i := 2) rfl), inr34 _ (List.mem_of_getElem? (i := 15) rfl), ⟨by decide +kernel, by decide +kernel⟩, by decide +kernel⟩
theorem vl9_212 : VL RX9 212 9 yX9_pendingOf cX9_pendingOf 5 (some .int) 2 := ⟨⟨TX9, 38, rfl⟩, inr34 _ (List.mem_of_getElem? (i := 20) rfl), inr34 _ (List.mem_of_getElem? (i := 21) rfl), inr34 _ (List.mem_of_getElem? (i := 22) rfl), inr1 _ (List.mem_of_getElem? (i := 5) rfl), inr34 _ (List.mem_of_getElem? (i := 23) rfl), ⟨by decide +kernel, by decide +kernel⟩, by decide +kernel⟩
theorem vl8_266 : VL RX8 266 8 yX8_lowestPendingTeam cX8_lowestPendingTeam 3 (some .int) 0 := ⟨⟨TX8, 14, rfl⟩, inr35 _ (List.mem_of_getElem? (i := 7) rfl), inr35 _ (List.mem_of_getElem? (i := 8) rfl), inr35 _ (List.mem_of_getElem? (i := 9) rfl), inr1 _ (List.mem_of_getElem? (i := 2) rfl), inr35 _ (List.mem_of_getElem? (i := 10) rfl), ⟨by decide +kernel, by decide +kernel⟩, by decide +kernel⟩
theorem fl8_289 : FL RX8 289 1 7 5 := ⟨RX1, TX1, rfl, by decide, inr35 _ (List.mem_of_getElem? (i := 11) rfl), inlX1⟩
theorem vl8_269 : VL RX8 269 8 yX8_lowestPendingProblem cX8_lowestPendingProblem 3 (some .int) 1 := ⟨⟨TX8, 14, rfl⟩, inr35 _ (List.mem_of_getElem? (i := 12) rfl), inr35 _ (List.mem_of_getElem? (i := 13) rfl), inr35 _ (List.mem_of_getElem? (i := 14) rfl), inr1 _ (List.mem_of_getElem? (i := 2) rfl), inr35 _ (List.mem_of_getElem? (i := 15) rfl), ⟨by decide +kernel, by decide +kernel⟩, by decide +kernel⟩
theorem vl8_272 : VL RX8 272 8 yX8_openRuns cX8_openRuns 4 none 2 := ⟨⟨TX8, 14, rfl⟩, inr35 _ (List.mem_of_getElem? (i := 16) rfl), inr35 _ (List.mem_of_getElem? (i := 17) rfl), inr35 _ (List.mem_of_getElem? (i := 18) rfl), inr1 _ (List.mem_of_getElem? (i := 2) rfl), inr35 _ (List.mem_of_getElem? (i := 19) rfl), ⟨by decide +kernel, by decide +kernel⟩, by decide +kernel⟩
theorem vl9_215 : VL RX9 215 9 yX9_pendingIn cX9_pendingIn 3 (some .int) 1 := ⟨⟨TX9, 38, rfl⟩, inr36 _ (List.mem_of_getElem? (i := 0) rfl), inr36 _ (List.mem_of_getElem? (i := 1) rfl), inr36 _ (List.mem_of_getElem? (i := 2) rfl), inr1 _ (List.mem_of_getElem? (i := 5) rfl), inr36 _ (List.mem_of_getElem? (i := 3) rfl), ⟨by decide +kernel, by decide +kernel⟩, by decide +kernel⟩
theorem vl9_218 : VL RX9 218 9 yX9_isAhead cX9_isAhead 5 (some .boolean) 3 := ⟨⟨TX9, 38, rfl⟩, inr36 _ (List.mem_of_getElem? (i := 4) rfl), inr36 _ (List.mem_of_getElem? (i := 5) rfl), inr36 _ (List.mem_of_getElem? (i := 6) rfl), inr1 _ (List.mem_of_getElem? (i := 5) rfl), inr36 _ (List.mem_of_getElem? (i := 7) rfl), ⟨by decide +kernel, by decide +kernel⟩, by decide +kernel⟩
theorem vl9_226 : VL RX9 226 9 yX9_solvedBy cX9_solvedBy 5 (some .int) 2 := ⟨⟨TX9, 38, rfl⟩, inr36 _ (List.mem_of_getElem? (i := 8) rfl), inr36 _ (List.mem_of_getElem? (i := 9) rfl), inr36 _ (List.mem_of_getElem? (i := 10) rfl), inr1 _ (List.mem_of_getElem? (i := 5) rfl), inr36 _ (List.mem_of_getElem? (i := 11) rfl), ⟨by decide +kernel, by decide +kernel⟩, by decide +kernel⟩
theorem vl9_222 : VL RX9 222 9 yX9_firstOf cX9_firstOf 5 (some .int) 3 := ⟨⟨TX9, 38, rfl⟩, inr36 _ (List.mem_of_getElem? (i := 12) rfl), inr36 _ (List.mem_of_getElem? (i := 13) rfl), inr36 _ (List.mem_of_getElem? (i := 14) rfl), inr1 _ (List.mem_of_getElem? (i := 5) rfl), inr36 _ (List.mem_of_getElem? (i := 15) rfl), ⟨by decide +kernel, by decide +kernel⟩, by decide +kernel⟩
theorem vl9_230 : VL RX9 230 9 yX9_penaltyOf cX9_penaltyOf 7 (some .int) 2 := ⟨⟨TX9, 38, rfl⟩, inr36 _ (List.mem_of_getElem? (i := 16) rfl), inr36 _ (List.mem_of_getElem? (i := 17) rfl), inr36 _ (List.mem_of_getElem? (i := 18) rfl), inr1 _ (List.mem_of_getElem? (i := 5) rfl), inr36 _ (List.mem_of_getElem? (i := 19) rfl), ⟨by decide +kernel, by decide +kernel⟩, by decide +kernel⟩
theorem vl9_233 : VL RX9 233 9 yX9_latestOf cX9_latestOf 6 (some .int) 2 := ⟨⟨TX9, 38, rfl⟩, inr36 _ (List.mem_of_getElem? (i := 20) rfl), inr36 _ (List.mem_of_getElem? (i := 21) rfl), inr36 _ (List.mem_of_getElem? (i := 22) rfl), inr1 _ (List.mem_of_getElem? (i := 5) rfl), inr36 _ (List.mem_of_getElem? (i := 23) rfl), ⟨by decide +kernel, by decide +kernel⟩, by decide +kernel⟩
theorem fl8_280 : FL RX8 280 1 7 2 := ⟨RX1, TX1, rfl, by decide, inr37 _ (List.mem_of_getElem? (i := 7) rfl), inlX1⟩
theorem vl8_276 : VL RX8 276 8 yX8_boardOf cX8_boardOf 2 (some (.object "Judgefold$Board")) 1 := ⟨⟨TX8, 14, rfl⟩, inr37 _ (List.mem_of_getElem? (i := 8) rfl), inr37 _ (List.mem_of_getElem? (i := 9) rfl), inr37 _ (List.mem_of_getElem? (i := 10) rfl), inr1 _ (List.mem_of_getElem? (i := 2) rfl), inr37 _ (List.mem_of_getElem? (i := 11) rfl), ⟨by decide +kernel, by decide +kernel⟩, by decide +kernel⟩
theorem fl8_283 : FL RX8 283 1 7 3 := ⟨RX1, TX1, rfl, by decide, inr37 _ (List.mem_of_getElem? (i := 23) rfl), inlX1⟩
theorem vl8_286 : VL RX8 286 1 yX1_rankOf cX1_rankOf 3 (some .int) 1 := ⟨⟨TX1, 7, rfl⟩, inr38 _ (List.mem_of_getElem? (i := 11) rfl), inr38 _ (List.mem_of_getElem? (i := 12) rfl), inr38 _ (List.mem_of_getElem? (i := 13) rfl), inr2 _ (List.mem_of_getElem? (i := 16) rfl), inr38 _ (List.mem_of_getElem? (i := 14) rfl), ⟨by decide +kernel, by decide +kernel⟩, by decide +kernel⟩
theorem vl9_236 : VL RX9 236 9 yX9_rankOf cX9_rankOf 5 (some .int) 2 := ⟨⟨TX9, 38, rfl⟩, inr38 _ (List.mem_of_getElem? (i := 19) rfl), inr38 _ (List.mem_of_getElem? (i := 20) rfl), inr38 _ (List.mem_of_getElem? (i := 21) rfl), inr1 _ (List.mem_of_getElem? (i := 5) rfl), inr38 _ (List.mem_of_getElem? (i := 22) rfl), ⟨by decide +kernel, by decide +kernel⟩, by decide +kernel⟩
theorem vl8_303 : VL RX8 303 7 yX7_addTo cX7_addTo 7 (some .long) 2 := ⟨⟨TX7, 4, rfl⟩, inr40 _ (List.mem_of_getElem? (i := 18) rfl), inr40 _ (List.mem_of_getElem? (i := 19) rfl), inr40 _ (List.mem_of_getElem? (i := 20) rfl), inr2 _ (List.mem_of_getElem? (i := 8) rfl), inr40 _ (List.mem_of_getElem? (i := 21) rfl), ⟨by decide +kernel, by decide +kernel⟩, by decide +kernel⟩
theorem vl8_309 : VL RX8 309 8 yX8_isRankedAnew cX8_isRankedAnew 2 (some .boolean) 1 := ⟨⟨TX8, 14, rfl⟩, inr41 _ (List.mem_of_getElem? (i := 10) rfl), inr41 _ (List.mem_of_getElem? (i := 11) rfl), inr41 _ (List.mem_of_getElem? (i := 12) rfl), inr1 _ (List.mem_of_getElem? (i := 2) rfl), inr41 _ (List.mem_of_getElem? (i := 13) rfl), ⟨by decide +kernel, by decide +kernel⟩, by decide +kernel⟩
theorem vl8_359 : VL RX8 359 1 yX1_isLike cX1_isLike 3 (some .boolean) 1 := ⟨⟨TX1, 7, rfl⟩, inr41 _ (List.mem_of_getElem? (i := 14) rfl), inr41 _ (List.mem_of_getElem? (i := 15) rfl), inr41 _ (List.mem_of_getElem? (i := 16) rfl), inr2 _ (List.mem_of_getElem? (i := 16) rfl), inr41 _ (List.mem_of_getElem? (i := 17) rfl), ⟨by decide +kernel, by decide +kernel⟩, by decide +kernel⟩
theorem vl8_312 : VL RX8 312 8 yX8_areBalloonsEarned cX8_areBalloonsEarned 5 (some .boolean) 0 := ⟨⟨TX8, 14, rfl⟩, inr41 _ (List.mem_of_getElem? (i := 18) rfl), inr41 _ (List.mem_of_getElem? (i := 19) rfl), inr41 _ (List.mem_of_getElem? (i := 20) rfl), inr1 _ (List.mem_of_getElem? (i := 2) rfl), inr41 _ (List.mem_of_getElem? (i := 21) rfl), ⟨by decide +kernel, by decide +kernel⟩, by decide +kernel⟩
theorem vl8_363 : VL RX8 363 1 yX1_hasSolved cX1_hasSolved 2 (some .boolean) 1 := ⟨⟨TX1, 7, rfl⟩, inr41 _ (List.mem_of_getElem? (i := 22) rfl), inr18 _ (List.mem_of_getElem? (i := 0) rfl), inr18 _ (List.mem_of_getElem? (i := 1) rfl), inr2 _ (List.mem_of_getElem? (i := 16) rfl), inr18 _ (List.mem_of_getElem? (i := 2) rfl), ⟨by decide +kernel, by decide +kernel⟩, by decide +kernel⟩
theorem vl8_316 : VL RX8 316 0 yX0_isStockLeftOver cX0_isStockLeftOver 2 (some .boolean) 0 := ⟨⟨TX0, 6, rfl⟩, inr41 _ (List.mem_of_getElem? (i := 23) rfl), inr42 _ (List.mem_of_getElem? (i := 0) rfl), inr42 _ (List.mem_of_getElem? (i := 1) rfl), inr2 _ (List.mem_of_getElem? (i := 12) rfl), inr42 _ (List.mem_of_getElem? (i := 2) rfl), ⟨by decide +kernel, by decide +kernel⟩, by decide +kernel⟩
theorem vl8_319 : VL RX8 319 8 yX8_areOutputsAnew cX8_areOutputsAnew 4 (some .boolean) 0 := ⟨⟨TX8, 14, rfl⟩, inr42 _ (List.mem_of_getElem? (i := 3) rfl), inr42 _ (List.mem_of_getElem? (i := 4) rfl), inr42 _ (List.mem_of_getElem? (i := 5) rfl), inr1 _ (List.mem_of_getElem? (i := 2) rfl), inr42 _ (List.mem_of_getElem? (i := 6) rfl), ⟨by decide +kernel, by decide +kernel⟩, by decide +kernel⟩
theorem vl8_366 : VL RX8 366 7 yX7_isAlike cX7_isAlike 5 (some .boolean) 3 := ⟨⟨TX7, 4, rfl⟩, inr42 _ (List.mem_of_getElem? (i := 7) rfl), inr16 _ (List.mem_of_getElem? (i := 1) rfl), inr16 _ (List.mem_of_getElem? (i := 2) rfl), inr2 _ (List.mem_of_getElem? (i := 8) rfl), inr16 _ (List.mem_of_getElem? (i := 3) rfl), ⟨by decide +kernel, by decide +kernel⟩, by decide +kernel⟩
abbrev mX8_step : MI := (cX8_step, RX8, 4, (some .int))
abbrev mX8_isStep : MI := (cX8_isStep, RX8, 3, (some .boolean))
abbrev mX8_isPlace : MI := (cX8_isPlace, RX8, 1, (some .boolean))
abbrev mX8_isWithin : MI := (cX8_isWithin, RX8, 3, (some .boolean))
abbrev mX8_isNumber : MI := (cX8_isNumber, RX8, 1, (some .boolean))
abbrev mX5_append : MI := (cX5_append, RX5, 4, none)
abbrev mX9_step : MI := (cX9_step, RX9, 4, (some .int))
abbrev mX9_isStep : MI := (cX9_isStep, RX9, 3, (some .boolean))
abbrev mX9_in : MI := (cX9_in, RX9, 3, (some .boolean))
abbrev mX9_fails : MI := (cX9_fails, RX9, 2, (some .boolean))
abbrev mX9_thrown : MI := (cX9_thrown, RX9, 1, (some .int))
abbrev mX8_number : MI := (cX8_number, RX8, 3, (some .int))
abbrev mX3_hasRoom : MI := (cX3_hasRoom, RX3, 2, (some .boolean))
abbrev mX3_append : MI := (cX3_append, RX3, 3, (some .int))
abbrev mX9_number : MI := (cX9_number, RX9, 3, (some .int))
abbrev mX8_wipe : MI := (cX8_wipe, RX8, 2, (some .int))
abbrev mX5_clear : MI := (cX5_clear, RX5, 2, (some .int))
abbrev mX3_clear : MI := (cX3_clear, RX3, 2, (some .int))
abbrev mX9_wipe : MI := (cX9_wipe, RX9, 3, (some .int))
abbrev mX8_problem : MI := (cX8_problem, RX8, 3, (some .int))
abbrev mX8_isColour : MI := (cX8_isColour, RX8, 1, (some .boolean))
abbrev mX9_problem : MI := (cX9_problem, RX9, 3, (some .int))
abbrev mX8_test : MI := (cX8_test, RX8, 3, (some .int))
abbrev mX8_hasProblem : MI := (cX8_hasProblem, RX8, 2, (some .boolean))
abbrev mX3_copyFrom : MI := (cX3_copyFrom, RX3, 3, none)
abbrev mX8_judgeAnew : MI := (cX8_judgeAnew, RX8, 6, (some .int))
abbrev mX8_judge : MI := (cX8_judge, RX8, 4, none)
abbrev mX2_execute : MI := (cX2_execute, RX2, 5, none)
abbrev mX2_reset : MI := (cX2_reset, RX2, 2, none)
abbrev mX2_doNextStep : MI := (cX2_doNextStep, RX2, 6, none)
abbrev mX2_takeInput : MI := (cX2_takeInput, RX2, 3, none)
abbrev mX2_putOut : MI := (cX2_putOut, RX2, 2, none)
abbrev mX2_divide : MI := (cX2_divide, RX2, 3, none)
abbrev mX2_goIf : MI := (cX2_goIf, RX2, 4, none)
abbrev mX3_isExpected : MI := (cX3_isExpected, RX3, 4, (some .boolean))
abbrev mX7_release : MI := (cX7_release, RX7, 2, none)
abbrev mX7_keep : MI := (cX7_keep, RX7, 4, (some .int))
abbrev mX7_find : MI := (cX7_find, RX7, 4, (some .int))
abbrev mX7_isAlike : MI := (cX7_isAlike, RX7, 5, (some .boolean))
abbrev mX7_numberAt : MI := (cX7_numberAt, RX7, 3, (some .int))
abbrev mX7_firstFree : MI := (cX7_firstFree, RX7, 2, (some .int))
abbrev mX7_fill : MI := (cX7_fill, RX7, 5, none)
abbrev mX6_conclude : MI := (cX6_conclude, RX6, 3, none)
abbrev mX8_recountBoards : MI := (cX8_recountBoards, RX8, 1, none)
abbrev mX1_recount : MI := (cX1_recount, RX1, 6, none)
abbrev mX1_clear : MI := (cX1_clear, RX1, 2, none)
abbrev mX1_count : MI := (cX1_count, RX1, 3, none)
abbrev mX8_spotOf : MI := (cX8_spotOf, RX8, 2, (some .int))
abbrev mX1_hasSolved : MI := (cX1_hasSolved, RX1, 2, (some .boolean))
abbrev mX1_putInOrder : MI := (cX1_putInOrder, RX1, 3, none)
abbrev mX1_isAhead : MI := (cX1_isAhead, RX1, 3, (some .boolean))
abbrev mX0_follow : MI := (cX0_follow, RX0, 6, none)
abbrev mX0_takeAway : MI := (cX0_takeAway, RX0, 3, none)
abbrev mX0_leaveQueue : MI := (cX0_leaveQueue, RX0, 4, none)
abbrev mX0_dropFromQueue : MI := (cX0_dropFromQueue, RX0, 6, none)
abbrev mX0_serve : MI := (cX0_serve, RX0, 3, none)
abbrev mX0_enqueue : MI := (cX0_enqueue, RX0, 3, none)
abbrev mX9_test : MI := (cX9_test, RX9, 3, (some .int))
abbrev mX9_isNoProblem : MI := (cX9_isNoProblem, RX9, 2, (some .boolean))
abbrev mX9_lays : MI := (cX9_lays, RX9, 4, none)
abbrev mX9_judgesAnew : MI := (cX9_judgesAnew, RX9, 8, (some .int))
abbrev mX9_verdictOf : MI := (cX9_verdictOf, RX9, 3, (some .char))
abbrev mX9_failedOf : MI := (cX9_failedOf, RX9, 3, (some .int))
abbrev mX9_judges : MI := (cX9_judges, RX9, 11, none)
abbrev mX9_isExpected : MI := (cX9_isExpected, RX9, 6, (some .boolean))
abbrev mX9_tells : MI := (cX9_tells, RX9, 4, (some .char))
abbrev mX9_reckons : MI := (cX9_reckons, RX9, 4, (some .char))
abbrev mX9_calls : MI := (cX9_calls, RX9, 3, none)
abbrev mX9_hasSolved : MI := (cX9_hasSolved, RX9, 5, (some .boolean))
abbrev mX9_gives : MI := (cX9_gives, RX9, 3, none)
abbrev mX9_waitingAt : MI := (cX9_waitingAt, RX9, 9, (some .int))
abbrev mX9_sends : MI := (cX9_sends, RX9, 3, none)
abbrev mX8_fix : MI := (cX8_fix, RX8, 3, (some .int))
abbrev mX4_hasTest : MI := (cX4_hasTest, RX4, 2, (some .boolean))
abbrev mX9_fix : MI := (cX9_fix, RX9, 3, (some .int))
abbrev mX8_tests : MI := (cX8_tests, RX8, 2, (some .int))
abbrev mX9_tests : MI := (cX9_tests, RX9, 2, (some .int))
abbrev mX8_team : MI := (cX8_team, RX8, 1, (some .int))
abbrev mX9_team : MI := (cX9_team, RX9, 2, (some .int))
abbrev mX8_submit : MI := (cX8_submit, RX8, 5, (some .int))
abbrev mX8_hasTeam : MI := (cX8_hasTeam, RX8, 2, (some .boolean))
abbrev mX8_lastMinute : MI := (cX8_lastMinute, RX8, 1, (some .int))
abbrev mX5_copyFrom : MI := (cX5_copyFrom, RX5, 3, none)
abbrev mX8_judgeByAll : MI := (cX8_judgeByAll, RX8, 4, none)
abbrev mX8_testCountOf : MI := (cX8_testCountOf, RX8, 2, (some .int))
abbrev mX9_submit : MI := (cX9_submit, RX9, 7, (some .int))
abbrev mX9_isNoTeam : MI := (cX9_isNoTeam, RX9, 2, (some .boolean))
abbrev mX8_verdict : MI := (cX8_verdict, RX8, 2, (some .char))
abbrev mX8_hasRun : MI := (cX8_hasRun, RX8, 2, (some .boolean))
abbrev mX9_verdict : MI := (cX9_verdict, RX9, 2, (some .char))
abbrev mX9_isNoRun : MI := (cX9_isNoRun, RX9, 2, (some .boolean))
abbrev mX8_failed : MI := (cX8_failed, RX8, 2, (some .int))
abbrev mX9_failed : MI := (cX9_failed, RX9, 2, (some .int))
abbrev mX8_ended : MI := (cX8_ended, RX8, 3, (some .char))
abbrev mX8_hasTestOfRun : MI := (cX8_hasTestOfRun, RX8, 3, (some .boolean))
abbrev mX9_ended : MI := (cX9_ended, RX9, 3, (some .char))
abbrev mX9_isNoTest : MI := (cX9_isNoTest, RX9, 3, (some .boolean))
abbrev mX8_steps : MI := (cX8_steps, RX8, 3, (some .int))
abbrev mX9_steps : MI := (cX9_steps, RX9, 3, (some .int))
abbrev mX8_outputs : MI := (cX8_outputs, RX8, 3, (some .int))
abbrev mX9_outputs : MI := (cX9_outputs, RX9, 3, (some .int))
abbrev mX8_output : MI := (cX8_output, RX8, 5, (some .int))
abbrev mX9_output : MI := (cX9_output, RX9, 4, (some .int))
abbrev mX8_kept : MI := (cX8_kept, RX8, 1, (some .int))
abbrev mX9_kept : MI := (cX9_kept, RX9, 4, (some .int))
abbrev mX9_isFirst : MI := (cX9_isFirst, RX9, 6, (some .boolean))
abbrev mX9_areAlike : MI := (cX9_areAlike, RX9, 7, (some .boolean))
abbrev mX8_sharing : MI := (cX8_sharing, RX8, 3, (some .int))
abbrev mX9_sharing : MI := (cX9_sharing, RX9, 6, (some .int))
abbrev mX8_stock : MI := (cX8_stock, RX8, 3, (some .int))
abbrev mX9_stock : MI := (cX9_stock, RX9, 3, (some .int))
abbrev mX9_isNoColour : MI := (cX9_isNoColour, RX9, 1, (some .boolean))
abbrev mX8_inStock : MI := (cX8_inStock, RX8, 2, (some .int))
abbrev mX9_inStock : MI := (cX9_inStock, RX9, 2, (some .int))
abbrev mX8_out : MI := (cX8_out, RX8, 2, (some .int))
abbrev mX9_out : MI := (cX9_out, RX9, 5, (some .int))
abbrev mX8_balloon : MI := (cX8_balloon, RX8, 3, (some .char))
abbrev mX9_balloon : MI := (cX9_balloon, RX9, 3, (some .char))
abbrev mX8_waiting : MI := (cX8_waiting, RX8, 3, (some .int))
abbrev mX8_teamOf : MI := (cX8_teamOf, RX8, 1, (some .int))
abbrev mX9_waiting : MI := (cX9_waiting, RX9, 4, (some .int))
abbrev mX8_calledBack : MI := (cX8_calledBack, RX8, 1, (some .int))
abbrev mX9_calledBack : MI := (cX9_calledBack, RX9, 1, (some .int))
abbrev mX8_freeze : MI := (cX8_freeze, RX8, 4, (some .int))
abbrev mX9_freeze : MI := (cX9_freeze, RX9, 4, (some .int))
abbrev mX9_isPending : MI := (cX9_isPending, RX9, 2, (some .boolean))
abbrev mX8_pending : MI := (cX8_pending, RX8, 3, (some .int))
abbrev mX8_countPending : MI := (cX8_countPending, RX8, 5, (some .int))
abbrev mX9_pending : MI := (cX9_pending, RX9, 3, (some .int))
abbrev mX9_pendingOf : MI := (cX9_pendingOf, RX9, 5, (some .int))
abbrev mX8_open : MI := (cX8_open, RX8, 2, (some .int))
abbrev mX8_lowestPendingTeam : MI := (cX8_lowestPendingTeam, RX8, 3, (some .int))
abbrev mX8_lowestPendingProblem : MI := (cX8_lowestPendingProblem, RX8, 3, (some .int))
abbrev mX8_openRuns : MI := (cX8_openRuns, RX8, 4, none)
abbrev mX9_open : MI := (cX9_open, RX9, 4, (some .int))
abbrev mX9_pendingIn : MI := (cX9_pendingIn, RX9, 3, (some .int))
abbrev mX9_isAhead : MI := (cX9_isAhead, RX9, 5, (some .boolean))
abbrev mX9_solvedBy : MI := (cX9_solvedBy, RX9, 5, (some .int))
abbrev mX9_firstOf : MI := (cX9_firstOf, RX9, 5, (some .int))
abbrev mX9_penaltyOf : MI := (cX9_penaltyOf, RX9, 7, (some .int))
abbrev mX9_latestOf : MI := (cX9_latestOf, RX9, 6, (some .int))
abbrev mX8_solved : MI := (cX8_solved, RX8, 3, (some .int))
abbrev mX8_boardOf : MI := (cX8_boardOf, RX8, 2, (some (.object "Judgefold$Board")))
abbrev mX9_solved : MI := (cX9_solved, RX9, 3, (some .int))
abbrev mX8_penalty : MI := (cX8_penalty, RX8, 3, (some .int))
abbrev mX9_penalty : MI := (cX9_penalty, RX9, 3, (some .int))
abbrev mX8_rank : MI := (cX8_rank, RX8, 3, (some .int))
abbrev mX1_rankOf : MI := (cX1_rankOf, RX1, 3, (some .int))
abbrev mX9_rank : MI := (cX9_rank, RX9, 3, (some .int))
abbrev mX9_rankOf : MI := (cX9_rankOf, RX9, 5, (some .int))
abbrev mX8_ranked : MI := (cX8_ranked, RX8, 3, (some .int))
abbrev mX9_ranked : MI := (cX9_ranked, RX9, 5, (some .int))
abbrev mX8_acceptedShare : MI := (cX8_acceptedShare, RX8, 3, (some .float))
abbrev mX9_acceptedShare : MI := (cX9_acceptedShare, RX9, 3, (some .float))
abbrev mX8_meanSteps : MI := (cX8_meanSteps, RX8, 6, (some .double))
abbrev mX9_meanSteps : MI := (cX9_meanSteps, RX9, 5, (some .double))
abbrev mX8_checksum : MI := (cX8_checksum, RX8, 6, (some .long))
abbrev mX7_addTo : MI := (cX7_addTo, RX7, 7, (some .long))
abbrev mX9_checksum : MI := (cX9_checksum, RX9, 6, (some .long))
abbrev mX8_isTrue : MI := (cX8_isTrue, RX8, 1, (some .boolean))
abbrev mX8_isRankedAnew : MI := (cX8_isRankedAnew, RX8, 2, (some .boolean))
abbrev mX1_isLike : MI := (cX1_isLike, RX1, 3, (some .boolean))
abbrev mX8_areBalloonsEarned : MI := (cX8_areBalloonsEarned, RX8, 5, (some .boolean))
abbrev mX0_isStockLeftOver : MI := (cX0_isStockLeftOver, RX0, 2, (some .boolean))
abbrev mX8_areOutputsAnew : MI := (cX8_areOutputsAnew, RX8, 4, (some .boolean))
abbrev mX9_isTrue : MI := (cX9_isTrue, RX9, 1, (some .boolean))
end
section
/-- an int comes back, the memory is M1 then -/
def pIP (P : Int → Prop) (M1 : Mem) : Option Value → Mem → Prop := fun v M' => ∃ z, v = some (iv z) ∧ M' = M1 ∧ P z
def pLP (P : Int64 → Prop) (M1 : Mem) : Option Value → Mem → Prop := fun v M' => ∃ x, v = some (.long x) ∧ M' = M1 ∧ P x
def pRP (g : GG) (P : Int → Prop) (M1 : Mem) : Option Value → Mem → Prop := fun v M' => ∃ o, v = some (rv g o) ∧ M' = M1 ∧ P o
section XD
variable {g : GG} {μ : MI} {R : Room} {F : List Frame → Array Value → State → State → Prop} {pc : Nat} {lv : List (Nat × Value)} {st rest : List Value} {M M1 : Mem}
theorem x_callVIP {t n idx : Nat} {o : Int} {y : MethodName} {cc : ByteArray} {nL d na : Nat} {ret : Option FieldType} {as : List Value} {P : Int → Prop}
    (hd : decode μ.1 pc = .ok (.invokevirtual idx, 3)) (hw : VL μ.2.1 idx t y cc nL ret na) (hk : isK t n o) (hC : Ct g y cc nL ret d (rv g o :: as) M (pIP P M1)) (hst : st = as.reverse ++ rv g o :: rest) (hn : as.length = na) (hcat : (rest.map fun v => v.category).sum ≤ 8)
    (hR : d + 2 ≤ R.frames ∧ 8 + (nL + 11) + 40 * (d + 1) ≤ R.locals) (kk : ∀ (z : Int), P z → Ok g μ R F (pc + 3) lv (iv z :: rest) M1) : Ok g μ R F pc lv st M :=
  x_callV hd hw hk hC hst hn hcat hR (fun v M' ⟨z, hv, hm, h⟩ => by subst hv; subst hm; exact kk z h)
theorem x_callVLP {t n idx : Nat} {o : Int} {y : MethodName} {cc : ByteArray} {nL d na : Nat} {ret : Option FieldType} {as : List Value} {P : Int64 → Prop}
    (hd : decode μ.1 pc = .ok (.invokevirtual idx, 3)) (hw : VL μ.2.1 idx t y cc nL ret na) (hk : isK t n o) (hC : Ct g y cc nL ret d (rv g o :: as) M (pLP P M1)) (hst : st = as.reverse ++ rv g o :: rest) (hn : as.length = na) (hcat : (rest.map fun v => v.category).sum ≤ 8)
    (hR : d + 2 ≤ R.frames ∧ 8 + (nL + 11) + 40 * (d + 1) ≤ R.locals) (kk : ∀ (z : Int64), P z → Ok g μ R F (pc + 3) lv (.long z :: rest) M1) : Ok g μ R F pc lv st M :=
  x_callV hd hw hk hC hst hn hcat hR (fun v M' ⟨z, hv, hm, h⟩ => by subst hv; subst hm; exact kk z h)
theorem x_callVRP {t n idx : Nat} {o : Int} {y : MethodName} {cc : ByteArray} {nL d na : Nat} {ret : Option FieldType} {as : List Value} {P : Int → Prop}
    (hd : decode μ.1 pc = .ok (.invokevirtual idx, 3)) (hw : VL μ.2.1 idx t y cc nL ret na) (hk : isK t n o) (hC : Ct g y cc nL ret d (rv g o :: as) M (pRP g P M1)) (hst : st = as.reverse ++ rv g o :: rest) (hn : as.length = na) (hcat : (rest.map fun v => v.category).sum ≤ 8)
    (hR : d + 2 ≤ R.frames ∧ 8 + (nL + 11) + 40 * (d + 1) ≤ R.locals) (kk : ∀ (z : Int), P z → Ok g μ R F (pc + 3) lv (rv g z :: rest) M1) : Ok g μ R F pc lv st M :=
  x_callV hd hw hk hC hst hn hcat hR (fun v M' ⟨z, hv, hm, h⟩ => by subst hv; subst hm; exact kk z h)
theorem x_callSIP {idx : Nat} {y : MethodName} {cc : ByteArray} {nL d na : Nat} {ret : Option FieldType} {as : List Value} {P : Int → Prop}
    (hd : decode μ.1 pc = .ok (.invokestatic idx, 3)) (hw : SL μ.2.1 idx y cc nL ret na) (hC : Ct g y cc nL ret d as M (pIP P M1)) (hst : st = as.reverse ++ rest) (hn : as.length = na) (hcat : (rest.map fun v => v.category).sum ≤ 8)
    (hR : d + 2 ≤ R.frames ∧ 8 + (nL + 11) + 40 * (d + 1) ≤ R.locals) (kk : ∀ (z : Int), P z → Ok g μ R F (pc + 3) lv (iv z :: rest) M1) : Ok g μ R F pc lv st M :=
  x_callS hd hw hC hst hn hcat hR (fun v M' ⟨z, hv, hm, h⟩ => by subst hv; subst hm; exact kk z h)
end XD
theorem k_0 : isK 8 14 0 := ⟨by decide, by decide, by decide +kernel⟩
theorem k_468 : isK 9 38 468 := ⟨by decide, by decide, by decide +kernel⟩
theorem ext_lt {P : Int → Prop} {t : Int} (h : ∀ q, 0 ≤ q → q < t → P q) (ht : P t) : ∀ q, 0 ≤ q → q < t + 1 → P q := fun q h0 h1 => by
  rcases Int.lt_or_eq_of_le (show q ≤ t by omega) with e | e
  · exact h q h0 e
  · rw [e]; exact ht
end
section
theorem dX0_init_0 : decode cX0_init 0 = .ok (.aload_n 0, 1) := by decide +kernel
theorem dX0_init_1 : decode cX0_init 1 = .ok (.invokespecial 3, 3) := by decide +kernel
theorem dX0_init_4 : decode cX0_init 4 = .ok (.aload_n 0, 1) := by decide +kernel
theorem dX0_init_5 : decode cX0_init 5 = .ok (.bipush 40, 2) := by decide +kernel
theorem dX0_init_7 : decode cX0_init 7 = .ok (.newarray .char, 2) := by decide +kernel
theorem dX0_init_9 : decode cX0_init 9 = .ok (.putfield 9, 3) := by decide +kernel
theorem dX0_init_12 : decode cX0_init 12 = .ok (.aload_n 0, 1) := by decide +kernel
theorem dX0_init_13 : decode cX0_init 13 = .ok (.iconst 4, 1) := by decide +kernel
theorem dX0_init_14 : decode cX0_init 14 = .ok (.bipush 40, 2) := by decide +kernel
theorem dX0_init_16 : decode cX0_init 16 = .ok (.multianewarray 15 2, 4) := by decide +kernel
theorem dX0_init_20 : decode cX0_init 20 = .ok (.putfield 17, 3) := by decide +kernel
theorem dX0_init_23 : decode cX0_init 23 = .ok (.aload_n 0, 1) := by decide +kernel
theorem dX0_init_24 : decode cX0_init 24 = .ok (.iconst 4, 1) := by decide +kernel
theorem dX0_init_25 : decode cX0_init 25 = .ok (.newarray .int, 2) := by decide +kernel
theorem dX0_init_27 : decode cX0_init 27 = .ok (.putfield 20, 3) := by decide +kernel
theorem dX0_init_30 : decode cX0_init 30 = .ok (.aload_n 0, 1) := by decide +kernel
theorem dX0_init_31 : decode cX0_init 31 = .ok (.iconst 4, 1) := by decide +kernel
theorem dX0_init_32 : decode cX0_init 32 = .ok (.newarray .int, 2) := by decide +kernel
theorem dX0_init_34 : decode cX0_init 34 = .ok (.putfield 24, 3) := by decide +kernel
theorem dX0_init_37 : decode cX0_init 37 = .ok (.aload_n 0, 1) := by decide +kernel
theorem dX0_init_38 : decode cX0_init 38 = .ok (.iconst 4, 1) := by decide +kernel
theorem dX0_init_39 : decode cX0_init 39 = .ok (.newarray .int, 2) := by decide +kernel
theorem dX0_init_41 : decode cX0_init 41 = .ok (.putfield 27, 3) := by decide +kernel
theorem dX0_init_44 : decode cX0_init 44 = .ok (.aload_n 0, 1) := by decide +kernel
theorem dX0_init_45 : decode cX0_init 45 = .ok (.iconst 0, 1) := by decide +kernel
theorem dX0_init_46 : decode cX0_init 46 = .ok (.putfield 30, 3) := by decide +kernel
theorem dX0_init_49 : decode cX0_init 49 = .ok (.iconst 0, 1) := by decide +kernel
theorem dX0_init_50 : decode cX0_init 50 = .ok (.istore_n 1, 1) := by decide +kernel
theorem dX0_init_51 : decode cX0_init 51 = .ok (.iload_n 1, 1) := by decide +kernel
theorem dX0_init_52 : decode cX0_init 52 = .ok (.bipush 40, 2) := by decide +kernel
theorem dX0_init_54 : decode cX0_init 54 = .ok (.if_icmp .ge 17, 3) := by decide +kernel
theorem dX0_init_57 : decode cX0_init 57 = .ok (.aload_n 0, 1) := by decide +kernel
theorem dX0_init_58 : decode cX0_init 58 = .ok (.getfield 9, 3) := by decide +kernel
theorem dX0_init_61 : decode cX0_init 61 = .ok (.iload_n 1, 1) := by decide +kernel
theorem dX0_init_62 : decode cX0_init 62 = .ok (.bipush 45, 2) := by decide +kernel
theorem dX0_init_64 : decode cX0_init 64 = .ok (.castore, 1) := by decide +kernel
theorem dX0_init_65 : decode cX0_init 65 = .ok (.iinc 1 1, 3) := by decide +kernel
theorem dX0_init_68 : decode cX0_init 68 = .ok (.goto (-17), 3) := by decide +kernel
theorem dX0_init_71 : decode cX0_init 71 = .ok (.return_, 1) := by decide +kernel
theorem dX0_follow_0 : decode cX0_follow 0 = .ok (.iconst 0, 1) := by decide +kernel
theorem dX0_follow_1 : decode cX0_follow 1 = .ok (.istore 4, 2) := by decide +kernel
theorem dX0_follow_3 : decode cX0_follow 3 = .ok (.iload 4, 2) := by decide +kernel
theorem dX0_follow_5 : decode cX0_follow 5 = .ok (.aload_n 1, 1) := by decide +kernel
theorem dX0_follow_6 : decode cX0_follow 6 = .ok (.getfield 34, 3) := by decide +kernel
theorem dX0_follow_9 : decode cX0_follow 9 = .ok (.if_icmp .ge 33, 3) := by decide +kernel
theorem dX0_follow_12 : decode cX0_follow 12 = .ok (.iload 4, 2) := by decide +kernel
theorem dX0_follow_14 : decode cX0_follow 14 = .ok (.iload_n 2, 1) := by decide +kernel
theorem dX0_follow_15 : decode cX0_follow 15 = .ok (.invokestatic 39, 3) := by decide +kernel
theorem dX0_follow_18 : decode cX0_follow 18 = .ok (.istore 5, 2) := by decide +kernel
theorem dX0_follow_20 : decode cX0_follow 20 = .ok (.aload_n 1, 1) := by decide +kernel
theorem dX0_follow_21 : decode cX0_follow 21 = .ok (.iload 5, 2) := by decide +kernel
theorem dX0_follow_23 : decode cX0_follow 23 = .ok (.invokevirtual 43, 3) := by decide +kernel
theorem dX0_follow_26 : decode cX0_follow 26 = .ok (.ifCond .ne 10, 3) := by decide +kernel
theorem dX0_follow_29 : decode cX0_follow 29 = .ok (.aload_n 0, 1) := by decide +kernel
theorem dX0_follow_30 : decode cX0_follow 30 = .ok (.iload 5, 2) := by decide +kernel
theorem dX0_follow_32 : decode cX0_follow 32 = .ok (.iload_n 3, 1) := by decide +kernel
theorem dX0_follow_33 : decode cX0_follow 33 = .ok (.invokevirtual 47, 3) := by decide +kernel
theorem dX0_follow_36 : decode cX0_follow 36 = .ok (.iinc 4 1, 3) := by decide +kernel
theorem dX0_follow_39 : decode cX0_follow 39 = .ok (.goto (-36), 3) := by decide +kernel
theorem dX0_follow_42 : decode cX0_follow 42 = .ok (.aload_n 0, 1) := by decide +kernel
theorem dX0_follow_43 : decode cX0_follow 43 = .ok (.iload_n 3, 1) := by decide +kernel
theorem dX0_follow_44 : decode cX0_follow 44 = .ok (.invokevirtual 51, 3) := by decide +kernel
theorem dX0_follow_47 : decode cX0_follow 47 = .ok (.iconst 0, 1) := by decide +kernel
theorem dX0_follow_48 : decode cX0_follow 48 = .ok (.istore 4, 2) := by decide +kernel
theorem dX0_follow_50 : decode cX0_follow 50 = .ok (.iload 4, 2) := by decide +kernel
theorem dX0_follow_52 : decode cX0_follow 52 = .ok (.aload_n 1, 1) := by decide +kernel
theorem dX0_follow_53 : decode cX0_follow 53 = .ok (.getfield 34, 3) := by decide +kernel
theorem dX0_follow_56 : decode cX0_follow 56 = .ok (.if_icmp .ge 50, 3) := by decide +kernel
theorem dX0_follow_59 : decode cX0_follow 59 = .ok (.iload 4, 2) := by decide +kernel
theorem dX0_follow_61 : decode cX0_follow 61 = .ok (.iload_n 2, 1) := by decide +kernel
theorem dX0_follow_62 : decode cX0_follow 62 = .ok (.invokestatic 39, 3) := by decide +kernel
theorem dX0_follow_65 : decode cX0_follow 65 = .ok (.istore 5, 2) := by decide +kernel
theorem dX0_follow_67 : decode cX0_follow 67 = .ok (.aload_n 1, 1) := by decide +kernel
theorem dX0_follow_68 : decode cX0_follow 68 = .ok (.iload 5, 2) := by decide +kernel
theorem dX0_follow_70 : decode cX0_follow 70 = .ok (.invokevirtual 43, 3) := by decide +kernel
theorem dX0_follow_73 : decode cX0_follow 73 = .ok (.ifCond .eq 27, 3) := by decide +kernel
theorem dX0_follow_76 : decode cX0_follow 76 = .ok (.aload_n 0, 1) := by decide +kernel
theorem dX0_follow_77 : decode cX0_follow 77 = .ok (.getfield 9, 3) := by decide +kernel
theorem dX0_follow_80 : decode cX0_follow 80 = .ok (.iload 5, 2) := by decide +kernel
theorem dX0_follow_82 : decode cX0_follow 82 = .ok (.caload, 1) := by decide +kernel
theorem dX0_follow_83 : decode cX0_follow 83 = .ok (.bipush 45, 2) := by decide +kernel
theorem dX0_follow_85 : decode cX0_follow 85 = .ok (.if_icmp .ne 15, 3) := by decide +kernel
theorem dX0_follow_88 : decode cX0_follow 88 = .ok (.aload_n 0, 1) := by decide +kernel
theorem dX0_follow_89 : decode cX0_follow 89 = .ok (.iload 5, 2) := by decide +kernel
theorem dX0_follow_91 : decode cX0_follow 91 = .ok (.iload_n 3, 1) := by decide +kernel
theorem dX0_follow_92 : decode cX0_follow 92 = .ok (.invokevirtual 55, 3) := by decide +kernel
theorem dX0_follow_95 : decode cX0_follow 95 = .ok (.aload_n 0, 1) := by decide +kernel
theorem dX0_follow_96 : decode cX0_follow 96 = .ok (.iload_n 3, 1) := by decide +kernel
theorem dX0_follow_97 : decode cX0_follow 97 = .ok (.invokevirtual 51, 3) := by decide +kernel
theorem dX0_follow_100 : decode cX0_follow 100 = .ok (.iinc 4 1, 3) := by decide +kernel
theorem dX0_follow_103 : decode cX0_follow 103 = .ok (.goto (-53), 3) := by decide +kernel
theorem dX0_follow_106 : decode cX0_follow 106 = .ok (.return_, 1) := by decide +kernel
theorem dX0_serve_0 : decode cX0_serve 0 = .ok (.iconst 0, 1) := by decide +kernel
theorem dX0_serve_1 : decode cX0_serve 1 = .ok (.istore_n 2, 1) := by decide +kernel
theorem dX0_serve_2 : decode cX0_serve 2 = .ok (.iload_n 2, 1) := by decide +kernel
theorem dX0_serve_3 : decode cX0_serve 3 = .ok (.aload_n 0, 1) := by decide +kernel
theorem dX0_serve_4 : decode cX0_serve 4 = .ok (.getfield 20, 3) := by decide +kernel
theorem dX0_serve_7 : decode cX0_serve 7 = .ok (.iload_n 1, 1) := by decide +kernel
theorem dX0_serve_8 : decode cX0_serve 8 = .ok (.iaload, 1) := by decide +kernel
theorem dX0_serve_9 : decode cX0_serve 9 = .ok (.if_icmp .ge 53, 3) := by decide +kernel
theorem dX0_serve_12 : decode cX0_serve 12 = .ok (.aload_n 0, 1) := by decide +kernel
theorem dX0_serve_13 : decode cX0_serve 13 = .ok (.getfield 24, 3) := by decide +kernel
theorem dX0_serve_16 : decode cX0_serve 16 = .ok (.iload_n 1, 1) := by decide +kernel
theorem dX0_serve_17 : decode cX0_serve 17 = .ok (.iaload, 1) := by decide +kernel
theorem dX0_serve_18 : decode cX0_serve 18 = .ok (.ifCond .le 44, 3) := by decide +kernel
theorem dX0_serve_21 : decode cX0_serve 21 = .ok (.aload_n 0, 1) := by decide +kernel
theorem dX0_serve_22 : decode cX0_serve 22 = .ok (.getfield 9, 3) := by decide +kernel
theorem dX0_serve_25 : decode cX0_serve 25 = .ok (.aload_n 0, 1) := by decide +kernel
theorem dX0_serve_26 : decode cX0_serve 26 = .ok (.getfield 17, 3) := by decide +kernel
theorem dX0_serve_29 : decode cX0_serve 29 = .ok (.iload_n 1, 1) := by decide +kernel
theorem dX0_serve_30 : decode cX0_serve 30 = .ok (.aaload, 1) := by decide +kernel
theorem dX0_serve_31 : decode cX0_serve 31 = .ok (.iload_n 2, 1) := by decide +kernel
theorem dX0_serve_32 : decode cX0_serve 32 = .ok (.iaload, 1) := by decide +kernel
theorem dX0_serve_33 : decode cX0_serve 33 = .ok (.bipush 111, 2) := by decide +kernel
theorem dX0_serve_35 : decode cX0_serve 35 = .ok (.castore, 1) := by decide +kernel
theorem dX0_serve_36 : decode cX0_serve 36 = .ok (.aload_n 0, 1) := by decide +kernel
theorem dX0_serve_37 : decode cX0_serve 37 = .ok (.getfield 24, 3) := by decide +kernel
theorem dX0_serve_40 : decode cX0_serve 40 = .ok (.iload_n 1, 1) := by decide +kernel
theorem dX0_serve_41 : decode cX0_serve 41 = .ok (.dup2, 1) := by decide +kernel
theorem dX0_serve_42 : decode cX0_serve 42 = .ok (.iaload, 1) := by decide +kernel
theorem dX0_serve_43 : decode cX0_serve 43 = .ok (.iconst 1, 1) := by decide +kernel
theorem dX0_serve_44 : decode cX0_serve 44 = .ok (.isub, 1) := by decide +kernel
theorem dX0_serve_45 : decode cX0_serve 45 = .ok (.iastore, 1) := by decide +kernel
theorem dX0_serve_46 : decode cX0_serve 46 = .ok (.aload_n 0, 1) := by decide +kernel
theorem dX0_serve_47 : decode cX0_serve 47 = .ok (.getfield 27, 3) := by decide +kernel
theorem dX0_serve_50 : decode cX0_serve 50 = .ok (.iload_n 1, 1) := by decide +kernel
theorem dX0_serve_51 : decode cX0_serve 51 = .ok (.dup2, 1) := by decide +kernel
theorem dX0_serve_52 : decode cX0_serve 52 = .ok (.iaload, 1) := by decide +kernel
theorem dX0_serve_53 : decode cX0_serve 53 = .ok (.iconst 1, 1) := by decide +kernel
theorem dX0_serve_54 : decode cX0_serve 54 = .ok (.iadd, 1) := by decide +kernel
theorem dX0_serve_55 : decode cX0_serve 55 = .ok (.iastore, 1) := by decide +kernel
theorem dX0_serve_56 : decode cX0_serve 56 = .ok (.iinc 2 1, 3) := by decide +kernel
theorem dX0_serve_59 : decode cX0_serve 59 = .ok (.goto (-57), 3) := by decide +kernel
theorem dX0_serve_62 : decode cX0_serve 62 = .ok (.aload_n 0, 1) := by decide +kernel
theorem dX0_serve_63 : decode cX0_serve 63 = .ok (.iload_n 1, 1) := by decide +kernel
theorem dX0_serve_64 : decode cX0_serve 64 = .ok (.iconst 0, 1) := by decide +kernel
theorem dX0_serve_65 : decode cX0_serve 65 = .ok (.iload_n 2, 1) := by decide +kernel
theorem dX0_serve_66 : decode cX0_serve 66 = .ok (.invokevirtual 58, 3) := by decide +kernel
theorem dX0_serve_69 : decode cX0_serve 69 = .ok (.return_, 1) := by decide +kernel
theorem dX0_isStockLeftOver_0 : decode cX0_isStockLeftOver 0 = .ok (.iconst 0, 1) := by decide +kernel
theorem dX0_isStockLeftOver_1 : decode cX0_isStockLeftOver 1 = .ok (.istore_n 1, 1) := by decide +kernel
theorem dX0_isStockLeftOver_2 : decode cX0_isStockLeftOver 2 = .ok (.iload_n 1, 1) := by decide +kernel
theorem dX0_isStockLeftOver_3 : decode cX0_isStockLeftOver 3 = .ok (.iconst 4, 1) := by decide +kernel
theorem dX0_isStockLeftOver_4 : decode cX0_isStockLeftOver 4 = .ok (.if_icmp .ge 29, 3) := by decide +kernel
theorem dX0_isStockLeftOver_7 : decode cX0_isStockLeftOver 7 = .ok (.aload_n 0, 1) := by decide +kernel
theorem dX0_isStockLeftOver_8 : decode cX0_isStockLeftOver 8 = .ok (.getfield 24, 3) := by decide +kernel
theorem dX0_isStockLeftOver_11 : decode cX0_isStockLeftOver 11 = .ok (.iload_n 1, 1) := by decide +kernel
theorem dX0_isStockLeftOver_12 : decode cX0_isStockLeftOver 12 = .ok (.iaload, 1) := by decide +kernel
theorem dX0_isStockLeftOver_13 : decode cX0_isStockLeftOver 13 = .ok (.ifCond .le 14, 3) := by decide +kernel
theorem dX0_isStockLeftOver_16 : decode cX0_isStockLeftOver 16 = .ok (.aload_n 0, 1) := by decide +kernel
theorem dX0_isStockLeftOver_17 : decode cX0_isStockLeftOver 17 = .ok (.getfield 20, 3) := by decide +kernel
theorem dX0_isStockLeftOver_20 : decode cX0_isStockLeftOver 20 = .ok (.iload_n 1, 1) := by decide +kernel
theorem dX0_isStockLeftOver_21 : decode cX0_isStockLeftOver 21 = .ok (.iaload, 1) := by decide +kernel
theorem dX0_isStockLeftOver_22 : decode cX0_isStockLeftOver 22 = .ok (.ifCond .le 5, 3) := by decide +kernel
theorem dX0_isStockLeftOver_25 : decode cX0_isStockLeftOver 25 = .ok (.iconst 0, 1) := by decide +kernel
theorem dX0_isStockLeftOver_26 : decode cX0_isStockLeftOver 26 = .ok (.ireturn, 1) := by decide +kernel
theorem dX0_isStockLeftOver_27 : decode cX0_isStockLeftOver 27 = .ok (.iinc 1 1, 3) := by decide +kernel
theorem dX0_isStockLeftOver_30 : decode cX0_isStockLeftOver 30 = .ok (.goto (-28), 3) := by decide +kernel
theorem dX0_isStockLeftOver_33 : decode cX0_isStockLeftOver 33 = .ok (.iconst 1, 1) := by decide +kernel
theorem dX0_isStockLeftOver_34 : decode cX0_isStockLeftOver 34 = .ok (.ireturn, 1) := by decide +kernel
theorem dX0_takeAway_0 : decode cX0_takeAway 0 = .ok (.aload_n 0, 1) := by decide +kernel
theorem dX0_takeAway_1 : decode cX0_takeAway 1 = .ok (.getfield 9, 3) := by decide +kernel
theorem dX0_takeAway_4 : decode cX0_takeAway 4 = .ok (.iload_n 1, 1) := by decide +kernel
theorem dX0_takeAway_5 : decode cX0_takeAway 5 = .ok (.caload, 1) := by decide +kernel
theorem dX0_takeAway_6 : decode cX0_takeAway 6 = .ok (.bipush 111, 2) := by decide +kernel
theorem dX0_takeAway_8 : decode cX0_takeAway 8 = .ok (.if_icmp .ne 36, 3) := by decide +kernel
theorem dX0_takeAway_11 : decode cX0_takeAway 11 = .ok (.aload_n 0, 1) := by decide +kernel
theorem dX0_takeAway_12 : decode cX0_takeAway 12 = .ok (.dup, 1) := by decide +kernel
theorem dX0_takeAway_13 : decode cX0_takeAway 13 = .ok (.getfield 30, 3) := by decide +kernel
theorem dX0_takeAway_16 : decode cX0_takeAway 16 = .ok (.iconst 1, 1) := by decide +kernel
theorem dX0_takeAway_17 : decode cX0_takeAway 17 = .ok (.iadd, 1) := by decide +kernel
theorem dX0_takeAway_18 : decode cX0_takeAway 18 = .ok (.putfield 30, 3) := by decide +kernel
theorem dX0_takeAway_21 : decode cX0_takeAway 21 = .ok (.aload_n 0, 1) := by decide +kernel
theorem dX0_takeAway_22 : decode cX0_takeAway 22 = .ok (.getfield 24, 3) := by decide +kernel
theorem dX0_takeAway_25 : decode cX0_takeAway 25 = .ok (.iload_n 2, 1) := by decide +kernel
theorem dX0_takeAway_26 : decode cX0_takeAway 26 = .ok (.dup2, 1) := by decide +kernel
theorem dX0_takeAway_27 : decode cX0_takeAway 27 = .ok (.iaload, 1) := by decide +kernel
theorem dX0_takeAway_28 : decode cX0_takeAway 28 = .ok (.iconst 1, 1) := by decide +kernel
theorem dX0_takeAway_29 : decode cX0_takeAway 29 = .ok (.iadd, 1) := by decide +kernel
theorem dX0_takeAway_30 : decode cX0_takeAway 30 = .ok (.iastore, 1) := by decide +kernel
theorem dX0_takeAway_31 : decode cX0_takeAway 31 = .ok (.aload_n 0, 1) := by decide +kernel
theorem dX0_takeAway_32 : decode cX0_takeAway 32 = .ok (.getfield 27, 3) := by decide +kernel
theorem dX0_takeAway_35 : decode cX0_takeAway 35 = .ok (.iload_n 2, 1) := by decide +kernel
theorem dX0_takeAway_36 : decode cX0_takeAway 36 = .ok (.dup2, 1) := by decide +kernel
theorem dX0_takeAway_37 : decode cX0_takeAway 37 = .ok (.iaload, 1) := by decide +kernel
theorem dX0_takeAway_38 : decode cX0_takeAway 38 = .ok (.iconst 1, 1) := by decide +kernel
theorem dX0_takeAway_39 : decode cX0_takeAway 39 = .ok (.isub, 1) := by decide +kernel
theorem dX0_takeAway_40 : decode cX0_takeAway 40 = .ok (.iastore, 1) := by decide +kernel
theorem dX0_takeAway_41 : decode cX0_takeAway 41 = .ok (.goto 20, 3) := by decide +kernel
theorem dX0_takeAway_44 : decode cX0_takeAway 44 = .ok (.aload_n 0, 1) := by decide +kernel
theorem dX0_takeAway_45 : decode cX0_takeAway 45 = .ok (.getfield 9, 3) := by decide +kernel
theorem dX0_takeAway_48 : decode cX0_takeAway 48 = .ok (.iload_n 1, 1) := by decide +kernel
theorem dX0_takeAway_49 : decode cX0_takeAway 49 = .ok (.caload, 1) := by decide +kernel
theorem dX0_takeAway_50 : decode cX0_takeAway 50 = .ok (.bipush 113, 2) := by decide +kernel
theorem dX0_takeAway_52 : decode cX0_takeAway 52 = .ok (.if_icmp .ne 9, 3) := by decide +kernel
theorem dX0_takeAway_55 : decode cX0_takeAway 55 = .ok (.aload_n 0, 1) := by decide +kernel
theorem dX0_takeAway_56 : decode cX0_takeAway 56 = .ok (.iload_n 1, 1) := by decide +kernel
theorem dX0_takeAway_57 : decode cX0_takeAway 57 = .ok (.iload_n 2, 1) := by decide +kernel
theorem dX0_takeAway_58 : decode cX0_takeAway 58 = .ok (.invokevirtual 62, 3) := by decide +kernel
theorem dX0_takeAway_61 : decode cX0_takeAway 61 = .ok (.aload_n 0, 1) := by decide +kernel
theorem dX0_takeAway_62 : decode cX0_takeAway 62 = .ok (.getfield 9, 3) := by decide +kernel
theorem dX0_takeAway_65 : decode cX0_takeAway 65 = .ok (.iload_n 1, 1) := by decide +kernel
theorem dX0_takeAway_66 : decode cX0_takeAway 66 = .ok (.bipush 45, 2) := by decide +kernel
theorem dX0_takeAway_68 : decode cX0_takeAway 68 = .ok (.castore, 1) := by decide +kernel
theorem dX0_takeAway_69 : decode cX0_takeAway 69 = .ok (.return_, 1) := by decide +kernel
theorem dX0_enqueue_0 : decode cX0_enqueue 0 = .ok (.aload_n 0, 1) := by decide +kernel
theorem dX0_enqueue_1 : decode cX0_enqueue 1 = .ok (.getfield 20, 3) := by decide +kernel
theorem dX0_enqueue_4 : decode cX0_enqueue 4 = .ok (.iload_n 2, 1) := by decide +kernel
theorem dX0_enqueue_5 : decode cX0_enqueue 5 = .ok (.iaload, 1) := by decide +kernel
theorem dX0_enqueue_6 : decode cX0_enqueue 6 = .ok (.bipush 40, 2) := by decide +kernel
theorem dX0_enqueue_8 : decode cX0_enqueue 8 = .ok (.if_icmp .ge 35, 3) := by decide +kernel
theorem dX0_enqueue_11 : decode cX0_enqueue 11 = .ok (.aload_n 0, 1) := by decide +kernel
theorem dX0_enqueue_12 : decode cX0_enqueue 12 = .ok (.getfield 17, 3) := by decide +kernel
theorem dX0_enqueue_15 : decode cX0_enqueue 15 = .ok (.iload_n 2, 1) := by decide +kernel
theorem dX0_enqueue_16 : decode cX0_enqueue 16 = .ok (.aaload, 1) := by decide +kernel
theorem dX0_enqueue_17 : decode cX0_enqueue 17 = .ok (.aload_n 0, 1) := by decide +kernel
theorem dX0_enqueue_18 : decode cX0_enqueue 18 = .ok (.getfield 20, 3) := by decide +kernel
theorem dX0_enqueue_21 : decode cX0_enqueue 21 = .ok (.iload_n 2, 1) := by decide +kernel
theorem dX0_enqueue_22 : decode cX0_enqueue 22 = .ok (.iaload, 1) := by decide +kernel
theorem dX0_enqueue_23 : decode cX0_enqueue 23 = .ok (.iload_n 1, 1) := by decide +kernel
theorem dX0_enqueue_24 : decode cX0_enqueue 24 = .ok (.iastore, 1) := by decide +kernel
theorem dX0_enqueue_25 : decode cX0_enqueue 25 = .ok (.aload_n 0, 1) := by decide +kernel
theorem dX0_enqueue_26 : decode cX0_enqueue 26 = .ok (.getfield 20, 3) := by decide +kernel
theorem dX0_enqueue_29 : decode cX0_enqueue 29 = .ok (.iload_n 2, 1) := by decide +kernel
theorem dX0_enqueue_30 : decode cX0_enqueue 30 = .ok (.dup2, 1) := by decide +kernel
theorem dX0_enqueue_31 : decode cX0_enqueue 31 = .ok (.iaload, 1) := by decide +kernel
theorem dX0_enqueue_32 : decode cX0_enqueue 32 = .ok (.iconst 1, 1) := by decide +kernel
theorem dX0_enqueue_33 : decode cX0_enqueue 33 = .ok (.iadd, 1) := by decide +kernel
theorem dX0_enqueue_34 : decode cX0_enqueue 34 = .ok (.iastore, 1) := by decide +kernel
theorem dX0_enqueue_35 : decode cX0_enqueue 35 = .ok (.aload_n 0, 1) := by decide +kernel
theorem dX0_enqueue_36 : decode cX0_enqueue 36 = .ok (.getfield 9, 3) := by decide +kernel
theorem dX0_enqueue_39 : decode cX0_enqueue 39 = .ok (.iload_n 1, 1) := by decide +kernel
theorem dX0_enqueue_40 : decode cX0_enqueue 40 = .ok (.bipush 113, 2) := by decide +kernel
theorem dX0_enqueue_42 : decode cX0_enqueue 42 = .ok (.castore, 1) := by decide +kernel
theorem dX0_enqueue_43 : decode cX0_enqueue 43 = .ok (.return_, 1) := by decide +kernel
theorem dX0_leaveQueue_0 : decode cX0_leaveQueue 0 = .ok (.iconst 0, 1) := by decide +kernel
theorem dX0_leaveQueue_1 : decode cX0_leaveQueue 1 = .ok (.istore_n 3, 1) := by decide +kernel
theorem dX0_leaveQueue_2 : decode cX0_leaveQueue 2 = .ok (.iload_n 3, 1) := by decide +kernel
theorem dX0_leaveQueue_3 : decode cX0_leaveQueue 3 = .ok (.aload_n 0, 1) := by decide +kernel
theorem dX0_leaveQueue_4 : decode cX0_leaveQueue 4 = .ok (.getfield 20, 3) := by decide +kernel
theorem dX0_leaveQueue_7 : decode cX0_leaveQueue 7 = .ok (.iload_n 2, 1) := by decide +kernel
theorem dX0_leaveQueue_8 : decode cX0_leaveQueue 8 = .ok (.iaload, 1) := by decide +kernel
theorem dX0_leaveQueue_9 : decode cX0_leaveQueue 9 = .ok (.if_icmp .ge 29, 3) := by decide +kernel
theorem dX0_leaveQueue_12 : decode cX0_leaveQueue 12 = .ok (.aload_n 0, 1) := by decide +kernel
theorem dX0_leaveQueue_13 : decode cX0_leaveQueue 13 = .ok (.getfield 17, 3) := by decide +kernel
theorem dX0_leaveQueue_16 : decode cX0_leaveQueue 16 = .ok (.iload_n 2, 1) := by decide +kernel
theorem dX0_leaveQueue_17 : decode cX0_leaveQueue 17 = .ok (.aaload, 1) := by decide +kernel
theorem dX0_leaveQueue_18 : decode cX0_leaveQueue 18 = .ok (.iload_n 3, 1) := by decide +kernel
theorem dX0_leaveQueue_19 : decode cX0_leaveQueue 19 = .ok (.iaload, 1) := by decide +kernel
theorem dX0_leaveQueue_20 : decode cX0_leaveQueue 20 = .ok (.iload_n 1, 1) := by decide +kernel
theorem dX0_leaveQueue_21 : decode cX0_leaveQueue 21 = .ok (.if_icmp .ne 11, 3) := by decide +kernel
theorem dX0_leaveQueue_24 : decode cX0_leaveQueue 24 = .ok (.aload_n 0, 1) := by decide +kernel
theorem dX0_leaveQueue_25 : decode cX0_leaveQueue 25 = .ok (.iload_n 2, 1) := by decide +kernel
theorem dX0_leaveQueue_26 : decode cX0_leaveQueue 26 = .ok (.iload_n 3, 1) := by decide +kernel
theorem dX0_leaveQueue_27 : decode cX0_leaveQueue 27 = .ok (.iconst 1, 1) := by decide +kernel
theorem dX0_leaveQueue_28 : decode cX0_leaveQueue 28 = .ok (.invokevirtual 58, 3) := by decide +kernel
theorem dX0_leaveQueue_31 : decode cX0_leaveQueue 31 = .ok (.return_, 1) := by decide +kernel
theorem dX0_leaveQueue_32 : decode cX0_leaveQueue 32 = .ok (.iinc 3 1, 3) := by decide +kernel
theorem dX0_leaveQueue_35 : decode cX0_leaveQueue 35 = .ok (.goto (-33), 3) := by decide +kernel
theorem dX0_leaveQueue_38 : decode cX0_leaveQueue 38 = .ok (.return_, 1) := by decide +kernel
theorem dX0_dropFromQueue_0 : decode cX0_dropFromQueue 0 = .ok (.iload_n 3, 1) := by decide +kernel
theorem dX0_dropFromQueue_1 : decode cX0_dropFromQueue 1 = .ok (.ifCond .ne 4, 3) := by decide +kernel
theorem dX0_dropFromQueue_4 : decode cX0_dropFromQueue 4 = .ok (.return_, 1) := by decide +kernel
theorem dX0_dropFromQueue_5 : decode cX0_dropFromQueue 5 = .ok (.aload_n 0, 1) := by decide +kernel
theorem dX0_dropFromQueue_6 : decode cX0_dropFromQueue 6 = .ok (.getfield 17, 3) := by decide +kernel
theorem dX0_dropFromQueue_9 : decode cX0_dropFromQueue 9 = .ok (.iload_n 1, 1) := by decide +kernel
theorem dX0_dropFromQueue_10 : decode cX0_dropFromQueue 10 = .ok (.aaload, 1) := by decide +kernel
theorem dX0_dropFromQueue_11 : decode cX0_dropFromQueue 11 = .ok (.astore 4, 2) := by decide +kernel
theorem dX0_dropFromQueue_13 : decode cX0_dropFromQueue 13 = .ok (.iload_n 2, 1) := by decide +kernel
theorem dX0_dropFromQueue_14 : decode cX0_dropFromQueue 14 = .ok (.istore 5, 2) := by decide +kernel
theorem dX0_dropFromQueue_16 : decode cX0_dropFromQueue 16 = .ok (.iload 5, 2) := by decide +kernel
theorem dX0_dropFromQueue_18 : decode cX0_dropFromQueue 18 = .ok (.iload_n 3, 1) := by decide +kernel
theorem dX0_dropFromQueue_19 : decode cX0_dropFromQueue 19 = .ok (.iadd, 1) := by decide +kernel
theorem dX0_dropFromQueue_20 : decode cX0_dropFromQueue 20 = .ok (.aload_n 0, 1) := by decide +kernel
theorem dX0_dropFromQueue_21 : decode cX0_dropFromQueue 21 = .ok (.getfield 20, 3) := by decide +kernel
theorem dX0_dropFromQueue_24 : decode cX0_dropFromQueue 24 = .ok (.iload_n 1, 1) := by decide +kernel
theorem dX0_dropFromQueue_25 : decode cX0_dropFromQueue 25 = .ok (.iaload, 1) := by decide +kernel
theorem dX0_dropFromQueue_26 : decode cX0_dropFromQueue 26 = .ok (.if_icmp .ge 21, 3) := by decide +kernel
theorem dX0_dropFromQueue_29 : decode cX0_dropFromQueue 29 = .ok (.aload 4, 2) := by decide +kernel
theorem dX0_dropFromQueue_31 : decode cX0_dropFromQueue 31 = .ok (.iload 5, 2) := by decide +kernel
theorem dX0_dropFromQueue_33 : decode cX0_dropFromQueue 33 = .ok (.aload 4, 2) := by decide +kernel
theorem dX0_dropFromQueue_35 : decode cX0_dropFromQueue 35 = .ok (.iload 5, 2) := by decide +kernel
theorem dX0_dropFromQueue_37 : decode cX0_dropFromQueue 37 = .ok (.iload_n 3, 1) := by decide +kernel
theorem dX0_dropFromQueue_38 : decode cX0_dropFromQueue 38 = .ok (.iadd, 1) := by decide +kernel
theorem dX0_dropFromQueue_39 : decode cX0_dropFromQueue 39 = .ok (.iaload, 1) := by decide +kernel
theorem dX0_dropFromQueue_40 : decode cX0_dropFromQueue 40 = .ok (.iastore, 1) := by decide +kernel
theorem dX0_dropFromQueue_41 : decode cX0_dropFromQueue 41 = .ok (.iinc 5 1, 3) := by decide +kernel
theorem dX0_dropFromQueue_44 : decode cX0_dropFromQueue 44 = .ok (.goto (-28), 3) := by decide +kernel
theorem dX0_dropFromQueue_47 : decode cX0_dropFromQueue 47 = .ok (.aload_n 0, 1) := by decide +kernel
theorem dX0_dropFromQueue_48 : decode cX0_dropFromQueue 48 = .ok (.getfield 20, 3) := by decide +kernel
theorem dX0_dropFromQueue_51 : decode cX0_dropFromQueue 51 = .ok (.iload_n 1, 1) := by decide +kernel
theorem dX0_dropFromQueue_52 : decode cX0_dropFromQueue 52 = .ok (.dup2, 1) := by decide +kernel
theorem dX0_dropFromQueue_53 : decode cX0_dropFromQueue 53 = .ok (.iaload, 1) := by decide +kernel
theorem dX0_dropFromQueue_54 : decode cX0_dropFromQueue 54 = .ok (.iload_n 3, 1) := by decide +kernel
theorem dX0_dropFromQueue_55 : decode cX0_dropFromQueue 55 = .ok (.isub, 1) := by decide +kernel
theorem dX0_dropFromQueue_56 : decode cX0_dropFromQueue 56 = .ok (.iastore, 1) := by decide +kernel
theorem dX0_dropFromQueue_57 : decode cX0_dropFromQueue 57 = .ok (.return_, 1) := by decide +kernel
theorem dX1_init_0 : decode cX1_init 0 = .ok (.aload_n 0, 1) := by decide +kernel
theorem dX1_init_1 : decode cX1_init 1 = .ok (.invokespecial 3, 3) := by decide +kernel
theorem dX1_init_4 : decode cX1_init 4 = .ok (.aload_n 0, 1) := by decide +kernel
theorem dX1_init_5 : decode cX1_init 5 = .ok (.bipush 40, 2) := by decide +kernel
theorem dX1_init_7 : decode cX1_init 7 = .ok (.newarray .int, 2) := by decide +kernel
theorem dX1_init_9 : decode cX1_init 9 = .ok (.putfield 9, 3) := by decide +kernel
theorem dX1_init_12 : decode cX1_init 12 = .ok (.aload_n 0, 1) := by decide +kernel
theorem dX1_init_13 : decode cX1_init 13 = .ok (.bipush 40, 2) := by decide +kernel
theorem dX1_init_15 : decode cX1_init 15 = .ok (.newarray .int, 2) := by decide +kernel
theorem dX1_init_17 : decode cX1_init 17 = .ok (.putfield 15, 3) := by decide +kernel
theorem dX1_init_20 : decode cX1_init 20 = .ok (.aload_n 0, 1) := by decide +kernel
theorem dX1_init_21 : decode cX1_init 21 = .ok (.bipush 8, 2) := by decide +kernel
theorem dX1_init_23 : decode cX1_init 23 = .ok (.newarray .int, 2) := by decide +kernel
theorem dX1_init_25 : decode cX1_init 25 = .ok (.putfield 18, 3) := by decide +kernel
theorem dX1_init_28 : decode cX1_init 28 = .ok (.aload_n 0, 1) := by decide +kernel
theorem dX1_init_29 : decode cX1_init 29 = .ok (.bipush 8, 2) := by decide +kernel
theorem dX1_init_31 : decode cX1_init 31 = .ok (.newarray .int, 2) := by decide +kernel
theorem dX1_init_33 : decode cX1_init 33 = .ok (.putfield 21, 3) := by decide +kernel
theorem dX1_init_36 : decode cX1_init 36 = .ok (.aload_n 0, 1) := by decide +kernel
theorem dX1_init_37 : decode cX1_init 37 = .ok (.bipush 8, 2) := by decide +kernel
theorem dX1_init_39 : decode cX1_init 39 = .ok (.newarray .int, 2) := by decide +kernel
theorem dX1_init_41 : decode cX1_init 41 = .ok (.putfield 24, 3) := by decide +kernel
theorem dX1_init_44 : decode cX1_init 44 = .ok (.aload_n 0, 1) := by decide +kernel
theorem dX1_init_45 : decode cX1_init 45 = .ok (.bipush 8, 2) := by decide +kernel
theorem dX1_init_47 : decode cX1_init 47 = .ok (.newarray .int, 2) := by decide +kernel
theorem dX1_init_49 : decode cX1_init 49 = .ok (.putfield 27, 3) := by decide +kernel
theorem dX1_init_52 : decode cX1_init 52 = .ok (.aload_n 0, 1) := by decide +kernel
theorem dX1_init_53 : decode cX1_init 53 = .ok (.iconst 0, 1) := by decide +kernel
theorem dX1_init_54 : decode cX1_init 54 = .ok (.putfield 30, 3) := by decide +kernel
theorem dX1_init_57 : decode cX1_init 57 = .ok (.return_, 1) := by decide +kernel
theorem dX1_recount_0 : decode cX1_recount 0 = .ok (.aload_n 0, 1) := by decide +kernel
theorem dX1_recount_1 : decode cX1_recount 1 = .ok (.invokevirtual 34, 3) := by decide +kernel
theorem dX1_recount_4 : decode cX1_recount 4 = .ok (.aload_n 0, 1) := by decide +kernel
theorem dX1_recount_5 : decode cX1_recount 5 = .ok (.iload_n 3, 1) := by decide +kernel
theorem dX1_recount_6 : decode cX1_recount 6 = .ok (.putfield 30, 3) := by decide +kernel
theorem dX1_recount_9 : decode cX1_recount 9 = .ok (.iconst 0, 1) := by decide +kernel
theorem dX1_recount_10 : decode cX1_recount 10 = .ok (.istore 5, 2) := by decide +kernel
theorem dX1_recount_12 : decode cX1_recount 12 = .ok (.iload 5, 2) := by decide +kernel
theorem dX1_recount_14 : decode cX1_recount 14 = .ok (.iload_n 2, 1) := by decide +kernel
theorem dX1_recount_15 : decode cX1_recount 15 = .ok (.if_icmp .ge 39, 3) := by decide +kernel
theorem dX1_recount_18 : decode cX1_recount 18 = .ok (.iload 5, 2) := by decide +kernel
theorem dX1_recount_20 : decode cX1_recount 20 = .ok (.aload_n 1, 1) := by decide +kernel
theorem dX1_recount_21 : decode cX1_recount 21 = .ok (.arraylength, 1) := by decide +kernel
theorem dX1_recount_22 : decode cX1_recount 22 = .ok (.if_icmp .ge 32, 3) := by decide +kernel
theorem dX1_recount_25 : decode cX1_recount 25 = .ok (.iload 4, 2) := by decide +kernel
theorem dX1_recount_27 : decode cX1_recount 27 = .ok (.ifCond .eq 13, 3) := by decide +kernel
theorem dX1_recount_30 : decode cX1_recount 30 = .ok (.aload_n 1, 1) := by decide +kernel
theorem dX1_recount_31 : decode cX1_recount 31 = .ok (.iload 5, 2) := by decide +kernel
theorem dX1_recount_33 : decode cX1_recount 33 = .ok (.aaload, 1) := by decide +kernel
theorem dX1_recount_34 : decode cX1_recount 34 = .ok (.getfield 37, 3) := by decide +kernel
theorem dX1_recount_37 : decode cX1_recount 37 = .ok (.ifCond .ne 11, 3) := by decide +kernel
theorem dX1_recount_40 : decode cX1_recount 40 = .ok (.aload_n 0, 1) := by decide +kernel
theorem dX1_recount_41 : decode cX1_recount 41 = .ok (.aload_n 1, 1) := by decide +kernel
theorem dX1_recount_42 : decode cX1_recount 42 = .ok (.iload 5, 2) := by decide +kernel
theorem dX1_recount_44 : decode cX1_recount 44 = .ok (.aaload, 1) := by decide +kernel
theorem dX1_recount_45 : decode cX1_recount 45 = .ok (.invokevirtual 43, 3) := by decide +kernel
theorem dX1_recount_48 : decode cX1_recount 48 = .ok (.iinc 5 1, 3) := by decide +kernel
theorem dX1_recount_51 : decode cX1_recount 51 = .ok (.goto (-39), 3) := by decide +kernel
theorem dX1_recount_54 : decode cX1_recount 54 = .ok (.aload_n 0, 1) := by decide +kernel
theorem dX1_recount_55 : decode cX1_recount 55 = .ok (.invokevirtual 47, 3) := by decide +kernel
theorem dX1_recount_58 : decode cX1_recount 58 = .ok (.return_, 1) := by decide +kernel
theorem dX1_hasSolved_0 : decode cX1_hasSolved 0 = .ok (.aload_n 0, 1) := by decide +kernel
theorem dX1_hasSolved_1 : decode cX1_hasSolved 1 = .ok (.getfield 15, 3) := by decide +kernel
theorem dX1_hasSolved_4 : decode cX1_hasSolved 4 = .ok (.iload_n 1, 1) := by decide +kernel
theorem dX1_hasSolved_5 : decode cX1_hasSolved 5 = .ok (.iaload, 1) := by decide +kernel
theorem dX1_hasSolved_6 : decode cX1_hasSolved 6 = .ok (.iconst (-1), 1) := by decide +kernel
theorem dX1_hasSolved_7 : decode cX1_hasSolved 7 = .ok (.if_icmp .eq 7, 3) := by decide +kernel
theorem dX1_hasSolved_10 : decode cX1_hasSolved 10 = .ok (.iconst 1, 1) := by decide +kernel
theorem dX1_hasSolved_11 : decode cX1_hasSolved 11 = .ok (.goto 4, 3) := by decide +kernel
theorem dX1_hasSolved_14 : decode cX1_hasSolved 14 = .ok (.iconst 0, 1) := by decide +kernel
theorem dX1_hasSolved_15 : decode cX1_hasSolved 15 = .ok (.ireturn, 1) := by decide +kernel
theorem dX1_rankOf_0 : decode cX1_rankOf 0 = .ok (.iconst 0, 1) := by decide +kernel
theorem dX1_rankOf_1 : decode cX1_rankOf 1 = .ok (.istore_n 2, 1) := by decide +kernel
theorem dX1_rankOf_2 : decode cX1_rankOf 2 = .ok (.iload_n 2, 1) := by decide +kernel
theorem dX1_rankOf_3 : decode cX1_rankOf 3 = .ok (.aload_n 0, 1) := by decide +kernel
theorem dX1_rankOf_4 : decode cX1_rankOf 4 = .ok (.getfield 30, 3) := by decide +kernel
theorem dX1_rankOf_7 : decode cX1_rankOf 7 = .ok (.iconst 1, 1) := by decide +kernel
theorem dX1_rankOf_8 : decode cX1_rankOf 8 = .ok (.isub, 1) := by decide +kernel
theorem dX1_rankOf_9 : decode cX1_rankOf 9 = .ok (.if_icmp .ge 19, 3) := by decide +kernel
theorem dX1_rankOf_12 : decode cX1_rankOf 12 = .ok (.aload_n 0, 1) := by decide +kernel
theorem dX1_rankOf_13 : decode cX1_rankOf 13 = .ok (.getfield 27, 3) := by decide +kernel
theorem dX1_rankOf_16 : decode cX1_rankOf 16 = .ok (.iload_n 2, 1) := by decide +kernel
theorem dX1_rankOf_17 : decode cX1_rankOf 17 = .ok (.iaload, 1) := by decide +kernel
theorem dX1_rankOf_18 : decode cX1_rankOf 18 = .ok (.iload_n 1, 1) := by decide +kernel
theorem dX1_rankOf_19 : decode cX1_rankOf 19 = .ok (.if_icmp .eq 9, 3) := by decide +kernel
theorem dX1_rankOf_22 : decode cX1_rankOf 22 = .ok (.iinc 2 1, 3) := by decide +kernel
theorem dX1_rankOf_25 : decode cX1_rankOf 25 = .ok (.goto (-23), 3) := by decide +kernel
theorem dX1_rankOf_28 : decode cX1_rankOf 28 = .ok (.iload_n 2, 1) := by decide +kernel
theorem dX1_rankOf_29 : decode cX1_rankOf 29 = .ok (.iconst 1, 1) := by decide +kernel
theorem dX1_rankOf_30 : decode cX1_rankOf 30 = .ok (.iadd, 1) := by decide +kernel
theorem dX1_rankOf_31 : decode cX1_rankOf 31 = .ok (.ireturn, 1) := by decide +kernel
theorem dX1_isLike_0 : decode cX1_isLike 0 = .ok (.aload_n 0, 1) := by decide +kernel
theorem dX1_isLike_1 : decode cX1_isLike 1 = .ok (.getfield 30, 3) := by decide +kernel
theorem dX1_isLike_4 : decode cX1_isLike 4 = .ok (.aload_n 1, 1) := by decide +kernel
theorem dX1_isLike_5 : decode cX1_isLike 5 = .ok (.getfield 30, 3) := by decide +kernel
theorem dX1_isLike_8 : decode cX1_isLike 8 = .ok (.if_icmp .eq 5, 3) := by decide +kernel
theorem dX1_isLike_11 : decode cX1_isLike 11 = .ok (.iconst 0, 1) := by decide +kernel
theorem dX1_isLike_12 : decode cX1_isLike 12 = .ok (.ireturn, 1) := by decide +kernel
theorem dX1_isLike_13 : decode cX1_isLike 13 = .ok (.iconst 0, 1) := by decide +kernel
theorem dX1_isLike_14 : decode cX1_isLike 14 = .ok (.istore_n 2, 1) := by decide +kernel
theorem dX1_isLike_15 : decode cX1_isLike 15 = .ok (.iload_n 2, 1) := by decide +kernel
theorem dX1_isLike_16 : decode cX1_isLike 16 = .ok (.aload_n 0, 1) := by decide +kernel
theorem dX1_isLike_17 : decode cX1_isLike 17 = .ok (.getfield 30, 3) := by decide +kernel
theorem dX1_isLike_20 : decode cX1_isLike 20 = .ok (.if_icmp .ge 56, 3) := by decide +kernel
theorem dX1_isLike_23 : decode cX1_isLike 23 = .ok (.aload_n 0, 1) := by decide +kernel
theorem dX1_isLike_24 : decode cX1_isLike 24 = .ok (.getfield 27, 3) := by decide +kernel
theorem dX1_isLike_27 : decode cX1_isLike 27 = .ok (.iload_n 2, 1) := by decide +kernel
theorem dX1_isLike_28 : decode cX1_isLike 28 = .ok (.iaload, 1) := by decide +kernel
theorem dX1_isLike_29 : decode cX1_isLike 29 = .ok (.aload_n 1, 1) := by decide +kernel
theorem dX1_isLike_30 : decode cX1_isLike 30 = .ok (.getfield 27, 3) := by decide +kernel
theorem dX1_isLike_33 : decode cX1_isLike 33 = .ok (.iload_n 2, 1) := by decide +kernel
theorem dX1_isLike_34 : decode cX1_isLike 34 = .ok (.iaload, 1) := by decide +kernel
theorem dX1_isLike_35 : decode cX1_isLike 35 = .ok (.if_icmp .ne 33, 3) := by decide +kernel
theorem dX1_isLike_38 : decode cX1_isLike 38 = .ok (.aload_n 0, 1) := by decide +kernel
theorem dX1_isLike_39 : decode cX1_isLike 39 = .ok (.getfield 18, 3) := by decide +kernel
theorem dX1_isLike_42 : decode cX1_isLike 42 = .ok (.iload_n 2, 1) := by decide +kernel
theorem dX1_isLike_43 : decode cX1_isLike 43 = .ok (.iaload, 1) := by decide +kernel
theorem dX1_isLike_44 : decode cX1_isLike 44 = .ok (.aload_n 1, 1) := by decide +kernel
theorem dX1_isLike_45 : decode cX1_isLike 45 = .ok (.getfield 18, 3) := by decide +kernel
theorem dX1_isLike_48 : decode cX1_isLike 48 = .ok (.iload_n 2, 1) := by decide +kernel
theorem dX1_isLike_49 : decode cX1_isLike 49 = .ok (.iaload, 1) := by decide +kernel
theorem dX1_isLike_50 : decode cX1_isLike 50 = .ok (.if_icmp .ne 18, 3) := by decide +kernel
theorem dX1_isLike_53 : decode cX1_isLike 53 = .ok (.aload_n 0, 1) := by decide +kernel
theorem dX1_isLike_54 : decode cX1_isLike 54 = .ok (.getfield 21, 3) := by decide +kernel
theorem dX1_isLike_57 : decode cX1_isLike 57 = .ok (.iload_n 2, 1) := by decide +kernel
theorem dX1_isLike_58 : decode cX1_isLike 58 = .ok (.iaload, 1) := by decide +kernel
theorem dX1_isLike_59 : decode cX1_isLike 59 = .ok (.aload_n 1, 1) := by decide +kernel
theorem dX1_isLike_60 : decode cX1_isLike 60 = .ok (.getfield 21, 3) := by decide +kernel
theorem dX1_isLike_63 : decode cX1_isLike 63 = .ok (.iload_n 2, 1) := by decide +kernel
theorem dX1_isLike_64 : decode cX1_isLike 64 = .ok (.iaload, 1) := by decide +kernel
theorem dX1_isLike_65 : decode cX1_isLike 65 = .ok (.if_icmp .eq 5, 3) := by decide +kernel
theorem dX1_isLike_68 : decode cX1_isLike 68 = .ok (.iconst 0, 1) := by decide +kernel
theorem dX1_isLike_69 : decode cX1_isLike 69 = .ok (.ireturn, 1) := by decide +kernel
theorem dX1_isLike_70 : decode cX1_isLike 70 = .ok (.iinc 2 1, 3) := by decide +kernel
theorem dX1_isLike_73 : decode cX1_isLike 73 = .ok (.goto (-58), 3) := by decide +kernel
theorem dX1_isLike_76 : decode cX1_isLike 76 = .ok (.iconst 1, 1) := by decide +kernel
theorem dX1_isLike_77 : decode cX1_isLike 77 = .ok (.ireturn, 1) := by decide +kernel
theorem dX1_clear_0 : decode cX1_clear 0 = .ok (.iconst 0, 1) := by decide +kernel
theorem dX1_clear_1 : decode cX1_clear 1 = .ok (.istore_n 1, 1) := by decide +kernel
theorem dX1_clear_2 : decode cX1_clear 2 = .ok (.iload_n 1, 1) := by decide +kernel
theorem dX1_clear_3 : decode cX1_clear 3 = .ok (.bipush 40, 2) := by decide +kernel
theorem dX1_clear_5 : decode cX1_clear 5 = .ok (.if_icmp .ge 23, 3) := by decide +kernel
theorem dX1_clear_8 : decode cX1_clear 8 = .ok (.aload_n 0, 1) := by decide +kernel
theorem dX1_clear_9 : decode cX1_clear 9 = .ok (.getfield 9, 3) := by decide +kernel
theorem dX1_clear_12 : decode cX1_clear 12 = .ok (.iload_n 1, 1) := by decide +kernel
theorem dX1_clear_13 : decode cX1_clear 13 = .ok (.iconst 0, 1) := by decide +kernel
theorem dX1_clear_14 : decode cX1_clear 14 = .ok (.iastore, 1) := by decide +kernel
theorem dX1_clear_15 : decode cX1_clear 15 = .ok (.aload_n 0, 1) := by decide +kernel
theorem dX1_clear_16 : decode cX1_clear 16 = .ok (.getfield 15, 3) := by decide +kernel
theorem dX1_clear_19 : decode cX1_clear 19 = .ok (.iload_n 1, 1) := by decide +kernel
theorem dX1_clear_20 : decode cX1_clear 20 = .ok (.iconst (-1), 1) := by decide +kernel
theorem dX1_clear_21 : decode cX1_clear 21 = .ok (.iastore, 1) := by decide +kernel
theorem dX1_clear_22 : decode cX1_clear 22 = .ok (.iinc 1 1, 3) := by decide +kernel
theorem dX1_clear_25 : decode cX1_clear 25 = .ok (.goto (-23), 3) := by decide +kernel
theorem dX1_clear_28 : decode cX1_clear 28 = .ok (.iconst 0, 1) := by decide +kernel
theorem dX1_clear_29 : decode cX1_clear 29 = .ok (.istore_n 1, 1) := by decide +kernel
theorem dX1_clear_30 : decode cX1_clear 30 = .ok (.iload_n 1, 1) := by decide +kernel
theorem dX1_clear_31 : decode cX1_clear 31 = .ok (.bipush 8, 2) := by decide +kernel
theorem dX1_clear_33 : decode cX1_clear 33 = .ok (.if_icmp .ge 30, 3) := by decide +kernel
theorem dX1_clear_36 : decode cX1_clear 36 = .ok (.aload_n 0, 1) := by decide +kernel
theorem dX1_clear_37 : decode cX1_clear 37 = .ok (.getfield 18, 3) := by decide +kernel
theorem dX1_clear_40 : decode cX1_clear 40 = .ok (.iload_n 1, 1) := by decide +kernel
theorem dX1_clear_41 : decode cX1_clear 41 = .ok (.iconst 0, 1) := by decide +kernel
theorem dX1_clear_42 : decode cX1_clear 42 = .ok (.iastore, 1) := by decide +kernel
theorem dX1_clear_43 : decode cX1_clear 43 = .ok (.aload_n 0, 1) := by decide +kernel
theorem dX1_clear_44 : decode cX1_clear 44 = .ok (.getfield 21, 3) := by decide +kernel
theorem dX1_clear_47 : decode cX1_clear 47 = .ok (.iload_n 1, 1) := by decide +kernel
theorem dX1_clear_48 : decode cX1_clear 48 = .ok (.iconst 0, 1) := by decide +kernel
theorem dX1_clear_49 : decode cX1_clear 49 = .ok (.iastore, 1) := by decide +kernel
theorem dX1_clear_50 : decode cX1_clear 50 = .ok (.aload_n 0, 1) := by decide +kernel
theorem dX1_clear_51 : decode cX1_clear 51 = .ok (.getfield 24, 3) := by decide +kernel
theorem dX1_clear_54 : decode cX1_clear 54 = .ok (.iload_n 1, 1) := by decide +kernel
theorem dX1_clear_55 : decode cX1_clear 55 = .ok (.iconst 0, 1) := by decide +kernel
theorem dX1_clear_56 : decode cX1_clear 56 = .ok (.iastore, 1) := by decide +kernel
theorem dX1_clear_57 : decode cX1_clear 57 = .ok (.iinc 1 1, 3) := by decide +kernel
theorem dX1_clear_60 : decode cX1_clear 60 = .ok (.goto (-30), 3) := by decide +kernel
theorem dX1_clear_63 : decode cX1_clear 63 = .ok (.return_, 1) := by decide +kernel
theorem dX1_count_0 : decode cX1_count 0 = .ok (.aload_n 1, 1) := by decide +kernel
theorem dX1_count_1 : decode cX1_count 1 = .ok (.getfield 50, 3) := by decide +kernel
theorem dX1_count_4 : decode cX1_count 4 = .ok (.aload_n 1, 1) := by decide +kernel
theorem dX1_count_5 : decode cX1_count 5 = .ok (.getfield 53, 3) := by decide +kernel
theorem dX1_count_8 : decode cX1_count 8 = .ok (.invokestatic 56, 3) := by decide +kernel
theorem dX1_count_11 : decode cX1_count 11 = .ok (.istore_n 2, 1) := by decide +kernel
theorem dX1_count_12 : decode cX1_count 12 = .ok (.aload_n 0, 1) := by decide +kernel
theorem dX1_count_13 : decode cX1_count 13 = .ok (.iload_n 2, 1) := by decide +kernel
theorem dX1_count_14 : decode cX1_count 14 = .ok (.invokevirtual 60, 3) := by decide +kernel
theorem dX1_count_17 : decode cX1_count 17 = .ok (.ifCond .eq 4, 3) := by decide +kernel
theorem dX1_count_20 : decode cX1_count 20 = .ok (.return_, 1) := by decide +kernel
theorem dX1_count_21 : decode cX1_count 21 = .ok (.aload_n 1, 1) := by decide +kernel
theorem dX1_count_22 : decode cX1_count 22 = .ok (.getfield 64, 3) := by decide +kernel
theorem dX1_count_25 : decode cX1_count 25 = .ok (.bipush 97, 2) := by decide +kernel
theorem dX1_count_27 : decode cX1_count 27 = .ok (.if_icmp .eq 14, 3) := by decide +kernel
theorem dX1_count_30 : decode cX1_count 30 = .ok (.aload_n 0, 1) := by decide +kernel
theorem dX1_count_31 : decode cX1_count 31 = .ok (.getfield 9, 3) := by decide +kernel
theorem dX1_count_34 : decode cX1_count 34 = .ok (.iload_n 2, 1) := by decide +kernel
theorem dX1_count_35 : decode cX1_count 35 = .ok (.dup2, 1) := by decide +kernel
theorem dX1_count_36 : decode cX1_count 36 = .ok (.iaload, 1) := by decide +kernel
theorem dX1_count_37 : decode cX1_count 37 = .ok (.iconst 1, 1) := by decide +kernel
theorem dX1_count_38 : decode cX1_count 38 = .ok (.iadd, 1) := by decide +kernel
theorem dX1_count_39 : decode cX1_count 39 = .ok (.iastore, 1) := by decide +kernel
theorem dX1_count_40 : decode cX1_count 40 = .ok (.return_, 1) := by decide +kernel
theorem dX1_count_41 : decode cX1_count 41 = .ok (.aload_n 0, 1) := by decide +kernel
theorem dX1_count_42 : decode cX1_count 42 = .ok (.getfield 15, 3) := by decide +kernel
theorem dX1_count_45 : decode cX1_count 45 = .ok (.iload_n 2, 1) := by decide +kernel
theorem dX1_count_46 : decode cX1_count 46 = .ok (.aload_n 1, 1) := by decide +kernel
theorem dX1_count_47 : decode cX1_count 47 = .ok (.getfield 68, 3) := by decide +kernel
theorem dX1_count_50 : decode cX1_count 50 = .ok (.iastore, 1) := by decide +kernel
theorem dX1_count_51 : decode cX1_count 51 = .ok (.aload_n 0, 1) := by decide +kernel
theorem dX1_count_52 : decode cX1_count 52 = .ok (.getfield 18, 3) := by decide +kernel
theorem dX1_count_55 : decode cX1_count 55 = .ok (.aload_n 1, 1) := by decide +kernel
theorem dX1_count_56 : decode cX1_count 56 = .ok (.getfield 50, 3) := by decide +kernel
theorem dX1_count_59 : decode cX1_count 59 = .ok (.dup2, 1) := by decide +kernel
theorem dX1_count_60 : decode cX1_count 60 = .ok (.iaload, 1) := by decide +kernel
theorem dX1_count_61 : decode cX1_count 61 = .ok (.iconst 1, 1) := by decide +kernel
theorem dX1_count_62 : decode cX1_count 62 = .ok (.iadd, 1) := by decide +kernel
theorem dX1_count_63 : decode cX1_count 63 = .ok (.iastore, 1) := by decide +kernel
theorem dX1_count_64 : decode cX1_count 64 = .ok (.aload_n 0, 1) := by decide +kernel
theorem dX1_count_65 : decode cX1_count 65 = .ok (.getfield 21, 3) := by decide +kernel
theorem dX1_count_68 : decode cX1_count 68 = .ok (.aload_n 1, 1) := by decide +kernel
theorem dX1_count_69 : decode cX1_count 69 = .ok (.getfield 50, 3) := by decide +kernel
theorem dX1_count_72 : decode cX1_count 72 = .ok (.dup2, 1) := by decide +kernel
theorem dX1_count_73 : decode cX1_count 73 = .ok (.iaload, 1) := by decide +kernel
theorem dX1_count_74 : decode cX1_count 74 = .ok (.aload_n 1, 1) := by decide +kernel
theorem dX1_count_75 : decode cX1_count 75 = .ok (.getfield 68, 3) := by decide +kernel
theorem dX1_count_78 : decode cX1_count 78 = .ok (.bipush 20, 2) := by decide +kernel
theorem dX1_count_80 : decode cX1_count 80 = .ok (.aload_n 0, 1) := by decide +kernel
theorem dX1_count_81 : decode cX1_count 81 = .ok (.getfield 9, 3) := by decide +kernel
theorem dX1_count_84 : decode cX1_count 84 = .ok (.iload_n 2, 1) := by decide +kernel
theorem dX1_count_85 : decode cX1_count 85 = .ok (.iaload, 1) := by decide +kernel
theorem dX1_count_86 : decode cX1_count 86 = .ok (.imul, 1) := by decide +kernel
theorem dX1_count_87 : decode cX1_count 87 = .ok (.iadd, 1) := by decide +kernel
theorem dX1_count_88 : decode cX1_count 88 = .ok (.iadd, 1) := by decide +kernel
theorem dX1_count_89 : decode cX1_count 89 = .ok (.iastore, 1) := by decide +kernel
theorem dX1_count_90 : decode cX1_count 90 = .ok (.aload_n 0, 1) := by decide +kernel
theorem dX1_count_91 : decode cX1_count 91 = .ok (.getfield 24, 3) := by decide +kernel
theorem dX1_count_94 : decode cX1_count 94 = .ok (.aload_n 1, 1) := by decide +kernel
theorem dX1_count_95 : decode cX1_count 95 = .ok (.getfield 50, 3) := by decide +kernel
theorem dX1_count_98 : decode cX1_count 98 = .ok (.aload_n 0, 1) := by decide +kernel
theorem dX1_count_99 : decode cX1_count 99 = .ok (.getfield 24, 3) := by decide +kernel
theorem dX1_count_102 : decode cX1_count 102 = .ok (.aload_n 1, 1) := by decide +kernel
theorem dX1_count_103 : decode cX1_count 103 = .ok (.getfield 50, 3) := by decide +kernel
theorem dX1_count_106 : decode cX1_count 106 = .ok (.iaload, 1) := by decide +kernel
theorem dX1_count_107 : decode cX1_count 107 = .ok (.aload_n 1, 1) := by decide +kernel
theorem dX1_count_108 : decode cX1_count 108 = .ok (.getfield 68, 3) := by decide +kernel
theorem dX1_count_111 : decode cX1_count 111 = .ok (.invokestatic 71, 3) := by decide +kernel
theorem dX1_count_114 : decode cX1_count 114 = .ok (.iastore, 1) := by decide +kernel
theorem dX1_count_115 : decode cX1_count 115 = .ok (.return_, 1) := by decide +kernel
theorem dX1_putInOrder_0 : decode cX1_putInOrder 0 = .ok (.iconst 0, 1) := by decide +kernel
theorem dX1_putInOrder_1 : decode cX1_putInOrder 1 = .ok (.istore_n 1, 1) := by decide +kernel
theorem dX1_putInOrder_2 : decode cX1_putInOrder 2 = .ok (.iload_n 1, 1) := by decide +kernel
theorem dX1_putInOrder_3 : decode cX1_putInOrder 3 = .ok (.aload_n 0, 1) := by decide +kernel
theorem dX1_putInOrder_4 : decode cX1_putInOrder 4 = .ok (.getfield 30, 3) := by decide +kernel
theorem dX1_putInOrder_7 : decode cX1_putInOrder 7 = .ok (.if_icmp .ge 58, 3) := by decide +kernel
theorem dX1_putInOrder_10 : decode cX1_putInOrder 10 = .ok (.iload_n 1, 1) := by decide +kernel
theorem dX1_putInOrder_11 : decode cX1_putInOrder 11 = .ok (.istore_n 2, 1) := by decide +kernel
theorem dX1_putInOrder_12 : decode cX1_putInOrder 12 = .ok (.iload_n 2, 1) := by decide +kernel
theorem dX1_putInOrder_13 : decode cX1_putInOrder 13 = .ok (.ifCond .le 39, 3) := by decide +kernel
theorem dX1_putInOrder_16 : decode cX1_putInOrder 16 = .ok (.aload_n 0, 1) := by decide +kernel
theorem dX1_putInOrder_17 : decode cX1_putInOrder 17 = .ok (.iload_n 1, 1) := by decide +kernel
theorem dX1_putInOrder_18 : decode cX1_putInOrder 18 = .ok (.aload_n 0, 1) := by decide +kernel
theorem dX1_putInOrder_19 : decode cX1_putInOrder 19 = .ok (.getfield 27, 3) := by decide +kernel
theorem dX1_putInOrder_22 : decode cX1_putInOrder 22 = .ok (.iload_n 2, 1) := by decide +kernel
theorem dX1_putInOrder_23 : decode cX1_putInOrder 23 = .ok (.iconst 1, 1) := by decide +kernel
theorem dX1_putInOrder_24 : decode cX1_putInOrder 24 = .ok (.isub, 1) := by decide +kernel
theorem dX1_putInOrder_25 : decode cX1_putInOrder 25 = .ok (.iaload, 1) := by decide +kernel
theorem dX1_putInOrder_26 : decode cX1_putInOrder 26 = .ok (.invokevirtual 76, 3) := by decide +kernel
theorem dX1_putInOrder_29 : decode cX1_putInOrder 29 = .ok (.ifCond .eq 23, 3) := by decide +kernel
theorem dX1_putInOrder_32 : decode cX1_putInOrder 32 = .ok (.aload_n 0, 1) := by decide +kernel
theorem dX1_putInOrder_33 : decode cX1_putInOrder 33 = .ok (.getfield 27, 3) := by decide +kernel
theorem dX1_putInOrder_36 : decode cX1_putInOrder 36 = .ok (.iload_n 2, 1) := by decide +kernel
theorem dX1_putInOrder_37 : decode cX1_putInOrder 37 = .ok (.aload_n 0, 1) := by decide +kernel
theorem dX1_putInOrder_38 : decode cX1_putInOrder 38 = .ok (.getfield 27, 3) := by decide +kernel
theorem dX1_putInOrder_41 : decode cX1_putInOrder 41 = .ok (.iload_n 2, 1) := by decide +kernel
theorem dX1_putInOrder_42 : decode cX1_putInOrder 42 = .ok (.iconst 1, 1) := by decide +kernel
theorem dX1_putInOrder_43 : decode cX1_putInOrder 43 = .ok (.isub, 1) := by decide +kernel
theorem dX1_putInOrder_44 : decode cX1_putInOrder 44 = .ok (.iaload, 1) := by decide +kernel
theorem dX1_putInOrder_45 : decode cX1_putInOrder 45 = .ok (.iastore, 1) := by decide +kernel
theorem dX1_putInOrder_46 : decode cX1_putInOrder 46 = .ok (.iinc 2 (-1), 3) := by decide +kernel
theorem dX1_putInOrder_49 : decode cX1_putInOrder 49 = .ok (.goto (-37), 3) := by decide +kernel
theorem dX1_putInOrder_52 : decode cX1_putInOrder 52 = .ok (.aload_n 0, 1) := by decide +kernel
theorem dX1_putInOrder_53 : decode cX1_putInOrder 53 = .ok (.getfield 27, 3) := by decide +kernel
theorem dX1_putInOrder_56 : decode cX1_putInOrder 56 = .ok (.iload_n 2, 1) := by decide +kernel
theorem dX1_putInOrder_57 : decode cX1_putInOrder 57 = .ok (.iload_n 1, 1) := by decide +kernel
theorem dX1_putInOrder_58 : decode cX1_putInOrder 58 = .ok (.iastore, 1) := by decide +kernel
theorem dX1_putInOrder_59 : decode cX1_putInOrder 59 = .ok (.iinc 1 1, 3) := by decide +kernel
theorem dX1_putInOrder_62 : decode cX1_putInOrder 62 = .ok (.goto (-60), 3) := by decide +kernel
theorem dX1_putInOrder_65 : decode cX1_putInOrder 65 = .ok (.return_, 1) := by decide +kernel
theorem dX1_isAhead_0 : decode cX1_isAhead 0 = .ok (.aload_n 0, 1) := by decide +kernel
theorem dX1_isAhead_1 : decode cX1_isAhead 1 = .ok (.getfield 18, 3) := by decide +kernel
theorem dX1_isAhead_4 : decode cX1_isAhead 4 = .ok (.iload_n 1, 1) := by decide +kernel
theorem dX1_isAhead_5 : decode cX1_isAhead 5 = .ok (.iaload, 1) := by decide +kernel
theorem dX1_isAhead_6 : decode cX1_isAhead 6 = .ok (.aload_n 0, 1) := by decide +kernel
theorem dX1_isAhead_7 : decode cX1_isAhead 7 = .ok (.getfield 18, 3) := by decide +kernel
theorem dX1_isAhead_10 : decode cX1_isAhead 10 = .ok (.iload_n 2, 1) := by decide +kernel
theorem dX1_isAhead_11 : decode cX1_isAhead 11 = .ok (.iaload, 1) := by decide +kernel
theorem dX1_isAhead_12 : decode cX1_isAhead 12 = .ok (.if_icmp .eq 24, 3) := by decide +kernel
theorem dX1_isAhead_15 : decode cX1_isAhead 15 = .ok (.aload_n 0, 1) := by decide +kernel
theorem dX1_isAhead_16 : decode cX1_isAhead 16 = .ok (.getfield 18, 3) := by decide +kernel
theorem dX1_isAhead_19 : decode cX1_isAhead 19 = .ok (.iload_n 1, 1) := by decide +kernel
theorem dX1_isAhead_20 : decode cX1_isAhead 20 = .ok (.iaload, 1) := by decide +kernel
theorem dX1_isAhead_21 : decode cX1_isAhead 21 = .ok (.aload_n 0, 1) := by decide +kernel
theorem dX1_isAhead_22 : decode cX1_isAhead 22 = .ok (.getfield 18, 3) := by decide +kernel
theorem dX1_isAhead_25 : decode cX1_isAhead 25 = .ok (.iload_n 2, 1) := by decide +kernel
theorem dX1_isAhead_26 : decode cX1_isAhead 26 = .ok (.iaload, 1) := by decide +kernel
theorem dX1_isAhead_27 : decode cX1_isAhead 27 = .ok (.if_icmp .le 7, 3) := by decide +kernel
theorem dX1_isAhead_30 : decode cX1_isAhead 30 = .ok (.iconst 1, 1) := by decide +kernel
theorem dX1_isAhead_31 : decode cX1_isAhead 31 = .ok (.goto 4, 3) := by decide +kernel
theorem dX1_isAhead_34 : decode cX1_isAhead 34 = .ok (.iconst 0, 1) := by decide +kernel
theorem dX1_isAhead_35 : decode cX1_isAhead 35 = .ok (.ireturn, 1) := by decide +kernel
theorem dX1_isAhead_36 : decode cX1_isAhead 36 = .ok (.aload_n 0, 1) := by decide +kernel
theorem dX1_isAhead_37 : decode cX1_isAhead 37 = .ok (.getfield 21, 3) := by decide +kernel
theorem dX1_isAhead_40 : decode cX1_isAhead 40 = .ok (.iload_n 1, 1) := by decide +kernel
theorem dX1_isAhead_41 : decode cX1_isAhead 41 = .ok (.iaload, 1) := by decide +kernel
theorem dX1_isAhead_42 : decode cX1_isAhead 42 = .ok (.aload_n 0, 1) := by decide +kernel
theorem dX1_isAhead_43 : decode cX1_isAhead 43 = .ok (.getfield 21, 3) := by decide +kernel
theorem dX1_isAhead_46 : decode cX1_isAhead 46 = .ok (.iload_n 2, 1) := by decide +kernel
theorem dX1_isAhead_47 : decode cX1_isAhead 47 = .ok (.iaload, 1) := by decide +kernel
theorem dX1_isAhead_48 : decode cX1_isAhead 48 = .ok (.if_icmp .eq 24, 3) := by decide +kernel
theorem dX1_isAhead_51 : decode cX1_isAhead 51 = .ok (.aload_n 0, 1) := by decide +kernel
theorem dX1_isAhead_52 : decode cX1_isAhead 52 = .ok (.getfield 21, 3) := by decide +kernel
theorem dX1_isAhead_55 : decode cX1_isAhead 55 = .ok (.iload_n 1, 1) := by decide +kernel
theorem dX1_isAhead_56 : decode cX1_isAhead 56 = .ok (.iaload, 1) := by decide +kernel
theorem dX1_isAhead_57 : decode cX1_isAhead 57 = .ok (.aload_n 0, 1) := by decide +kernel
theorem dX1_isAhead_58 : decode cX1_isAhead 58 = .ok (.getfield 21, 3) := by decide +kernel
theorem dX1_isAhead_61 : decode cX1_isAhead 61 = .ok (.iload_n 2, 1) := by decide +kernel
theorem dX1_isAhead_62 : decode cX1_isAhead 62 = .ok (.iaload, 1) := by decide +kernel
theorem dX1_isAhead_63 : decode cX1_isAhead 63 = .ok (.if_icmp .ge 7, 3) := by decide +kernel
theorem dX1_isAhead_66 : decode cX1_isAhead 66 = .ok (.iconst 1, 1) := by decide +kernel
theorem dX1_isAhead_67 : decode cX1_isAhead 67 = .ok (.goto 4, 3) := by decide +kernel
theorem dX1_isAhead_70 : decode cX1_isAhead 70 = .ok (.iconst 0, 1) := by decide +kernel
theorem dX1_isAhead_71 : decode cX1_isAhead 71 = .ok (.ireturn, 1) := by decide +kernel
theorem dX1_isAhead_72 : decode cX1_isAhead 72 = .ok (.aload_n 0, 1) := by decide +kernel
theorem dX1_isAhead_73 : decode cX1_isAhead 73 = .ok (.getfield 24, 3) := by decide +kernel
theorem dX1_isAhead_76 : decode cX1_isAhead 76 = .ok (.iload_n 1, 1) := by decide +kernel
theorem dX1_isAhead_77 : decode cX1_isAhead 77 = .ok (.iaload, 1) := by decide +kernel
theorem dX1_isAhead_78 : decode cX1_isAhead 78 = .ok (.aload_n 0, 1) := by decide +kernel
theorem dX1_isAhead_79 : decode cX1_isAhead 79 = .ok (.getfield 24, 3) := by decide +kernel
theorem dX1_isAhead_82 : decode cX1_isAhead 82 = .ok (.iload_n 2, 1) := by decide +kernel
theorem dX1_isAhead_83 : decode cX1_isAhead 83 = .ok (.iaload, 1) := by decide +kernel
theorem dX1_isAhead_84 : decode cX1_isAhead 84 = .ok (.if_icmp .eq 24, 3) := by decide +kernel
theorem dX1_isAhead_87 : decode cX1_isAhead 87 = .ok (.aload_n 0, 1) := by decide +kernel
theorem dX1_isAhead_88 : decode cX1_isAhead 88 = .ok (.getfield 24, 3) := by decide +kernel
theorem dX1_isAhead_91 : decode cX1_isAhead 91 = .ok (.iload_n 1, 1) := by decide +kernel
theorem dX1_isAhead_92 : decode cX1_isAhead 92 = .ok (.iaload, 1) := by decide +kernel
theorem dX1_isAhead_93 : decode cX1_isAhead 93 = .ok (.aload_n 0, 1) := by decide +kernel
theorem dX1_isAhead_94 : decode cX1_isAhead 94 = .ok (.getfield 24, 3) := by decide +kernel
theorem dX1_isAhead_97 : decode cX1_isAhead 97 = .ok (.iload_n 2, 1) := by decide +kernel
theorem dX1_isAhead_98 : decode cX1_isAhead 98 = .ok (.iaload, 1) := by decide +kernel
theorem dX1_isAhead_99 : decode cX1_isAhead 99 = .ok (.if_icmp .ge 7, 3) := by decide +kernel
theorem dX1_isAhead_102 : decode cX1_isAhead 102 = .ok (.iconst 1, 1) := by decide +kernel
theorem dX1_isAhead_103 : decode cX1_isAhead 103 = .ok (.goto 4, 3) := by decide +kernel
theorem dX1_isAhead_106 : decode cX1_isAhead 106 = .ok (.iconst 0, 1) := by decide +kernel
theorem dX1_isAhead_107 : decode cX1_isAhead 107 = .ok (.ireturn, 1) := by decide +kernel
theorem dX1_isAhead_108 : decode cX1_isAhead 108 = .ok (.iload_n 1, 1) := by decide +kernel
theorem dX1_isAhead_109 : decode cX1_isAhead 109 = .ok (.iload_n 2, 1) := by decide +kernel
theorem dX1_isAhead_110 : decode cX1_isAhead 110 = .ok (.if_icmp .ge 7, 3) := by decide +kernel
theorem dX1_isAhead_113 : decode cX1_isAhead 113 = .ok (.iconst 1, 1) := by decide +kernel
theorem dX1_isAhead_114 : decode cX1_isAhead 114 = .ok (.goto 4, 3) := by decide +kernel
theorem dX1_isAhead_117 : decode cX1_isAhead 117 = .ok (.iconst 0, 1) := by decide +kernel
theorem dX1_isAhead_118 : decode cX1_isAhead 118 = .ok (.ireturn, 1) := by decide +kernel
theorem dX2_init_0 : decode cX2_init 0 = .ok (.aload_n 0, 1) := by decide +kernel
theorem dX2_init_1 : decode cX2_init 1 = .ok (.invokespecial 3, 3) := by decide +kernel
theorem dX2_init_4 : decode cX2_init 4 = .ok (.aload_n 0, 1) := by decide +kernel
theorem dX2_init_5 : decode cX2_init 5 = .ok (.iconst 4, 1) := by decide +kernel
theorem dX2_init_6 : decode cX2_init 6 = .ok (.newarray .int, 2) := by decide +kernel
theorem dX2_init_8 : decode cX2_init 8 = .ok (.putfield 9, 3) := by decide +kernel
theorem dX2_init_11 : decode cX2_init 11 = .ok (.aload_n 0, 1) := by decide +kernel
theorem dX2_init_12 : decode cX2_init 12 = .ok (.bipush 6, 2) := by decide +kernel
theorem dX2_init_14 : decode cX2_init 14 = .ok (.newarray .int, 2) := by decide +kernel
theorem dX2_init_16 : decode cX2_init 16 = .ok (.putfield 15, 3) := by decide +kernel
theorem dX2_init_19 : decode cX2_init 19 = .ok (.aload_n 0, 1) := by decide +kernel
theorem dX2_init_20 : decode cX2_init 20 = .ok (.iconst 0, 1) := by decide +kernel
theorem dX2_init_21 : decode cX2_init 21 = .ok (.putfield 18, 3) := by decide +kernel
theorem dX2_init_24 : decode cX2_init 24 = .ok (.aload_n 0, 1) := by decide +kernel
theorem dX2_init_25 : decode cX2_init 25 = .ok (.iconst 0, 1) := by decide +kernel
theorem dX2_init_26 : decode cX2_init 26 = .ok (.putfield 22, 3) := by decide +kernel
theorem dX2_init_29 : decode cX2_init 29 = .ok (.aload_n 0, 1) := by decide +kernel
theorem dX2_init_30 : decode cX2_init 30 = .ok (.iconst 0, 1) := by decide +kernel
theorem dX2_init_31 : decode cX2_init 31 = .ok (.putfield 25, 3) := by decide +kernel
theorem dX2_init_34 : decode cX2_init 34 = .ok (.aload_n 0, 1) := by decide +kernel
theorem dX2_init_35 : decode cX2_init 35 = .ok (.iconst 0, 1) := by decide +kernel
theorem dX2_init_36 : decode cX2_init 36 = .ok (.putfield 28, 3) := by decide +kernel
theorem dX2_init_39 : decode cX2_init 39 = .ok (.aload_n 0, 1) := by decide +kernel
theorem dX2_init_40 : decode cX2_init 40 = .ok (.bipush 45, 2) := by decide +kernel
theorem dX2_init_42 : decode cX2_init 42 = .ok (.putfield 31, 3) := by decide +kernel
theorem dX2_init_45 : decode cX2_init 45 = .ok (.return_, 1) := by decide +kernel
theorem dX2_execute_0 : decode cX2_execute 0 = .ok (.aload_n 0, 1) := by decide +kernel
theorem dX2_execute_1 : decode cX2_execute 1 = .ok (.invokevirtual 35, 3) := by decide +kernel
theorem dX2_execute_4 : decode cX2_execute 4 = .ok (.iconst 0, 1) := by decide +kernel
theorem dX2_execute_5 : decode cX2_execute 5 = .ok (.istore 4, 2) := by decide +kernel
theorem dX2_execute_7 : decode cX2_execute 7 = .ok (.iload 4, 2) := by decide +kernel
theorem dX2_execute_9 : decode cX2_execute 9 = .ok (.iload_n 3, 1) := by decide +kernel
theorem dX2_execute_10 : decode cX2_execute 10 = .ok (.if_icmp .ge 45, 3) := by decide +kernel
theorem dX2_execute_13 : decode cX2_execute 13 = .ok (.aload_n 0, 1) := by decide +kernel
theorem dX2_execute_14 : decode cX2_execute 14 = .ok (.getfield 31, 3) := by decide +kernel
theorem dX2_execute_17 : decode cX2_execute 17 = .ok (.bipush 45, 2) := by decide +kernel
theorem dX2_execute_19 : decode cX2_execute 19 = .ok (.if_icmp .ne 36, 3) := by decide +kernel
theorem dX2_execute_22 : decode cX2_execute 22 = .ok (.aload_n 0, 1) := by decide +kernel
theorem dX2_execute_23 : decode cX2_execute 23 = .ok (.getfield 25, 3) := by decide +kernel
theorem dX2_execute_26 : decode cX2_execute 26 = .ok (.aload_n 1, 1) := by decide +kernel
theorem dX2_execute_27 : decode cX2_execute 27 = .ok (.getfield 38, 3) := by decide +kernel
theorem dX2_execute_30 : decode cX2_execute 30 = .ok (.if_icmp .ge 25, 3) := by decide +kernel
theorem dX2_execute_33 : decode cX2_execute 33 = .ok (.aload_n 0, 1) := by decide +kernel
theorem dX2_execute_34 : decode cX2_execute 34 = .ok (.dup, 1) := by decide +kernel
theorem dX2_execute_35 : decode cX2_execute 35 = .ok (.getfield 28, 3) := by decide +kernel
theorem dX2_execute_38 : decode cX2_execute 38 = .ok (.iconst 1, 1) := by decide +kernel
theorem dX2_execute_39 : decode cX2_execute 39 = .ok (.iadd, 1) := by decide +kernel
theorem dX2_execute_40 : decode cX2_execute 40 = .ok (.putfield 28, 3) := by decide +kernel
theorem dX2_execute_43 : decode cX2_execute 43 = .ok (.aload_n 0, 1) := by decide +kernel
theorem dX2_execute_44 : decode cX2_execute 44 = .ok (.aload_n 1, 1) := by decide +kernel
theorem dX2_execute_45 : decode cX2_execute 45 = .ok (.aload_n 2, 1) := by decide +kernel
theorem dX2_execute_46 : decode cX2_execute 46 = .ok (.invokevirtual 43, 3) := by decide +kernel
theorem dX2_execute_49 : decode cX2_execute 49 = .ok (.iinc 4 1, 3) := by decide +kernel
theorem dX2_execute_52 : decode cX2_execute 52 = .ok (.goto (-45), 3) := by decide +kernel
theorem dX2_execute_55 : decode cX2_execute 55 = .ok (.aload_n 0, 1) := by decide +kernel
theorem dX2_execute_56 : decode cX2_execute 56 = .ok (.getfield 31, 3) := by decide +kernel
theorem dX2_execute_59 : decode cX2_execute 59 = .ok (.bipush 45, 2) := by decide +kernel
theorem dX2_execute_61 : decode cX2_execute 61 = .ok (.if_icmp .ne 23, 3) := by decide +kernel
theorem dX2_execute_64 : decode cX2_execute 64 = .ok (.aload_n 0, 1) := by decide +kernel
theorem dX2_execute_65 : decode cX2_execute 65 = .ok (.getfield 25, 3) := by decide +kernel
theorem dX2_execute_68 : decode cX2_execute 68 = .ok (.aload_n 1, 1) := by decide +kernel
theorem dX2_execute_69 : decode cX2_execute 69 = .ok (.getfield 38, 3) := by decide +kernel
theorem dX2_execute_72 : decode cX2_execute 72 = .ok (.if_icmp .ge 12, 3) := by decide +kernel
theorem dX2_execute_75 : decode cX2_execute 75 = .ok (.aload_n 0, 1) := by decide +kernel
theorem dX2_execute_76 : decode cX2_execute 76 = .ok (.bipush 116, 2) := by decide +kernel
theorem dX2_execute_78 : decode cX2_execute 78 = .ok (.putfield 31, 3) := by decide +kernel
theorem dX2_execute_81 : decode cX2_execute 81 = .ok (.goto 38, 3) := by decide +kernel
theorem dX2_execute_84 : decode cX2_execute 84 = .ok (.aload_n 0, 1) := by decide +kernel
theorem dX2_execute_85 : decode cX2_execute 85 = .ok (.getfield 31, 3) := by decide +kernel
theorem dX2_execute_88 : decode cX2_execute 88 = .ok (.bipush 45, 2) := by decide +kernel
theorem dX2_execute_90 : decode cX2_execute 90 = .ok (.if_icmp .ne 29, 3) := by decide +kernel
theorem dX2_execute_93 : decode cX2_execute 93 = .ok (.aload_n 0, 1) := by decide +kernel
theorem dX2_execute_94 : decode cX2_execute 94 = .ok (.aload_n 2, 1) := by decide +kernel
theorem dX2_execute_95 : decode cX2_execute 95 = .ok (.aload_n 0, 1) := by decide +kernel
theorem dX2_execute_96 : decode cX2_execute 96 = .ok (.getfield 15, 3) := by decide +kernel
theorem dX2_execute_99 : decode cX2_execute 99 = .ok (.aload_n 0, 1) := by decide +kernel
theorem dX2_execute_100 : decode cX2_execute 100 = .ok (.getfield 18, 3) := by decide +kernel
theorem dX2_execute_103 : decode cX2_execute 103 = .ok (.invokevirtual 47, 3) := by decide +kernel
theorem dX2_execute_106 : decode cX2_execute 106 = .ok (.ifCond .eq 8, 3) := by decide +kernel
theorem dX2_execute_109 : decode cX2_execute 109 = .ok (.bipush 111, 2) := by decide +kernel
theorem dX2_execute_111 : decode cX2_execute 111 = .ok (.goto 5, 3) := by decide +kernel
theorem dX2_execute_114 : decode cX2_execute 114 = .ok (.bipush 119, 2) := by decide +kernel
theorem dX2_execute_116 : decode cX2_execute 116 = .ok (.putfield 31, 3) := by decide +kernel
theorem dX2_execute_119 : decode cX2_execute 119 = .ok (.return_, 1) := by decide +kernel
theorem dX2_reset_0 : decode cX2_reset 0 = .ok (.iconst 0, 1) := by decide +kernel
theorem dX2_reset_1 : decode cX2_reset 1 = .ok (.istore_n 1, 1) := by decide +kernel
theorem dX2_reset_2 : decode cX2_reset 2 = .ok (.iload_n 1, 1) := by decide +kernel
theorem dX2_reset_3 : decode cX2_reset 3 = .ok (.iconst 4, 1) := by decide +kernel
theorem dX2_reset_4 : decode cX2_reset 4 = .ok (.if_icmp .ge 16, 3) := by decide +kernel
theorem dX2_reset_7 : decode cX2_reset 7 = .ok (.aload_n 0, 1) := by decide +kernel
theorem dX2_reset_8 : decode cX2_reset 8 = .ok (.getfield 9, 3) := by decide +kernel
theorem dX2_reset_11 : decode cX2_reset 11 = .ok (.iload_n 1, 1) := by decide +kernel
theorem dX2_reset_12 : decode cX2_reset 12 = .ok (.iconst 0, 1) := by decide +kernel
theorem dX2_reset_13 : decode cX2_reset 13 = .ok (.iastore, 1) := by decide +kernel
theorem dX2_reset_14 : decode cX2_reset 14 = .ok (.iinc 1 1, 3) := by decide +kernel
theorem dX2_reset_17 : decode cX2_reset 17 = .ok (.goto (-15), 3) := by decide +kernel
theorem dX2_reset_20 : decode cX2_reset 20 = .ok (.aload_n 0, 1) := by decide +kernel
theorem dX2_reset_21 : decode cX2_reset 21 = .ok (.iconst 0, 1) := by decide +kernel
theorem dX2_reset_22 : decode cX2_reset 22 = .ok (.putfield 18, 3) := by decide +kernel
theorem dX2_reset_25 : decode cX2_reset 25 = .ok (.aload_n 0, 1) := by decide +kernel
theorem dX2_reset_26 : decode cX2_reset 26 = .ok (.iconst 0, 1) := by decide +kernel
theorem dX2_reset_27 : decode cX2_reset 27 = .ok (.putfield 22, 3) := by decide +kernel
theorem dX2_reset_30 : decode cX2_reset 30 = .ok (.aload_n 0, 1) := by decide +kernel
theorem dX2_reset_31 : decode cX2_reset 31 = .ok (.iconst 0, 1) := by decide +kernel
theorem dX2_reset_32 : decode cX2_reset 32 = .ok (.putfield 25, 3) := by decide +kernel
theorem dX2_reset_35 : decode cX2_reset 35 = .ok (.aload_n 0, 1) := by decide +kernel
theorem dX2_reset_36 : decode cX2_reset 36 = .ok (.iconst 0, 1) := by decide +kernel
theorem dX2_reset_37 : decode cX2_reset 37 = .ok (.putfield 28, 3) := by decide +kernel
theorem dX2_reset_40 : decode cX2_reset 40 = .ok (.aload_n 0, 1) := by decide +kernel
theorem dX2_reset_41 : decode cX2_reset 41 = .ok (.bipush 45, 2) := by decide +kernel
theorem dX2_reset_43 : decode cX2_reset 43 = .ok (.putfield 31, 3) := by decide +kernel
theorem dX2_reset_46 : decode cX2_reset 46 = .ok (.return_, 1) := by decide +kernel
theorem dX2_doNextStep_0 : decode cX2_doNextStep 0 = .ok (.aload_n 1, 1) := by decide +kernel
theorem dX2_doNextStep_1 : decode cX2_doNextStep 1 = .ok (.getfield 53, 3) := by decide +kernel
theorem dX2_doNextStep_4 : decode cX2_doNextStep 4 = .ok (.aload_n 0, 1) := by decide +kernel
theorem dX2_doNextStep_5 : decode cX2_doNextStep 5 = .ok (.getfield 25, 3) := by decide +kernel
theorem dX2_doNextStep_8 : decode cX2_doNextStep 8 = .ok (.caload, 1) := by decide +kernel
theorem dX2_doNextStep_9 : decode cX2_doNextStep 9 = .ok (.istore_n 3, 1) := by decide +kernel
theorem dX2_doNextStep_10 : decode cX2_doNextStep 10 = .ok (.aload_n 1, 1) := by decide +kernel
theorem dX2_doNextStep_11 : decode cX2_doNextStep 11 = .ok (.getfield 57, 3) := by decide +kernel
theorem dX2_doNextStep_14 : decode cX2_doNextStep 14 = .ok (.aload_n 0, 1) := by decide +kernel
theorem dX2_doNextStep_15 : decode cX2_doNextStep 15 = .ok (.getfield 25, 3) := by decide +kernel
theorem dX2_doNextStep_18 : decode cX2_doNextStep 18 = .ok (.iaload, 1) := by decide +kernel
theorem dX2_doNextStep_19 : decode cX2_doNextStep 19 = .ok (.istore 4, 2) := by decide +kernel
theorem dX2_doNextStep_21 : decode cX2_doNextStep 21 = .ok (.aload_n 1, 1) := by decide +kernel
theorem dX2_doNextStep_22 : decode cX2_doNextStep 22 = .ok (.getfield 60, 3) := by decide +kernel
theorem dX2_doNextStep_25 : decode cX2_doNextStep 25 = .ok (.aload_n 0, 1) := by decide +kernel
theorem dX2_doNextStep_26 : decode cX2_doNextStep 26 = .ok (.getfield 25, 3) := by decide +kernel
theorem dX2_doNextStep_29 : decode cX2_doNextStep 29 = .ok (.iaload, 1) := by decide +kernel
theorem dX2_doNextStep_30 : decode cX2_doNextStep 30 = .ok (.istore 5, 2) := by decide +kernel
theorem dX2_doNextStep_32 : decode cX2_doNextStep 32 = .ok (.aload_n 0, 1) := by decide +kernel
theorem dX2_doNextStep_33 : decode cX2_doNextStep 33 = .ok (.dup, 1) := by decide +kernel
theorem dX2_doNextStep_34 : decode cX2_doNextStep 34 = .ok (.getfield 25, 3) := by decide +kernel
theorem dX2_doNextStep_37 : decode cX2_doNextStep 37 = .ok (.iconst 1, 1) := by decide +kernel
theorem dX2_doNextStep_38 : decode cX2_doNextStep 38 = .ok (.iadd, 1) := by decide +kernel
theorem dX2_doNextStep_39 : decode cX2_doNextStep 39 = .ok (.putfield 25, 3) := by decide +kernel
theorem dX2_doNextStep_42 : decode cX2_doNextStep 42 = .ok (.iload_n 3, 1) := by decide +kernel
theorem dX2_doNextStep_43 : decode cX2_doNextStep 43 = .ok (.tableswitch 237 97 115 #[125, 237, 237, 165, 237, 237, 237, 237, 89, 181, 237, 237, 145, 209, 99, 237, 237, 237, 113], 89) := by decide +kernel
theorem dX2_doNextStep_132 : decode cX2_doNextStep 132 = .ok (.aload_n 0, 1) := by decide +kernel
theorem dX2_doNextStep_133 : decode cX2_doNextStep 133 = .ok (.iload 4, 2) := by decide +kernel
theorem dX2_doNextStep_135 : decode cX2_doNextStep 135 = .ok (.aload_n 2, 1) := by decide +kernel
theorem dX2_doNextStep_136 : decode cX2_doNextStep 136 = .ok (.invokevirtual 63, 3) := by decide +kernel
theorem dX2_doNextStep_139 : decode cX2_doNextStep 139 = .ok (.goto 149, 3) := by decide +kernel
theorem dX2_doNextStep_142 : decode cX2_doNextStep 142 = .ok (.aload_n 0, 1) := by decide +kernel
theorem dX2_doNextStep_143 : decode cX2_doNextStep 143 = .ok (.aload_n 0, 1) := by decide +kernel
theorem dX2_doNextStep_144 : decode cX2_doNextStep 144 = .ok (.getfield 9, 3) := by decide +kernel
theorem dX2_doNextStep_147 : decode cX2_doNextStep 147 = .ok (.iload 4, 2) := by decide +kernel
theorem dX2_doNextStep_149 : decode cX2_doNextStep 149 = .ok (.iaload, 1) := by decide +kernel
theorem dX2_doNextStep_150 : decode cX2_doNextStep 150 = .ok (.invokevirtual 67, 3) := by decide +kernel
theorem dX2_doNextStep_153 : decode cX2_doNextStep 153 = .ok (.goto 135, 3) := by decide +kernel
theorem dX2_doNextStep_156 : decode cX2_doNextStep 156 = .ok (.aload_n 0, 1) := by decide +kernel
theorem dX2_doNextStep_157 : decode cX2_doNextStep 157 = .ok (.getfield 9, 3) := by decide +kernel
theorem dX2_doNextStep_160 : decode cX2_doNextStep 160 = .ok (.iload 4, 2) := by decide +kernel
theorem dX2_doNextStep_162 : decode cX2_doNextStep 162 = .ok (.iload 5, 2) := by decide +kernel
theorem dX2_doNextStep_164 : decode cX2_doNextStep 164 = .ok (.iastore, 1) := by decide +kernel
theorem dX2_doNextStep_165 : decode cX2_doNextStep 165 = .ok (.goto 123, 3) := by decide +kernel
theorem dX2_doNextStep_168 : decode cX2_doNextStep 168 = .ok (.aload_n 0, 1) := by decide +kernel
theorem dX2_doNextStep_169 : decode cX2_doNextStep 169 = .ok (.getfield 9, 3) := by decide +kernel
theorem dX2_doNextStep_172 : decode cX2_doNextStep 172 = .ok (.iload 4, 2) := by decide +kernel
theorem dX2_doNextStep_174 : decode cX2_doNextStep 174 = .ok (.dup2, 1) := by decide +kernel
theorem dX2_doNextStep_175 : decode cX2_doNextStep 175 = .ok (.iaload, 1) := by decide +kernel
theorem dX2_doNextStep_176 : decode cX2_doNextStep 176 = .ok (.aload_n 0, 1) := by decide +kernel
theorem dX2_doNextStep_177 : decode cX2_doNextStep 177 = .ok (.getfield 9, 3) := by decide +kernel
theorem dX2_doNextStep_180 : decode cX2_doNextStep 180 = .ok (.iload 5, 2) := by decide +kernel
theorem dX2_doNextStep_182 : decode cX2_doNextStep 182 = .ok (.iaload, 1) := by decide +kernel
theorem dX2_doNextStep_183 : decode cX2_doNextStep 183 = .ok (.iadd, 1) := by decide +kernel
theorem dX2_doNextStep_184 : decode cX2_doNextStep 184 = .ok (.iastore, 1) := by decide +kernel
theorem dX2_doNextStep_185 : decode cX2_doNextStep 185 = .ok (.goto 103, 3) := by decide +kernel
theorem dX2_doNextStep_188 : decode cX2_doNextStep 188 = .ok (.aload_n 0, 1) := by decide +kernel
theorem dX2_doNextStep_189 : decode cX2_doNextStep 189 = .ok (.getfield 9, 3) := by decide +kernel
theorem dX2_doNextStep_192 : decode cX2_doNextStep 192 = .ok (.iload 4, 2) := by decide +kernel
theorem dX2_doNextStep_194 : decode cX2_doNextStep 194 = .ok (.dup2, 1) := by decide +kernel
theorem dX2_doNextStep_195 : decode cX2_doNextStep 195 = .ok (.iaload, 1) := by decide +kernel
theorem dX2_doNextStep_196 : decode cX2_doNextStep 196 = .ok (.aload_n 0, 1) := by decide +kernel
theorem dX2_doNextStep_197 : decode cX2_doNextStep 197 = .ok (.getfield 9, 3) := by decide +kernel
theorem dX2_doNextStep_200 : decode cX2_doNextStep 200 = .ok (.iload 5, 2) := by decide +kernel
theorem dX2_doNextStep_202 : decode cX2_doNextStep 202 = .ok (.iaload, 1) := by decide +kernel
theorem dX2_doNextStep_203 : decode cX2_doNextStep 203 = .ok (.imul, 1) := by decide +kernel
theorem dX2_doNextStep_204 : decode cX2_doNextStep 204 = .ok (.iastore, 1) := by decide +kernel
theorem dX2_doNextStep_205 : decode cX2_doNextStep 205 = .ok (.goto 83, 3) := by decide +kernel
theorem dX2_doNextStep_208 : decode cX2_doNextStep 208 = .ok (.aload_n 0, 1) := by decide +kernel
theorem dX2_doNextStep_209 : decode cX2_doNextStep 209 = .ok (.iload 4, 2) := by decide +kernel
theorem dX2_doNextStep_211 : decode cX2_doNextStep 211 = .ok (.aload_n 0, 1) := by decide +kernel
theorem dX2_doNextStep_212 : decode cX2_doNextStep 212 = .ok (.getfield 9, 3) := by decide +kernel
theorem dX2_doNextStep_215 : decode cX2_doNextStep 215 = .ok (.iload 5, 2) := by decide +kernel
theorem dX2_doNextStep_217 : decode cX2_doNextStep 217 = .ok (.iaload, 1) := by decide +kernel
theorem dX2_doNextStep_218 : decode cX2_doNextStep 218 = .ok (.invokevirtual 71, 3) := by decide +kernel
theorem dX2_doNextStep_221 : decode cX2_doNextStep 221 = .ok (.goto 67, 3) := by decide +kernel
theorem dX2_doNextStep_224 : decode cX2_doNextStep 224 = .ok (.aload_n 0, 1) := by decide +kernel
theorem dX2_doNextStep_225 : decode cX2_doNextStep 225 = .ok (.aload_n 0, 1) := by decide +kernel
theorem dX2_doNextStep_226 : decode cX2_doNextStep 226 = .ok (.getfield 9, 3) := by decide +kernel
theorem dX2_doNextStep_229 : decode cX2_doNextStep 229 = .ok (.iload 4, 2) := by decide +kernel
theorem dX2_doNextStep_231 : decode cX2_doNextStep 231 = .ok (.iaload, 1) := by decide +kernel
theorem dX2_doNextStep_232 : decode cX2_doNextStep 232 = .ok (.ifCond .eq 7, 3) := by decide +kernel
theorem dX2_doNextStep_235 : decode cX2_doNextStep 235 = .ok (.iconst 1, 1) := by decide +kernel
theorem dX2_doNextStep_236 : decode cX2_doNextStep 236 = .ok (.goto 4, 3) := by decide +kernel
theorem dX2_doNextStep_239 : decode cX2_doNextStep 239 = .ok (.iconst 0, 1) := by decide +kernel
theorem dX2_doNextStep_240 : decode cX2_doNextStep 240 = .ok (.iload 5, 2) := by decide +kernel
theorem dX2_doNextStep_242 : decode cX2_doNextStep 242 = .ok (.aload_n 1, 1) := by decide +kernel
theorem dX2_doNextStep_243 : decode cX2_doNextStep 243 = .ok (.getfield 38, 3) := by decide +kernel
theorem dX2_doNextStep_246 : decode cX2_doNextStep 246 = .ok (.invokevirtual 75, 3) := by decide +kernel
theorem dX2_doNextStep_249 : decode cX2_doNextStep 249 = .ok (.goto 39, 3) := by decide +kernel
theorem dX2_doNextStep_252 : decode cX2_doNextStep 252 = .ok (.aload_n 0, 1) := by decide +kernel
theorem dX2_doNextStep_253 : decode cX2_doNextStep 253 = .ok (.aload_n 0, 1) := by decide +kernel
theorem dX2_doNextStep_254 : decode cX2_doNextStep 254 = .ok (.getfield 9, 3) := by decide +kernel
theorem dX2_doNextStep_257 : decode cX2_doNextStep 257 = .ok (.iload 4, 2) := by decide +kernel
theorem dX2_doNextStep_259 : decode cX2_doNextStep 259 = .ok (.iaload, 1) := by decide +kernel
theorem dX2_doNextStep_260 : decode cX2_doNextStep 260 = .ok (.ifCond .ge 7, 3) := by decide +kernel
theorem dX2_doNextStep_263 : decode cX2_doNextStep 263 = .ok (.iconst 1, 1) := by decide +kernel
theorem dX2_doNextStep_264 : decode cX2_doNextStep 264 = .ok (.goto 4, 3) := by decide +kernel
theorem dX2_doNextStep_267 : decode cX2_doNextStep 267 = .ok (.iconst 0, 1) := by decide +kernel
theorem dX2_doNextStep_268 : decode cX2_doNextStep 268 = .ok (.iload 5, 2) := by decide +kernel
theorem dX2_doNextStep_270 : decode cX2_doNextStep 270 = .ok (.aload_n 1, 1) := by decide +kernel
theorem dX2_doNextStep_271 : decode cX2_doNextStep 271 = .ok (.getfield 38, 3) := by decide +kernel
theorem dX2_doNextStep_274 : decode cX2_doNextStep 274 = .ok (.invokevirtual 75, 3) := by decide +kernel
theorem dX2_doNextStep_277 : decode cX2_doNextStep 277 = .ok (.goto 11, 3) := by decide +kernel
theorem dX2_doNextStep_280 : decode cX2_doNextStep 280 = .ok (.aload_n 0, 1) := by decide +kernel
theorem dX2_doNextStep_281 : decode cX2_doNextStep 281 = .ok (.aload_n 1, 1) := by decide +kernel
theorem dX2_doNextStep_282 : decode cX2_doNextStep 282 = .ok (.getfield 38, 3) := by decide +kernel
theorem dX2_doNextStep_285 : decode cX2_doNextStep 285 = .ok (.putfield 25, 3) := by decide +kernel
theorem dX2_doNextStep_288 : decode cX2_doNextStep 288 = .ok (.return_, 1) := by decide +kernel
theorem dX2_takeInput_0 : decode cX2_takeInput 0 = .ok (.aload_n 0, 1) := by decide +kernel
theorem dX2_takeInput_1 : decode cX2_takeInput 1 = .ok (.getfield 22, 3) := by decide +kernel
theorem dX2_takeInput_4 : decode cX2_takeInput 4 = .ok (.aload_n 2, 1) := by decide +kernel
theorem dX2_takeInput_5 : decode cX2_takeInput 5 = .ok (.getfield 79, 3) := by decide +kernel
theorem dX2_takeInput_8 : decode cX2_takeInput 8 = .ok (.if_icmp .lt 10, 3) := by decide +kernel
theorem dX2_takeInput_11 : decode cX2_takeInput 11 = .ok (.aload_n 0, 1) := by decide +kernel
theorem dX2_takeInput_12 : decode cX2_takeInput 12 = .ok (.bipush 114, 2) := by decide +kernel
theorem dX2_takeInput_14 : decode cX2_takeInput 14 = .ok (.putfield 31, 3) := by decide +kernel
theorem dX2_takeInput_17 : decode cX2_takeInput 17 = .ok (.return_, 1) := by decide +kernel
theorem dX2_takeInput_18 : decode cX2_takeInput 18 = .ok (.aload_n 0, 1) := by decide +kernel
theorem dX2_takeInput_19 : decode cX2_takeInput 19 = .ok (.getfield 9, 3) := by decide +kernel
theorem dX2_takeInput_22 : decode cX2_takeInput 22 = .ok (.iload_n 1, 1) := by decide +kernel
theorem dX2_takeInput_23 : decode cX2_takeInput 23 = .ok (.aload_n 2, 1) := by decide +kernel
theorem dX2_takeInput_24 : decode cX2_takeInput 24 = .ok (.getfield 82, 3) := by decide +kernel
theorem dX2_takeInput_27 : decode cX2_takeInput 27 = .ok (.aload_n 0, 1) := by decide +kernel
theorem dX2_takeInput_28 : decode cX2_takeInput 28 = .ok (.getfield 22, 3) := by decide +kernel
theorem dX2_takeInput_31 : decode cX2_takeInput 31 = .ok (.iaload, 1) := by decide +kernel
theorem dX2_takeInput_32 : decode cX2_takeInput 32 = .ok (.iastore, 1) := by decide +kernel
theorem dX2_takeInput_33 : decode cX2_takeInput 33 = .ok (.aload_n 0, 1) := by decide +kernel
theorem dX2_takeInput_34 : decode cX2_takeInput 34 = .ok (.dup, 1) := by decide +kernel
theorem dX2_takeInput_35 : decode cX2_takeInput 35 = .ok (.getfield 22, 3) := by decide +kernel
theorem dX2_takeInput_38 : decode cX2_takeInput 38 = .ok (.iconst 1, 1) := by decide +kernel
theorem dX2_takeInput_39 : decode cX2_takeInput 39 = .ok (.iadd, 1) := by decide +kernel
theorem dX2_takeInput_40 : decode cX2_takeInput 40 = .ok (.putfield 22, 3) := by decide +kernel
theorem dX2_takeInput_43 : decode cX2_takeInput 43 = .ok (.return_, 1) := by decide +kernel
theorem dX2_putOut_0 : decode cX2_putOut 0 = .ok (.aload_n 0, 1) := by decide +kernel
theorem dX2_putOut_1 : decode cX2_putOut 1 = .ok (.getfield 18, 3) := by decide +kernel
theorem dX2_putOut_4 : decode cX2_putOut 4 = .ok (.bipush 6, 2) := by decide +kernel
theorem dX2_putOut_6 : decode cX2_putOut 6 = .ok (.if_icmp .lt 10, 3) := by decide +kernel
theorem dX2_putOut_9 : decode cX2_putOut 9 = .ok (.aload_n 0, 1) := by decide +kernel
theorem dX2_putOut_10 : decode cX2_putOut 10 = .ok (.bipush 108, 2) := by decide +kernel
theorem dX2_putOut_12 : decode cX2_putOut 12 = .ok (.putfield 31, 3) := by decide +kernel
theorem dX2_putOut_15 : decode cX2_putOut 15 = .ok (.return_, 1) := by decide +kernel
theorem dX2_putOut_16 : decode cX2_putOut 16 = .ok (.aload_n 0, 1) := by decide +kernel
theorem dX2_putOut_17 : decode cX2_putOut 17 = .ok (.getfield 15, 3) := by decide +kernel
theorem dX2_putOut_20 : decode cX2_putOut 20 = .ok (.aload_n 0, 1) := by decide +kernel
theorem dX2_putOut_21 : decode cX2_putOut 21 = .ok (.getfield 18, 3) := by decide +kernel
theorem dX2_putOut_24 : decode cX2_putOut 24 = .ok (.iload_n 1, 1) := by decide +kernel
theorem dX2_putOut_25 : decode cX2_putOut 25 = .ok (.iastore, 1) := by decide +kernel
theorem dX2_putOut_26 : decode cX2_putOut 26 = .ok (.aload_n 0, 1) := by decide +kernel
theorem dX2_putOut_27 : decode cX2_putOut 27 = .ok (.dup, 1) := by decide +kernel
theorem dX2_putOut_28 : decode cX2_putOut 28 = .ok (.getfield 18, 3) := by decide +kernel
theorem dX2_putOut_31 : decode cX2_putOut 31 = .ok (.iconst 1, 1) := by decide +kernel
theorem dX2_putOut_32 : decode cX2_putOut 32 = .ok (.iadd, 1) := by decide +kernel
theorem dX2_putOut_33 : decode cX2_putOut 33 = .ok (.putfield 18, 3) := by decide +kernel
theorem dX2_putOut_36 : decode cX2_putOut 36 = .ok (.return_, 1) := by decide +kernel
theorem dX2_divide_0 : decode cX2_divide 0 = .ok (.iload_n 2, 1) := by decide +kernel
theorem dX2_divide_1 : decode cX2_divide 1 = .ok (.ifCond .ne 10, 3) := by decide +kernel
theorem dX2_divide_4 : decode cX2_divide 4 = .ok (.aload_n 0, 1) := by decide +kernel
theorem dX2_divide_5 : decode cX2_divide 5 = .ok (.bipush 114, 2) := by decide +kernel
theorem dX2_divide_7 : decode cX2_divide 7 = .ok (.putfield 31, 3) := by decide +kernel
theorem dX2_divide_10 : decode cX2_divide 10 = .ok (.return_, 1) := by decide +kernel
theorem dX2_divide_11 : decode cX2_divide 11 = .ok (.aload_n 0, 1) := by decide +kernel
theorem dX2_divide_12 : decode cX2_divide 12 = .ok (.getfield 9, 3) := by decide +kernel
theorem dX2_divide_15 : decode cX2_divide 15 = .ok (.iload_n 1, 1) := by decide +kernel
theorem dX2_divide_16 : decode cX2_divide 16 = .ok (.dup2, 1) := by decide +kernel
theorem dX2_divide_17 : decode cX2_divide 17 = .ok (.iaload, 1) := by decide +kernel
theorem dX2_divide_18 : decode cX2_divide 18 = .ok (.iload_n 2, 1) := by decide +kernel
theorem dX2_divide_19 : decode cX2_divide 19 = .ok (.idiv, 1) := by decide +kernel
theorem dX2_divide_20 : decode cX2_divide 20 = .ok (.iastore, 1) := by decide +kernel
theorem dX2_divide_21 : decode cX2_divide 21 = .ok (.return_, 1) := by decide +kernel
theorem dX2_goIf_0 : decode cX2_goIf 0 = .ok (.iload_n 1, 1) := by decide +kernel
theorem dX2_goIf_1 : decode cX2_goIf 1 = .ok (.ifCond .eq 17, 3) := by decide +kernel
theorem dX2_goIf_4 : decode cX2_goIf 4 = .ok (.iload_n 2, 1) := by decide +kernel
theorem dX2_goIf_5 : decode cX2_goIf 5 = .ok (.iload_n 3, 1) := by decide +kernel
theorem dX2_goIf_6 : decode cX2_goIf 6 = .ok (.if_icmp .lt 12, 3) := by decide +kernel
theorem dX2_goIf_9 : decode cX2_goIf 9 = .ok (.aload_n 0, 1) := by decide +kernel
theorem dX2_goIf_10 : decode cX2_goIf 10 = .ok (.bipush 114, 2) := by decide +kernel
theorem dX2_goIf_12 : decode cX2_goIf 12 = .ok (.putfield 31, 3) := by decide +kernel
theorem dX2_goIf_15 : decode cX2_goIf 15 = .ok (.goto 12, 3) := by decide +kernel
theorem dX2_goIf_18 : decode cX2_goIf 18 = .ok (.iload_n 1, 1) := by decide +kernel
theorem dX2_goIf_19 : decode cX2_goIf 19 = .ok (.ifCond .eq 8, 3) := by decide +kernel
theorem dX2_goIf_22 : decode cX2_goIf 22 = .ok (.aload_n 0, 1) := by decide +kernel
theorem dX2_goIf_23 : decode cX2_goIf 23 = .ok (.iload_n 2, 1) := by decide +kernel
theorem dX2_goIf_24 : decode cX2_goIf 24 = .ok (.putfield 25, 3) := by decide +kernel
theorem dX2_goIf_27 : decode cX2_goIf 27 = .ok (.return_, 1) := by decide +kernel
theorem dX3_init_0 : decode cX3_init 0 = .ok (.aload_n 0, 1) := by decide +kernel
theorem dX3_init_1 : decode cX3_init 1 = .ok (.invokespecial 3, 3) := by decide +kernel
theorem dX3_init_4 : decode cX3_init 4 = .ok (.aload_n 0, 1) := by decide +kernel
theorem dX3_init_5 : decode cX3_init 5 = .ok (.iconst 4, 1) := by decide +kernel
theorem dX3_init_6 : decode cX3_init 6 = .ok (.newarray .int, 2) := by decide +kernel
theorem dX3_init_8 : decode cX3_init 8 = .ok (.putfield 9, 3) := by decide +kernel
theorem dX3_init_11 : decode cX3_init 11 = .ok (.aload_n 0, 1) := by decide +kernel
theorem dX3_init_12 : decode cX3_init 12 = .ok (.bipush 6, 2) := by decide +kernel
theorem dX3_init_14 : decode cX3_init 14 = .ok (.newarray .int, 2) := by decide +kernel
theorem dX3_init_16 : decode cX3_init 16 = .ok (.putfield 15, 3) := by decide +kernel
theorem dX3_init_19 : decode cX3_init 19 = .ok (.aload_n 0, 1) := by decide +kernel
theorem dX3_init_20 : decode cX3_init 20 = .ok (.iconst 0, 1) := by decide +kernel
theorem dX3_init_21 : decode cX3_init 21 = .ok (.putfield 18, 3) := by decide +kernel
theorem dX3_init_24 : decode cX3_init 24 = .ok (.aload_n 0, 1) := by decide +kernel
theorem dX3_init_25 : decode cX3_init 25 = .ok (.iconst 0, 1) := by decide +kernel
theorem dX3_init_26 : decode cX3_init 26 = .ok (.putfield 22, 3) := by decide +kernel
theorem dX3_init_29 : decode cX3_init 29 = .ok (.return_, 1) := by decide +kernel
theorem dX3_hasRoom_0 : decode cX3_hasRoom 0 = .ok (.iload_n 1, 1) := by decide +kernel
theorem dX3_hasRoom_1 : decode cX3_hasRoom 1 = .ok (.ifCond .eq 20, 3) := by decide +kernel
theorem dX3_hasRoom_4 : decode cX3_hasRoom 4 = .ok (.aload_n 0, 1) := by decide +kernel
theorem dX3_hasRoom_5 : decode cX3_hasRoom 5 = .ok (.getfield 22, 3) := by decide +kernel
theorem dX3_hasRoom_8 : decode cX3_hasRoom 8 = .ok (.bipush 6, 2) := by decide +kernel
theorem dX3_hasRoom_10 : decode cX3_hasRoom 10 = .ok (.if_icmp .ge 7, 3) := by decide +kernel
theorem dX3_hasRoom_13 : decode cX3_hasRoom 13 = .ok (.iconst 1, 1) := by decide +kernel
theorem dX3_hasRoom_14 : decode cX3_hasRoom 14 = .ok (.goto 20, 3) := by decide +kernel
theorem dX3_hasRoom_17 : decode cX3_hasRoom 17 = .ok (.iconst 0, 1) := by decide +kernel
theorem dX3_hasRoom_18 : decode cX3_hasRoom 18 = .ok (.goto 16, 3) := by decide +kernel
theorem dX3_hasRoom_21 : decode cX3_hasRoom 21 = .ok (.aload_n 0, 1) := by decide +kernel
theorem dX3_hasRoom_22 : decode cX3_hasRoom 22 = .ok (.getfield 18, 3) := by decide +kernel
theorem dX3_hasRoom_25 : decode cX3_hasRoom 25 = .ok (.iconst 4, 1) := by decide +kernel
theorem dX3_hasRoom_26 : decode cX3_hasRoom 26 = .ok (.if_icmp .ge 7, 3) := by decide +kernel
theorem dX3_hasRoom_29 : decode cX3_hasRoom 29 = .ok (.iconst 1, 1) := by decide +kernel
theorem dX3_hasRoom_30 : decode cX3_hasRoom 30 = .ok (.goto 4, 3) := by decide +kernel
theorem dX3_hasRoom_33 : decode cX3_hasRoom 33 = .ok (.iconst 0, 1) := by decide +kernel
theorem dX3_hasRoom_34 : decode cX3_hasRoom 34 = .ok (.ireturn, 1) := by decide +kernel
theorem dX3_append_0 : decode cX3_append 0 = .ok (.aload_n 0, 1) := by decide +kernel
theorem dX3_append_1 : decode cX3_append 1 = .ok (.iload_n 2, 1) := by decide +kernel
theorem dX3_append_2 : decode cX3_append 2 = .ok (.invokevirtual 25, 3) := by decide +kernel
theorem dX3_append_5 : decode cX3_append 5 = .ok (.ifCond .ne 5, 3) := by decide +kernel
theorem dX3_append_8 : decode cX3_append 8 = .ok (.iconst (-1), 1) := by decide +kernel
theorem dX3_append_9 : decode cX3_append 9 = .ok (.ireturn, 1) := by decide +kernel
theorem dX3_append_10 : decode cX3_append 10 = .ok (.iload_n 2, 1) := by decide +kernel
theorem dX3_append_11 : decode cX3_append 11 = .ok (.ifCond .eq 28, 3) := by decide +kernel
theorem dX3_append_14 : decode cX3_append 14 = .ok (.aload_n 0, 1) := by decide +kernel
theorem dX3_append_15 : decode cX3_append 15 = .ok (.getfield 15, 3) := by decide +kernel
theorem dX3_append_18 : decode cX3_append 18 = .ok (.aload_n 0, 1) := by decide +kernel
theorem dX3_append_19 : decode cX3_append 19 = .ok (.getfield 22, 3) := by decide +kernel
theorem dX3_append_22 : decode cX3_append 22 = .ok (.iload_n 1, 1) := by decide +kernel
theorem dX3_append_23 : decode cX3_append 23 = .ok (.iastore, 1) := by decide +kernel
theorem dX3_append_24 : decode cX3_append 24 = .ok (.aload_n 0, 1) := by decide +kernel
theorem dX3_append_25 : decode cX3_append 25 = .ok (.dup, 1) := by decide +kernel
theorem dX3_append_26 : decode cX3_append 26 = .ok (.getfield 22, 3) := by decide +kernel
theorem dX3_append_29 : decode cX3_append 29 = .ok (.iconst 1, 1) := by decide +kernel
theorem dX3_append_30 : decode cX3_append 30 = .ok (.iadd, 1) := by decide +kernel
theorem dX3_append_31 : decode cX3_append 31 = .ok (.putfield 22, 3) := by decide +kernel
theorem dX3_append_34 : decode cX3_append 34 = .ok (.aload_n 0, 1) := by decide +kernel
theorem dX3_append_35 : decode cX3_append 35 = .ok (.getfield 22, 3) := by decide +kernel
theorem dX3_append_38 : decode cX3_append 38 = .ok (.ireturn, 1) := by decide +kernel
theorem dX3_append_39 : decode cX3_append 39 = .ok (.aload_n 0, 1) := by decide +kernel
theorem dX3_append_40 : decode cX3_append 40 = .ok (.getfield 9, 3) := by decide +kernel
theorem dX3_append_43 : decode cX3_append 43 = .ok (.aload_n 0, 1) := by decide +kernel
theorem dX3_append_44 : decode cX3_append 44 = .ok (.getfield 18, 3) := by decide +kernel
theorem dX3_append_47 : decode cX3_append 47 = .ok (.iload_n 1, 1) := by decide +kernel
theorem dX3_append_48 : decode cX3_append 48 = .ok (.iastore, 1) := by decide +kernel
theorem dX3_append_49 : decode cX3_append 49 = .ok (.aload_n 0, 1) := by decide +kernel
theorem dX3_append_50 : decode cX3_append 50 = .ok (.dup, 1) := by decide +kernel
theorem dX3_append_51 : decode cX3_append 51 = .ok (.getfield 18, 3) := by decide +kernel
theorem dX3_append_54 : decode cX3_append 54 = .ok (.iconst 1, 1) := by decide +kernel
theorem dX3_append_55 : decode cX3_append 55 = .ok (.iadd, 1) := by decide +kernel
theorem dX3_append_56 : decode cX3_append 56 = .ok (.putfield 18, 3) := by decide +kernel
theorem dX3_append_59 : decode cX3_append 59 = .ok (.aload_n 0, 1) := by decide +kernel
theorem dX3_append_60 : decode cX3_append 60 = .ok (.getfield 18, 3) := by decide +kernel
theorem dX3_append_63 : decode cX3_append 63 = .ok (.ireturn, 1) := by decide +kernel
theorem dX3_clear_0 : decode cX3_clear 0 = .ok (.aload_n 0, 1) := by decide +kernel
theorem dX3_clear_1 : decode cX3_clear 1 = .ok (.getfield 18, 3) := by decide +kernel
theorem dX3_clear_4 : decode cX3_clear 4 = .ok (.aload_n 0, 1) := by decide +kernel
theorem dX3_clear_5 : decode cX3_clear 5 = .ok (.getfield 22, 3) := by decide +kernel
theorem dX3_clear_8 : decode cX3_clear 8 = .ok (.iadd, 1) := by decide +kernel
theorem dX3_clear_9 : decode cX3_clear 9 = .ok (.istore_n 1, 1) := by decide +kernel
theorem dX3_clear_10 : decode cX3_clear 10 = .ok (.aload_n 0, 1) := by decide +kernel
theorem dX3_clear_11 : decode cX3_clear 11 = .ok (.iconst 0, 1) := by decide +kernel
theorem dX3_clear_12 : decode cX3_clear 12 = .ok (.putfield 18, 3) := by decide +kernel
theorem dX3_clear_15 : decode cX3_clear 15 = .ok (.aload_n 0, 1) := by decide +kernel
theorem dX3_clear_16 : decode cX3_clear 16 = .ok (.iconst 0, 1) := by decide +kernel
theorem dX3_clear_17 : decode cX3_clear 17 = .ok (.putfield 22, 3) := by decide +kernel
theorem dX3_clear_20 : decode cX3_clear 20 = .ok (.iload_n 1, 1) := by decide +kernel
theorem dX3_clear_21 : decode cX3_clear 21 = .ok (.ireturn, 1) := by decide +kernel
theorem dX3_copyFrom_0 : decode cX3_copyFrom 0 = .ok (.aload_n 0, 1) := by decide +kernel
theorem dX3_copyFrom_1 : decode cX3_copyFrom 1 = .ok (.invokevirtual 29, 3) := by decide +kernel
theorem dX3_copyFrom_4 : decode cX3_copyFrom 4 = .ok (.pop, 1) := by decide +kernel
theorem dX3_copyFrom_5 : decode cX3_copyFrom 5 = .ok (.iconst 0, 1) := by decide +kernel
theorem dX3_copyFrom_6 : decode cX3_copyFrom 6 = .ok (.istore_n 2, 1) := by decide +kernel
theorem dX3_copyFrom_7 : decode cX3_copyFrom 7 = .ok (.iload_n 2, 1) := by decide +kernel
theorem dX3_copyFrom_8 : decode cX3_copyFrom 8 = .ok (.aload_n 1, 1) := by decide +kernel
theorem dX3_copyFrom_9 : decode cX3_copyFrom 9 = .ok (.getfield 18, 3) := by decide +kernel
theorem dX3_copyFrom_12 : decode cX3_copyFrom 12 = .ok (.if_icmp .ge 21, 3) := by decide +kernel
theorem dX3_copyFrom_15 : decode cX3_copyFrom 15 = .ok (.aload_n 0, 1) := by decide +kernel
theorem dX3_copyFrom_16 : decode cX3_copyFrom 16 = .ok (.aload_n 1, 1) := by decide +kernel
theorem dX3_copyFrom_17 : decode cX3_copyFrom 17 = .ok (.getfield 9, 3) := by decide +kernel
theorem dX3_copyFrom_20 : decode cX3_copyFrom 20 = .ok (.iload_n 2, 1) := by decide +kernel
theorem dX3_copyFrom_21 : decode cX3_copyFrom 21 = .ok (.iaload, 1) := by decide +kernel
theorem dX3_copyFrom_22 : decode cX3_copyFrom 22 = .ok (.iconst 0, 1) := by decide +kernel
theorem dX3_copyFrom_23 : decode cX3_copyFrom 23 = .ok (.invokevirtual 33, 3) := by decide +kernel
theorem dX3_copyFrom_26 : decode cX3_copyFrom 26 = .ok (.pop, 1) := by decide +kernel
theorem dX3_copyFrom_27 : decode cX3_copyFrom 27 = .ok (.iinc 2 1, 3) := by decide +kernel
theorem dX3_copyFrom_30 : decode cX3_copyFrom 30 = .ok (.goto (-23), 3) := by decide +kernel
theorem dX3_copyFrom_33 : decode cX3_copyFrom 33 = .ok (.iconst 0, 1) := by decide +kernel
theorem dX3_copyFrom_34 : decode cX3_copyFrom 34 = .ok (.istore_n 2, 1) := by decide +kernel
theorem dX3_copyFrom_35 : decode cX3_copyFrom 35 = .ok (.iload_n 2, 1) := by decide +kernel
theorem dX3_copyFrom_36 : decode cX3_copyFrom 36 = .ok (.aload_n 1, 1) := by decide +kernel
theorem dX3_copyFrom_37 : decode cX3_copyFrom 37 = .ok (.getfield 22, 3) := by decide +kernel
theorem dX3_copyFrom_40 : decode cX3_copyFrom 40 = .ok (.if_icmp .ge 21, 3) := by decide +kernel
theorem dX3_copyFrom_43 : decode cX3_copyFrom 43 = .ok (.aload_n 0, 1) := by decide +kernel
theorem dX3_copyFrom_44 : decode cX3_copyFrom 44 = .ok (.aload_n 1, 1) := by decide +kernel
theorem dX3_copyFrom_45 : decode cX3_copyFrom 45 = .ok (.getfield 15, 3) := by decide +kernel
theorem dX3_copyFrom_48 : decode cX3_copyFrom 48 = .ok (.iload_n 2, 1) := by decide +kernel
theorem dX3_copyFrom_49 : decode cX3_copyFrom 49 = .ok (.iaload, 1) := by decide +kernel
theorem dX3_copyFrom_50 : decode cX3_copyFrom 50 = .ok (.iconst 1, 1) := by decide +kernel
theorem dX3_copyFrom_51 : decode cX3_copyFrom 51 = .ok (.invokevirtual 33, 3) := by decide +kernel
theorem dX3_copyFrom_54 : decode cX3_copyFrom 54 = .ok (.pop, 1) := by decide +kernel
theorem dX3_copyFrom_55 : decode cX3_copyFrom 55 = .ok (.iinc 2 1, 3) := by decide +kernel
theorem dX3_copyFrom_58 : decode cX3_copyFrom 58 = .ok (.goto (-23), 3) := by decide +kernel
theorem dX3_copyFrom_61 : decode cX3_copyFrom 61 = .ok (.return_, 1) := by decide +kernel
theorem dX3_isExpected_0 : decode cX3_isExpected 0 = .ok (.iload_n 2, 1) := by decide +kernel
theorem dX3_isExpected_1 : decode cX3_isExpected 1 = .ok (.aload_n 0, 1) := by decide +kernel
theorem dX3_isExpected_2 : decode cX3_isExpected 2 = .ok (.getfield 22, 3) := by decide +kernel
theorem dX3_isExpected_5 : decode cX3_isExpected 5 = .ok (.if_icmp .eq 5, 3) := by decide +kernel
theorem dX3_isExpected_8 : decode cX3_isExpected 8 = .ok (.iconst 0, 1) := by decide +kernel
theorem dX3_isExpected_9 : decode cX3_isExpected 9 = .ok (.ireturn, 1) := by decide +kernel
theorem dX3_isExpected_10 : decode cX3_isExpected 10 = .ok (.iconst 0, 1) := by decide +kernel
theorem dX3_isExpected_11 : decode cX3_isExpected 11 = .ok (.istore_n 3, 1) := by decide +kernel
theorem dX3_isExpected_12 : decode cX3_isExpected 12 = .ok (.iload_n 3, 1) := by decide +kernel
theorem dX3_isExpected_13 : decode cX3_isExpected 13 = .ok (.aload_n 0, 1) := by decide +kernel
theorem dX3_isExpected_14 : decode cX3_isExpected 14 = .ok (.getfield 22, 3) := by decide +kernel
theorem dX3_isExpected_17 : decode cX3_isExpected 17 = .ok (.if_icmp .ge 23, 3) := by decide +kernel
theorem dX3_isExpected_20 : decode cX3_isExpected 20 = .ok (.aload_n 1, 1) := by decide +kernel
theorem dX3_isExpected_21 : decode cX3_isExpected 21 = .ok (.iload_n 3, 1) := by decide +kernel
theorem dX3_isExpected_22 : decode cX3_isExpected 22 = .ok (.iaload, 1) := by decide +kernel
theorem dX3_isExpected_23 : decode cX3_isExpected 23 = .ok (.aload_n 0, 1) := by decide +kernel
theorem dX3_isExpected_24 : decode cX3_isExpected 24 = .ok (.getfield 15, 3) := by decide +kernel
theorem dX3_isExpected_27 : decode cX3_isExpected 27 = .ok (.iload_n 3, 1) := by decide +kernel
theorem dX3_isExpected_28 : decode cX3_isExpected 28 = .ok (.iaload, 1) := by decide +kernel
theorem dX3_isExpected_29 : decode cX3_isExpected 29 = .ok (.if_icmp .eq 5, 3) := by decide +kernel
theorem dX3_isExpected_32 : decode cX3_isExpected 32 = .ok (.iconst 0, 1) := by decide +kernel
theorem dX3_isExpected_33 : decode cX3_isExpected 33 = .ok (.ireturn, 1) := by decide +kernel
theorem dX3_isExpected_34 : decode cX3_isExpected 34 = .ok (.iinc 3 1, 3) := by decide +kernel
theorem dX3_isExpected_37 : decode cX3_isExpected 37 = .ok (.goto (-25), 3) := by decide +kernel
theorem dX3_isExpected_40 : decode cX3_isExpected 40 = .ok (.iconst 1, 1) := by decide +kernel
theorem dX3_isExpected_41 : decode cX3_isExpected 41 = .ok (.ireturn, 1) := by decide +kernel
theorem dX4_init_0 : decode cX4_init 0 = .ok (.aload_n 0, 1) := by decide +kernel
theorem dX4_init_1 : decode cX4_init 1 = .ok (.invokespecial 3, 3) := by decide +kernel
theorem dX4_init_4 : decode cX4_init 4 = .ok (.aload_n 0, 1) := by decide +kernel
theorem dX4_init_5 : decode cX4_init 5 = .ok (.bipush 6, 2) := by decide +kernel
theorem dX4_init_7 : decode cX4_init 7 = .ok (.anewarray 9, 3) := by decide +kernel
theorem dX4_init_10 : decode cX4_init 10 = .ok (.putfield 11, 3) := by decide +kernel
theorem dX4_init_13 : decode cX4_init 13 = .ok (.aload_n 0, 1) := by decide +kernel
theorem dX4_init_14 : decode cX4_init 14 = .ok (.iconst 0, 1) := by decide +kernel
theorem dX4_init_15 : decode cX4_init 15 = .ok (.putfield 17, 3) := by decide +kernel
theorem dX4_init_18 : decode cX4_init 18 = .ok (.aload_n 0, 1) := by decide +kernel
theorem dX4_init_19 : decode cX4_init 19 = .ok (.iconst 1, 1) := by decide +kernel
theorem dX4_init_20 : decode cX4_init 20 = .ok (.putfield 21, 3) := by decide +kernel
theorem dX4_init_23 : decode cX4_init 23 = .ok (.aload_n 0, 1) := by decide +kernel
theorem dX4_init_24 : decode cX4_init 24 = .ok (.iconst 0, 1) := by decide +kernel
theorem dX4_init_25 : decode cX4_init 25 = .ok (.putfield 24, 3) := by decide +kernel
theorem dX4_init_28 : decode cX4_init 28 = .ok (.iconst 0, 1) := by decide +kernel
theorem dX4_init_29 : decode cX4_init 29 = .ok (.istore_n 1, 1) := by decide +kernel
theorem dX4_init_30 : decode cX4_init 30 = .ok (.iload_n 1, 1) := by decide +kernel
theorem dX4_init_31 : decode cX4_init 31 = .ok (.bipush 6, 2) := by decide +kernel
theorem dX4_init_33 : decode cX4_init 33 = .ok (.if_icmp .ge 22, 3) := by decide +kernel
theorem dX4_init_36 : decode cX4_init 36 = .ok (.aload_n 0, 1) := by decide +kernel
theorem dX4_init_37 : decode cX4_init 37 = .ok (.getfield 11, 3) := by decide +kernel
theorem dX4_init_40 : decode cX4_init 40 = .ok (.iload_n 1, 1) := by decide +kernel
theorem dX4_init_41 : decode cX4_init 41 = .ok (.new 9, 3) := by decide +kernel
theorem dX4_init_44 : decode cX4_init 44 = .ok (.dup, 1) := by decide +kernel
theorem dX4_init_45 : decode cX4_init 45 = .ok (.invokespecial 27, 3) := by decide +kernel
theorem dX4_init_48 : decode cX4_init 48 = .ok (.aastore, 1) := by decide +kernel
theorem dX4_init_49 : decode cX4_init 49 = .ok (.iinc 1 1, 3) := by decide +kernel
theorem dX4_init_52 : decode cX4_init 52 = .ok (.goto (-22), 3) := by decide +kernel
theorem dX4_init_55 : decode cX4_init 55 = .ok (.return_, 1) := by decide +kernel
theorem dX4_hasTest_0 : decode cX4_hasTest 0 = .ok (.iload_n 1, 1) := by decide +kernel
theorem dX4_hasTest_1 : decode cX4_hasTest 1 = .ok (.iconst 0, 1) := by decide +kernel
theorem dX4_hasTest_2 : decode cX4_hasTest 2 = .ok (.aload_n 0, 1) := by decide +kernel
theorem dX4_hasTest_3 : decode cX4_hasTest 3 = .ok (.getfield 24, 3) := by decide +kernel
theorem dX4_hasTest_6 : decode cX4_hasTest 6 = .ok (.iconst 1, 1) := by decide +kernel
theorem dX4_hasTest_7 : decode cX4_hasTest 7 = .ok (.isub, 1) := by decide +kernel
theorem dX4_hasTest_8 : decode cX4_hasTest 8 = .ok (.invokestatic 28, 3) := by decide +kernel
theorem dX4_hasTest_11 : decode cX4_hasTest 11 = .ok (.ireturn, 1) := by decide +kernel
theorem dX5_init_0 : decode cX5_init 0 = .ok (.aload_n 0, 1) := by decide +kernel
theorem dX5_init_1 : decode cX5_init 1 = .ok (.invokespecial 3, 3) := by decide +kernel
theorem dX5_init_4 : decode cX5_init 4 = .ok (.aload_n 0, 1) := by decide +kernel
theorem dX5_init_5 : decode cX5_init 5 = .ok (.bipush 20, 2) := by decide +kernel
theorem dX5_init_7 : decode cX5_init 7 = .ok (.newarray .char, 2) := by decide +kernel
theorem dX5_init_9 : decode cX5_init 9 = .ok (.putfield 9, 3) := by decide +kernel
theorem dX5_init_12 : decode cX5_init 12 = .ok (.aload_n 0, 1) := by decide +kernel
theorem dX5_init_13 : decode cX5_init 13 = .ok (.bipush 20, 2) := by decide +kernel
theorem dX5_init_15 : decode cX5_init 15 = .ok (.newarray .int, 2) := by decide +kernel
theorem dX5_init_17 : decode cX5_init 17 = .ok (.putfield 15, 3) := by decide +kernel
theorem dX5_init_20 : decode cX5_init 20 = .ok (.aload_n 0, 1) := by decide +kernel
theorem dX5_init_21 : decode cX5_init 21 = .ok (.bipush 20, 2) := by decide +kernel
theorem dX5_init_23 : decode cX5_init 23 = .ok (.newarray .int, 2) := by decide +kernel
theorem dX5_init_25 : decode cX5_init 25 = .ok (.putfield 19, 3) := by decide +kernel
theorem dX5_init_28 : decode cX5_init 28 = .ok (.aload_n 0, 1) := by decide +kernel
theorem dX5_init_29 : decode cX5_init 29 = .ok (.iconst 0, 1) := by decide +kernel
theorem dX5_init_30 : decode cX5_init 30 = .ok (.putfield 22, 3) := by decide +kernel
theorem dX5_init_33 : decode cX5_init 33 = .ok (.return_, 1) := by decide +kernel
theorem dX5_append_0 : decode cX5_append 0 = .ok (.aload_n 0, 1) := by decide +kernel
theorem dX5_append_1 : decode cX5_append 1 = .ok (.getfield 22, 3) := by decide +kernel
theorem dX5_append_4 : decode cX5_append 4 = .ok (.bipush 20, 2) := by decide +kernel
theorem dX5_append_6 : decode cX5_append 6 = .ok (.if_icmp .ge 43, 3) := by decide +kernel
theorem dX5_append_9 : decode cX5_append 9 = .ok (.aload_n 0, 1) := by decide +kernel
theorem dX5_append_10 : decode cX5_append 10 = .ok (.getfield 9, 3) := by decide +kernel
theorem dX5_append_13 : decode cX5_append 13 = .ok (.aload_n 0, 1) := by decide +kernel
theorem dX5_append_14 : decode cX5_append 14 = .ok (.getfield 22, 3) := by decide +kernel
theorem dX5_append_17 : decode cX5_append 17 = .ok (.iload_n 1, 1) := by decide +kernel
theorem dX5_append_18 : decode cX5_append 18 = .ok (.castore, 1) := by decide +kernel
theorem dX5_append_19 : decode cX5_append 19 = .ok (.aload_n 0, 1) := by decide +kernel
theorem dX5_append_20 : decode cX5_append 20 = .ok (.getfield 15, 3) := by decide +kernel
theorem dX5_append_23 : decode cX5_append 23 = .ok (.aload_n 0, 1) := by decide +kernel
theorem dX5_append_24 : decode cX5_append 24 = .ok (.getfield 22, 3) := by decide +kernel
theorem dX5_append_27 : decode cX5_append 27 = .ok (.iload_n 2, 1) := by decide +kernel
theorem dX5_append_28 : decode cX5_append 28 = .ok (.iastore, 1) := by decide +kernel
theorem dX5_append_29 : decode cX5_append 29 = .ok (.aload_n 0, 1) := by decide +kernel
theorem dX5_append_30 : decode cX5_append 30 = .ok (.getfield 19, 3) := by decide +kernel
theorem dX5_append_33 : decode cX5_append 33 = .ok (.aload_n 0, 1) := by decide +kernel
theorem dX5_append_34 : decode cX5_append 34 = .ok (.getfield 22, 3) := by decide +kernel
theorem dX5_append_37 : decode cX5_append 37 = .ok (.iload_n 3, 1) := by decide +kernel
theorem dX5_append_38 : decode cX5_append 38 = .ok (.iastore, 1) := by decide +kernel
theorem dX5_append_39 : decode cX5_append 39 = .ok (.aload_n 0, 1) := by decide +kernel
theorem dX5_append_40 : decode cX5_append 40 = .ok (.dup, 1) := by decide +kernel
theorem dX5_append_41 : decode cX5_append 41 = .ok (.getfield 22, 3) := by decide +kernel
theorem dX5_append_44 : decode cX5_append 44 = .ok (.iconst 1, 1) := by decide +kernel
theorem dX5_append_45 : decode cX5_append 45 = .ok (.iadd, 1) := by decide +kernel
theorem dX5_append_46 : decode cX5_append 46 = .ok (.putfield 22, 3) := by decide +kernel
theorem dX5_append_49 : decode cX5_append 49 = .ok (.return_, 1) := by decide +kernel
theorem dX5_clear_0 : decode cX5_clear 0 = .ok (.aload_n 0, 1) := by decide +kernel
theorem dX5_clear_1 : decode cX5_clear 1 = .ok (.getfield 22, 3) := by decide +kernel
theorem dX5_clear_4 : decode cX5_clear 4 = .ok (.istore_n 1, 1) := by decide +kernel
theorem dX5_clear_5 : decode cX5_clear 5 = .ok (.aload_n 0, 1) := by decide +kernel
theorem dX5_clear_6 : decode cX5_clear 6 = .ok (.iconst 0, 1) := by decide +kernel
theorem dX5_clear_7 : decode cX5_clear 7 = .ok (.putfield 22, 3) := by decide +kernel
theorem dX5_clear_10 : decode cX5_clear 10 = .ok (.iload_n 1, 1) := by decide +kernel
theorem dX5_clear_11 : decode cX5_clear 11 = .ok (.ireturn, 1) := by decide +kernel
theorem dX5_copyFrom_0 : decode cX5_copyFrom 0 = .ok (.aload_n 0, 1) := by decide +kernel
theorem dX5_copyFrom_1 : decode cX5_copyFrom 1 = .ok (.iconst 0, 1) := by decide +kernel
theorem dX5_copyFrom_2 : decode cX5_copyFrom 2 = .ok (.putfield 22, 3) := by decide +kernel
theorem dX5_copyFrom_5 : decode cX5_copyFrom 5 = .ok (.iconst 0, 1) := by decide +kernel
theorem dX5_copyFrom_6 : decode cX5_copyFrom 6 = .ok (.istore_n 2, 1) := by decide +kernel
theorem dX5_copyFrom_7 : decode cX5_copyFrom 7 = .ok (.iload_n 2, 1) := by decide +kernel
theorem dX5_copyFrom_8 : decode cX5_copyFrom 8 = .ok (.aload_n 1, 1) := by decide +kernel
theorem dX5_copyFrom_9 : decode cX5_copyFrom 9 = .ok (.getfield 22, 3) := by decide +kernel
theorem dX5_copyFrom_12 : decode cX5_copyFrom 12 = .ok (.if_icmp .ge 31, 3) := by decide +kernel
theorem dX5_copyFrom_15 : decode cX5_copyFrom 15 = .ok (.aload_n 0, 1) := by decide +kernel
theorem dX5_copyFrom_16 : decode cX5_copyFrom 16 = .ok (.aload_n 1, 1) := by decide +kernel
theorem dX5_copyFrom_17 : decode cX5_copyFrom 17 = .ok (.getfield 9, 3) := by decide +kernel
theorem dX5_copyFrom_20 : decode cX5_copyFrom 20 = .ok (.iload_n 2, 1) := by decide +kernel
theorem dX5_copyFrom_21 : decode cX5_copyFrom 21 = .ok (.caload, 1) := by decide +kernel
theorem dX5_copyFrom_22 : decode cX5_copyFrom 22 = .ok (.aload_n 1, 1) := by decide +kernel
theorem dX5_copyFrom_23 : decode cX5_copyFrom 23 = .ok (.getfield 15, 3) := by decide +kernel
theorem dX5_copyFrom_26 : decode cX5_copyFrom 26 = .ok (.iload_n 2, 1) := by decide +kernel
theorem dX5_copyFrom_27 : decode cX5_copyFrom 27 = .ok (.iaload, 1) := by decide +kernel
theorem dX5_copyFrom_28 : decode cX5_copyFrom 28 = .ok (.aload_n 1, 1) := by decide +kernel
theorem dX5_copyFrom_29 : decode cX5_copyFrom 29 = .ok (.getfield 19, 3) := by decide +kernel
theorem dX5_copyFrom_32 : decode cX5_copyFrom 32 = .ok (.iload_n 2, 1) := by decide +kernel
theorem dX5_copyFrom_33 : decode cX5_copyFrom 33 = .ok (.iaload, 1) := by decide +kernel
theorem dX5_copyFrom_34 : decode cX5_copyFrom 34 = .ok (.invokevirtual 26, 3) := by decide +kernel
theorem dX5_copyFrom_37 : decode cX5_copyFrom 37 = .ok (.iinc 2 1, 3) := by decide +kernel
theorem dX5_copyFrom_40 : decode cX5_copyFrom 40 = .ok (.goto (-33), 3) := by decide +kernel
theorem dX5_copyFrom_43 : decode cX5_copyFrom 43 = .ok (.return_, 1) := by decide +kernel
theorem dX6_init_0 : decode cX6_init 0 = .ok (.aload_n 0, 1) := by decide +kernel
theorem dX6_init_1 : decode cX6_init 1 = .ok (.invokespecial 3, 3) := by decide +kernel
theorem dX6_init_4 : decode cX6_init 4 = .ok (.aload_n 0, 1) := by decide +kernel
theorem dX6_init_5 : decode cX6_init 5 = .ok (.new 9, 3) := by decide +kernel
theorem dX6_init_8 : decode cX6_init 8 = .ok (.dup, 1) := by decide +kernel
theorem dX6_init_9 : decode cX6_init 9 = .ok (.invokespecial 11, 3) := by decide +kernel
theorem dX6_init_12 : decode cX6_init 12 = .ok (.putfield 12, 3) := by decide +kernel
theorem dX6_init_15 : decode cX6_init 15 = .ok (.aload_n 0, 1) := by decide +kernel
theorem dX6_init_16 : decode cX6_init 16 = .ok (.bipush 6, 2) := by decide +kernel
theorem dX6_init_18 : decode cX6_init 18 = .ok (.newarray .char, 2) := by decide +kernel
theorem dX6_init_20 : decode cX6_init 20 = .ok (.putfield 18, 3) := by decide +kernel
theorem dX6_init_23 : decode cX6_init 23 = .ok (.aload_n 0, 1) := by decide +kernel
theorem dX6_init_24 : decode cX6_init 24 = .ok (.bipush 6, 2) := by decide +kernel
theorem dX6_init_26 : decode cX6_init 26 = .ok (.newarray .int, 2) := by decide +kernel
theorem dX6_init_28 : decode cX6_init 28 = .ok (.putfield 22, 3) := by decide +kernel
theorem dX6_init_31 : decode cX6_init 31 = .ok (.aload_n 0, 1) := by decide +kernel
theorem dX6_init_32 : decode cX6_init 32 = .ok (.bipush 6, 2) := by decide +kernel
theorem dX6_init_34 : decode cX6_init 34 = .ok (.newarray .int, 2) := by decide +kernel
theorem dX6_init_36 : decode cX6_init 36 = .ok (.putfield 26, 3) := by decide +kernel
theorem dX6_init_39 : decode cX6_init 39 = .ok (.aload_n 0, 1) := by decide +kernel
theorem dX6_init_40 : decode cX6_init 40 = .ok (.iconst 0, 1) := by decide +kernel
theorem dX6_init_41 : decode cX6_init 41 = .ok (.putfield 29, 3) := by decide +kernel
theorem dX6_init_44 : decode cX6_init 44 = .ok (.aload_n 0, 1) := by decide +kernel
theorem dX6_init_45 : decode cX6_init 45 = .ok (.iconst 0, 1) := by decide +kernel
theorem dX6_init_46 : decode cX6_init 46 = .ok (.putfield 33, 3) := by decide +kernel
theorem dX6_init_49 : decode cX6_init 49 = .ok (.aload_n 0, 1) := by decide +kernel
theorem dX6_init_50 : decode cX6_init 50 = .ok (.iconst 0, 1) := by decide +kernel
theorem dX6_init_51 : decode cX6_init 51 = .ok (.putfield 36, 3) := by decide +kernel
theorem dX6_init_54 : decode cX6_init 54 = .ok (.aload_n 0, 1) := by decide +kernel
theorem dX6_init_55 : decode cX6_init 55 = .ok (.iconst 0, 1) := by decide +kernel
theorem dX6_init_56 : decode cX6_init 56 = .ok (.putfield 39, 3) := by decide +kernel
theorem dX6_init_59 : decode cX6_init 59 = .ok (.aload_n 0, 1) := by decide +kernel
theorem dX6_init_60 : decode cX6_init 60 = .ok (.bipush 97, 2) := by decide +kernel
theorem dX6_init_62 : decode cX6_init 62 = .ok (.putfield 43, 3) := by decide +kernel
theorem dX6_init_65 : decode cX6_init 65 = .ok (.aload_n 0, 1) := by decide +kernel
theorem dX6_init_66 : decode cX6_init 66 = .ok (.iconst (-1), 1) := by decide +kernel
theorem dX6_init_67 : decode cX6_init 67 = .ok (.putfield 47, 3) := by decide +kernel
theorem dX6_init_70 : decode cX6_init 70 = .ok (.iconst 0, 1) := by decide +kernel
theorem dX6_init_71 : decode cX6_init 71 = .ok (.istore_n 1, 1) := by decide +kernel
theorem dX6_init_72 : decode cX6_init 72 = .ok (.iload_n 1, 1) := by decide +kernel
theorem dX6_init_73 : decode cX6_init 73 = .ok (.bipush 6, 2) := by decide +kernel
theorem dX6_init_75 : decode cX6_init 75 = .ok (.if_icmp .ge 16, 3) := by decide +kernel
theorem dX6_init_78 : decode cX6_init 78 = .ok (.aload_n 0, 1) := by decide +kernel
theorem dX6_init_79 : decode cX6_init 79 = .ok (.getfield 26, 3) := by decide +kernel
theorem dX6_init_82 : decode cX6_init 82 = .ok (.iload_n 1, 1) := by decide +kernel
theorem dX6_init_83 : decode cX6_init 83 = .ok (.iconst (-1), 1) := by decide +kernel
theorem dX6_init_84 : decode cX6_init 84 = .ok (.iastore, 1) := by decide +kernel
theorem dX6_init_85 : decode cX6_init 85 = .ok (.iinc 1 1, 3) := by decide +kernel
theorem dX6_init_88 : decode cX6_init 88 = .ok (.goto (-16), 3) := by decide +kernel
theorem dX6_init_91 : decode cX6_init 91 = .ok (.return_, 1) := by decide +kernel
theorem dX6_conclude_0 : decode cX6_conclude 0 = .ok (.aload_n 0, 1) := by decide +kernel
theorem dX6_conclude_1 : decode cX6_conclude 1 = .ok (.bipush 97, 2) := by decide +kernel
theorem dX6_conclude_3 : decode cX6_conclude 3 = .ok (.putfield 43, 3) := by decide +kernel
theorem dX6_conclude_6 : decode cX6_conclude 6 = .ok (.aload_n 0, 1) := by decide +kernel
theorem dX6_conclude_7 : decode cX6_conclude 7 = .ok (.iconst (-1), 1) := by decide +kernel
theorem dX6_conclude_8 : decode cX6_conclude 8 = .ok (.putfield 47, 3) := by decide +kernel
theorem dX6_conclude_11 : decode cX6_conclude 11 = .ok (.iconst 0, 1) := by decide +kernel
theorem dX6_conclude_12 : decode cX6_conclude 12 = .ok (.istore_n 2, 1) := by decide +kernel
theorem dX6_conclude_13 : decode cX6_conclude 13 = .ok (.iload_n 2, 1) := by decide +kernel
theorem dX6_conclude_14 : decode cX6_conclude 14 = .ok (.iload_n 1, 1) := by decide +kernel
theorem dX6_conclude_15 : decode cX6_conclude 15 = .ok (.if_icmp .ge 43, 3) := by decide +kernel
theorem dX6_conclude_18 : decode cX6_conclude 18 = .ok (.aload_n 0, 1) := by decide +kernel
theorem dX6_conclude_19 : decode cX6_conclude 19 = .ok (.getfield 47, 3) := by decide +kernel
theorem dX6_conclude_22 : decode cX6_conclude 22 = .ok (.iconst (-1), 1) := by decide +kernel
theorem dX6_conclude_23 : decode cX6_conclude 23 = .ok (.if_icmp .ne 35, 3) := by decide +kernel
theorem dX6_conclude_26 : decode cX6_conclude 26 = .ok (.aload_n 0, 1) := by decide +kernel
theorem dX6_conclude_27 : decode cX6_conclude 27 = .ok (.getfield 18, 3) := by decide +kernel
theorem dX6_conclude_30 : decode cX6_conclude 30 = .ok (.iload_n 2, 1) := by decide +kernel
theorem dX6_conclude_31 : decode cX6_conclude 31 = .ok (.caload, 1) := by decide +kernel
theorem dX6_conclude_32 : decode cX6_conclude 32 = .ok (.bipush 111, 2) := by decide +kernel
theorem dX6_conclude_34 : decode cX6_conclude 34 = .ok (.if_icmp .eq 18, 3) := by decide +kernel
theorem dX6_conclude_37 : decode cX6_conclude 37 = .ok (.aload_n 0, 1) := by decide +kernel
theorem dX6_conclude_38 : decode cX6_conclude 38 = .ok (.aload_n 0, 1) := by decide +kernel
theorem dX6_conclude_39 : decode cX6_conclude 39 = .ok (.getfield 18, 3) := by decide +kernel
theorem dX6_conclude_42 : decode cX6_conclude 42 = .ok (.iload_n 2, 1) := by decide +kernel
theorem dX6_conclude_43 : decode cX6_conclude 43 = .ok (.caload, 1) := by decide +kernel
theorem dX6_conclude_44 : decode cX6_conclude 44 = .ok (.putfield 43, 3) := by decide +kernel
theorem dX6_conclude_47 : decode cX6_conclude 47 = .ok (.aload_n 0, 1) := by decide +kernel
theorem dX6_conclude_48 : decode cX6_conclude 48 = .ok (.iload_n 2, 1) := by decide +kernel
theorem dX6_conclude_49 : decode cX6_conclude 49 = .ok (.putfield 47, 3) := by decide +kernel
theorem dX6_conclude_52 : decode cX6_conclude 52 = .ok (.iinc 2 1, 3) := by decide +kernel
theorem dX6_conclude_55 : decode cX6_conclude 55 = .ok (.goto (-42), 3) := by decide +kernel
theorem dX6_conclude_58 : decode cX6_conclude 58 = .ok (.return_, 1) := by decide +kernel
theorem dX7_init_0 : decode cX7_init 0 = .ok (.aload_n 0, 1) := by decide +kernel
theorem dX7_init_1 : decode cX7_init 1 = .ok (.invokespecial 3, 3) := by decide +kernel
theorem dX7_init_4 : decode cX7_init 4 = .ok (.aload_n 0, 1) := by decide +kernel
theorem dX7_init_5 : decode cX7_init 5 = .ok (.sipush 1440, 3) := by decide +kernel
theorem dX7_init_8 : decode cX7_init 8 = .ok (.newarray .int, 2) := by decide +kernel
theorem dX7_init_10 : decode cX7_init 10 = .ok (.putfield 9, 3) := by decide +kernel
theorem dX7_init_13 : decode cX7_init 13 = .ok (.aload_n 0, 1) := by decide +kernel
theorem dX7_init_14 : decode cX7_init 14 = .ok (.sipush 240, 3) := by decide +kernel
theorem dX7_init_17 : decode cX7_init 17 = .ok (.newarray .int, 2) := by decide +kernel
theorem dX7_init_19 : decode cX7_init 19 = .ok (.putfield 15, 3) := by decide +kernel
theorem dX7_init_22 : decode cX7_init 22 = .ok (.aload_n 0, 1) := by decide +kernel
theorem dX7_init_23 : decode cX7_init 23 = .ok (.sipush 240, 3) := by decide +kernel
theorem dX7_init_26 : decode cX7_init 26 = .ok (.newarray .int, 2) := by decide +kernel
theorem dX7_init_28 : decode cX7_init 28 = .ok (.putfield 18, 3) := by decide +kernel
theorem dX7_init_31 : decode cX7_init 31 = .ok (.aload_n 0, 1) := by decide +kernel
theorem dX7_init_32 : decode cX7_init 32 = .ok (.iconst 0, 1) := by decide +kernel
theorem dX7_init_33 : decode cX7_init 33 = .ok (.putfield 21, 3) := by decide +kernel
theorem dX7_init_36 : decode cX7_init 36 = .ok (.return_, 1) := by decide +kernel
theorem dX7_keep_0 : decode cX7_keep 0 = .ok (.aload_n 0, 1) := by decide +kernel
theorem dX7_keep_1 : decode cX7_keep 1 = .ok (.aload_n 1, 1) := by decide +kernel
theorem dX7_keep_2 : decode cX7_keep 2 = .ok (.iload_n 2, 1) := by decide +kernel
theorem dX7_keep_3 : decode cX7_keep 3 = .ok (.invokevirtual 25, 3) := by decide +kernel
theorem dX7_keep_6 : decode cX7_keep 6 = .ok (.istore_n 3, 1) := by decide +kernel
theorem dX7_keep_7 : decode cX7_keep 7 = .ok (.iload_n 3, 1) := by decide +kernel
theorem dX7_keep_8 : decode cX7_keep 8 = .ok (.iconst (-1), 1) := by decide +kernel
theorem dX7_keep_9 : decode cX7_keep 9 = .ok (.if_icmp .ne 25, 3) := by decide +kernel
theorem dX7_keep_12 : decode cX7_keep 12 = .ok (.aload_n 0, 1) := by decide +kernel
theorem dX7_keep_13 : decode cX7_keep 13 = .ok (.invokevirtual 29, 3) := by decide +kernel
theorem dX7_keep_16 : decode cX7_keep 16 = .ok (.istore_n 3, 1) := by decide +kernel
theorem dX7_keep_17 : decode cX7_keep 17 = .ok (.aload_n 0, 1) := by decide +kernel
theorem dX7_keep_18 : decode cX7_keep 18 = .ok (.iload_n 3, 1) := by decide +kernel
theorem dX7_keep_19 : decode cX7_keep 19 = .ok (.aload_n 1, 1) := by decide +kernel
theorem dX7_keep_20 : decode cX7_keep 20 = .ok (.iload_n 2, 1) := by decide +kernel
theorem dX7_keep_21 : decode cX7_keep 21 = .ok (.invokevirtual 33, 3) := by decide +kernel
theorem dX7_keep_24 : decode cX7_keep 24 = .ok (.aload_n 0, 1) := by decide +kernel
theorem dX7_keep_25 : decode cX7_keep 25 = .ok (.dup, 1) := by decide +kernel
theorem dX7_keep_26 : decode cX7_keep 26 = .ok (.getfield 21, 3) := by decide +kernel
theorem dX7_keep_29 : decode cX7_keep 29 = .ok (.iconst 1, 1) := by decide +kernel
theorem dX7_keep_30 : decode cX7_keep 30 = .ok (.iadd, 1) := by decide +kernel
theorem dX7_keep_31 : decode cX7_keep 31 = .ok (.putfield 21, 3) := by decide +kernel
theorem dX7_keep_34 : decode cX7_keep 34 = .ok (.aload_n 0, 1) := by decide +kernel
theorem dX7_keep_35 : decode cX7_keep 35 = .ok (.getfield 18, 3) := by decide +kernel
theorem dX7_keep_38 : decode cX7_keep 38 = .ok (.iload_n 3, 1) := by decide +kernel
theorem dX7_keep_39 : decode cX7_keep 39 = .ok (.dup2, 1) := by decide +kernel
theorem dX7_keep_40 : decode cX7_keep 40 = .ok (.iaload, 1) := by decide +kernel
theorem dX7_keep_41 : decode cX7_keep 41 = .ok (.iconst 1, 1) := by decide +kernel
theorem dX7_keep_42 : decode cX7_keep 42 = .ok (.iadd, 1) := by decide +kernel
theorem dX7_keep_43 : decode cX7_keep 43 = .ok (.iastore, 1) := by decide +kernel
theorem dX7_keep_44 : decode cX7_keep 44 = .ok (.iload_n 3, 1) := by decide +kernel
theorem dX7_keep_45 : decode cX7_keep 45 = .ok (.ireturn, 1) := by decide +kernel
theorem dX7_release_0 : decode cX7_release 0 = .ok (.iload_n 1, 1) := by decide +kernel
theorem dX7_release_1 : decode cX7_release 1 = .ok (.iconst (-1), 1) := by decide +kernel
theorem dX7_release_2 : decode cX7_release 2 = .ok (.if_icmp .ne 4, 3) := by decide +kernel
theorem dX7_release_5 : decode cX7_release 5 = .ok (.return_, 1) := by decide +kernel
theorem dX7_release_6 : decode cX7_release 6 = .ok (.aload_n 0, 1) := by decide +kernel
theorem dX7_release_7 : decode cX7_release 7 = .ok (.getfield 18, 3) := by decide +kernel
theorem dX7_release_10 : decode cX7_release 10 = .ok (.iload_n 1, 1) := by decide +kernel
theorem dX7_release_11 : decode cX7_release 11 = .ok (.dup2, 1) := by decide +kernel
theorem dX7_release_12 : decode cX7_release 12 = .ok (.iaload, 1) := by decide +kernel
theorem dX7_release_13 : decode cX7_release 13 = .ok (.iconst 1, 1) := by decide +kernel
theorem dX7_release_14 : decode cX7_release 14 = .ok (.isub, 1) := by decide +kernel
theorem dX7_release_15 : decode cX7_release 15 = .ok (.iastore, 1) := by decide +kernel
theorem dX7_release_16 : decode cX7_release 16 = .ok (.aload_n 0, 1) := by decide +kernel
theorem dX7_release_17 : decode cX7_release 17 = .ok (.getfield 18, 3) := by decide +kernel
theorem dX7_release_20 : decode cX7_release 20 = .ok (.iload_n 1, 1) := by decide +kernel
theorem dX7_release_21 : decode cX7_release 21 = .ok (.iaload, 1) := by decide +kernel
theorem dX7_release_22 : decode cX7_release 22 = .ok (.ifCond .ne 13, 3) := by decide +kernel
theorem dX7_release_25 : decode cX7_release 25 = .ok (.aload_n 0, 1) := by decide +kernel
theorem dX7_release_26 : decode cX7_release 26 = .ok (.dup, 1) := by decide +kernel
theorem dX7_release_27 : decode cX7_release 27 = .ok (.getfield 21, 3) := by decide +kernel
theorem dX7_release_30 : decode cX7_release 30 = .ok (.iconst 1, 1) := by decide +kernel
theorem dX7_release_31 : decode cX7_release 31 = .ok (.isub, 1) := by decide +kernel
theorem dX7_release_32 : decode cX7_release 32 = .ok (.putfield 21, 3) := by decide +kernel
theorem dX7_release_35 : decode cX7_release 35 = .ok (.return_, 1) := by decide +kernel
theorem dX7_numberAt_0 : decode cX7_numberAt 0 = .ok (.aload_n 0, 1) := by decide +kernel
theorem dX7_numberAt_1 : decode cX7_numberAt 1 = .ok (.getfield 9, 3) := by decide +kernel
theorem dX7_numberAt_4 : decode cX7_numberAt 4 = .ok (.iload_n 1, 1) := by decide +kernel
theorem dX7_numberAt_5 : decode cX7_numberAt 5 = .ok (.bipush 6, 2) := by decide +kernel
theorem dX7_numberAt_7 : decode cX7_numberAt 7 = .ok (.imul, 1) := by decide +kernel
theorem dX7_numberAt_8 : decode cX7_numberAt 8 = .ok (.iload_n 2, 1) := by decide +kernel
theorem dX7_numberAt_9 : decode cX7_numberAt 9 = .ok (.iadd, 1) := by decide +kernel
theorem dX7_numberAt_10 : decode cX7_numberAt 10 = .ok (.iaload, 1) := by decide +kernel
theorem dX7_numberAt_11 : decode cX7_numberAt 11 = .ok (.ireturn, 1) := by decide +kernel
theorem dX7_isAlike_0 : decode cX7_isAlike 0 = .ok (.aload_n 0, 1) := by decide +kernel
theorem dX7_isAlike_1 : decode cX7_isAlike 1 = .ok (.getfield 15, 3) := by decide +kernel
theorem dX7_isAlike_4 : decode cX7_isAlike 4 = .ok (.iload_n 1, 1) := by decide +kernel
theorem dX7_isAlike_5 : decode cX7_isAlike 5 = .ok (.iaload, 1) := by decide +kernel
theorem dX7_isAlike_6 : decode cX7_isAlike 6 = .ok (.iload_n 3, 1) := by decide +kernel
theorem dX7_isAlike_7 : decode cX7_isAlike 7 = .ok (.if_icmp .eq 5, 3) := by decide +kernel
theorem dX7_isAlike_10 : decode cX7_isAlike 10 = .ok (.iconst 0, 1) := by decide +kernel
theorem dX7_isAlike_11 : decode cX7_isAlike 11 = .ok (.ireturn, 1) := by decide +kernel
theorem dX7_isAlike_12 : decode cX7_isAlike 12 = .ok (.iconst 0, 1) := by decide +kernel
theorem dX7_isAlike_13 : decode cX7_isAlike 13 = .ok (.istore 4, 2) := by decide +kernel
theorem dX7_isAlike_15 : decode cX7_isAlike 15 = .ok (.iload 4, 2) := by decide +kernel
theorem dX7_isAlike_17 : decode cX7_isAlike 17 = .ok (.iload_n 3, 1) := by decide +kernel
theorem dX7_isAlike_18 : decode cX7_isAlike 18 = .ok (.if_icmp .ge 25, 3) := by decide +kernel
theorem dX7_isAlike_21 : decode cX7_isAlike 21 = .ok (.aload_n 0, 1) := by decide +kernel
theorem dX7_isAlike_22 : decode cX7_isAlike 22 = .ok (.iload_n 1, 1) := by decide +kernel
theorem dX7_isAlike_23 : decode cX7_isAlike 23 = .ok (.iload 4, 2) := by decide +kernel
theorem dX7_isAlike_25 : decode cX7_isAlike 25 = .ok (.invokevirtual 37, 3) := by decide +kernel
theorem dX7_isAlike_28 : decode cX7_isAlike 28 = .ok (.aload_n 2, 1) := by decide +kernel
theorem dX7_isAlike_29 : decode cX7_isAlike 29 = .ok (.iload 4, 2) := by decide +kernel
theorem dX7_isAlike_31 : decode cX7_isAlike 31 = .ok (.iaload, 1) := by decide +kernel
theorem dX7_isAlike_32 : decode cX7_isAlike 32 = .ok (.if_icmp .eq 5, 3) := by decide +kernel
theorem dX7_isAlike_35 : decode cX7_isAlike 35 = .ok (.iconst 0, 1) := by decide +kernel
theorem dX7_isAlike_36 : decode cX7_isAlike 36 = .ok (.ireturn, 1) := by decide +kernel
theorem dX7_isAlike_37 : decode cX7_isAlike 37 = .ok (.iinc 4 1, 3) := by decide +kernel
theorem dX7_isAlike_40 : decode cX7_isAlike 40 = .ok (.goto (-25), 3) := by decide +kernel
theorem dX7_isAlike_43 : decode cX7_isAlike 43 = .ok (.iconst 1, 1) := by decide +kernel
theorem dX7_isAlike_44 : decode cX7_isAlike 44 = .ok (.ireturn, 1) := by decide +kernel
theorem dX7_addTo_0 : decode cX7_addTo 0 = .ok (.lload_n 1, 1) := by decide +kernel
theorem dX7_addTo_1 : decode cX7_addTo 1 = .ok (.lstore 4, 2) := by decide +kernel
theorem dX7_addTo_3 : decode cX7_addTo 3 = .ok (.iconst 0, 1) := by decide +kernel
theorem dX7_addTo_4 : decode cX7_addTo 4 = .ok (.istore 6, 2) := by decide +kernel
theorem dX7_addTo_6 : decode cX7_addTo 6 = .ok (.iload 6, 2) := by decide +kernel
theorem dX7_addTo_8 : decode cX7_addTo 8 = .ok (.aload_n 0, 1) := by decide +kernel
theorem dX7_addTo_9 : decode cX7_addTo 9 = .ok (.getfield 15, 3) := by decide +kernel
theorem dX7_addTo_12 : decode cX7_addTo 12 = .ok (.iload_n 3, 1) := by decide +kernel
theorem dX7_addTo_13 : decode cX7_addTo 13 = .ok (.iaload, 1) := by decide +kernel
theorem dX7_addTo_14 : decode cX7_addTo 14 = .ok (.if_icmp .ge 26, 3) := by decide +kernel
theorem dX7_addTo_17 : decode cX7_addTo 17 = .ok (.ldc2_w 41, 3) := by decide +kernel
theorem dX7_addTo_20 : decode cX7_addTo 20 = .ok (.lload 4, 2) := by decide +kernel
theorem dX7_addTo_22 : decode cX7_addTo 22 = .ok (.lmul, 1) := by decide +kernel
theorem dX7_addTo_23 : decode cX7_addTo 23 = .ok (.aload_n 0, 1) := by decide +kernel
theorem dX7_addTo_24 : decode cX7_addTo 24 = .ok (.iload_n 3, 1) := by decide +kernel
theorem dX7_addTo_25 : decode cX7_addTo 25 = .ok (.iload 6, 2) := by decide +kernel
theorem dX7_addTo_27 : decode cX7_addTo 27 = .ok (.invokevirtual 37, 3) := by decide +kernel
theorem dX7_addTo_30 : decode cX7_addTo 30 = .ok (.i2l, 1) := by decide +kernel
theorem dX7_addTo_31 : decode cX7_addTo 31 = .ok (.ladd, 1) := by decide +kernel
theorem dX7_addTo_32 : decode cX7_addTo 32 = .ok (.lstore 4, 2) := by decide +kernel
theorem dX7_addTo_34 : decode cX7_addTo 34 = .ok (.iinc 6 1, 3) := by decide +kernel
theorem dX7_addTo_37 : decode cX7_addTo 37 = .ok (.goto (-31), 3) := by decide +kernel
theorem dX7_addTo_40 : decode cX7_addTo 40 = .ok (.lload 4, 2) := by decide +kernel
theorem dX7_addTo_42 : decode cX7_addTo 42 = .ok (.lreturn, 1) := by decide +kernel
theorem dX7_find_0 : decode cX7_find 0 = .ok (.iconst 0, 1) := by decide +kernel
theorem dX7_find_1 : decode cX7_find 1 = .ok (.istore_n 3, 1) := by decide +kernel
theorem dX7_find_2 : decode cX7_find 2 = .ok (.iload_n 3, 1) := by decide +kernel
theorem dX7_find_3 : decode cX7_find 3 = .ok (.sipush 240, 3) := by decide +kernel
theorem dX7_find_6 : decode cX7_find 6 = .ok (.if_icmp .ge 30, 3) := by decide +kernel
theorem dX7_find_9 : decode cX7_find 9 = .ok (.aload_n 0, 1) := by decide +kernel
theorem dX7_find_10 : decode cX7_find 10 = .ok (.getfield 18, 3) := by decide +kernel
theorem dX7_find_13 : decode cX7_find 13 = .ok (.iload_n 3, 1) := by decide +kernel
theorem dX7_find_14 : decode cX7_find 14 = .ok (.iaload, 1) := by decide +kernel
theorem dX7_find_15 : decode cX7_find 15 = .ok (.ifCond .le 15, 3) := by decide +kernel
theorem dX7_find_18 : decode cX7_find 18 = .ok (.aload_n 0, 1) := by decide +kernel
theorem dX7_find_19 : decode cX7_find 19 = .ok (.iload_n 3, 1) := by decide +kernel
theorem dX7_find_20 : decode cX7_find 20 = .ok (.aload_n 1, 1) := by decide +kernel
theorem dX7_find_21 : decode cX7_find 21 = .ok (.iload_n 2, 1) := by decide +kernel
theorem dX7_find_22 : decode cX7_find 22 = .ok (.invokevirtual 43, 3) := by decide +kernel
theorem dX7_find_25 : decode cX7_find 25 = .ok (.ifCond .eq 5, 3) := by decide +kernel
theorem dX7_find_28 : decode cX7_find 28 = .ok (.iload_n 3, 1) := by decide +kernel
theorem dX7_find_29 : decode cX7_find 29 = .ok (.ireturn, 1) := by decide +kernel
theorem dX7_find_30 : decode cX7_find 30 = .ok (.iinc 3 1, 3) := by decide +kernel
theorem dX7_find_33 : decode cX7_find 33 = .ok (.goto (-31), 3) := by decide +kernel
theorem dX7_find_36 : decode cX7_find 36 = .ok (.iconst (-1), 1) := by decide +kernel
theorem dX7_find_37 : decode cX7_find 37 = .ok (.ireturn, 1) := by decide +kernel
theorem dX7_firstFree_0 : decode cX7_firstFree 0 = .ok (.iconst 0, 1) := by decide +kernel
theorem dX7_firstFree_1 : decode cX7_firstFree 1 = .ok (.istore_n 1, 1) := by decide +kernel
theorem dX7_firstFree_2 : decode cX7_firstFree 2 = .ok (.iload_n 1, 1) := by decide +kernel
theorem dX7_firstFree_3 : decode cX7_firstFree 3 = .ok (.sipush 239, 3) := by decide +kernel
theorem dX7_firstFree_6 : decode cX7_firstFree 6 = .ok (.if_icmp .ge 18, 3) := by decide +kernel
theorem dX7_firstFree_9 : decode cX7_firstFree 9 = .ok (.aload_n 0, 1) := by decide +kernel
theorem dX7_firstFree_10 : decode cX7_firstFree 10 = .ok (.getfield 18, 3) := by decide +kernel
theorem dX7_firstFree_13 : decode cX7_firstFree 13 = .ok (.iload_n 1, 1) := by decide +kernel
theorem dX7_firstFree_14 : decode cX7_firstFree 14 = .ok (.iaload, 1) := by decide +kernel
theorem dX7_firstFree_15 : decode cX7_firstFree 15 = .ok (.ifCond .le 9, 3) := by decide +kernel
theorem dX7_firstFree_18 : decode cX7_firstFree 18 = .ok (.iinc 1 1, 3) := by decide +kernel
theorem dX7_firstFree_21 : decode cX7_firstFree 21 = .ok (.goto (-19), 3) := by decide +kernel
theorem dX7_firstFree_24 : decode cX7_firstFree 24 = .ok (.iload_n 1, 1) := by decide +kernel
theorem dX7_firstFree_25 : decode cX7_firstFree 25 = .ok (.ireturn, 1) := by decide +kernel
theorem dX7_fill_0 : decode cX7_fill 0 = .ok (.iconst 0, 1) := by decide +kernel
theorem dX7_fill_1 : decode cX7_fill 1 = .ok (.istore 4, 2) := by decide +kernel
theorem dX7_fill_3 : decode cX7_fill 3 = .ok (.iload 4, 2) := by decide +kernel
theorem dX7_fill_5 : decode cX7_fill 5 = .ok (.iload_n 3, 1) := by decide +kernel
theorem dX7_fill_6 : decode cX7_fill 6 = .ok (.if_icmp .ge 25, 3) := by decide +kernel
theorem dX7_fill_9 : decode cX7_fill 9 = .ok (.aload_n 0, 1) := by decide +kernel
theorem dX7_fill_10 : decode cX7_fill 10 = .ok (.getfield 9, 3) := by decide +kernel
theorem dX7_fill_13 : decode cX7_fill 13 = .ok (.iload_n 1, 1) := by decide +kernel
theorem dX7_fill_14 : decode cX7_fill 14 = .ok (.bipush 6, 2) := by decide +kernel
theorem dX7_fill_16 : decode cX7_fill 16 = .ok (.imul, 1) := by decide +kernel
theorem dX7_fill_17 : decode cX7_fill 17 = .ok (.iload 4, 2) := by decide +kernel
theorem dX7_fill_19 : decode cX7_fill 19 = .ok (.iadd, 1) := by decide +kernel
theorem dX7_fill_20 : decode cX7_fill 20 = .ok (.aload_n 2, 1) := by decide +kernel
theorem dX7_fill_21 : decode cX7_fill 21 = .ok (.iload 4, 2) := by decide +kernel
theorem dX7_fill_23 : decode cX7_fill 23 = .ok (.iaload, 1) := by decide +kernel
theorem dX7_fill_24 : decode cX7_fill 24 = .ok (.iastore, 1) := by decide +kernel
theorem dX7_fill_25 : decode cX7_fill 25 = .ok (.iinc 4 1, 3) := by decide +kernel
theorem dX7_fill_28 : decode cX7_fill 28 = .ok (.goto (-25), 3) := by decide +kernel
theorem dX7_fill_31 : decode cX7_fill 31 = .ok (.aload_n 0, 1) := by decide +kernel
theorem dX7_fill_32 : decode cX7_fill 32 = .ok (.getfield 15, 3) := by decide +kernel
theorem dX7_fill_35 : decode cX7_fill 35 = .ok (.iload_n 1, 1) := by decide +kernel
theorem dX7_fill_36 : decode cX7_fill 36 = .ok (.iload_n 3, 1) := by decide +kernel
theorem dX7_fill_37 : decode cX7_fill 37 = .ok (.iastore, 1) := by decide +kernel
theorem dX7_fill_38 : decode cX7_fill 38 = .ok (.return_, 1) := by decide +kernel
theorem dJx00060_init_a7421_0 : decode cJx00060_init_a7421 0 = .ok (.aload_n 0, 1) := by decide +kernel
theorem dJx00060_init_a7421_1 : decode cJx00060_init_a7421 1 = .ok (.aload_n 1, 1) := by decide +kernel
theorem dJx00060_init_a7421_2 : decode cJx00060_init_a7421 2 = .ok (.invokespecial 7, 3) := by decide +kernel
theorem dJx00060_init_a7421_5 : decode cJx00060_init_a7421 5 = .ok (.return_, 1) := by decide +kernel
theorem dJ9_max_7cf53_0 : decode cJ9_max_7cf53 0 = .ok (.iload_n 0, 1) := by decide +kernel
theorem dJ9_max_7cf53_1 : decode cJ9_max_7cf53 1 = .ok (.iload_n 1, 1) := by decide +kernel
theorem dJ9_max_7cf53_2 : decode cJ9_max_7cf53 2 = .ok (.if_icmp .lt 7, 3) := by decide +kernel
theorem dJ9_max_7cf53_5 : decode cJ9_max_7cf53 5 = .ok (.iload_n 0, 1) := by decide +kernel
theorem dJ9_max_7cf53_6 : decode cJ9_max_7cf53 6 = .ok (.goto 4, 3) := by decide +kernel
theorem dJ9_max_7cf53_9 : decode cJ9_max_7cf53 9 = .ok (.iload_n 1, 1) := by decide +kernel
theorem dJ9_max_7cf53_10 : decode cJ9_max_7cf53 10 = .ok (.ireturn, 1) := by decide +kernel
end
section
theorem dX8_init_0 : decode cX8_init 0 = .ok (.aload_n 0, 1) := by decide +kernel
theorem dX8_init_1 : decode cX8_init 1 = .ok (.invokespecial 3, 3) := by decide +kernel
theorem dX8_init_4 : decode cX8_init 4 = .ok (.aload_n 0, 1) := by decide +kernel
theorem dX8_init_5 : decode cX8_init 5 = .ok (.new 9, 3) := by decide +kernel
theorem dX8_init_8 : decode cX8_init 8 = .ok (.dup, 1) := by decide +kernel
theorem dX8_init_9 : decode cX8_init 9 = .ok (.invokespecial 11, 3) := by decide +kernel
theorem dX8_init_12 : decode cX8_init 12 = .ok (.putfield 12, 3) := by decide +kernel
theorem dX8_init_15 : decode cX8_init 15 = .ok (.aload_n 0, 1) := by decide +kernel
theorem dX8_init_16 : decode cX8_init 16 = .ok (.new 16, 3) := by decide +kernel
theorem dX8_init_19 : decode cX8_init 19 = .ok (.dup, 1) := by decide +kernel
theorem dX8_init_20 : decode cX8_init 20 = .ok (.invokespecial 18, 3) := by decide +kernel
theorem dX8_init_23 : decode cX8_init 23 = .ok (.putfield 19, 3) := by decide +kernel
theorem dX8_init_26 : decode cX8_init 26 = .ok (.aload_n 0, 1) := by decide +kernel
theorem dX8_init_27 : decode cX8_init 27 = .ok (.iconst 5, 1) := by decide +kernel
theorem dX8_init_28 : decode cX8_init 28 = .ok (.anewarray 23, 3) := by decide +kernel
theorem dX8_init_31 : decode cX8_init 31 = .ok (.putfield 25, 3) := by decide +kernel
theorem dX8_init_34 : decode cX8_init 34 = .ok (.aload_n 0, 1) := by decide +kernel
theorem dX8_init_35 : decode cX8_init 35 = .ok (.bipush 40, 2) := by decide +kernel
theorem dX8_init_37 : decode cX8_init 37 = .ok (.anewarray 29, 3) := by decide +kernel
theorem dX8_init_40 : decode cX8_init 40 = .ok (.putfield 31, 3) := by decide +kernel
theorem dX8_init_43 : decode cX8_init 43 = .ok (.aload_n 0, 1) := by decide +kernel
theorem dX8_init_44 : decode cX8_init 44 = .ok (.new 35, 3) := by decide +kernel
theorem dX8_init_47 : decode cX8_init 47 = .ok (.dup, 1) := by decide +kernel
theorem dX8_init_48 : decode cX8_init 48 = .ok (.invokespecial 37, 3) := by decide +kernel
theorem dX8_init_51 : decode cX8_init 51 = .ok (.putfield 38, 3) := by decide +kernel
theorem dX8_init_54 : decode cX8_init 54 = .ok (.aload_n 0, 1) := by decide +kernel
theorem dX8_init_55 : decode cX8_init 55 = .ok (.new 42, 3) := by decide +kernel
theorem dX8_init_58 : decode cX8_init 58 = .ok (.dup, 1) := by decide +kernel
theorem dX8_init_59 : decode cX8_init 59 = .ok (.invokespecial 44, 3) := by decide +kernel
theorem dX8_init_62 : decode cX8_init 62 = .ok (.putfield 45, 3) := by decide +kernel
theorem dX8_init_65 : decode cX8_init 65 = .ok (.aload_n 0, 1) := by decide +kernel
theorem dX8_init_66 : decode cX8_init 66 = .ok (.new 49, 3) := by decide +kernel
theorem dX8_init_69 : decode cX8_init 69 = .ok (.dup, 1) := by decide +kernel
theorem dX8_init_70 : decode cX8_init 70 = .ok (.invokespecial 51, 3) := by decide +kernel
theorem dX8_init_73 : decode cX8_init 73 = .ok (.putfield 52, 3) := by decide +kernel
theorem dX8_init_76 : decode cX8_init 76 = .ok (.aload_n 0, 1) := by decide +kernel
theorem dX8_init_77 : decode cX8_init 77 = .ok (.new 56, 3) := by decide +kernel
theorem dX8_init_80 : decode cX8_init 80 = .ok (.dup, 1) := by decide +kernel
theorem dX8_init_81 : decode cX8_init 81 = .ok (.invokespecial 58, 3) := by decide +kernel
theorem dX8_init_84 : decode cX8_init 84 = .ok (.putfield 59, 3) := by decide +kernel
theorem dX8_init_87 : decode cX8_init 87 = .ok (.aload_n 0, 1) := by decide +kernel
theorem dX8_init_88 : decode cX8_init 88 = .ok (.new 56, 3) := by decide +kernel
theorem dX8_init_91 : decode cX8_init 91 = .ok (.dup, 1) := by decide +kernel
theorem dX8_init_92 : decode cX8_init 92 = .ok (.invokespecial 58, 3) := by decide +kernel
theorem dX8_init_95 : decode cX8_init 95 = .ok (.putfield 63, 3) := by decide +kernel
theorem dX8_init_98 : decode cX8_init 98 = .ok (.aload_n 0, 1) := by decide +kernel
theorem dX8_init_99 : decode cX8_init 99 = .ok (.new 56, 3) := by decide +kernel
theorem dX8_init_102 : decode cX8_init 102 = .ok (.dup, 1) := by decide +kernel
theorem dX8_init_103 : decode cX8_init 103 = .ok (.invokespecial 58, 3) := by decide +kernel
theorem dX8_init_106 : decode cX8_init 106 = .ok (.putfield 66, 3) := by decide +kernel
theorem dX8_init_109 : decode cX8_init 109 = .ok (.aload_n 0, 1) := by decide +kernel
theorem dX8_init_110 : decode cX8_init 110 = .ok (.iconst 0, 1) := by decide +kernel
theorem dX8_init_111 : decode cX8_init 111 = .ok (.putfield 69, 3) := by decide +kernel
theorem dX8_init_114 : decode cX8_init 114 = .ok (.aload_n 0, 1) := by decide +kernel
theorem dX8_init_115 : decode cX8_init 115 = .ok (.iconst 0, 1) := by decide +kernel
theorem dX8_init_116 : decode cX8_init 116 = .ok (.putfield 73, 3) := by decide +kernel
theorem dX8_init_119 : decode cX8_init 119 = .ok (.aload_n 0, 1) := by decide +kernel
theorem dX8_init_120 : decode cX8_init 120 = .ok (.iconst 0, 1) := by decide +kernel
theorem dX8_init_121 : decode cX8_init 121 = .ok (.putfield 76, 3) := by decide +kernel
theorem dX8_init_124 : decode cX8_init 124 = .ok (.aload_n 0, 1) := by decide +kernel
theorem dX8_init_125 : decode cX8_init 125 = .ok (.sipush 1000, 3) := by decide +kernel
theorem dX8_init_128 : decode cX8_init 128 = .ok (.putfield 79, 3) := by decide +kernel
theorem dX8_init_131 : decode cX8_init 131 = .ok (.iconst 0, 1) := by decide +kernel
theorem dX8_init_132 : decode cX8_init 132 = .ok (.istore_n 1, 1) := by decide +kernel
theorem dX8_init_133 : decode cX8_init 133 = .ok (.iload_n 1, 1) := by decide +kernel
theorem dX8_init_134 : decode cX8_init 134 = .ok (.iconst 5, 1) := by decide +kernel
theorem dX8_init_135 : decode cX8_init 135 = .ok (.if_icmp .ge 22, 3) := by decide +kernel
theorem dX8_init_138 : decode cX8_init 138 = .ok (.aload_n 0, 1) := by decide +kernel
theorem dX8_init_139 : decode cX8_init 139 = .ok (.getfield 25, 3) := by decide +kernel
theorem dX8_init_142 : decode cX8_init 142 = .ok (.iload_n 1, 1) := by decide +kernel
theorem dX8_init_143 : decode cX8_init 143 = .ok (.new 23, 3) := by decide +kernel
theorem dX8_init_146 : decode cX8_init 146 = .ok (.dup, 1) := by decide +kernel
theorem dX8_init_147 : decode cX8_init 147 = .ok (.invokespecial 82, 3) := by decide +kernel
theorem dX8_init_150 : decode cX8_init 150 = .ok (.aastore, 1) := by decide +kernel
theorem dX8_init_151 : decode cX8_init 151 = .ok (.iinc 1 1, 3) := by decide +kernel
theorem dX8_init_154 : decode cX8_init 154 = .ok (.goto (-21), 3) := by decide +kernel
theorem dX8_init_157 : decode cX8_init 157 = .ok (.iconst 0, 1) := by decide +kernel
theorem dX8_init_158 : decode cX8_init 158 = .ok (.istore_n 1, 1) := by decide +kernel
theorem dX8_init_159 : decode cX8_init 159 = .ok (.iload_n 1, 1) := by decide +kernel
theorem dX8_init_160 : decode cX8_init 160 = .ok (.bipush 40, 2) := by decide +kernel
theorem dX8_init_162 : decode cX8_init 162 = .ok (.if_icmp .ge 22, 3) := by decide +kernel
theorem dX8_init_165 : decode cX8_init 165 = .ok (.aload_n 0, 1) := by decide +kernel
theorem dX8_init_166 : decode cX8_init 166 = .ok (.getfield 31, 3) := by decide +kernel
theorem dX8_init_169 : decode cX8_init 169 = .ok (.iload_n 1, 1) := by decide +kernel
theorem dX8_init_170 : decode cX8_init 170 = .ok (.new 29, 3) := by decide +kernel
theorem dX8_init_173 : decode cX8_init 173 = .ok (.dup, 1) := by decide +kernel
theorem dX8_init_174 : decode cX8_init 174 = .ok (.invokespecial 83, 3) := by decide +kernel
theorem dX8_init_177 : decode cX8_init 177 = .ok (.aastore, 1) := by decide +kernel
theorem dX8_init_178 : decode cX8_init 178 = .ok (.iinc 1 1, 3) := by decide +kernel
theorem dX8_init_181 : decode cX8_init 181 = .ok (.goto (-22), 3) := by decide +kernel
theorem dX8_init_184 : decode cX8_init 184 = .ok (.return_, 1) := by decide +kernel
theorem dX8_step_0 : decode cX8_step 0 = .ok (.iload_n 1, 1) := by decide +kernel
theorem dX8_step_1 : decode cX8_step 1 = .ok (.iload_n 2, 1) := by decide +kernel
theorem dX8_step_2 : decode cX8_step 2 = .ok (.iload_n 3, 1) := by decide +kernel
theorem dX8_step_3 : decode cX8_step 3 = .ok (.invokestatic 84, 3) := by decide +kernel
theorem dX8_step_6 : decode cX8_step 6 = .ok (.ifCond .ne 11, 3) := by decide +kernel
theorem dX8_step_9 : decode cX8_step 9 = .ok (.new 88, 3) := by decide +kernel
theorem dX8_step_12 : decode cX8_step 12 = .ok (.dup, 1) := by decide +kernel
theorem dX8_step_13 : decode cX8_step 13 = .ok (.invokespecial 90, 3) := by decide +kernel
theorem dX8_step_16 : decode cX8_step 16 = .ok (.athrow, 1) := by decide +kernel
theorem dX8_step_17 : decode cX8_step 17 = .ok (.aload_n 0, 1) := by decide +kernel
theorem dX8_step_18 : decode cX8_step 18 = .ok (.getfield 12, 3) := by decide +kernel
theorem dX8_step_21 : decode cX8_step 21 = .ok (.getfield 91, 3) := by decide +kernel
theorem dX8_step_24 : decode cX8_step 24 = .ok (.bipush 20, 2) := by decide +kernel
theorem dX8_step_26 : decode cX8_step 26 = .ok (.if_icmp .lt 11, 3) := by decide +kernel
theorem dX8_step_29 : decode cX8_step 29 = .ok (.new 94, 3) := by decide +kernel
theorem dX8_step_32 : decode cX8_step 32 = .ok (.dup, 1) := by decide +kernel
theorem dX8_step_33 : decode cX8_step 33 = .ok (.invokespecial 96, 3) := by decide +kernel
theorem dX8_step_36 : decode cX8_step 36 = .ok (.athrow, 1) := by decide +kernel
theorem dX8_step_37 : decode cX8_step 37 = .ok (.aload_n 0, 1) := by decide +kernel
theorem dX8_step_38 : decode cX8_step 38 = .ok (.getfield 12, 3) := by decide +kernel
theorem dX8_step_41 : decode cX8_step 41 = .ok (.iload_n 1, 1) := by decide +kernel
theorem dX8_step_42 : decode cX8_step 42 = .ok (.iload_n 2, 1) := by decide +kernel
theorem dX8_step_43 : decode cX8_step 43 = .ok (.iload_n 3, 1) := by decide +kernel
theorem dX8_step_44 : decode cX8_step 44 = .ok (.invokevirtual 97, 3) := by decide +kernel
theorem dX8_step_47 : decode cX8_step 47 = .ok (.aload_n 0, 1) := by decide +kernel
theorem dX8_step_48 : decode cX8_step 48 = .ok (.getfield 12, 3) := by decide +kernel
theorem dX8_step_51 : decode cX8_step 51 = .ok (.getfield 91, 3) := by decide +kernel
theorem dX8_step_54 : decode cX8_step 54 = .ok (.ireturn, 1) := by decide +kernel
theorem dX8_number_0 : decode cX8_number 0 = .ok (.iload_n 1, 1) := by decide +kernel
theorem dX8_number_1 : decode cX8_number 1 = .ok (.invokestatic 101, 3) := by decide +kernel
theorem dX8_number_4 : decode cX8_number 4 = .ok (.ifCond .ne 11, 3) := by decide +kernel
theorem dX8_number_7 : decode cX8_number 7 = .ok (.new 88, 3) := by decide +kernel
theorem dX8_number_10 : decode cX8_number 10 = .ok (.dup, 1) := by decide +kernel
theorem dX8_number_11 : decode cX8_number 11 = .ok (.invokespecial 90, 3) := by decide +kernel
theorem dX8_number_14 : decode cX8_number 14 = .ok (.athrow, 1) := by decide +kernel
theorem dX8_number_15 : decode cX8_number 15 = .ok (.aload_n 0, 1) := by decide +kernel
theorem dX8_number_16 : decode cX8_number 16 = .ok (.getfield 19, 3) := by decide +kernel
theorem dX8_number_19 : decode cX8_number 19 = .ok (.iload_n 2, 1) := by decide +kernel
theorem dX8_number_20 : decode cX8_number 20 = .ok (.invokevirtual 105, 3) := by decide +kernel
theorem dX8_number_23 : decode cX8_number 23 = .ok (.ifCond .ne 11, 3) := by decide +kernel
theorem dX8_number_26 : decode cX8_number 26 = .ok (.new 94, 3) := by decide +kernel
theorem dX8_number_29 : decode cX8_number 29 = .ok (.dup, 1) := by decide +kernel
theorem dX8_number_30 : decode cX8_number 30 = .ok (.invokespecial 96, 3) := by decide +kernel
theorem dX8_number_33 : decode cX8_number 33 = .ok (.athrow, 1) := by decide +kernel
theorem dX8_number_34 : decode cX8_number 34 = .ok (.aload_n 0, 1) := by decide +kernel
theorem dX8_number_35 : decode cX8_number 35 = .ok (.getfield 19, 3) := by decide +kernel
theorem dX8_number_38 : decode cX8_number 38 = .ok (.iload_n 1, 1) := by decide +kernel
theorem dX8_number_39 : decode cX8_number 39 = .ok (.iload_n 2, 1) := by decide +kernel
theorem dX8_number_40 : decode cX8_number 40 = .ok (.invokevirtual 109, 3) := by decide +kernel
theorem dX8_number_43 : decode cX8_number 43 = .ok (.ireturn, 1) := by decide +kernel
theorem dX8_wipe_0 : decode cX8_wipe 0 = .ok (.iload_n 1, 1) := by decide +kernel
theorem dX8_wipe_1 : decode cX8_wipe 1 = .ok (.ifCond .eq 11, 3) := by decide +kernel
theorem dX8_wipe_4 : decode cX8_wipe 4 = .ok (.aload_n 0, 1) := by decide +kernel
theorem dX8_wipe_5 : decode cX8_wipe 5 = .ok (.getfield 12, 3) := by decide +kernel
theorem dX8_wipe_8 : decode cX8_wipe 8 = .ok (.invokevirtual 112, 3) := by decide +kernel
theorem dX8_wipe_11 : decode cX8_wipe 11 = .ok (.ireturn, 1) := by decide +kernel
theorem dX8_wipe_12 : decode cX8_wipe 12 = .ok (.aload_n 0, 1) := by decide +kernel
theorem dX8_wipe_13 : decode cX8_wipe 13 = .ok (.getfield 19, 3) := by decide +kernel
theorem dX8_wipe_16 : decode cX8_wipe 16 = .ok (.invokevirtual 116, 3) := by decide +kernel
theorem dX8_wipe_19 : decode cX8_wipe 19 = .ok (.ireturn, 1) := by decide +kernel
theorem dX8_problem_0 : decode cX8_problem 0 = .ok (.iload_n 1, 1) := by decide +kernel
theorem dX8_problem_1 : decode cX8_problem 1 = .ok (.invokestatic 117, 3) := by decide +kernel
theorem dX8_problem_4 : decode cX8_problem 4 = .ok (.ifCond .eq 14, 3) := by decide +kernel
theorem dX8_problem_7 : decode cX8_problem 7 = .ok (.iload_n 2, 1) := by decide +kernel
theorem dX8_problem_8 : decode cX8_problem 8 = .ok (.iconst 1, 1) := by decide +kernel
theorem dX8_problem_9 : decode cX8_problem 9 = .ok (.sipush 400, 3) := by decide +kernel
theorem dX8_problem_12 : decode cX8_problem 12 = .ok (.invokestatic 120, 3) := by decide +kernel
theorem dX8_problem_15 : decode cX8_problem 15 = .ok (.ifCond .ne 11, 3) := by decide +kernel
theorem dX8_problem_18 : decode cX8_problem 18 = .ok (.new 88, 3) := by decide +kernel
theorem dX8_problem_21 : decode cX8_problem 21 = .ok (.dup, 1) := by decide +kernel
theorem dX8_problem_22 : decode cX8_problem 22 = .ok (.invokespecial 90, 3) := by decide +kernel
theorem dX8_problem_25 : decode cX8_problem 25 = .ok (.athrow, 1) := by decide +kernel
theorem dX8_problem_26 : decode cX8_problem 26 = .ok (.aload_n 0, 1) := by decide +kernel
theorem dX8_problem_27 : decode cX8_problem 27 = .ok (.getfield 69, 3) := by decide +kernel
theorem dX8_problem_30 : decode cX8_problem 30 = .ok (.iconst 5, 1) := by decide +kernel
theorem dX8_problem_31 : decode cX8_problem 31 = .ok (.if_icmp .lt 11, 3) := by decide +kernel
theorem dX8_problem_34 : decode cX8_problem 34 = .ok (.new 94, 3) := by decide +kernel
theorem dX8_problem_37 : decode cX8_problem 37 = .ok (.dup, 1) := by decide +kernel
theorem dX8_problem_38 : decode cX8_problem 38 = .ok (.invokespecial 96, 3) := by decide +kernel
theorem dX8_problem_41 : decode cX8_problem 41 = .ok (.athrow, 1) := by decide +kernel
theorem dX8_problem_42 : decode cX8_problem 42 = .ok (.aload_n 0, 1) := by decide +kernel
theorem dX8_problem_43 : decode cX8_problem 43 = .ok (.getfield 25, 3) := by decide +kernel
theorem dX8_problem_46 : decode cX8_problem 46 = .ok (.aload_n 0, 1) := by decide +kernel
theorem dX8_problem_47 : decode cX8_problem 47 = .ok (.getfield 69, 3) := by decide +kernel
theorem dX8_problem_50 : decode cX8_problem 50 = .ok (.aaload, 1) := by decide +kernel
theorem dX8_problem_51 : decode cX8_problem 51 = .ok (.iload_n 1, 1) := by decide +kernel
theorem dX8_problem_52 : decode cX8_problem 52 = .ok (.putfield 124, 3) := by decide +kernel
theorem dX8_problem_55 : decode cX8_problem 55 = .ok (.aload_n 0, 1) := by decide +kernel
theorem dX8_problem_56 : decode cX8_problem 56 = .ok (.getfield 25, 3) := by decide +kernel
theorem dX8_problem_59 : decode cX8_problem 59 = .ok (.aload_n 0, 1) := by decide +kernel
theorem dX8_problem_60 : decode cX8_problem 60 = .ok (.getfield 69, 3) := by decide +kernel
theorem dX8_problem_63 : decode cX8_problem 63 = .ok (.aaload, 1) := by decide +kernel
theorem dX8_problem_64 : decode cX8_problem 64 = .ok (.iload_n 2, 1) := by decide +kernel
theorem dX8_problem_65 : decode cX8_problem 65 = .ok (.putfield 127, 3) := by decide +kernel
theorem dX8_problem_68 : decode cX8_problem 68 = .ok (.aload_n 0, 1) := by decide +kernel
theorem dX8_problem_69 : decode cX8_problem 69 = .ok (.dup, 1) := by decide +kernel
theorem dX8_problem_70 : decode cX8_problem 70 = .ok (.getfield 69, 3) := by decide +kernel
theorem dX8_problem_73 : decode cX8_problem 73 = .ok (.iconst 1, 1) := by decide +kernel
theorem dX8_problem_74 : decode cX8_problem 74 = .ok (.iadd, 1) := by decide +kernel
theorem dX8_problem_75 : decode cX8_problem 75 = .ok (.putfield 69, 3) := by decide +kernel
theorem dX8_problem_78 : decode cX8_problem 78 = .ok (.aload_n 0, 1) := by decide +kernel
theorem dX8_problem_79 : decode cX8_problem 79 = .ok (.getfield 69, 3) := by decide +kernel
theorem dX8_problem_82 : decode cX8_problem 82 = .ok (.iconst 1, 1) := by decide +kernel
theorem dX8_problem_83 : decode cX8_problem 83 = .ok (.isub, 1) := by decide +kernel
theorem dX8_problem_84 : decode cX8_problem 84 = .ok (.ireturn, 1) := by decide +kernel
theorem dX8_test_0 : decode cX8_test 0 = .ok (.aload_n 0, 1) := by decide +kernel
theorem dX8_test_1 : decode cX8_test 1 = .ok (.iload_n 1, 1) := by decide +kernel
theorem dX8_test_2 : decode cX8_test 2 = .ok (.invokevirtual 130, 3) := by decide +kernel
theorem dX8_test_5 : decode cX8_test 5 = .ok (.ifCond .ne 11, 3) := by decide +kernel
theorem dX8_test_8 : decode cX8_test 8 = .ok (.new 133, 3) := by decide +kernel
theorem dX8_test_11 : decode cX8_test 11 = .ok (.dup, 1) := by decide +kernel
theorem dX8_test_12 : decode cX8_test 12 = .ok (.invokespecial 135, 3) := by decide +kernel
theorem dX8_test_15 : decode cX8_test 15 = .ok (.athrow, 1) := by decide +kernel
theorem dX8_test_16 : decode cX8_test 16 = .ok (.aload_n 0, 1) := by decide +kernel
theorem dX8_test_17 : decode cX8_test 17 = .ok (.getfield 25, 3) := by decide +kernel
theorem dX8_test_20 : decode cX8_test 20 = .ok (.iload_n 1, 1) := by decide +kernel
theorem dX8_test_21 : decode cX8_test 21 = .ok (.aaload, 1) := by decide +kernel
theorem dX8_test_22 : decode cX8_test 22 = .ok (.getfield 136, 3) := by decide +kernel
theorem dX8_test_25 : decode cX8_test 25 = .ok (.istore_n 2, 1) := by decide +kernel
theorem dX8_test_26 : decode cX8_test 26 = .ok (.iload_n 2, 1) := by decide +kernel
theorem dX8_test_27 : decode cX8_test 27 = .ok (.bipush 6, 2) := by decide +kernel
theorem dX8_test_29 : decode cX8_test 29 = .ok (.if_icmp .lt 11, 3) := by decide +kernel
theorem dX8_test_32 : decode cX8_test 32 = .ok (.new 94, 3) := by decide +kernel
theorem dX8_test_35 : decode cX8_test 35 = .ok (.dup, 1) := by decide +kernel
theorem dX8_test_36 : decode cX8_test 36 = .ok (.invokespecial 96, 3) := by decide +kernel
theorem dX8_test_39 : decode cX8_test 39 = .ok (.athrow, 1) := by decide +kernel
theorem dX8_test_40 : decode cX8_test 40 = .ok (.aload_n 0, 1) := by decide +kernel
theorem dX8_test_41 : decode cX8_test 41 = .ok (.getfield 25, 3) := by decide +kernel
theorem dX8_test_44 : decode cX8_test 44 = .ok (.iload_n 1, 1) := by decide +kernel
theorem dX8_test_45 : decode cX8_test 45 = .ok (.aaload, 1) := by decide +kernel
theorem dX8_test_46 : decode cX8_test 46 = .ok (.dup, 1) := by decide +kernel
theorem dX8_test_47 : decode cX8_test 47 = .ok (.getfield 136, 3) := by decide +kernel
theorem dX8_test_50 : decode cX8_test 50 = .ok (.iconst 1, 1) := by decide +kernel
theorem dX8_test_51 : decode cX8_test 51 = .ok (.iadd, 1) := by decide +kernel
theorem dX8_test_52 : decode cX8_test 52 = .ok (.putfield 136, 3) := by decide +kernel
theorem dX8_test_55 : decode cX8_test 55 = .ok (.aload_n 0, 1) := by decide +kernel
theorem dX8_test_56 : decode cX8_test 56 = .ok (.getfield 25, 3) := by decide +kernel
theorem dX8_test_59 : decode cX8_test 59 = .ok (.iload_n 1, 1) := by decide +kernel
theorem dX8_test_60 : decode cX8_test 60 = .ok (.aaload, 1) := by decide +kernel
theorem dX8_test_61 : decode cX8_test 61 = .ok (.getfield 139, 3) := by decide +kernel
theorem dX8_test_64 : decode cX8_test 64 = .ok (.iload_n 2, 1) := by decide +kernel
theorem dX8_test_65 : decode cX8_test 65 = .ok (.aaload, 1) := by decide +kernel
theorem dX8_test_66 : decode cX8_test 66 = .ok (.aload_n 0, 1) := by decide +kernel
theorem dX8_test_67 : decode cX8_test 67 = .ok (.getfield 19, 3) := by decide +kernel
theorem dX8_test_70 : decode cX8_test 70 = .ok (.invokevirtual 143, 3) := by decide +kernel
theorem dX8_test_73 : decode cX8_test 73 = .ok (.aload_n 0, 1) := by decide +kernel
theorem dX8_test_74 : decode cX8_test 74 = .ok (.iload_n 1, 1) := by decide +kernel
theorem dX8_test_75 : decode cX8_test 75 = .ok (.iload_n 2, 1) := by decide +kernel
theorem dX8_test_76 : decode cX8_test 76 = .ok (.invokevirtual 147, 3) := by decide +kernel
theorem dX8_test_79 : decode cX8_test 79 = .ok (.ireturn, 1) := by decide +kernel
theorem dX8_fix_0 : decode cX8_fix 0 = .ok (.aload_n 0, 1) := by decide +kernel
theorem dX8_fix_1 : decode cX8_fix 1 = .ok (.iload_n 1, 1) := by decide +kernel
theorem dX8_fix_2 : decode cX8_fix 2 = .ok (.invokevirtual 130, 3) := by decide +kernel
theorem dX8_fix_5 : decode cX8_fix 5 = .ok (.ifCond .eq 16, 3) := by decide +kernel
theorem dX8_fix_8 : decode cX8_fix 8 = .ok (.aload_n 0, 1) := by decide +kernel
theorem dX8_fix_9 : decode cX8_fix 9 = .ok (.getfield 25, 3) := by decide +kernel
theorem dX8_fix_12 : decode cX8_fix 12 = .ok (.iload_n 1, 1) := by decide +kernel
theorem dX8_fix_13 : decode cX8_fix 13 = .ok (.aaload, 1) := by decide +kernel
theorem dX8_fix_14 : decode cX8_fix 14 = .ok (.iload_n 2, 1) := by decide +kernel
theorem dX8_fix_15 : decode cX8_fix 15 = .ok (.invokevirtual 151, 3) := by decide +kernel
theorem dX8_fix_18 : decode cX8_fix 18 = .ok (.ifCond .ne 11, 3) := by decide +kernel
theorem dX8_fix_21 : decode cX8_fix 21 = .ok (.new 133, 3) := by decide +kernel
theorem dX8_fix_24 : decode cX8_fix 24 = .ok (.dup, 1) := by decide +kernel
theorem dX8_fix_25 : decode cX8_fix 25 = .ok (.invokespecial 135, 3) := by decide +kernel
theorem dX8_fix_28 : decode cX8_fix 28 = .ok (.athrow, 1) := by decide +kernel
theorem dX8_fix_29 : decode cX8_fix 29 = .ok (.aload_n 0, 1) := by decide +kernel
theorem dX8_fix_30 : decode cX8_fix 30 = .ok (.getfield 25, 3) := by decide +kernel
theorem dX8_fix_33 : decode cX8_fix 33 = .ok (.iload_n 1, 1) := by decide +kernel
theorem dX8_fix_34 : decode cX8_fix 34 = .ok (.aaload, 1) := by decide +kernel
theorem dX8_fix_35 : decode cX8_fix 35 = .ok (.getfield 139, 3) := by decide +kernel
theorem dX8_fix_38 : decode cX8_fix 38 = .ok (.iload_n 2, 1) := by decide +kernel
theorem dX8_fix_39 : decode cX8_fix 39 = .ok (.aaload, 1) := by decide +kernel
theorem dX8_fix_40 : decode cX8_fix 40 = .ok (.aload_n 0, 1) := by decide +kernel
theorem dX8_fix_41 : decode cX8_fix 41 = .ok (.getfield 19, 3) := by decide +kernel
theorem dX8_fix_44 : decode cX8_fix 44 = .ok (.invokevirtual 143, 3) := by decide +kernel
theorem dX8_fix_47 : decode cX8_fix 47 = .ok (.aload_n 0, 1) := by decide +kernel
theorem dX8_fix_48 : decode cX8_fix 48 = .ok (.iload_n 1, 1) := by decide +kernel
theorem dX8_fix_49 : decode cX8_fix 49 = .ok (.iload_n 2, 1) := by decide +kernel
theorem dX8_fix_50 : decode cX8_fix 50 = .ok (.invokevirtual 147, 3) := by decide +kernel
theorem dX8_fix_53 : decode cX8_fix 53 = .ok (.ireturn, 1) := by decide +kernel
theorem dX8_tests_0 : decode cX8_tests 0 = .ok (.aload_n 0, 1) := by decide +kernel
theorem dX8_tests_1 : decode cX8_tests 1 = .ok (.iload_n 1, 1) := by decide +kernel
theorem dX8_tests_2 : decode cX8_tests 2 = .ok (.invokevirtual 130, 3) := by decide +kernel
theorem dX8_tests_5 : decode cX8_tests 5 = .ok (.ifCond .ne 11, 3) := by decide +kernel
theorem dX8_tests_8 : decode cX8_tests 8 = .ok (.new 133, 3) := by decide +kernel
theorem dX8_tests_11 : decode cX8_tests 11 = .ok (.dup, 1) := by decide +kernel
theorem dX8_tests_12 : decode cX8_tests 12 = .ok (.invokespecial 135, 3) := by decide +kernel
theorem dX8_tests_15 : decode cX8_tests 15 = .ok (.athrow, 1) := by decide +kernel
theorem dX8_tests_16 : decode cX8_tests 16 = .ok (.aload_n 0, 1) := by decide +kernel
theorem dX8_tests_17 : decode cX8_tests 17 = .ok (.getfield 25, 3) := by decide +kernel
theorem dX8_tests_20 : decode cX8_tests 20 = .ok (.iload_n 1, 1) := by decide +kernel
theorem dX8_tests_21 : decode cX8_tests 21 = .ok (.aaload, 1) := by decide +kernel
theorem dX8_tests_22 : decode cX8_tests 22 = .ok (.getfield 136, 3) := by decide +kernel
theorem dX8_tests_25 : decode cX8_tests 25 = .ok (.ireturn, 1) := by decide +kernel
theorem dX8_team_0 : decode cX8_team 0 = .ok (.aload_n 0, 1) := by decide +kernel
theorem dX8_team_1 : decode cX8_team 1 = .ok (.getfield 73, 3) := by decide +kernel
theorem dX8_team_4 : decode cX8_team 4 = .ok (.bipush 8, 2) := by decide +kernel
theorem dX8_team_6 : decode cX8_team 6 = .ok (.if_icmp .lt 11, 3) := by decide +kernel
theorem dX8_team_9 : decode cX8_team 9 = .ok (.new 94, 3) := by decide +kernel
theorem dX8_team_12 : decode cX8_team 12 = .ok (.dup, 1) := by decide +kernel
theorem dX8_team_13 : decode cX8_team 13 = .ok (.invokespecial 96, 3) := by decide +kernel
theorem dX8_team_16 : decode cX8_team 16 = .ok (.athrow, 1) := by decide +kernel
theorem dX8_team_17 : decode cX8_team 17 = .ok (.aload_n 0, 1) := by decide +kernel
theorem dX8_team_18 : decode cX8_team 18 = .ok (.dup, 1) := by decide +kernel
theorem dX8_team_19 : decode cX8_team 19 = .ok (.getfield 73, 3) := by decide +kernel
theorem dX8_team_22 : decode cX8_team 22 = .ok (.iconst 1, 1) := by decide +kernel
theorem dX8_team_23 : decode cX8_team 23 = .ok (.iadd, 1) := by decide +kernel
theorem dX8_team_24 : decode cX8_team 24 = .ok (.putfield 73, 3) := by decide +kernel
theorem dX8_team_27 : decode cX8_team 27 = .ok (.aload_n 0, 1) := by decide +kernel
theorem dX8_team_28 : decode cX8_team 28 = .ok (.invokevirtual 154, 3) := by decide +kernel
theorem dX8_team_31 : decode cX8_team 31 = .ok (.aload_n 0, 1) := by decide +kernel
theorem dX8_team_32 : decode cX8_team 32 = .ok (.getfield 73, 3) := by decide +kernel
theorem dX8_team_35 : decode cX8_team 35 = .ok (.iconst 1, 1) := by decide +kernel
theorem dX8_team_36 : decode cX8_team 36 = .ok (.isub, 1) := by decide +kernel
theorem dX8_team_37 : decode cX8_team 37 = .ok (.ireturn, 1) := by decide +kernel
theorem dX8_submit_0 : decode cX8_submit 0 = .ok (.aload_n 0, 1) := by decide +kernel
theorem dX8_submit_1 : decode cX8_submit 1 = .ok (.iload_n 1, 1) := by decide +kernel
theorem dX8_submit_2 : decode cX8_submit 2 = .ok (.invokevirtual 157, 3) := by decide +kernel
theorem dX8_submit_5 : decode cX8_submit 5 = .ok (.ifCond .eq 11, 3) := by decide +kernel
theorem dX8_submit_8 : decode cX8_submit 8 = .ok (.aload_n 0, 1) := by decide +kernel
theorem dX8_submit_9 : decode cX8_submit 9 = .ok (.iload_n 2, 1) := by decide +kernel
theorem dX8_submit_10 : decode cX8_submit 10 = .ok (.invokevirtual 130, 3) := by decide +kernel
theorem dX8_submit_13 : decode cX8_submit 13 = .ok (.ifCond .ne 11, 3) := by decide +kernel
theorem dX8_submit_16 : decode cX8_submit 16 = .ok (.new 133, 3) := by decide +kernel
theorem dX8_submit_19 : decode cX8_submit 19 = .ok (.dup, 1) := by decide +kernel
theorem dX8_submit_20 : decode cX8_submit 20 = .ok (.invokespecial 135, 3) := by decide +kernel
theorem dX8_submit_23 : decode cX8_submit 23 = .ok (.athrow, 1) := by decide +kernel
theorem dX8_submit_24 : decode cX8_submit 24 = .ok (.iload_n 3, 1) := by decide +kernel
theorem dX8_submit_25 : decode cX8_submit 25 = .ok (.aload_n 0, 1) := by decide +kernel
theorem dX8_submit_26 : decode cX8_submit 26 = .ok (.invokevirtual 160, 3) := by decide +kernel
theorem dX8_submit_29 : decode cX8_submit 29 = .ok (.sipush 999, 3) := by decide +kernel
theorem dX8_submit_32 : decode cX8_submit 32 = .ok (.invokestatic 120, 3) := by decide +kernel
theorem dX8_submit_35 : decode cX8_submit 35 = .ok (.ifCond .ne 11, 3) := by decide +kernel
theorem dX8_submit_38 : decode cX8_submit 38 = .ok (.new 88, 3) := by decide +kernel
theorem dX8_submit_41 : decode cX8_submit 41 = .ok (.dup, 1) := by decide +kernel
theorem dX8_submit_42 : decode cX8_submit 42 = .ok (.invokespecial 90, 3) := by decide +kernel
theorem dX8_submit_45 : decode cX8_submit 45 = .ok (.athrow, 1) := by decide +kernel
theorem dX8_submit_46 : decode cX8_submit 46 = .ok (.aload_n 0, 1) := by decide +kernel
theorem dX8_submit_47 : decode cX8_submit 47 = .ok (.getfield 76, 3) := by decide +kernel
theorem dX8_submit_50 : decode cX8_submit 50 = .ok (.bipush 40, 2) := by decide +kernel
theorem dX8_submit_52 : decode cX8_submit 52 = .ok (.if_icmp .lt 11, 3) := by decide +kernel
theorem dX8_submit_55 : decode cX8_submit 55 = .ok (.new 94, 3) := by decide +kernel
theorem dX8_submit_58 : decode cX8_submit 58 = .ok (.dup, 1) := by decide +kernel
theorem dX8_submit_59 : decode cX8_submit 59 = .ok (.invokespecial 96, 3) := by decide +kernel
theorem dX8_submit_62 : decode cX8_submit 62 = .ok (.athrow, 1) := by decide +kernel
theorem dX8_submit_63 : decode cX8_submit 63 = .ok (.aload_n 0, 1) := by decide +kernel
theorem dX8_submit_64 : decode cX8_submit 64 = .ok (.getfield 31, 3) := by decide +kernel
theorem dX8_submit_67 : decode cX8_submit 67 = .ok (.aload_n 0, 1) := by decide +kernel
theorem dX8_submit_68 : decode cX8_submit 68 = .ok (.getfield 76, 3) := by decide +kernel
theorem dX8_submit_71 : decode cX8_submit 71 = .ok (.aaload, 1) := by decide +kernel
theorem dX8_submit_72 : decode cX8_submit 72 = .ok (.astore 4, 2) := by decide +kernel
theorem dX8_submit_74 : decode cX8_submit 74 = .ok (.aload_n 0, 1) := by decide +kernel
theorem dX8_submit_75 : decode cX8_submit 75 = .ok (.dup, 1) := by decide +kernel
theorem dX8_submit_76 : decode cX8_submit 76 = .ok (.getfield 76, 3) := by decide +kernel
theorem dX8_submit_79 : decode cX8_submit 79 = .ok (.iconst 1, 1) := by decide +kernel
theorem dX8_submit_80 : decode cX8_submit 80 = .ok (.iadd, 1) := by decide +kernel
theorem dX8_submit_81 : decode cX8_submit 81 = .ok (.putfield 76, 3) := by decide +kernel
theorem dX8_submit_84 : decode cX8_submit 84 = .ok (.aload 4, 2) := by decide +kernel
theorem dX8_submit_86 : decode cX8_submit 86 = .ok (.iload_n 1, 1) := by decide +kernel
theorem dX8_submit_87 : decode cX8_submit 87 = .ok (.putfield 163, 3) := by decide +kernel
theorem dX8_submit_90 : decode cX8_submit 90 = .ok (.aload 4, 2) := by decide +kernel
theorem dX8_submit_92 : decode cX8_submit 92 = .ok (.iload_n 2, 1) := by decide +kernel
theorem dX8_submit_93 : decode cX8_submit 93 = .ok (.putfield 166, 3) := by decide +kernel
theorem dX8_submit_96 : decode cX8_submit 96 = .ok (.aload 4, 2) := by decide +kernel
theorem dX8_submit_98 : decode cX8_submit 98 = .ok (.iload_n 3, 1) := by decide +kernel
theorem dX8_submit_99 : decode cX8_submit 99 = .ok (.putfield 169, 3) := by decide +kernel
theorem dX8_submit_102 : decode cX8_submit 102 = .ok (.aload 4, 2) := by decide +kernel
theorem dX8_submit_104 : decode cX8_submit 104 = .ok (.iload_n 3, 1) := by decide +kernel
theorem dX8_submit_105 : decode cX8_submit 105 = .ok (.aload_n 0, 1) := by decide +kernel
theorem dX8_submit_106 : decode cX8_submit 106 = .ok (.getfield 79, 3) := by decide +kernel
theorem dX8_submit_109 : decode cX8_submit 109 = .ok (.if_icmp .lt 7, 3) := by decide +kernel
theorem dX8_submit_112 : decode cX8_submit 112 = .ok (.iconst 1, 1) := by decide +kernel
theorem dX8_submit_113 : decode cX8_submit 113 = .ok (.goto 4, 3) := by decide +kernel
theorem dX8_submit_116 : decode cX8_submit 116 = .ok (.iconst 0, 1) := by decide +kernel
theorem dX8_submit_117 : decode cX8_submit 117 = .ok (.putfield 172, 3) := by decide +kernel
theorem dX8_submit_120 : decode cX8_submit 120 = .ok (.aload 4, 2) := by decide +kernel
theorem dX8_submit_122 : decode cX8_submit 122 = .ok (.getfield 176, 3) := by decide +kernel
theorem dX8_submit_125 : decode cX8_submit 125 = .ok (.aload_n 0, 1) := by decide +kernel
theorem dX8_submit_126 : decode cX8_submit 126 = .ok (.getfield 12, 3) := by decide +kernel
theorem dX8_submit_129 : decode cX8_submit 129 = .ok (.invokevirtual 179, 3) := by decide +kernel
theorem dX8_submit_132 : decode cX8_submit 132 = .ok (.aload_n 0, 1) := by decide +kernel
theorem dX8_submit_133 : decode cX8_submit 133 = .ok (.aload 4, 2) := by decide +kernel
theorem dX8_submit_135 : decode cX8_submit 135 = .ok (.invokevirtual 182, 3) := by decide +kernel
theorem dX8_submit_138 : decode cX8_submit 138 = .ok (.aload_n 0, 1) := by decide +kernel
theorem dX8_submit_139 : decode cX8_submit 139 = .ok (.invokevirtual 154, 3) := by decide +kernel
theorem dX8_submit_142 : decode cX8_submit 142 = .ok (.aload_n 0, 1) := by decide +kernel
theorem dX8_submit_143 : decode cX8_submit 143 = .ok (.getfield 52, 3) := by decide +kernel
theorem dX8_submit_146 : decode cX8_submit 146 = .ok (.aload_n 0, 1) := by decide +kernel
theorem dX8_submit_147 : decode cX8_submit 147 = .ok (.getfield 59, 3) := by decide +kernel
theorem dX8_submit_150 : decode cX8_submit 150 = .ok (.iload_n 2, 1) := by decide +kernel
theorem dX8_submit_151 : decode cX8_submit 151 = .ok (.aload_n 0, 1) := by decide +kernel
theorem dX8_submit_152 : decode cX8_submit 152 = .ok (.getfield 25, 3) := by decide +kernel
theorem dX8_submit_155 : decode cX8_submit 155 = .ok (.iload_n 2, 1) := by decide +kernel
theorem dX8_submit_156 : decode cX8_submit 156 = .ok (.aaload, 1) := by decide +kernel
theorem dX8_submit_157 : decode cX8_submit 157 = .ok (.getfield 124, 3) := by decide +kernel
theorem dX8_submit_160 : decode cX8_submit 160 = .ok (.invokevirtual 186, 3) := by decide +kernel
theorem dX8_submit_163 : decode cX8_submit 163 = .ok (.aload_n 0, 1) := by decide +kernel
theorem dX8_submit_164 : decode cX8_submit 164 = .ok (.getfield 76, 3) := by decide +kernel
theorem dX8_submit_167 : decode cX8_submit 167 = .ok (.iconst 1, 1) := by decide +kernel
theorem dX8_submit_168 : decode cX8_submit 168 = .ok (.isub, 1) := by decide +kernel
theorem dX8_submit_169 : decode cX8_submit 169 = .ok (.ireturn, 1) := by decide +kernel
theorem dX8_verdict_0 : decode cX8_verdict 0 = .ok (.aload_n 0, 1) := by decide +kernel
theorem dX8_verdict_1 : decode cX8_verdict 1 = .ok (.iload_n 1, 1) := by decide +kernel
theorem dX8_verdict_2 : decode cX8_verdict 2 = .ok (.invokevirtual 190, 3) := by decide +kernel
theorem dX8_verdict_5 : decode cX8_verdict 5 = .ok (.ifCond .ne 11, 3) := by decide +kernel
theorem dX8_verdict_8 : decode cX8_verdict 8 = .ok (.new 133, 3) := by decide +kernel
theorem dX8_verdict_11 : decode cX8_verdict 11 = .ok (.dup, 1) := by decide +kernel
theorem dX8_verdict_12 : decode cX8_verdict 12 = .ok (.invokespecial 135, 3) := by decide +kernel
theorem dX8_verdict_15 : decode cX8_verdict 15 = .ok (.athrow, 1) := by decide +kernel
theorem dX8_verdict_16 : decode cX8_verdict 16 = .ok (.aload_n 0, 1) := by decide +kernel
theorem dX8_verdict_17 : decode cX8_verdict 17 = .ok (.getfield 31, 3) := by decide +kernel
theorem dX8_verdict_20 : decode cX8_verdict 20 = .ok (.iload_n 1, 1) := by decide +kernel
theorem dX8_verdict_21 : decode cX8_verdict 21 = .ok (.aaload, 1) := by decide +kernel
theorem dX8_verdict_22 : decode cX8_verdict 22 = .ok (.getfield 193, 3) := by decide +kernel
theorem dX8_verdict_25 : decode cX8_verdict 25 = .ok (.ireturn, 1) := by decide +kernel
theorem dX8_failed_0 : decode cX8_failed 0 = .ok (.aload_n 0, 1) := by decide +kernel
theorem dX8_failed_1 : decode cX8_failed 1 = .ok (.iload_n 1, 1) := by decide +kernel
theorem dX8_failed_2 : decode cX8_failed 2 = .ok (.invokevirtual 190, 3) := by decide +kernel
theorem dX8_failed_5 : decode cX8_failed 5 = .ok (.ifCond .ne 11, 3) := by decide +kernel
theorem dX8_failed_8 : decode cX8_failed 8 = .ok (.new 133, 3) := by decide +kernel
theorem dX8_failed_11 : decode cX8_failed 11 = .ok (.dup, 1) := by decide +kernel
theorem dX8_failed_12 : decode cX8_failed 12 = .ok (.invokespecial 135, 3) := by decide +kernel
theorem dX8_failed_15 : decode cX8_failed 15 = .ok (.athrow, 1) := by decide +kernel
theorem dX8_failed_16 : decode cX8_failed 16 = .ok (.aload_n 0, 1) := by decide +kernel
theorem dX8_failed_17 : decode cX8_failed 17 = .ok (.getfield 31, 3) := by decide +kernel
theorem dX8_failed_20 : decode cX8_failed 20 = .ok (.iload_n 1, 1) := by decide +kernel
theorem dX8_failed_21 : decode cX8_failed 21 = .ok (.aaload, 1) := by decide +kernel
theorem dX8_failed_22 : decode cX8_failed 22 = .ok (.getfield 197, 3) := by decide +kernel
theorem dX8_failed_25 : decode cX8_failed 25 = .ok (.ireturn, 1) := by decide +kernel
theorem dX8_ended_0 : decode cX8_ended 0 = .ok (.aload_n 0, 1) := by decide +kernel
theorem dX8_ended_1 : decode cX8_ended 1 = .ok (.iload_n 1, 1) := by decide +kernel
theorem dX8_ended_2 : decode cX8_ended 2 = .ok (.iload_n 2, 1) := by decide +kernel
theorem dX8_ended_3 : decode cX8_ended 3 = .ok (.invokevirtual 200, 3) := by decide +kernel
theorem dX8_ended_6 : decode cX8_ended 6 = .ok (.ifCond .ne 11, 3) := by decide +kernel
theorem dX8_ended_9 : decode cX8_ended 9 = .ok (.new 133, 3) := by decide +kernel
theorem dX8_ended_12 : decode cX8_ended 12 = .ok (.dup, 1) := by decide +kernel
theorem dX8_ended_13 : decode cX8_ended 13 = .ok (.invokespecial 135, 3) := by decide +kernel
theorem dX8_ended_16 : decode cX8_ended 16 = .ok (.athrow, 1) := by decide +kernel
theorem dX8_ended_17 : decode cX8_ended 17 = .ok (.aload_n 0, 1) := by decide +kernel
theorem dX8_ended_18 : decode cX8_ended 18 = .ok (.getfield 31, 3) := by decide +kernel
theorem dX8_ended_21 : decode cX8_ended 21 = .ok (.iload_n 1, 1) := by decide +kernel
theorem dX8_ended_22 : decode cX8_ended 22 = .ok (.aaload, 1) := by decide +kernel
theorem dX8_ended_23 : decode cX8_ended 23 = .ok (.getfield 204, 3) := by decide +kernel
theorem dX8_ended_26 : decode cX8_ended 26 = .ok (.iload_n 2, 1) := by decide +kernel
theorem dX8_ended_27 : decode cX8_ended 27 = .ok (.caload, 1) := by decide +kernel
theorem dX8_ended_28 : decode cX8_ended 28 = .ok (.ireturn, 1) := by decide +kernel
theorem dX8_steps_0 : decode cX8_steps 0 = .ok (.aload_n 0, 1) := by decide +kernel
theorem dX8_steps_1 : decode cX8_steps 1 = .ok (.iload_n 1, 1) := by decide +kernel
theorem dX8_steps_2 : decode cX8_steps 2 = .ok (.iload_n 2, 1) := by decide +kernel
theorem dX8_steps_3 : decode cX8_steps 3 = .ok (.invokevirtual 200, 3) := by decide +kernel
theorem dX8_steps_6 : decode cX8_steps 6 = .ok (.ifCond .ne 11, 3) := by decide +kernel
theorem dX8_steps_9 : decode cX8_steps 9 = .ok (.new 133, 3) := by decide +kernel
theorem dX8_steps_12 : decode cX8_steps 12 = .ok (.dup, 1) := by decide +kernel
theorem dX8_steps_13 : decode cX8_steps 13 = .ok (.invokespecial 135, 3) := by decide +kernel
theorem dX8_steps_16 : decode cX8_steps 16 = .ok (.athrow, 1) := by decide +kernel
theorem dX8_steps_17 : decode cX8_steps 17 = .ok (.aload_n 0, 1) := by decide +kernel
theorem dX8_steps_18 : decode cX8_steps 18 = .ok (.getfield 31, 3) := by decide +kernel
theorem dX8_steps_21 : decode cX8_steps 21 = .ok (.iload_n 1, 1) := by decide +kernel
theorem dX8_steps_22 : decode cX8_steps 22 = .ok (.aaload, 1) := by decide +kernel
theorem dX8_steps_23 : decode cX8_steps 23 = .ok (.getfield 208, 3) := by decide +kernel
theorem dX8_steps_26 : decode cX8_steps 26 = .ok (.iload_n 2, 1) := by decide +kernel
theorem dX8_steps_27 : decode cX8_steps 27 = .ok (.iaload, 1) := by decide +kernel
theorem dX8_steps_28 : decode cX8_steps 28 = .ok (.ireturn, 1) := by decide +kernel
theorem dX8_outputs_0 : decode cX8_outputs 0 = .ok (.aload_n 0, 1) := by decide +kernel
theorem dX8_outputs_1 : decode cX8_outputs 1 = .ok (.iload_n 1, 1) := by decide +kernel
theorem dX8_outputs_2 : decode cX8_outputs 2 = .ok (.iload_n 2, 1) := by decide +kernel
theorem dX8_outputs_3 : decode cX8_outputs 3 = .ok (.invokevirtual 200, 3) := by decide +kernel
theorem dX8_outputs_6 : decode cX8_outputs 6 = .ok (.ifCond .ne 11, 3) := by decide +kernel
theorem dX8_outputs_9 : decode cX8_outputs 9 = .ok (.new 133, 3) := by decide +kernel
theorem dX8_outputs_12 : decode cX8_outputs 12 = .ok (.dup, 1) := by decide +kernel
theorem dX8_outputs_13 : decode cX8_outputs 13 = .ok (.invokespecial 135, 3) := by decide +kernel
theorem dX8_outputs_16 : decode cX8_outputs 16 = .ok (.athrow, 1) := by decide +kernel
theorem dX8_outputs_17 : decode cX8_outputs 17 = .ok (.aload_n 0, 1) := by decide +kernel
theorem dX8_outputs_18 : decode cX8_outputs 18 = .ok (.getfield 45, 3) := by decide +kernel
theorem dX8_outputs_21 : decode cX8_outputs 21 = .ok (.getfield 212, 3) := by decide +kernel
theorem dX8_outputs_24 : decode cX8_outputs 24 = .ok (.aload_n 0, 1) := by decide +kernel
theorem dX8_outputs_25 : decode cX8_outputs 25 = .ok (.getfield 31, 3) := by decide +kernel
theorem dX8_outputs_28 : decode cX8_outputs 28 = .ok (.iload_n 1, 1) := by decide +kernel
theorem dX8_outputs_29 : decode cX8_outputs 29 = .ok (.aaload, 1) := by decide +kernel
theorem dX8_outputs_30 : decode cX8_outputs 30 = .ok (.getfield 215, 3) := by decide +kernel
theorem dX8_outputs_33 : decode cX8_outputs 33 = .ok (.iload_n 2, 1) := by decide +kernel
theorem dX8_outputs_34 : decode cX8_outputs 34 = .ok (.iaload, 1) := by decide +kernel
theorem dX8_outputs_35 : decode cX8_outputs 35 = .ok (.iaload, 1) := by decide +kernel
theorem dX8_outputs_36 : decode cX8_outputs 36 = .ok (.ireturn, 1) := by decide +kernel
theorem dX8_output_0 : decode cX8_output 0 = .ok (.aload_n 0, 1) := by decide +kernel
theorem dX8_output_1 : decode cX8_output 1 = .ok (.iload_n 1, 1) := by decide +kernel
theorem dX8_output_2 : decode cX8_output 2 = .ok (.iload_n 2, 1) := by decide +kernel
theorem dX8_output_3 : decode cX8_output 3 = .ok (.invokevirtual 200, 3) := by decide +kernel
theorem dX8_output_6 : decode cX8_output 6 = .ok (.ifCond .ne 11, 3) := by decide +kernel
theorem dX8_output_9 : decode cX8_output 9 = .ok (.new 133, 3) := by decide +kernel
theorem dX8_output_12 : decode cX8_output 12 = .ok (.dup, 1) := by decide +kernel
theorem dX8_output_13 : decode cX8_output 13 = .ok (.invokespecial 135, 3) := by decide +kernel
theorem dX8_output_16 : decode cX8_output 16 = .ok (.athrow, 1) := by decide +kernel
theorem dX8_output_17 : decode cX8_output 17 = .ok (.aload_n 0, 1) := by decide +kernel
theorem dX8_output_18 : decode cX8_output 18 = .ok (.getfield 31, 3) := by decide +kernel
theorem dX8_output_21 : decode cX8_output 21 = .ok (.iload_n 1, 1) := by decide +kernel
theorem dX8_output_22 : decode cX8_output 22 = .ok (.aaload, 1) := by decide +kernel
theorem dX8_output_23 : decode cX8_output 23 = .ok (.getfield 215, 3) := by decide +kernel
theorem dX8_output_26 : decode cX8_output 26 = .ok (.iload_n 2, 1) := by decide +kernel
theorem dX8_output_27 : decode cX8_output 27 = .ok (.iaload, 1) := by decide +kernel
theorem dX8_output_28 : decode cX8_output 28 = .ok (.istore 4, 2) := by decide +kernel
theorem dX8_output_30 : decode cX8_output 30 = .ok (.iload_n 3, 1) := by decide +kernel
theorem dX8_output_31 : decode cX8_output 31 = .ok (.iconst 0, 1) := by decide +kernel
theorem dX8_output_32 : decode cX8_output 32 = .ok (.aload_n 0, 1) := by decide +kernel
theorem dX8_output_33 : decode cX8_output 33 = .ok (.getfield 45, 3) := by decide +kernel
theorem dX8_output_36 : decode cX8_output 36 = .ok (.getfield 212, 3) := by decide +kernel
theorem dX8_output_39 : decode cX8_output 39 = .ok (.iload 4, 2) := by decide +kernel
theorem dX8_output_41 : decode cX8_output 41 = .ok (.iaload, 1) := by decide +kernel
theorem dX8_output_42 : decode cX8_output 42 = .ok (.iconst 1, 1) := by decide +kernel
theorem dX8_output_43 : decode cX8_output 43 = .ok (.isub, 1) := by decide +kernel
theorem dX8_output_44 : decode cX8_output 44 = .ok (.invokestatic 120, 3) := by decide +kernel
theorem dX8_output_47 : decode cX8_output 47 = .ok (.ifCond .ne 11, 3) := by decide +kernel
theorem dX8_output_50 : decode cX8_output 50 = .ok (.new 218, 3) := by decide +kernel
theorem dX8_output_53 : decode cX8_output 53 = .ok (.dup, 1) := by decide +kernel
theorem dX8_output_54 : decode cX8_output 54 = .ok (.invokespecial 220, 3) := by decide +kernel
theorem dX8_output_57 : decode cX8_output 57 = .ok (.athrow, 1) := by decide +kernel
theorem dX8_output_58 : decode cX8_output 58 = .ok (.aload_n 0, 1) := by decide +kernel
theorem dX8_output_59 : decode cX8_output 59 = .ok (.getfield 45, 3) := by decide +kernel
theorem dX8_output_62 : decode cX8_output 62 = .ok (.iload 4, 2) := by decide +kernel
theorem dX8_output_64 : decode cX8_output 64 = .ok (.iload_n 3, 1) := by decide +kernel
theorem dX8_output_65 : decode cX8_output 65 = .ok (.invokevirtual 221, 3) := by decide +kernel
theorem dX8_output_68 : decode cX8_output 68 = .ok (.ireturn, 1) := by decide +kernel
theorem dX8_kept_0 : decode cX8_kept 0 = .ok (.aload_n 0, 1) := by decide +kernel
theorem dX8_kept_1 : decode cX8_kept 1 = .ok (.getfield 45, 3) := by decide +kernel
theorem dX8_kept_4 : decode cX8_kept 4 = .ok (.getfield 224, 3) := by decide +kernel
theorem dX8_kept_7 : decode cX8_kept 7 = .ok (.ireturn, 1) := by decide +kernel
theorem dX8_sharing_0 : decode cX8_sharing 0 = .ok (.aload_n 0, 1) := by decide +kernel
theorem dX8_sharing_1 : decode cX8_sharing 1 = .ok (.iload_n 1, 1) := by decide +kernel
theorem dX8_sharing_2 : decode cX8_sharing 2 = .ok (.iload_n 2, 1) := by decide +kernel
theorem dX8_sharing_3 : decode cX8_sharing 3 = .ok (.invokevirtual 200, 3) := by decide +kernel
theorem dX8_sharing_6 : decode cX8_sharing 6 = .ok (.ifCond .ne 11, 3) := by decide +kernel
theorem dX8_sharing_9 : decode cX8_sharing 9 = .ok (.new 133, 3) := by decide +kernel
theorem dX8_sharing_12 : decode cX8_sharing 12 = .ok (.dup, 1) := by decide +kernel
theorem dX8_sharing_13 : decode cX8_sharing 13 = .ok (.invokespecial 135, 3) := by decide +kernel
theorem dX8_sharing_16 : decode cX8_sharing 16 = .ok (.athrow, 1) := by decide +kernel
theorem dX8_sharing_17 : decode cX8_sharing 17 = .ok (.aload_n 0, 1) := by decide +kernel
theorem dX8_sharing_18 : decode cX8_sharing 18 = .ok (.getfield 45, 3) := by decide +kernel
theorem dX8_sharing_21 : decode cX8_sharing 21 = .ok (.getfield 227, 3) := by decide +kernel
theorem dX8_sharing_24 : decode cX8_sharing 24 = .ok (.aload_n 0, 1) := by decide +kernel
theorem dX8_sharing_25 : decode cX8_sharing 25 = .ok (.getfield 31, 3) := by decide +kernel
theorem dX8_sharing_28 : decode cX8_sharing 28 = .ok (.iload_n 1, 1) := by decide +kernel
theorem dX8_sharing_29 : decode cX8_sharing 29 = .ok (.aaload, 1) := by decide +kernel
theorem dX8_sharing_30 : decode cX8_sharing 30 = .ok (.getfield 215, 3) := by decide +kernel
theorem dX8_sharing_33 : decode cX8_sharing 33 = .ok (.iload_n 2, 1) := by decide +kernel
theorem dX8_sharing_34 : decode cX8_sharing 34 = .ok (.iaload, 1) := by decide +kernel
theorem dX8_sharing_35 : decode cX8_sharing 35 = .ok (.iaload, 1) := by decide +kernel
theorem dX8_sharing_36 : decode cX8_sharing 36 = .ok (.ireturn, 1) := by decide +kernel
theorem dX8_stock_0 : decode cX8_stock 0 = .ok (.iload_n 1, 1) := by decide +kernel
theorem dX8_stock_1 : decode cX8_stock 1 = .ok (.invokestatic 117, 3) := by decide +kernel
theorem dX8_stock_4 : decode cX8_stock 4 = .ok (.ifCond .eq 13, 3) := by decide +kernel
theorem dX8_stock_7 : decode cX8_stock 7 = .ok (.iload_n 2, 1) := by decide +kernel
theorem dX8_stock_8 : decode cX8_stock 8 = .ok (.iconst 1, 1) := by decide +kernel
theorem dX8_stock_9 : decode cX8_stock 9 = .ok (.bipush 20, 2) := by decide +kernel
theorem dX8_stock_11 : decode cX8_stock 11 = .ok (.invokestatic 120, 3) := by decide +kernel
theorem dX8_stock_14 : decode cX8_stock 14 = .ok (.ifCond .ne 11, 3) := by decide +kernel
theorem dX8_stock_17 : decode cX8_stock 17 = .ok (.new 88, 3) := by decide +kernel
theorem dX8_stock_20 : decode cX8_stock 20 = .ok (.dup, 1) := by decide +kernel
theorem dX8_stock_21 : decode cX8_stock 21 = .ok (.invokespecial 90, 3) := by decide +kernel
theorem dX8_stock_24 : decode cX8_stock 24 = .ok (.athrow, 1) := by decide +kernel
theorem dX8_stock_25 : decode cX8_stock 25 = .ok (.aload_n 0, 1) := by decide +kernel
theorem dX8_stock_26 : decode cX8_stock 26 = .ok (.getfield 52, 3) := by decide +kernel
theorem dX8_stock_29 : decode cX8_stock 29 = .ok (.getfield 230, 3) := by decide +kernel
theorem dX8_stock_32 : decode cX8_stock 32 = .ok (.iload_n 1, 1) := by decide +kernel
theorem dX8_stock_33 : decode cX8_stock 33 = .ok (.dup2, 1) := by decide +kernel
theorem dX8_stock_34 : decode cX8_stock 34 = .ok (.iaload, 1) := by decide +kernel
theorem dX8_stock_35 : decode cX8_stock 35 = .ok (.iload_n 2, 1) := by decide +kernel
theorem dX8_stock_36 : decode cX8_stock 36 = .ok (.iadd, 1) := by decide +kernel
theorem dX8_stock_37 : decode cX8_stock 37 = .ok (.iastore, 1) := by decide +kernel
theorem dX8_stock_38 : decode cX8_stock 38 = .ok (.aload_n 0, 1) := by decide +kernel
theorem dX8_stock_39 : decode cX8_stock 39 = .ok (.getfield 52, 3) := by decide +kernel
theorem dX8_stock_42 : decode cX8_stock 42 = .ok (.iload_n 1, 1) := by decide +kernel
theorem dX8_stock_43 : decode cX8_stock 43 = .ok (.invokevirtual 233, 3) := by decide +kernel
theorem dX8_stock_46 : decode cX8_stock 46 = .ok (.aload_n 0, 1) := by decide +kernel
theorem dX8_stock_47 : decode cX8_stock 47 = .ok (.getfield 52, 3) := by decide +kernel
theorem dX8_stock_50 : decode cX8_stock 50 = .ok (.getfield 230, 3) := by decide +kernel
theorem dX8_stock_53 : decode cX8_stock 53 = .ok (.iload_n 1, 1) := by decide +kernel
theorem dX8_stock_54 : decode cX8_stock 54 = .ok (.iaload, 1) := by decide +kernel
theorem dX8_stock_55 : decode cX8_stock 55 = .ok (.ireturn, 1) := by decide +kernel
theorem dX8_inStock_0 : decode cX8_inStock 0 = .ok (.iload_n 1, 1) := by decide +kernel
theorem dX8_inStock_1 : decode cX8_inStock 1 = .ok (.invokestatic 117, 3) := by decide +kernel
theorem dX8_inStock_4 : decode cX8_inStock 4 = .ok (.ifCond .ne 11, 3) := by decide +kernel
theorem dX8_inStock_7 : decode cX8_inStock 7 = .ok (.new 88, 3) := by decide +kernel
theorem dX8_inStock_10 : decode cX8_inStock 10 = .ok (.dup, 1) := by decide +kernel
theorem dX8_inStock_11 : decode cX8_inStock 11 = .ok (.invokespecial 90, 3) := by decide +kernel
theorem dX8_inStock_14 : decode cX8_inStock 14 = .ok (.athrow, 1) := by decide +kernel
theorem dX8_inStock_15 : decode cX8_inStock 15 = .ok (.aload_n 0, 1) := by decide +kernel
theorem dX8_inStock_16 : decode cX8_inStock 16 = .ok (.getfield 52, 3) := by decide +kernel
theorem dX8_inStock_19 : decode cX8_inStock 19 = .ok (.getfield 230, 3) := by decide +kernel
theorem dX8_inStock_22 : decode cX8_inStock 22 = .ok (.iload_n 1, 1) := by decide +kernel
theorem dX8_inStock_23 : decode cX8_inStock 23 = .ok (.iaload, 1) := by decide +kernel
theorem dX8_inStock_24 : decode cX8_inStock 24 = .ok (.ireturn, 1) := by decide +kernel
theorem dX8_out_0 : decode cX8_out 0 = .ok (.iload_n 1, 1) := by decide +kernel
theorem dX8_out_1 : decode cX8_out 1 = .ok (.invokestatic 117, 3) := by decide +kernel
theorem dX8_out_4 : decode cX8_out 4 = .ok (.ifCond .ne 11, 3) := by decide +kernel
theorem dX8_out_7 : decode cX8_out 7 = .ok (.new 88, 3) := by decide +kernel
theorem dX8_out_10 : decode cX8_out 10 = .ok (.dup, 1) := by decide +kernel
theorem dX8_out_11 : decode cX8_out 11 = .ok (.invokespecial 90, 3) := by decide +kernel
theorem dX8_out_14 : decode cX8_out 14 = .ok (.athrow, 1) := by decide +kernel
theorem dX8_out_15 : decode cX8_out 15 = .ok (.aload_n 0, 1) := by decide +kernel
theorem dX8_out_16 : decode cX8_out 16 = .ok (.getfield 52, 3) := by decide +kernel
theorem dX8_out_19 : decode cX8_out 19 = .ok (.getfield 237, 3) := by decide +kernel
theorem dX8_out_22 : decode cX8_out 22 = .ok (.iload_n 1, 1) := by decide +kernel
theorem dX8_out_23 : decode cX8_out 23 = .ok (.iaload, 1) := by decide +kernel
theorem dX8_out_24 : decode cX8_out 24 = .ok (.ireturn, 1) := by decide +kernel
theorem dX8_balloon_0 : decode cX8_balloon 0 = .ok (.aload_n 0, 1) := by decide +kernel
theorem dX8_balloon_1 : decode cX8_balloon 1 = .ok (.iload_n 1, 1) := by decide +kernel
theorem dX8_balloon_2 : decode cX8_balloon 2 = .ok (.invokevirtual 157, 3) := by decide +kernel
theorem dX8_balloon_5 : decode cX8_balloon 5 = .ok (.ifCond .eq 11, 3) := by decide +kernel
theorem dX8_balloon_8 : decode cX8_balloon 8 = .ok (.aload_n 0, 1) := by decide +kernel
theorem dX8_balloon_9 : decode cX8_balloon 9 = .ok (.iload_n 2, 1) := by decide +kernel
theorem dX8_balloon_10 : decode cX8_balloon 10 = .ok (.invokevirtual 130, 3) := by decide +kernel
theorem dX8_balloon_13 : decode cX8_balloon 13 = .ok (.ifCond .ne 11, 3) := by decide +kernel
theorem dX8_balloon_16 : decode cX8_balloon 16 = .ok (.new 133, 3) := by decide +kernel
theorem dX8_balloon_19 : decode cX8_balloon 19 = .ok (.dup, 1) := by decide +kernel
theorem dX8_balloon_20 : decode cX8_balloon 20 = .ok (.invokespecial 135, 3) := by decide +kernel
theorem dX8_balloon_23 : decode cX8_balloon 23 = .ok (.athrow, 1) := by decide +kernel
theorem dX8_balloon_24 : decode cX8_balloon 24 = .ok (.aload_n 0, 1) := by decide +kernel
theorem dX8_balloon_25 : decode cX8_balloon 25 = .ok (.getfield 52, 3) := by decide +kernel
theorem dX8_balloon_28 : decode cX8_balloon 28 = .ok (.getfield 240, 3) := by decide +kernel
theorem dX8_balloon_31 : decode cX8_balloon 31 = .ok (.iload_n 1, 1) := by decide +kernel
theorem dX8_balloon_32 : decode cX8_balloon 32 = .ok (.iload_n 2, 1) := by decide +kernel
theorem dX8_balloon_33 : decode cX8_balloon 33 = .ok (.invokestatic 243, 3) := by decide +kernel
theorem dX8_balloon_36 : decode cX8_balloon 36 = .ok (.caload, 1) := by decide +kernel
theorem dX8_balloon_37 : decode cX8_balloon 37 = .ok (.ireturn, 1) := by decide +kernel
theorem dX8_waiting_0 : decode cX8_waiting 0 = .ok (.iload_n 1, 1) := by decide +kernel
theorem dX8_waiting_1 : decode cX8_waiting 1 = .ok (.invokestatic 117, 3) := by decide +kernel
theorem dX8_waiting_4 : decode cX8_waiting 4 = .ok (.ifCond .ne 11, 3) := by decide +kernel
theorem dX8_waiting_7 : decode cX8_waiting 7 = .ok (.new 88, 3) := by decide +kernel
theorem dX8_waiting_10 : decode cX8_waiting 10 = .ok (.dup, 1) := by decide +kernel
theorem dX8_waiting_11 : decode cX8_waiting 11 = .ok (.invokespecial 90, 3) := by decide +kernel
theorem dX8_waiting_14 : decode cX8_waiting 14 = .ok (.athrow, 1) := by decide +kernel
theorem dX8_waiting_15 : decode cX8_waiting 15 = .ok (.iload_n 2, 1) := by decide +kernel
theorem dX8_waiting_16 : decode cX8_waiting 16 = .ok (.iconst 0, 1) := by decide +kernel
theorem dX8_waiting_17 : decode cX8_waiting 17 = .ok (.aload_n 0, 1) := by decide +kernel
theorem dX8_waiting_18 : decode cX8_waiting 18 = .ok (.getfield 52, 3) := by decide +kernel
theorem dX8_waiting_21 : decode cX8_waiting 21 = .ok (.getfield 246, 3) := by decide +kernel
theorem dX8_waiting_24 : decode cX8_waiting 24 = .ok (.iload_n 1, 1) := by decide +kernel
theorem dX8_waiting_25 : decode cX8_waiting 25 = .ok (.iaload, 1) := by decide +kernel
theorem dX8_waiting_26 : decode cX8_waiting 26 = .ok (.iconst 1, 1) := by decide +kernel
theorem dX8_waiting_27 : decode cX8_waiting 27 = .ok (.isub, 1) := by decide +kernel
theorem dX8_waiting_28 : decode cX8_waiting 28 = .ok (.invokestatic 120, 3) := by decide +kernel
theorem dX8_waiting_31 : decode cX8_waiting 31 = .ok (.ifCond .ne 11, 3) := by decide +kernel
theorem dX8_waiting_34 : decode cX8_waiting 34 = .ok (.new 218, 3) := by decide +kernel
theorem dX8_waiting_37 : decode cX8_waiting 37 = .ok (.dup, 1) := by decide +kernel
theorem dX8_waiting_38 : decode cX8_waiting 38 = .ok (.invokespecial 220, 3) := by decide +kernel
theorem dX8_waiting_41 : decode cX8_waiting 41 = .ok (.athrow, 1) := by decide +kernel
theorem dX8_waiting_42 : decode cX8_waiting 42 = .ok (.aload_n 0, 1) := by decide +kernel
theorem dX8_waiting_43 : decode cX8_waiting 43 = .ok (.getfield 52, 3) := by decide +kernel
theorem dX8_waiting_46 : decode cX8_waiting 46 = .ok (.getfield 249, 3) := by decide +kernel
theorem dX8_waiting_49 : decode cX8_waiting 49 = .ok (.iload_n 1, 1) := by decide +kernel
theorem dX8_waiting_50 : decode cX8_waiting 50 = .ok (.aaload, 1) := by decide +kernel
theorem dX8_waiting_51 : decode cX8_waiting 51 = .ok (.iload_n 2, 1) := by decide +kernel
theorem dX8_waiting_52 : decode cX8_waiting 52 = .ok (.iaload, 1) := by decide +kernel
theorem dX8_waiting_53 : decode cX8_waiting 53 = .ok (.invokestatic 253, 3) := by decide +kernel
theorem dX8_waiting_56 : decode cX8_waiting 56 = .ok (.ireturn, 1) := by decide +kernel
theorem dX8_calledBack_0 : decode cX8_calledBack 0 = .ok (.aload_n 0, 1) := by decide +kernel
theorem dX8_calledBack_1 : decode cX8_calledBack 1 = .ok (.getfield 52, 3) := by decide +kernel
theorem dX8_calledBack_4 : decode cX8_calledBack 4 = .ok (.getfield 257, 3) := by decide +kernel
theorem dX8_calledBack_7 : decode cX8_calledBack 7 = .ok (.ireturn, 1) := by decide +kernel
theorem dX8_freeze_0 : decode cX8_freeze 0 = .ok (.iload_n 1, 1) := by decide +kernel
theorem dX8_freeze_1 : decode cX8_freeze 1 = .ok (.iconst 0, 1) := by decide +kernel
theorem dX8_freeze_2 : decode cX8_freeze 2 = .ok (.sipush 999, 3) := by decide +kernel
theorem dX8_freeze_5 : decode cX8_freeze 5 = .ok (.invokestatic 120, 3) := by decide +kernel
theorem dX8_freeze_8 : decode cX8_freeze 8 = .ok (.ifCond .ne 11, 3) := by decide +kernel
theorem dX8_freeze_11 : decode cX8_freeze 11 = .ok (.new 88, 3) := by decide +kernel
theorem dX8_freeze_14 : decode cX8_freeze 14 = .ok (.dup, 1) := by decide +kernel
theorem dX8_freeze_15 : decode cX8_freeze 15 = .ok (.invokespecial 90, 3) := by decide +kernel
theorem dX8_freeze_18 : decode cX8_freeze 18 = .ok (.athrow, 1) := by decide +kernel
theorem dX8_freeze_19 : decode cX8_freeze 19 = .ok (.aload_n 0, 1) := by decide +kernel
theorem dX8_freeze_20 : decode cX8_freeze 20 = .ok (.getfield 79, 3) := by decide +kernel
theorem dX8_freeze_23 : decode cX8_freeze 23 = .ok (.sipush 1000, 3) := by decide +kernel
theorem dX8_freeze_26 : decode cX8_freeze 26 = .ok (.if_icmp .eq 11, 3) := by decide +kernel
theorem dX8_freeze_29 : decode cX8_freeze 29 = .ok (.new 260, 3) := by decide +kernel
theorem dX8_freeze_32 : decode cX8_freeze 32 = .ok (.dup, 1) := by decide +kernel
theorem dX8_freeze_33 : decode cX8_freeze 33 = .ok (.invokespecial 262, 3) := by decide +kernel
theorem dX8_freeze_36 : decode cX8_freeze 36 = .ok (.athrow, 1) := by decide +kernel
theorem dX8_freeze_37 : decode cX8_freeze 37 = .ok (.aload_n 0, 1) := by decide +kernel
theorem dX8_freeze_38 : decode cX8_freeze 38 = .ok (.iload_n 1, 1) := by decide +kernel
theorem dX8_freeze_39 : decode cX8_freeze 39 = .ok (.putfield 79, 3) := by decide +kernel
theorem dX8_freeze_42 : decode cX8_freeze 42 = .ok (.iconst 0, 1) := by decide +kernel
theorem dX8_freeze_43 : decode cX8_freeze 43 = .ok (.istore_n 2, 1) := by decide +kernel
theorem dX8_freeze_44 : decode cX8_freeze 44 = .ok (.iconst 0, 1) := by decide +kernel
theorem dX8_freeze_45 : decode cX8_freeze 45 = .ok (.istore_n 3, 1) := by decide +kernel
theorem dX8_freeze_46 : decode cX8_freeze 46 = .ok (.iload_n 3, 1) := by decide +kernel
theorem dX8_freeze_47 : decode cX8_freeze 47 = .ok (.aload_n 0, 1) := by decide +kernel
theorem dX8_freeze_48 : decode cX8_freeze 48 = .ok (.getfield 76, 3) := by decide +kernel
theorem dX8_freeze_51 : decode cX8_freeze 51 = .ok (.if_icmp .ge 56, 3) := by decide +kernel
theorem dX8_freeze_54 : decode cX8_freeze 54 = .ok (.aload_n 0, 1) := by decide +kernel
theorem dX8_freeze_55 : decode cX8_freeze 55 = .ok (.getfield 31, 3) := by decide +kernel
theorem dX8_freeze_58 : decode cX8_freeze 58 = .ok (.iload_n 3, 1) := by decide +kernel
theorem dX8_freeze_59 : decode cX8_freeze 59 = .ok (.aaload, 1) := by decide +kernel
theorem dX8_freeze_60 : decode cX8_freeze 60 = .ok (.aload_n 0, 1) := by decide +kernel
theorem dX8_freeze_61 : decode cX8_freeze 61 = .ok (.getfield 31, 3) := by decide +kernel
theorem dX8_freeze_64 : decode cX8_freeze 64 = .ok (.iload_n 3, 1) := by decide +kernel
theorem dX8_freeze_65 : decode cX8_freeze 65 = .ok (.aaload, 1) := by decide +kernel
theorem dX8_freeze_66 : decode cX8_freeze 66 = .ok (.getfield 169, 3) := by decide +kernel
theorem dX8_freeze_69 : decode cX8_freeze 69 = .ok (.iload_n 1, 1) := by decide +kernel
theorem dX8_freeze_70 : decode cX8_freeze 70 = .ok (.if_icmp .lt 7, 3) := by decide +kernel
theorem dX8_freeze_73 : decode cX8_freeze 73 = .ok (.iconst 1, 1) := by decide +kernel
theorem dX8_freeze_74 : decode cX8_freeze 74 = .ok (.goto 4, 3) := by decide +kernel
theorem dX8_freeze_77 : decode cX8_freeze 77 = .ok (.iconst 0, 1) := by decide +kernel
theorem dX8_freeze_78 : decode cX8_freeze 78 = .ok (.putfield 172, 3) := by decide +kernel
theorem dX8_freeze_81 : decode cX8_freeze 81 = .ok (.iload_n 2, 1) := by decide +kernel
theorem dX8_freeze_82 : decode cX8_freeze 82 = .ok (.aload_n 0, 1) := by decide +kernel
theorem dX8_freeze_83 : decode cX8_freeze 83 = .ok (.getfield 31, 3) := by decide +kernel
theorem dX8_freeze_86 : decode cX8_freeze 86 = .ok (.iload_n 3, 1) := by decide +kernel
theorem dX8_freeze_87 : decode cX8_freeze 87 = .ok (.aaload, 1) := by decide +kernel
theorem dX8_freeze_88 : decode cX8_freeze 88 = .ok (.getfield 172, 3) := by decide +kernel
theorem dX8_freeze_91 : decode cX8_freeze 91 = .ok (.ifCond .eq 7, 3) := by decide +kernel
theorem dX8_freeze_94 : decode cX8_freeze 94 = .ok (.iconst 1, 1) := by decide +kernel
theorem dX8_freeze_95 : decode cX8_freeze 95 = .ok (.goto 4, 3) := by decide +kernel
theorem dX8_freeze_98 : decode cX8_freeze 98 = .ok (.iconst 0, 1) := by decide +kernel
theorem dX8_freeze_99 : decode cX8_freeze 99 = .ok (.iadd, 1) := by decide +kernel
theorem dX8_freeze_100 : decode cX8_freeze 100 = .ok (.istore_n 2, 1) := by decide +kernel
theorem dX8_freeze_101 : decode cX8_freeze 101 = .ok (.iinc 3 1, 3) := by decide +kernel
theorem dX8_freeze_104 : decode cX8_freeze 104 = .ok (.goto (-58), 3) := by decide +kernel
theorem dX8_freeze_107 : decode cX8_freeze 107 = .ok (.aload_n 0, 1) := by decide +kernel
theorem dX8_freeze_108 : decode cX8_freeze 108 = .ok (.invokevirtual 154, 3) := by decide +kernel
theorem dX8_freeze_111 : decode cX8_freeze 111 = .ok (.iload_n 2, 1) := by decide +kernel
theorem dX8_freeze_112 : decode cX8_freeze 112 = .ok (.ireturn, 1) := by decide +kernel
theorem dX8_pending_0 : decode cX8_pending 0 = .ok (.aload_n 0, 1) := by decide +kernel
theorem dX8_pending_1 : decode cX8_pending 1 = .ok (.iload_n 1, 1) := by decide +kernel
theorem dX8_pending_2 : decode cX8_pending 2 = .ok (.invokevirtual 157, 3) := by decide +kernel
theorem dX8_pending_5 : decode cX8_pending 5 = .ok (.ifCond .eq 11, 3) := by decide +kernel
theorem dX8_pending_8 : decode cX8_pending 8 = .ok (.aload_n 0, 1) := by decide +kernel
theorem dX8_pending_9 : decode cX8_pending 9 = .ok (.iload_n 2, 1) := by decide +kernel
theorem dX8_pending_10 : decode cX8_pending 10 = .ok (.invokevirtual 130, 3) := by decide +kernel
theorem dX8_pending_13 : decode cX8_pending 13 = .ok (.ifCond .ne 11, 3) := by decide +kernel
theorem dX8_pending_16 : decode cX8_pending 16 = .ok (.new 133, 3) := by decide +kernel
theorem dX8_pending_19 : decode cX8_pending 19 = .ok (.dup, 1) := by decide +kernel
theorem dX8_pending_20 : decode cX8_pending 20 = .ok (.invokespecial 135, 3) := by decide +kernel
theorem dX8_pending_23 : decode cX8_pending 23 = .ok (.athrow, 1) := by decide +kernel
theorem dX8_pending_24 : decode cX8_pending 24 = .ok (.aload_n 0, 1) := by decide +kernel
theorem dX8_pending_25 : decode cX8_pending 25 = .ok (.iload_n 1, 1) := by decide +kernel
theorem dX8_pending_26 : decode cX8_pending 26 = .ok (.iload_n 2, 1) := by decide +kernel
theorem dX8_pending_27 : decode cX8_pending 27 = .ok (.invokevirtual 263, 3) := by decide +kernel
theorem dX8_pending_30 : decode cX8_pending 30 = .ok (.ireturn, 1) := by decide +kernel
theorem dX8_open_0 : decode cX8_open 0 = .ok (.aload_n 0, 1) := by decide +kernel
theorem dX8_open_1 : decode cX8_open 1 = .ok (.invokevirtual 266, 3) := by decide +kernel
theorem dX8_open_4 : decode cX8_open 4 = .ok (.istore_n 1, 1) := by decide +kernel
theorem dX8_open_5 : decode cX8_open 5 = .ok (.iload_n 1, 1) := by decide +kernel
theorem dX8_open_6 : decode cX8_open 6 = .ok (.iconst (-1), 1) := by decide +kernel
theorem dX8_open_7 : decode cX8_open 7 = .ok (.if_icmp .ne 11, 3) := by decide +kernel
theorem dX8_open_10 : decode cX8_open 10 = .ok (.new 218, 3) := by decide +kernel
theorem dX8_open_13 : decode cX8_open 13 = .ok (.dup, 1) := by decide +kernel
theorem dX8_open_14 : decode cX8_open 14 = .ok (.invokespecial 220, 3) := by decide +kernel
theorem dX8_open_17 : decode cX8_open 17 = .ok (.athrow, 1) := by decide +kernel
theorem dX8_open_18 : decode cX8_open 18 = .ok (.aload_n 0, 1) := by decide +kernel
theorem dX8_open_19 : decode cX8_open 19 = .ok (.iload_n 1, 1) := by decide +kernel
theorem dX8_open_20 : decode cX8_open 20 = .ok (.aload_n 0, 1) := by decide +kernel
theorem dX8_open_21 : decode cX8_open 21 = .ok (.iload_n 1, 1) := by decide +kernel
theorem dX8_open_22 : decode cX8_open 22 = .ok (.invokevirtual 269, 3) := by decide +kernel
theorem dX8_open_25 : decode cX8_open 25 = .ok (.invokevirtual 272, 3) := by decide +kernel
theorem dX8_open_28 : decode cX8_open 28 = .ok (.aload_n 0, 1) := by decide +kernel
theorem dX8_open_29 : decode cX8_open 29 = .ok (.invokevirtual 154, 3) := by decide +kernel
theorem dX8_open_32 : decode cX8_open 32 = .ok (.iload_n 1, 1) := by decide +kernel
theorem dX8_open_33 : decode cX8_open 33 = .ok (.ireturn, 1) := by decide +kernel
theorem dX8_solved_0 : decode cX8_solved 0 = .ok (.aload_n 0, 1) := by decide +kernel
theorem dX8_solved_1 : decode cX8_solved 1 = .ok (.iload_n 1, 1) := by decide +kernel
theorem dX8_solved_2 : decode cX8_solved 2 = .ok (.invokevirtual 157, 3) := by decide +kernel
theorem dX8_solved_5 : decode cX8_solved 5 = .ok (.ifCond .ne 11, 3) := by decide +kernel
theorem dX8_solved_8 : decode cX8_solved 8 = .ok (.new 133, 3) := by decide +kernel
theorem dX8_solved_11 : decode cX8_solved 11 = .ok (.dup, 1) := by decide +kernel
theorem dX8_solved_12 : decode cX8_solved 12 = .ok (.invokespecial 135, 3) := by decide +kernel
theorem dX8_solved_15 : decode cX8_solved 15 = .ok (.athrow, 1) := by decide +kernel
theorem dX8_solved_16 : decode cX8_solved 16 = .ok (.aload_n 0, 1) := by decide +kernel
theorem dX8_solved_17 : decode cX8_solved 17 = .ok (.iload_n 2, 1) := by decide +kernel
theorem dX8_solved_18 : decode cX8_solved 18 = .ok (.invokevirtual 276, 3) := by decide +kernel
theorem dX8_solved_21 : decode cX8_solved 21 = .ok (.getfield 280, 3) := by decide +kernel
theorem dX8_solved_24 : decode cX8_solved 24 = .ok (.iload_n 1, 1) := by decide +kernel
theorem dX8_solved_25 : decode cX8_solved 25 = .ok (.iaload, 1) := by decide +kernel
theorem dX8_solved_26 : decode cX8_solved 26 = .ok (.ireturn, 1) := by decide +kernel
theorem dX8_penalty_0 : decode cX8_penalty 0 = .ok (.aload_n 0, 1) := by decide +kernel
theorem dX8_penalty_1 : decode cX8_penalty 1 = .ok (.iload_n 1, 1) := by decide +kernel
theorem dX8_penalty_2 : decode cX8_penalty 2 = .ok (.invokevirtual 157, 3) := by decide +kernel
theorem dX8_penalty_5 : decode cX8_penalty 5 = .ok (.ifCond .ne 11, 3) := by decide +kernel
theorem dX8_penalty_8 : decode cX8_penalty 8 = .ok (.new 133, 3) := by decide +kernel
theorem dX8_penalty_11 : decode cX8_penalty 11 = .ok (.dup, 1) := by decide +kernel
theorem dX8_penalty_12 : decode cX8_penalty 12 = .ok (.invokespecial 135, 3) := by decide +kernel
theorem dX8_penalty_15 : decode cX8_penalty 15 = .ok (.athrow, 1) := by decide +kernel
theorem dX8_penalty_16 : decode cX8_penalty 16 = .ok (.aload_n 0, 1) := by decide +kernel
theorem dX8_penalty_17 : decode cX8_penalty 17 = .ok (.iload_n 2, 1) := by decide +kernel
theorem dX8_penalty_18 : decode cX8_penalty 18 = .ok (.invokevirtual 276, 3) := by decide +kernel
theorem dX8_penalty_21 : decode cX8_penalty 21 = .ok (.getfield 283, 3) := by decide +kernel
theorem dX8_penalty_24 : decode cX8_penalty 24 = .ok (.iload_n 1, 1) := by decide +kernel
theorem dX8_penalty_25 : decode cX8_penalty 25 = .ok (.iaload, 1) := by decide +kernel
theorem dX8_penalty_26 : decode cX8_penalty 26 = .ok (.ireturn, 1) := by decide +kernel
theorem dX8_rank_0 : decode cX8_rank 0 = .ok (.aload_n 0, 1) := by decide +kernel
theorem dX8_rank_1 : decode cX8_rank 1 = .ok (.iload_n 1, 1) := by decide +kernel
theorem dX8_rank_2 : decode cX8_rank 2 = .ok (.invokevirtual 157, 3) := by decide +kernel
theorem dX8_rank_5 : decode cX8_rank 5 = .ok (.ifCond .ne 11, 3) := by decide +kernel
theorem dX8_rank_8 : decode cX8_rank 8 = .ok (.new 133, 3) := by decide +kernel
theorem dX8_rank_11 : decode cX8_rank 11 = .ok (.dup, 1) := by decide +kernel
theorem dX8_rank_12 : decode cX8_rank 12 = .ok (.invokespecial 135, 3) := by decide +kernel
theorem dX8_rank_15 : decode cX8_rank 15 = .ok (.athrow, 1) := by decide +kernel
theorem dX8_rank_16 : decode cX8_rank 16 = .ok (.aload_n 0, 1) := by decide +kernel
theorem dX8_rank_17 : decode cX8_rank 17 = .ok (.iload_n 2, 1) := by decide +kernel
theorem dX8_rank_18 : decode cX8_rank 18 = .ok (.invokevirtual 276, 3) := by decide +kernel
theorem dX8_rank_21 : decode cX8_rank 21 = .ok (.iload_n 1, 1) := by decide +kernel
theorem dX8_rank_22 : decode cX8_rank 22 = .ok (.invokevirtual 286, 3) := by decide +kernel
theorem dX8_rank_25 : decode cX8_rank 25 = .ok (.ireturn, 1) := by decide +kernel
theorem dX8_ranked_0 : decode cX8_ranked 0 = .ok (.iload_n 1, 1) := by decide +kernel
theorem dX8_ranked_1 : decode cX8_ranked 1 = .ok (.iconst 1, 1) := by decide +kernel
theorem dX8_ranked_2 : decode cX8_ranked 2 = .ok (.aload_n 0, 1) := by decide +kernel
theorem dX8_ranked_3 : decode cX8_ranked 3 = .ok (.getfield 73, 3) := by decide +kernel
theorem dX8_ranked_6 : decode cX8_ranked 6 = .ok (.invokestatic 120, 3) := by decide +kernel
theorem dX8_ranked_9 : decode cX8_ranked 9 = .ok (.ifCond .ne 11, 3) := by decide +kernel
theorem dX8_ranked_12 : decode cX8_ranked 12 = .ok (.new 218, 3) := by decide +kernel
theorem dX8_ranked_15 : decode cX8_ranked 15 = .ok (.dup, 1) := by decide +kernel
theorem dX8_ranked_16 : decode cX8_ranked 16 = .ok (.invokespecial 220, 3) := by decide +kernel
theorem dX8_ranked_19 : decode cX8_ranked 19 = .ok (.athrow, 1) := by decide +kernel
theorem dX8_ranked_20 : decode cX8_ranked 20 = .ok (.aload_n 0, 1) := by decide +kernel
theorem dX8_ranked_21 : decode cX8_ranked 21 = .ok (.iload_n 2, 1) := by decide +kernel
theorem dX8_ranked_22 : decode cX8_ranked 22 = .ok (.invokevirtual 276, 3) := by decide +kernel
theorem dX8_ranked_25 : decode cX8_ranked 25 = .ok (.getfield 289, 3) := by decide +kernel
theorem dX8_ranked_28 : decode cX8_ranked 28 = .ok (.iload_n 1, 1) := by decide +kernel
theorem dX8_ranked_29 : decode cX8_ranked 29 = .ok (.iconst 1, 1) := by decide +kernel
theorem dX8_ranked_30 : decode cX8_ranked 30 = .ok (.isub, 1) := by decide +kernel
theorem dX8_ranked_31 : decode cX8_ranked 31 = .ok (.iaload, 1) := by decide +kernel
theorem dX8_ranked_32 : decode cX8_ranked 32 = .ok (.ireturn, 1) := by decide +kernel
theorem dX8_acceptedShare_0 : decode cX8_acceptedShare 0 = .ok (.aload_n 0, 1) := by decide +kernel
theorem dX8_acceptedShare_1 : decode cX8_acceptedShare 1 = .ok (.getfield 76, 3) := by decide +kernel
theorem dX8_acceptedShare_4 : decode cX8_acceptedShare 4 = .ok (.ifCond .ne 11, 3) := by decide +kernel
theorem dX8_acceptedShare_7 : decode cX8_acceptedShare 7 = .ok (.new 292, 3) := by decide +kernel
theorem dX8_acceptedShare_10 : decode cX8_acceptedShare 10 = .ok (.dup, 1) := by decide +kernel
theorem dX8_acceptedShare_11 : decode cX8_acceptedShare 11 = .ok (.invokespecial 294, 3) := by decide +kernel
theorem dX8_acceptedShare_14 : decode cX8_acceptedShare 14 = .ok (.athrow, 1) := by decide +kernel
theorem dX8_acceptedShare_15 : decode cX8_acceptedShare 15 = .ok (.iconst 0, 1) := by decide +kernel
theorem dX8_acceptedShare_16 : decode cX8_acceptedShare 16 = .ok (.istore_n 1, 1) := by decide +kernel
theorem dX8_acceptedShare_17 : decode cX8_acceptedShare 17 = .ok (.iconst 0, 1) := by decide +kernel
theorem dX8_acceptedShare_18 : decode cX8_acceptedShare 18 = .ok (.istore_n 2, 1) := by decide +kernel
theorem dX8_acceptedShare_19 : decode cX8_acceptedShare 19 = .ok (.iload_n 2, 1) := by decide +kernel
theorem dX8_acceptedShare_20 : decode cX8_acceptedShare 20 = .ok (.aload_n 0, 1) := by decide +kernel
theorem dX8_acceptedShare_21 : decode cX8_acceptedShare 21 = .ok (.getfield 76, 3) := by decide +kernel
theorem dX8_acceptedShare_24 : decode cX8_acceptedShare 24 = .ok (.if_icmp .ge 26, 3) := by decide +kernel
theorem dX8_acceptedShare_27 : decode cX8_acceptedShare 27 = .ok (.aload_n 0, 1) := by decide +kernel
theorem dX8_acceptedShare_28 : decode cX8_acceptedShare 28 = .ok (.getfield 31, 3) := by decide +kernel
theorem dX8_acceptedShare_31 : decode cX8_acceptedShare 31 = .ok (.iload_n 2, 1) := by decide +kernel
theorem dX8_acceptedShare_32 : decode cX8_acceptedShare 32 = .ok (.aaload, 1) := by decide +kernel
theorem dX8_acceptedShare_33 : decode cX8_acceptedShare 33 = .ok (.getfield 193, 3) := by decide +kernel
theorem dX8_acceptedShare_36 : decode cX8_acceptedShare 36 = .ok (.bipush 97, 2) := by decide +kernel
theorem dX8_acceptedShare_38 : decode cX8_acceptedShare 38 = .ok (.if_icmp .ne 6, 3) := by decide +kernel
theorem dX8_acceptedShare_41 : decode cX8_acceptedShare 41 = .ok (.iinc 1 1, 3) := by decide +kernel
theorem dX8_acceptedShare_44 : decode cX8_acceptedShare 44 = .ok (.iinc 2 1, 3) := by decide +kernel
theorem dX8_acceptedShare_47 : decode cX8_acceptedShare 47 = .ok (.goto (-28), 3) := by decide +kernel
theorem dX8_acceptedShare_50 : decode cX8_acceptedShare 50 = .ok (.iload_n 1, 1) := by decide +kernel
theorem dX8_acceptedShare_51 : decode cX8_acceptedShare 51 = .ok (.i2f, 1) := by decide +kernel
theorem dX8_acceptedShare_52 : decode cX8_acceptedShare 52 = .ok (.aload_n 0, 1) := by decide +kernel
theorem dX8_acceptedShare_53 : decode cX8_acceptedShare 53 = .ok (.getfield 76, 3) := by decide +kernel
theorem dX8_acceptedShare_56 : decode cX8_acceptedShare 56 = .ok (.i2f, 1) := by decide +kernel
theorem dX8_acceptedShare_57 : decode cX8_acceptedShare 57 = .ok (.fdiv, 1) := by decide +kernel
theorem dX8_acceptedShare_58 : decode cX8_acceptedShare 58 = .ok (.freturn, 1) := by decide +kernel
theorem dX8_meanSteps_0 : decode cX8_meanSteps 0 = .ok (.iconst 0, 1) := by decide +kernel
theorem dX8_meanSteps_1 : decode cX8_meanSteps 1 = .ok (.istore_n 1, 1) := by decide +kernel
theorem dX8_meanSteps_2 : decode cX8_meanSteps 2 = .ok (.iconst 0, 1) := by decide +kernel
theorem dX8_meanSteps_3 : decode cX8_meanSteps 3 = .ok (.istore_n 2, 1) := by decide +kernel
theorem dX8_meanSteps_4 : decode cX8_meanSteps 4 = .ok (.iconst 0, 1) := by decide +kernel
theorem dX8_meanSteps_5 : decode cX8_meanSteps 5 = .ok (.istore_n 3, 1) := by decide +kernel
theorem dX8_meanSteps_6 : decode cX8_meanSteps 6 = .ok (.iload_n 3, 1) := by decide +kernel
theorem dX8_meanSteps_7 : decode cX8_meanSteps 7 = .ok (.aload_n 0, 1) := by decide +kernel
theorem dX8_meanSteps_8 : decode cX8_meanSteps 8 = .ok (.getfield 76, 3) := by decide +kernel
theorem dX8_meanSteps_11 : decode cX8_meanSteps 11 = .ok (.if_icmp .ge 57, 3) := by decide +kernel
theorem dX8_meanSteps_14 : decode cX8_meanSteps 14 = .ok (.aload_n 0, 1) := by decide +kernel
theorem dX8_meanSteps_15 : decode cX8_meanSteps 15 = .ok (.aload_n 0, 1) := by decide +kernel
theorem dX8_meanSteps_16 : decode cX8_meanSteps 16 = .ok (.getfield 31, 3) := by decide +kernel
theorem dX8_meanSteps_19 : decode cX8_meanSteps 19 = .ok (.iload_n 3, 1) := by decide +kernel
theorem dX8_meanSteps_20 : decode cX8_meanSteps 20 = .ok (.aaload, 1) := by decide +kernel
theorem dX8_meanSteps_21 : decode cX8_meanSteps 21 = .ok (.invokevirtual 295, 3) := by decide +kernel
theorem dX8_meanSteps_24 : decode cX8_meanSteps 24 = .ok (.istore 4, 2) := by decide +kernel
theorem dX8_meanSteps_26 : decode cX8_meanSteps 26 = .ok (.iconst 0, 1) := by decide +kernel
theorem dX8_meanSteps_27 : decode cX8_meanSteps 27 = .ok (.istore 5, 2) := by decide +kernel
theorem dX8_meanSteps_29 : decode cX8_meanSteps 29 = .ok (.iload 5, 2) := by decide +kernel
theorem dX8_meanSteps_31 : decode cX8_meanSteps 31 = .ok (.iload 4, 2) := by decide +kernel
theorem dX8_meanSteps_33 : decode cX8_meanSteps 33 = .ok (.if_icmp .ge 24, 3) := by decide +kernel
theorem dX8_meanSteps_36 : decode cX8_meanSteps 36 = .ok (.iload_n 1, 1) := by decide +kernel
theorem dX8_meanSteps_37 : decode cX8_meanSteps 37 = .ok (.aload_n 0, 1) := by decide +kernel
theorem dX8_meanSteps_38 : decode cX8_meanSteps 38 = .ok (.getfield 31, 3) := by decide +kernel
theorem dX8_meanSteps_41 : decode cX8_meanSteps 41 = .ok (.iload_n 3, 1) := by decide +kernel
theorem dX8_meanSteps_42 : decode cX8_meanSteps 42 = .ok (.aaload, 1) := by decide +kernel
theorem dX8_meanSteps_43 : decode cX8_meanSteps 43 = .ok (.getfield 208, 3) := by decide +kernel
theorem dX8_meanSteps_46 : decode cX8_meanSteps 46 = .ok (.iload 5, 2) := by decide +kernel
theorem dX8_meanSteps_48 : decode cX8_meanSteps 48 = .ok (.iaload, 1) := by decide +kernel
theorem dX8_meanSteps_49 : decode cX8_meanSteps 49 = .ok (.iadd, 1) := by decide +kernel
theorem dX8_meanSteps_50 : decode cX8_meanSteps 50 = .ok (.istore_n 1, 1) := by decide +kernel
theorem dX8_meanSteps_51 : decode cX8_meanSteps 51 = .ok (.iinc 5 1, 3) := by decide +kernel
theorem dX8_meanSteps_54 : decode cX8_meanSteps 54 = .ok (.goto (-25), 3) := by decide +kernel
theorem dX8_meanSteps_57 : decode cX8_meanSteps 57 = .ok (.iload_n 2, 1) := by decide +kernel
theorem dX8_meanSteps_58 : decode cX8_meanSteps 58 = .ok (.iload 4, 2) := by decide +kernel
theorem dX8_meanSteps_60 : decode cX8_meanSteps 60 = .ok (.iadd, 1) := by decide +kernel
theorem dX8_meanSteps_61 : decode cX8_meanSteps 61 = .ok (.istore_n 2, 1) := by decide +kernel
theorem dX8_meanSteps_62 : decode cX8_meanSteps 62 = .ok (.iinc 3 1, 3) := by decide +kernel
theorem dX8_meanSteps_65 : decode cX8_meanSteps 65 = .ok (.goto (-59), 3) := by decide +kernel
theorem dX8_meanSteps_68 : decode cX8_meanSteps 68 = .ok (.iload_n 2, 1) := by decide +kernel
theorem dX8_meanSteps_69 : decode cX8_meanSteps 69 = .ok (.ifCond .ne 11, 3) := by decide +kernel
theorem dX8_meanSteps_72 : decode cX8_meanSteps 72 = .ok (.new 292, 3) := by decide +kernel
theorem dX8_meanSteps_75 : decode cX8_meanSteps 75 = .ok (.dup, 1) := by decide +kernel
theorem dX8_meanSteps_76 : decode cX8_meanSteps 76 = .ok (.invokespecial 294, 3) := by decide +kernel
theorem dX8_meanSteps_79 : decode cX8_meanSteps 79 = .ok (.athrow, 1) := by decide +kernel
theorem dX8_meanSteps_80 : decode cX8_meanSteps 80 = .ok (.iload_n 1, 1) := by decide +kernel
theorem dX8_meanSteps_81 : decode cX8_meanSteps 81 = .ok (.i2d, 1) := by decide +kernel
theorem dX8_meanSteps_82 : decode cX8_meanSteps 82 = .ok (.iload_n 2, 1) := by decide +kernel
theorem dX8_meanSteps_83 : decode cX8_meanSteps 83 = .ok (.i2d, 1) := by decide +kernel
theorem dX8_meanSteps_84 : decode cX8_meanSteps 84 = .ok (.ddiv, 1) := by decide +kernel
theorem dX8_meanSteps_85 : decode cX8_meanSteps 85 = .ok (.dreturn, 1) := by decide +kernel
theorem dX8_checksum_0 : decode cX8_checksum 0 = .ok (.ldc2_w 299, 3) := by decide +kernel
theorem dX8_checksum_3 : decode cX8_checksum 3 = .ok (.lstore_n 1, 1) := by decide +kernel
theorem dX8_checksum_4 : decode cX8_checksum 4 = .ok (.iconst 0, 1) := by decide +kernel
theorem dX8_checksum_5 : decode cX8_checksum 5 = .ok (.istore_n 3, 1) := by decide +kernel
theorem dX8_checksum_6 : decode cX8_checksum 6 = .ok (.iload_n 3, 1) := by decide +kernel
theorem dX8_checksum_7 : decode cX8_checksum 7 = .ok (.aload_n 0, 1) := by decide +kernel
theorem dX8_checksum_8 : decode cX8_checksum 8 = .ok (.getfield 76, 3) := by decide +kernel
theorem dX8_checksum_11 : decode cX8_checksum 11 = .ok (.if_icmp .ge 66, 3) := by decide +kernel
theorem dX8_checksum_14 : decode cX8_checksum 14 = .ok (.aload_n 0, 1) := by decide +kernel
theorem dX8_checksum_15 : decode cX8_checksum 15 = .ok (.aload_n 0, 1) := by decide +kernel
theorem dX8_checksum_16 : decode cX8_checksum 16 = .ok (.getfield 31, 3) := by decide +kernel
theorem dX8_checksum_19 : decode cX8_checksum 19 = .ok (.iload_n 3, 1) := by decide +kernel
theorem dX8_checksum_20 : decode cX8_checksum 20 = .ok (.aaload, 1) := by decide +kernel
theorem dX8_checksum_21 : decode cX8_checksum 21 = .ok (.invokevirtual 295, 3) := by decide +kernel
theorem dX8_checksum_24 : decode cX8_checksum 24 = .ok (.istore 4, 2) := by decide +kernel
theorem dX8_checksum_26 : decode cX8_checksum 26 = .ok (.iconst 0, 1) := by decide +kernel
theorem dX8_checksum_27 : decode cX8_checksum 27 = .ok (.istore 5, 2) := by decide +kernel
theorem dX8_checksum_29 : decode cX8_checksum 29 = .ok (.iload 5, 2) := by decide +kernel
theorem dX8_checksum_31 : decode cX8_checksum 31 = .ok (.iload 4, 2) := by decide +kernel
theorem dX8_checksum_33 : decode cX8_checksum 33 = .ok (.if_icmp .ge 38, 3) := by decide +kernel
theorem dX8_checksum_36 : decode cX8_checksum 36 = .ok (.ldc2_w 301, 3) := by decide +kernel
theorem dX8_checksum_39 : decode cX8_checksum 39 = .ok (.aload_n 0, 1) := by decide +kernel
theorem dX8_checksum_40 : decode cX8_checksum 40 = .ok (.getfield 45, 3) := by decide +kernel
theorem dX8_checksum_43 : decode cX8_checksum 43 = .ok (.lload_n 1, 1) := by decide +kernel
theorem dX8_checksum_44 : decode cX8_checksum 44 = .ok (.aload_n 0, 1) := by decide +kernel
theorem dX8_checksum_45 : decode cX8_checksum 45 = .ok (.getfield 31, 3) := by decide +kernel
theorem dX8_checksum_48 : decode cX8_checksum 48 = .ok (.iload_n 3, 1) := by decide +kernel
theorem dX8_checksum_49 : decode cX8_checksum 49 = .ok (.aaload, 1) := by decide +kernel
theorem dX8_checksum_50 : decode cX8_checksum 50 = .ok (.getfield 215, 3) := by decide +kernel
theorem dX8_checksum_53 : decode cX8_checksum 53 = .ok (.iload 5, 2) := by decide +kernel
theorem dX8_checksum_55 : decode cX8_checksum 55 = .ok (.iaload, 1) := by decide +kernel
theorem dX8_checksum_56 : decode cX8_checksum 56 = .ok (.invokevirtual 303, 3) := by decide +kernel
theorem dX8_checksum_59 : decode cX8_checksum 59 = .ok (.lmul, 1) := by decide +kernel
theorem dX8_checksum_60 : decode cX8_checksum 60 = .ok (.ldc2_w 307, 3) := by decide +kernel
theorem dX8_checksum_63 : decode cX8_checksum 63 = .ok (.ladd, 1) := by decide +kernel
theorem dX8_checksum_64 : decode cX8_checksum 64 = .ok (.lstore_n 1, 1) := by decide +kernel
theorem dX8_checksum_65 : decode cX8_checksum 65 = .ok (.iinc 5 1, 3) := by decide +kernel
theorem dX8_checksum_68 : decode cX8_checksum 68 = .ok (.goto (-39), 3) := by decide +kernel
theorem dX8_checksum_71 : decode cX8_checksum 71 = .ok (.iinc 3 1, 3) := by decide +kernel
theorem dX8_checksum_74 : decode cX8_checksum 74 = .ok (.goto (-68), 3) := by decide +kernel
theorem dX8_checksum_77 : decode cX8_checksum 77 = .ok (.lload_n 1, 1) := by decide +kernel
theorem dX8_checksum_78 : decode cX8_checksum 78 = .ok (.lreturn, 1) := by decide +kernel
theorem dX8_isTrue_0 : decode cX8_isTrue 0 = .ok (.aload_n 0, 1) := by decide +kernel
theorem dX8_isTrue_1 : decode cX8_isTrue 1 = .ok (.iconst 1, 1) := by decide +kernel
theorem dX8_isTrue_2 : decode cX8_isTrue 2 = .ok (.invokevirtual 309, 3) := by decide +kernel
theorem dX8_isTrue_5 : decode cX8_isTrue 5 = .ok (.ifCond .eq 39, 3) := by decide +kernel
theorem dX8_isTrue_8 : decode cX8_isTrue 8 = .ok (.aload_n 0, 1) := by decide +kernel
theorem dX8_isTrue_9 : decode cX8_isTrue 9 = .ok (.iconst 0, 1) := by decide +kernel
theorem dX8_isTrue_10 : decode cX8_isTrue 10 = .ok (.invokevirtual 309, 3) := by decide +kernel
theorem dX8_isTrue_13 : decode cX8_isTrue 13 = .ok (.ifCond .eq 31, 3) := by decide +kernel
theorem dX8_isTrue_16 : decode cX8_isTrue 16 = .ok (.aload_n 0, 1) := by decide +kernel
theorem dX8_isTrue_17 : decode cX8_isTrue 17 = .ok (.invokevirtual 312, 3) := by decide +kernel
theorem dX8_isTrue_20 : decode cX8_isTrue 20 = .ok (.ifCond .eq 24, 3) := by decide +kernel
theorem dX8_isTrue_23 : decode cX8_isTrue 23 = .ok (.aload_n 0, 1) := by decide +kernel
theorem dX8_isTrue_24 : decode cX8_isTrue 24 = .ok (.getfield 52, 3) := by decide +kernel
theorem dX8_isTrue_27 : decode cX8_isTrue 27 = .ok (.invokevirtual 316, 3) := by decide +kernel
theorem dX8_isTrue_30 : decode cX8_isTrue 30 = .ok (.ifCond .eq 14, 3) := by decide +kernel
theorem dX8_isTrue_33 : decode cX8_isTrue 33 = .ok (.aload_n 0, 1) := by decide +kernel
theorem dX8_isTrue_34 : decode cX8_isTrue 34 = .ok (.invokevirtual 319, 3) := by decide +kernel
theorem dX8_isTrue_37 : decode cX8_isTrue 37 = .ok (.ifCond .eq 7, 3) := by decide +kernel
theorem dX8_isTrue_40 : decode cX8_isTrue 40 = .ok (.iconst 1, 1) := by decide +kernel
theorem dX8_isTrue_41 : decode cX8_isTrue 41 = .ok (.goto 4, 3) := by decide +kernel
theorem dX8_isTrue_44 : decode cX8_isTrue 44 = .ok (.iconst 0, 1) := by decide +kernel
theorem dX8_isTrue_45 : decode cX8_isTrue 45 = .ok (.ireturn, 1) := by decide +kernel
theorem dX8_isWithin_0 : decode cX8_isWithin 0 = .ok (.iload_n 0, 1) := by decide +kernel
theorem dX8_isWithin_1 : decode cX8_isWithin 1 = .ok (.iload_n 1, 1) := by decide +kernel
theorem dX8_isWithin_2 : decode cX8_isWithin 2 = .ok (.if_icmp .lt 12, 3) := by decide +kernel
theorem dX8_isWithin_5 : decode cX8_isWithin 5 = .ok (.iload_n 0, 1) := by decide +kernel
theorem dX8_isWithin_6 : decode cX8_isWithin 6 = .ok (.iload_n 2, 1) := by decide +kernel
theorem dX8_isWithin_7 : decode cX8_isWithin 7 = .ok (.if_icmp .gt 7, 3) := by decide +kernel
theorem dX8_isWithin_10 : decode cX8_isWithin 10 = .ok (.iconst 1, 1) := by decide +kernel
theorem dX8_isWithin_11 : decode cX8_isWithin 11 = .ok (.goto 4, 3) := by decide +kernel
theorem dX8_isWithin_14 : decode cX8_isWithin 14 = .ok (.iconst 0, 1) := by decide +kernel
theorem dX8_isWithin_15 : decode cX8_isWithin 15 = .ok (.ireturn, 1) := by decide +kernel
theorem dX8_isPlace_0 : decode cX8_isPlace 0 = .ok (.iload_n 0, 1) := by decide +kernel
theorem dX8_isPlace_1 : decode cX8_isPlace 1 = .ok (.iconst 0, 1) := by decide +kernel
theorem dX8_isPlace_2 : decode cX8_isPlace 2 = .ok (.iconst 3, 1) := by decide +kernel
theorem dX8_isPlace_3 : decode cX8_isPlace 3 = .ok (.invokestatic 120, 3) := by decide +kernel
theorem dX8_isPlace_6 : decode cX8_isPlace 6 = .ok (.ireturn, 1) := by decide +kernel
theorem dX8_isNumber_0 : decode cX8_isNumber 0 = .ok (.iload_n 0, 1) := by decide +kernel
theorem dX8_isNumber_1 : decode cX8_isNumber 1 = .ok (.sipush (-999), 3) := by decide +kernel
theorem dX8_isNumber_4 : decode cX8_isNumber 4 = .ok (.sipush 999, 3) := by decide +kernel
theorem dX8_isNumber_7 : decode cX8_isNumber 7 = .ok (.invokestatic 120, 3) := by decide +kernel
theorem dX8_isNumber_10 : decode cX8_isNumber 10 = .ok (.ireturn, 1) := by decide +kernel
theorem dX8_isColour_0 : decode cX8_isColour 0 = .ok (.iload_n 0, 1) := by decide +kernel
theorem dX8_isColour_1 : decode cX8_isColour 1 = .ok (.iconst 0, 1) := by decide +kernel
theorem dX8_isColour_2 : decode cX8_isColour 2 = .ok (.iconst 3, 1) := by decide +kernel
theorem dX8_isColour_3 : decode cX8_isColour 3 = .ok (.invokestatic 120, 3) := by decide +kernel
theorem dX8_isColour_6 : decode cX8_isColour 6 = .ok (.ireturn, 1) := by decide +kernel
theorem dX8_isStep_0 : decode cX8_isStep 0 = .ok (.iload_n 0, 1) := by decide +kernel
theorem dX8_isStep_1 : decode cX8_isStep 1 = .ok (.tableswitch 161 97 115 #[116, 161, 161, 116, 161, 161, 161, 159, 91, 136, 161, 161, 116, 136, 91, 161, 161, 161, 96], 91) := by decide +kernel
theorem dX8_isStep_92 : decode cX8_isStep 92 = .ok (.iload_n 1, 1) := by decide +kernel
theorem dX8_isStep_93 : decode cX8_isStep 93 = .ok (.invokestatic 322, 3) := by decide +kernel
theorem dX8_isStep_96 : decode cX8_isStep 96 = .ok (.ireturn, 1) := by decide +kernel
theorem dX8_isStep_97 : decode cX8_isStep 97 = .ok (.iload_n 1, 1) := by decide +kernel
theorem dX8_isStep_98 : decode cX8_isStep 98 = .ok (.invokestatic 322, 3) := by decide +kernel
theorem dX8_isStep_101 : decode cX8_isStep 101 = .ok (.ifCond .eq 14, 3) := by decide +kernel
theorem dX8_isStep_104 : decode cX8_isStep 104 = .ok (.iload_n 2, 1) := by decide +kernel
theorem dX8_isStep_105 : decode cX8_isStep 105 = .ok (.invokestatic 101, 3) := by decide +kernel
theorem dX8_isStep_108 : decode cX8_isStep 108 = .ok (.ifCond .eq 7, 3) := by decide +kernel
theorem dX8_isStep_111 : decode cX8_isStep 111 = .ok (.iconst 1, 1) := by decide +kernel
theorem dX8_isStep_112 : decode cX8_isStep 112 = .ok (.goto 4, 3) := by decide +kernel
theorem dX8_isStep_115 : decode cX8_isStep 115 = .ok (.iconst 0, 1) := by decide +kernel
theorem dX8_isStep_116 : decode cX8_isStep 116 = .ok (.ireturn, 1) := by decide +kernel
theorem dX8_isStep_117 : decode cX8_isStep 117 = .ok (.iload_n 1, 1) := by decide +kernel
theorem dX8_isStep_118 : decode cX8_isStep 118 = .ok (.invokestatic 322, 3) := by decide +kernel
theorem dX8_isStep_121 : decode cX8_isStep 121 = .ok (.ifCond .eq 14, 3) := by decide +kernel
theorem dX8_isStep_124 : decode cX8_isStep 124 = .ok (.iload_n 2, 1) := by decide +kernel
theorem dX8_isStep_125 : decode cX8_isStep 125 = .ok (.invokestatic 322, 3) := by decide +kernel
theorem dX8_isStep_128 : decode cX8_isStep 128 = .ok (.ifCond .eq 7, 3) := by decide +kernel
theorem dX8_isStep_131 : decode cX8_isStep 131 = .ok (.iconst 1, 1) := by decide +kernel
theorem dX8_isStep_132 : decode cX8_isStep 132 = .ok (.goto 4, 3) := by decide +kernel
theorem dX8_isStep_135 : decode cX8_isStep 135 = .ok (.iconst 0, 1) := by decide +kernel
theorem dX8_isStep_136 : decode cX8_isStep 136 = .ok (.ireturn, 1) := by decide +kernel
theorem dX8_isStep_137 : decode cX8_isStep 137 = .ok (.iload_n 1, 1) := by decide +kernel
theorem dX8_isStep_138 : decode cX8_isStep 138 = .ok (.invokestatic 322, 3) := by decide +kernel
theorem dX8_isStep_141 : decode cX8_isStep 141 = .ok (.ifCond .eq 17, 3) := by decide +kernel
theorem dX8_isStep_144 : decode cX8_isStep 144 = .ok (.iload_n 2, 1) := by decide +kernel
theorem dX8_isStep_145 : decode cX8_isStep 145 = .ok (.iconst 0, 1) := by decide +kernel
theorem dX8_isStep_146 : decode cX8_isStep 146 = .ok (.bipush 99, 2) := by decide +kernel
theorem dX8_isStep_148 : decode cX8_isStep 148 = .ok (.invokestatic 120, 3) := by decide +kernel
theorem dX8_isStep_151 : decode cX8_isStep 151 = .ok (.ifCond .eq 7, 3) := by decide +kernel
theorem dX8_isStep_154 : decode cX8_isStep 154 = .ok (.iconst 1, 1) := by decide +kernel
theorem dX8_isStep_155 : decode cX8_isStep 155 = .ok (.goto 4, 3) := by decide +kernel
theorem dX8_isStep_158 : decode cX8_isStep 158 = .ok (.iconst 0, 1) := by decide +kernel
theorem dX8_isStep_159 : decode cX8_isStep 159 = .ok (.ireturn, 1) := by decide +kernel
theorem dX8_isStep_160 : decode cX8_isStep 160 = .ok (.iconst 1, 1) := by decide +kernel
theorem dX8_isStep_161 : decode cX8_isStep 161 = .ok (.ireturn, 1) := by decide +kernel
theorem dX8_isStep_162 : decode cX8_isStep 162 = .ok (.iconst 0, 1) := by decide +kernel
theorem dX8_isStep_163 : decode cX8_isStep 163 = .ok (.ireturn, 1) := by decide +kernel
theorem dX8_spotOf_0 : decode cX8_spotOf 0 = .ok (.iload_n 0, 1) := by decide +kernel
theorem dX8_spotOf_1 : decode cX8_spotOf 1 = .ok (.iconst 5, 1) := by decide +kernel
theorem dX8_spotOf_2 : decode cX8_spotOf 2 = .ok (.imul, 1) := by decide +kernel
theorem dX8_spotOf_3 : decode cX8_spotOf 3 = .ok (.iload_n 1, 1) := by decide +kernel
theorem dX8_spotOf_4 : decode cX8_spotOf 4 = .ok (.iadd, 1) := by decide +kernel
theorem dX8_spotOf_5 : decode cX8_spotOf 5 = .ok (.ireturn, 1) := by decide +kernel
theorem dX8_teamOf_0 : decode cX8_teamOf 0 = .ok (.iload_n 0, 1) := by decide +kernel
theorem dX8_teamOf_1 : decode cX8_teamOf 1 = .ok (.iconst 5, 1) := by decide +kernel
theorem dX8_teamOf_2 : decode cX8_teamOf 2 = .ok (.idiv, 1) := by decide +kernel
theorem dX8_teamOf_3 : decode cX8_teamOf 3 = .ok (.ireturn, 1) := by decide +kernel
theorem dX8_hasProblem_0 : decode cX8_hasProblem 0 = .ok (.iload_n 1, 1) := by decide +kernel
theorem dX8_hasProblem_1 : decode cX8_hasProblem 1 = .ok (.iconst 0, 1) := by decide +kernel
theorem dX8_hasProblem_2 : decode cX8_hasProblem 2 = .ok (.aload_n 0, 1) := by decide +kernel
theorem dX8_hasProblem_3 : decode cX8_hasProblem 3 = .ok (.getfield 69, 3) := by decide +kernel
theorem dX8_hasProblem_6 : decode cX8_hasProblem 6 = .ok (.iconst 1, 1) := by decide +kernel
theorem dX8_hasProblem_7 : decode cX8_hasProblem 7 = .ok (.isub, 1) := by decide +kernel
theorem dX8_hasProblem_8 : decode cX8_hasProblem 8 = .ok (.invokestatic 120, 3) := by decide +kernel
theorem dX8_hasProblem_11 : decode cX8_hasProblem 11 = .ok (.ireturn, 1) := by decide +kernel
theorem dX8_hasTeam_0 : decode cX8_hasTeam 0 = .ok (.iload_n 1, 1) := by decide +kernel
theorem dX8_hasTeam_1 : decode cX8_hasTeam 1 = .ok (.iconst 0, 1) := by decide +kernel
theorem dX8_hasTeam_2 : decode cX8_hasTeam 2 = .ok (.aload_n 0, 1) := by decide +kernel
theorem dX8_hasTeam_3 : decode cX8_hasTeam 3 = .ok (.getfield 73, 3) := by decide +kernel
theorem dX8_hasTeam_6 : decode cX8_hasTeam 6 = .ok (.iconst 1, 1) := by decide +kernel
theorem dX8_hasTeam_7 : decode cX8_hasTeam 7 = .ok (.isub, 1) := by decide +kernel
theorem dX8_hasTeam_8 : decode cX8_hasTeam 8 = .ok (.invokestatic 120, 3) := by decide +kernel
theorem dX8_hasTeam_11 : decode cX8_hasTeam 11 = .ok (.ireturn, 1) := by decide +kernel
theorem dX8_hasRun_0 : decode cX8_hasRun 0 = .ok (.iload_n 1, 1) := by decide +kernel
theorem dX8_hasRun_1 : decode cX8_hasRun 1 = .ok (.iconst 0, 1) := by decide +kernel
theorem dX8_hasRun_2 : decode cX8_hasRun 2 = .ok (.aload_n 0, 1) := by decide +kernel
theorem dX8_hasRun_3 : decode cX8_hasRun 3 = .ok (.getfield 76, 3) := by decide +kernel
theorem dX8_hasRun_6 : decode cX8_hasRun 6 = .ok (.iconst 1, 1) := by decide +kernel
theorem dX8_hasRun_7 : decode cX8_hasRun 7 = .ok (.isub, 1) := by decide +kernel
theorem dX8_hasRun_8 : decode cX8_hasRun 8 = .ok (.invokestatic 120, 3) := by decide +kernel
theorem dX8_hasRun_11 : decode cX8_hasRun 11 = .ok (.ireturn, 1) := by decide +kernel
theorem dX8_hasTestOfRun_0 : decode cX8_hasTestOfRun 0 = .ok (.aload_n 0, 1) := by decide +kernel
theorem dX8_hasTestOfRun_1 : decode cX8_hasTestOfRun 1 = .ok (.iload_n 1, 1) := by decide +kernel
theorem dX8_hasTestOfRun_2 : decode cX8_hasTestOfRun 2 = .ok (.invokevirtual 190, 3) := by decide +kernel
theorem dX8_hasTestOfRun_5 : decode cX8_hasTestOfRun 5 = .ok (.ifCond .eq 28, 3) := by decide +kernel
theorem dX8_hasTestOfRun_8 : decode cX8_hasTestOfRun 8 = .ok (.aload_n 0, 1) := by decide +kernel
theorem dX8_hasTestOfRun_9 : decode cX8_hasTestOfRun 9 = .ok (.getfield 25, 3) := by decide +kernel
theorem dX8_hasTestOfRun_12 : decode cX8_hasTestOfRun 12 = .ok (.aload_n 0, 1) := by decide +kernel
theorem dX8_hasTestOfRun_13 : decode cX8_hasTestOfRun 13 = .ok (.getfield 31, 3) := by decide +kernel
theorem dX8_hasTestOfRun_16 : decode cX8_hasTestOfRun 16 = .ok (.iload_n 1, 1) := by decide +kernel
theorem dX8_hasTestOfRun_17 : decode cX8_hasTestOfRun 17 = .ok (.aaload, 1) := by decide +kernel
theorem dX8_hasTestOfRun_18 : decode cX8_hasTestOfRun 18 = .ok (.getfield 166, 3) := by decide +kernel
theorem dX8_hasTestOfRun_21 : decode cX8_hasTestOfRun 21 = .ok (.aaload, 1) := by decide +kernel
theorem dX8_hasTestOfRun_22 : decode cX8_hasTestOfRun 22 = .ok (.iload_n 2, 1) := by decide +kernel
theorem dX8_hasTestOfRun_23 : decode cX8_hasTestOfRun 23 = .ok (.invokevirtual 151, 3) := by decide +kernel
theorem dX8_hasTestOfRun_26 : decode cX8_hasTestOfRun 26 = .ok (.ifCond .eq 7, 3) := by decide +kernel
theorem dX8_hasTestOfRun_29 : decode cX8_hasTestOfRun 29 = .ok (.iconst 1, 1) := by decide +kernel
theorem dX8_hasTestOfRun_30 : decode cX8_hasTestOfRun 30 = .ok (.goto 4, 3) := by decide +kernel
theorem dX8_hasTestOfRun_33 : decode cX8_hasTestOfRun 33 = .ok (.iconst 0, 1) := by decide +kernel
theorem dX8_hasTestOfRun_34 : decode cX8_hasTestOfRun 34 = .ok (.ireturn, 1) := by decide +kernel
theorem dX8_testCountOf_0 : decode cX8_testCountOf 0 = .ok (.aload_n 0, 1) := by decide +kernel
theorem dX8_testCountOf_1 : decode cX8_testCountOf 1 = .ok (.getfield 25, 3) := by decide +kernel
theorem dX8_testCountOf_4 : decode cX8_testCountOf 4 = .ok (.aload_n 1, 1) := by decide +kernel
theorem dX8_testCountOf_5 : decode cX8_testCountOf 5 = .ok (.getfield 166, 3) := by decide +kernel
theorem dX8_testCountOf_8 : decode cX8_testCountOf 8 = .ok (.aaload, 1) := by decide +kernel
theorem dX8_testCountOf_9 : decode cX8_testCountOf 9 = .ok (.getfield 136, 3) := by decide +kernel
theorem dX8_testCountOf_12 : decode cX8_testCountOf 12 = .ok (.ireturn, 1) := by decide +kernel
theorem dX8_lastMinute_0 : decode cX8_lastMinute 0 = .ok (.aload_n 0, 1) := by decide +kernel
theorem dX8_lastMinute_1 : decode cX8_lastMinute 1 = .ok (.getfield 76, 3) := by decide +kernel
theorem dX8_lastMinute_4 : decode cX8_lastMinute 4 = .ok (.ifCond .ne 7, 3) := by decide +kernel
theorem dX8_lastMinute_7 : decode cX8_lastMinute 7 = .ok (.iconst 0, 1) := by decide +kernel
theorem dX8_lastMinute_8 : decode cX8_lastMinute 8 = .ok (.goto 17, 3) := by decide +kernel
theorem dX8_lastMinute_11 : decode cX8_lastMinute 11 = .ok (.aload_n 0, 1) := by decide +kernel
theorem dX8_lastMinute_12 : decode cX8_lastMinute 12 = .ok (.getfield 31, 3) := by decide +kernel
theorem dX8_lastMinute_15 : decode cX8_lastMinute 15 = .ok (.aload_n 0, 1) := by decide +kernel
theorem dX8_lastMinute_16 : decode cX8_lastMinute 16 = .ok (.getfield 76, 3) := by decide +kernel
theorem dX8_lastMinute_19 : decode cX8_lastMinute 19 = .ok (.iconst 1, 1) := by decide +kernel
theorem dX8_lastMinute_20 : decode cX8_lastMinute 20 = .ok (.isub, 1) := by decide +kernel
theorem dX8_lastMinute_21 : decode cX8_lastMinute 21 = .ok (.aaload, 1) := by decide +kernel
theorem dX8_lastMinute_22 : decode cX8_lastMinute 22 = .ok (.getfield 169, 3) := by decide +kernel
theorem dX8_lastMinute_25 : decode cX8_lastMinute 25 = .ok (.ireturn, 1) := by decide +kernel
theorem dX8_boardOf_0 : decode cX8_boardOf 0 = .ok (.iload_n 1, 1) := by decide +kernel
theorem dX8_boardOf_1 : decode cX8_boardOf 1 = .ok (.ifCond .eq 10, 3) := by decide +kernel
theorem dX8_boardOf_4 : decode cX8_boardOf 4 = .ok (.aload_n 0, 1) := by decide +kernel
theorem dX8_boardOf_5 : decode cX8_boardOf 5 = .ok (.getfield 63, 3) := by decide +kernel
theorem dX8_boardOf_8 : decode cX8_boardOf 8 = .ok (.goto 7, 3) := by decide +kernel
theorem dX8_boardOf_11 : decode cX8_boardOf 11 = .ok (.aload_n 0, 1) := by decide +kernel
theorem dX8_boardOf_12 : decode cX8_boardOf 12 = .ok (.getfield 59, 3) := by decide +kernel
theorem dX8_boardOf_15 : decode cX8_boardOf 15 = .ok (.areturn, 1) := by decide +kernel
theorem dX8_recountBoards_0 : decode cX8_recountBoards 0 = .ok (.aload_n 0, 1) := by decide +kernel
theorem dX8_recountBoards_1 : decode cX8_recountBoards 1 = .ok (.getfield 59, 3) := by decide +kernel
theorem dX8_recountBoards_4 : decode cX8_recountBoards 4 = .ok (.aload_n 0, 1) := by decide +kernel
theorem dX8_recountBoards_5 : decode cX8_recountBoards 5 = .ok (.getfield 31, 3) := by decide +kernel
theorem dX8_recountBoards_8 : decode cX8_recountBoards 8 = .ok (.aload_n 0, 1) := by decide +kernel
theorem dX8_recountBoards_9 : decode cX8_recountBoards 9 = .ok (.getfield 76, 3) := by decide +kernel
theorem dX8_recountBoards_12 : decode cX8_recountBoards 12 = .ok (.aload_n 0, 1) := by decide +kernel
theorem dX8_recountBoards_13 : decode cX8_recountBoards 13 = .ok (.getfield 73, 3) := by decide +kernel
theorem dX8_recountBoards_16 : decode cX8_recountBoards 16 = .ok (.iconst 0, 1) := by decide +kernel
theorem dX8_recountBoards_17 : decode cX8_recountBoards 17 = .ok (.invokevirtual 325, 3) := by decide +kernel
theorem dX8_recountBoards_20 : decode cX8_recountBoards 20 = .ok (.aload_n 0, 1) := by decide +kernel
theorem dX8_recountBoards_21 : decode cX8_recountBoards 21 = .ok (.getfield 63, 3) := by decide +kernel
theorem dX8_recountBoards_24 : decode cX8_recountBoards 24 = .ok (.aload_n 0, 1) := by decide +kernel
theorem dX8_recountBoards_25 : decode cX8_recountBoards 25 = .ok (.getfield 31, 3) := by decide +kernel
theorem dX8_recountBoards_28 : decode cX8_recountBoards 28 = .ok (.aload_n 0, 1) := by decide +kernel
theorem dX8_recountBoards_29 : decode cX8_recountBoards 29 = .ok (.getfield 76, 3) := by decide +kernel
theorem dX8_recountBoards_32 : decode cX8_recountBoards 32 = .ok (.aload_n 0, 1) := by decide +kernel
theorem dX8_recountBoards_33 : decode cX8_recountBoards 33 = .ok (.getfield 73, 3) := by decide +kernel
theorem dX8_recountBoards_36 : decode cX8_recountBoards 36 = .ok (.iconst 1, 1) := by decide +kernel
theorem dX8_recountBoards_37 : decode cX8_recountBoards 37 = .ok (.invokevirtual 325, 3) := by decide +kernel
theorem dX8_recountBoards_40 : decode cX8_recountBoards 40 = .ok (.return_, 1) := by decide +kernel
theorem dX8_judgeByAll_0 : decode cX8_judgeByAll 0 = .ok (.aload_n 0, 1) := by decide +kernel
theorem dX8_judgeByAll_1 : decode cX8_judgeByAll 1 = .ok (.aload_n 1, 1) := by decide +kernel
theorem dX8_judgeByAll_2 : decode cX8_judgeByAll 2 = .ok (.invokevirtual 295, 3) := by decide +kernel
theorem dX8_judgeByAll_5 : decode cX8_judgeByAll 5 = .ok (.istore_n 2, 1) := by decide +kernel
theorem dX8_judgeByAll_6 : decode cX8_judgeByAll 6 = .ok (.iconst 0, 1) := by decide +kernel
theorem dX8_judgeByAll_7 : decode cX8_judgeByAll 7 = .ok (.istore_n 3, 1) := by decide +kernel
theorem dX8_judgeByAll_8 : decode cX8_judgeByAll 8 = .ok (.iload_n 3, 1) := by decide +kernel
theorem dX8_judgeByAll_9 : decode cX8_judgeByAll 9 = .ok (.iload_n 2, 1) := by decide +kernel
theorem dX8_judgeByAll_10 : decode cX8_judgeByAll 10 = .ok (.if_icmp .ge 15, 3) := by decide +kernel
theorem dX8_judgeByAll_13 : decode cX8_judgeByAll 13 = .ok (.aload_n 0, 1) := by decide +kernel
theorem dX8_judgeByAll_14 : decode cX8_judgeByAll 14 = .ok (.aload_n 1, 1) := by decide +kernel
theorem dX8_judgeByAll_15 : decode cX8_judgeByAll 15 = .ok (.iload_n 3, 1) := by decide +kernel
theorem dX8_judgeByAll_16 : decode cX8_judgeByAll 16 = .ok (.invokevirtual 329, 3) := by decide +kernel
theorem dX8_judgeByAll_19 : decode cX8_judgeByAll 19 = .ok (.iinc 3 1, 3) := by decide +kernel
theorem dX8_judgeByAll_22 : decode cX8_judgeByAll 22 = .ok (.goto (-14), 3) := by decide +kernel
theorem dX8_judgeByAll_25 : decode cX8_judgeByAll 25 = .ok (.aload_n 1, 1) := by decide +kernel
theorem dX8_judgeByAll_26 : decode cX8_judgeByAll 26 = .ok (.iload_n 2, 1) := by decide +kernel
theorem dX8_judgeByAll_27 : decode cX8_judgeByAll 27 = .ok (.invokevirtual 333, 3) := by decide +kernel
theorem dX8_judgeByAll_30 : decode cX8_judgeByAll 30 = .ok (.return_, 1) := by decide +kernel
theorem dX8_judge_0 : decode cX8_judge 0 = .ok (.aload_n 0, 1) := by decide +kernel
theorem dX8_judge_1 : decode cX8_judge 1 = .ok (.getfield 25, 3) := by decide +kernel
theorem dX8_judge_4 : decode cX8_judge 4 = .ok (.aload_n 1, 1) := by decide +kernel
theorem dX8_judge_5 : decode cX8_judge 5 = .ok (.getfield 166, 3) := by decide +kernel
theorem dX8_judge_8 : decode cX8_judge 8 = .ok (.aaload, 1) := by decide +kernel
theorem dX8_judge_9 : decode cX8_judge 9 = .ok (.astore_n 3, 1) := by decide +kernel
theorem dX8_judge_10 : decode cX8_judge 10 = .ok (.aload_n 0, 1) := by decide +kernel
theorem dX8_judge_11 : decode cX8_judge 11 = .ok (.getfield 38, 3) := by decide +kernel
theorem dX8_judge_14 : decode cX8_judge 14 = .ok (.aload_n 1, 1) := by decide +kernel
theorem dX8_judge_15 : decode cX8_judge 15 = .ok (.getfield 176, 3) := by decide +kernel
theorem dX8_judge_18 : decode cX8_judge 18 = .ok (.aload_n 3, 1) := by decide +kernel
theorem dX8_judge_19 : decode cX8_judge 19 = .ok (.getfield 139, 3) := by decide +kernel
theorem dX8_judge_22 : decode cX8_judge 22 = .ok (.iload_n 2, 1) := by decide +kernel
theorem dX8_judge_23 : decode cX8_judge 23 = .ok (.aaload, 1) := by decide +kernel
theorem dX8_judge_24 : decode cX8_judge 24 = .ok (.aload_n 3, 1) := by decide +kernel
theorem dX8_judge_25 : decode cX8_judge 25 = .ok (.getfield 127, 3) := by decide +kernel
theorem dX8_judge_28 : decode cX8_judge 28 = .ok (.invokevirtual 336, 3) := by decide +kernel
theorem dX8_judge_31 : decode cX8_judge 31 = .ok (.aload_n 0, 1) := by decide +kernel
theorem dX8_judge_32 : decode cX8_judge 32 = .ok (.getfield 45, 3) := by decide +kernel
theorem dX8_judge_35 : decode cX8_judge 35 = .ok (.aload_n 1, 1) := by decide +kernel
theorem dX8_judge_36 : decode cX8_judge 36 = .ok (.getfield 215, 3) := by decide +kernel
theorem dX8_judge_39 : decode cX8_judge 39 = .ok (.iload_n 2, 1) := by decide +kernel
theorem dX8_judge_40 : decode cX8_judge 40 = .ok (.iaload, 1) := by decide +kernel
theorem dX8_judge_41 : decode cX8_judge 41 = .ok (.invokevirtual 340, 3) := by decide +kernel
theorem dX8_judge_44 : decode cX8_judge 44 = .ok (.aload_n 1, 1) := by decide +kernel
theorem dX8_judge_45 : decode cX8_judge 45 = .ok (.getfield 215, 3) := by decide +kernel
theorem dX8_judge_48 : decode cX8_judge 48 = .ok (.iload_n 2, 1) := by decide +kernel
theorem dX8_judge_49 : decode cX8_judge 49 = .ok (.aload_n 0, 1) := by decide +kernel
theorem dX8_judge_50 : decode cX8_judge 50 = .ok (.getfield 45, 3) := by decide +kernel
theorem dX8_judge_53 : decode cX8_judge 53 = .ok (.aload_n 0, 1) := by decide +kernel
theorem dX8_judge_54 : decode cX8_judge 54 = .ok (.getfield 38, 3) := by decide +kernel
theorem dX8_judge_57 : decode cX8_judge 57 = .ok (.getfield 343, 3) := by decide +kernel
theorem dX8_judge_60 : decode cX8_judge 60 = .ok (.aload_n 0, 1) := by decide +kernel
theorem dX8_judge_61 : decode cX8_judge 61 = .ok (.getfield 38, 3) := by decide +kernel
theorem dX8_judge_64 : decode cX8_judge 64 = .ok (.getfield 346, 3) := by decide +kernel
theorem dX8_judge_67 : decode cX8_judge 67 = .ok (.invokevirtual 349, 3) := by decide +kernel
theorem dX8_judge_70 : decode cX8_judge 70 = .ok (.iastore, 1) := by decide +kernel
theorem dX8_judge_71 : decode cX8_judge 71 = .ok (.aload_n 1, 1) := by decide +kernel
theorem dX8_judge_72 : decode cX8_judge 72 = .ok (.getfield 204, 3) := by decide +kernel
theorem dX8_judge_75 : decode cX8_judge 75 = .ok (.iload_n 2, 1) := by decide +kernel
theorem dX8_judge_76 : decode cX8_judge 76 = .ok (.aload_n 0, 1) := by decide +kernel
theorem dX8_judge_77 : decode cX8_judge 77 = .ok (.getfield 38, 3) := by decide +kernel
theorem dX8_judge_80 : decode cX8_judge 80 = .ok (.getfield 353, 3) := by decide +kernel
theorem dX8_judge_83 : decode cX8_judge 83 = .ok (.castore, 1) := by decide +kernel
theorem dX8_judge_84 : decode cX8_judge 84 = .ok (.aload_n 1, 1) := by decide +kernel
theorem dX8_judge_85 : decode cX8_judge 85 = .ok (.getfield 208, 3) := by decide +kernel
theorem dX8_judge_88 : decode cX8_judge 88 = .ok (.iload_n 2, 1) := by decide +kernel
theorem dX8_judge_89 : decode cX8_judge 89 = .ok (.aload_n 0, 1) := by decide +kernel
theorem dX8_judge_90 : decode cX8_judge 90 = .ok (.getfield 38, 3) := by decide +kernel
theorem dX8_judge_93 : decode cX8_judge 93 = .ok (.getfield 356, 3) := by decide +kernel
theorem dX8_judge_96 : decode cX8_judge 96 = .ok (.iastore, 1) := by decide +kernel
theorem dX8_judge_97 : decode cX8_judge 97 = .ok (.return_, 1) := by decide +kernel
theorem dX8_judgeAnew_0 : decode cX8_judgeAnew 0 = .ok (.iconst 0, 1) := by decide +kernel
theorem dX8_judgeAnew_1 : decode cX8_judgeAnew 1 = .ok (.istore_n 3, 1) := by decide +kernel
theorem dX8_judgeAnew_2 : decode cX8_judgeAnew 2 = .ok (.iconst 0, 1) := by decide +kernel
theorem dX8_judgeAnew_3 : decode cX8_judgeAnew 3 = .ok (.istore 4, 2) := by decide +kernel
theorem dX8_judgeAnew_5 : decode cX8_judgeAnew 5 = .ok (.iload 4, 2) := by decide +kernel
theorem dX8_judgeAnew_7 : decode cX8_judgeAnew 7 = .ok (.aload_n 0, 1) := by decide +kernel
theorem dX8_judgeAnew_8 : decode cX8_judgeAnew 8 = .ok (.getfield 76, 3) := by decide +kernel
theorem dX8_judgeAnew_11 : decode cX8_judgeAnew 11 = .ok (.if_icmp .ge 84, 3) := by decide +kernel
theorem dX8_judgeAnew_14 : decode cX8_judgeAnew 14 = .ok (.aload_n 0, 1) := by decide +kernel
theorem dX8_judgeAnew_15 : decode cX8_judgeAnew 15 = .ok (.getfield 31, 3) := by decide +kernel
theorem dX8_judgeAnew_18 : decode cX8_judgeAnew 18 = .ok (.iload 4, 2) := by decide +kernel
theorem dX8_judgeAnew_20 : decode cX8_judgeAnew 20 = .ok (.aaload, 1) := by decide +kernel
theorem dX8_judgeAnew_21 : decode cX8_judgeAnew 21 = .ok (.getfield 166, 3) := by decide +kernel
theorem dX8_judgeAnew_24 : decode cX8_judgeAnew 24 = .ok (.iload_n 1, 1) := by decide +kernel
theorem dX8_judgeAnew_25 : decode cX8_judgeAnew 25 = .ok (.if_icmp .ne 64, 3) := by decide +kernel
theorem dX8_judgeAnew_28 : decode cX8_judgeAnew 28 = .ok (.aload_n 0, 1) := by decide +kernel
theorem dX8_judgeAnew_29 : decode cX8_judgeAnew 29 = .ok (.getfield 31, 3) := by decide +kernel
theorem dX8_judgeAnew_32 : decode cX8_judgeAnew 32 = .ok (.iload 4, 2) := by decide +kernel
theorem dX8_judgeAnew_34 : decode cX8_judgeAnew 34 = .ok (.aaload, 1) := by decide +kernel
theorem dX8_judgeAnew_35 : decode cX8_judgeAnew 35 = .ok (.getfield 193, 3) := by decide +kernel
theorem dX8_judgeAnew_38 : decode cX8_judgeAnew 38 = .ok (.istore 5, 2) := by decide +kernel
theorem dX8_judgeAnew_40 : decode cX8_judgeAnew 40 = .ok (.aload_n 0, 1) := by decide +kernel
theorem dX8_judgeAnew_41 : decode cX8_judgeAnew 41 = .ok (.aload_n 0, 1) := by decide +kernel
theorem dX8_judgeAnew_42 : decode cX8_judgeAnew 42 = .ok (.getfield 31, 3) := by decide +kernel
theorem dX8_judgeAnew_45 : decode cX8_judgeAnew 45 = .ok (.iload 4, 2) := by decide +kernel
theorem dX8_judgeAnew_47 : decode cX8_judgeAnew 47 = .ok (.aaload, 1) := by decide +kernel
theorem dX8_judgeAnew_48 : decode cX8_judgeAnew 48 = .ok (.iload_n 2, 1) := by decide +kernel
theorem dX8_judgeAnew_49 : decode cX8_judgeAnew 49 = .ok (.invokevirtual 329, 3) := by decide +kernel
theorem dX8_judgeAnew_52 : decode cX8_judgeAnew 52 = .ok (.aload_n 0, 1) := by decide +kernel
theorem dX8_judgeAnew_53 : decode cX8_judgeAnew 53 = .ok (.getfield 31, 3) := by decide +kernel
theorem dX8_judgeAnew_56 : decode cX8_judgeAnew 56 = .ok (.iload 4, 2) := by decide +kernel
theorem dX8_judgeAnew_58 : decode cX8_judgeAnew 58 = .ok (.aaload, 1) := by decide +kernel
theorem dX8_judgeAnew_59 : decode cX8_judgeAnew 59 = .ok (.aload_n 0, 1) := by decide +kernel
theorem dX8_judgeAnew_60 : decode cX8_judgeAnew 60 = .ok (.getfield 25, 3) := by decide +kernel
theorem dX8_judgeAnew_63 : decode cX8_judgeAnew 63 = .ok (.iload_n 1, 1) := by decide +kernel
theorem dX8_judgeAnew_64 : decode cX8_judgeAnew 64 = .ok (.aaload, 1) := by decide +kernel
theorem dX8_judgeAnew_65 : decode cX8_judgeAnew 65 = .ok (.getfield 136, 3) := by decide +kernel
theorem dX8_judgeAnew_68 : decode cX8_judgeAnew 68 = .ok (.invokevirtual 333, 3) := by decide +kernel
theorem dX8_judgeAnew_71 : decode cX8_judgeAnew 71 = .ok (.aload_n 0, 1) := by decide +kernel
theorem dX8_judgeAnew_72 : decode cX8_judgeAnew 72 = .ok (.getfield 31, 3) := by decide +kernel
theorem dX8_judgeAnew_75 : decode cX8_judgeAnew 75 = .ok (.iload 4, 2) := by decide +kernel
theorem dX8_judgeAnew_77 : decode cX8_judgeAnew 77 = .ok (.aaload, 1) := by decide +kernel
theorem dX8_judgeAnew_78 : decode cX8_judgeAnew 78 = .ok (.getfield 193, 3) := by decide +kernel
theorem dX8_judgeAnew_81 : decode cX8_judgeAnew 81 = .ok (.iload 5, 2) := by decide +kernel
theorem dX8_judgeAnew_83 : decode cX8_judgeAnew 83 = .ok (.if_icmp .eq 6, 3) := by decide +kernel
theorem dX8_judgeAnew_86 : decode cX8_judgeAnew 86 = .ok (.iinc 3 1, 3) := by decide +kernel
theorem dX8_judgeAnew_89 : decode cX8_judgeAnew 89 = .ok (.iinc 4 1, 3) := by decide +kernel
theorem dX8_judgeAnew_92 : decode cX8_judgeAnew 92 = .ok (.goto (-87), 3) := by decide +kernel
theorem dX8_judgeAnew_95 : decode cX8_judgeAnew 95 = .ok (.aload_n 0, 1) := by decide +kernel
theorem dX8_judgeAnew_96 : decode cX8_judgeAnew 96 = .ok (.invokevirtual 154, 3) := by decide +kernel
theorem dX8_judgeAnew_99 : decode cX8_judgeAnew 99 = .ok (.aload_n 0, 1) := by decide +kernel
theorem dX8_judgeAnew_100 : decode cX8_judgeAnew 100 = .ok (.getfield 52, 3) := by decide +kernel
theorem dX8_judgeAnew_103 : decode cX8_judgeAnew 103 = .ok (.aload_n 0, 1) := by decide +kernel
theorem dX8_judgeAnew_104 : decode cX8_judgeAnew 104 = .ok (.getfield 59, 3) := by decide +kernel
theorem dX8_judgeAnew_107 : decode cX8_judgeAnew 107 = .ok (.iload_n 1, 1) := by decide +kernel
theorem dX8_judgeAnew_108 : decode cX8_judgeAnew 108 = .ok (.aload_n 0, 1) := by decide +kernel
theorem dX8_judgeAnew_109 : decode cX8_judgeAnew 109 = .ok (.getfield 25, 3) := by decide +kernel
theorem dX8_judgeAnew_112 : decode cX8_judgeAnew 112 = .ok (.iload_n 1, 1) := by decide +kernel
theorem dX8_judgeAnew_113 : decode cX8_judgeAnew 113 = .ok (.aaload, 1) := by decide +kernel
theorem dX8_judgeAnew_114 : decode cX8_judgeAnew 114 = .ok (.getfield 124, 3) := by decide +kernel
theorem dX8_judgeAnew_117 : decode cX8_judgeAnew 117 = .ok (.invokevirtual 186, 3) := by decide +kernel
theorem dX8_judgeAnew_120 : decode cX8_judgeAnew 120 = .ok (.iload_n 3, 1) := by decide +kernel
theorem dX8_judgeAnew_121 : decode cX8_judgeAnew 121 = .ok (.ireturn, 1) := by decide +kernel
theorem dX8_countPending_0 : decode cX8_countPending 0 = .ok (.iconst 0, 1) := by decide +kernel
theorem dX8_countPending_1 : decode cX8_countPending 1 = .ok (.istore_n 3, 1) := by decide +kernel
theorem dX8_countPending_2 : decode cX8_countPending 2 = .ok (.iconst 0, 1) := by decide +kernel
theorem dX8_countPending_3 : decode cX8_countPending 3 = .ok (.istore 4, 2) := by decide +kernel
theorem dX8_countPending_5 : decode cX8_countPending 5 = .ok (.iload 4, 2) := by decide +kernel
theorem dX8_countPending_7 : decode cX8_countPending 7 = .ok (.aload_n 0, 1) := by decide +kernel
theorem dX8_countPending_8 : decode cX8_countPending 8 = .ok (.getfield 76, 3) := by decide +kernel
theorem dX8_countPending_11 : decode cX8_countPending 11 = .ok (.if_icmp .ge 53, 3) := by decide +kernel
theorem dX8_countPending_14 : decode cX8_countPending 14 = .ok (.aload_n 0, 1) := by decide +kernel
theorem dX8_countPending_15 : decode cX8_countPending 15 = .ok (.getfield 31, 3) := by decide +kernel
theorem dX8_countPending_18 : decode cX8_countPending 18 = .ok (.iload 4, 2) := by decide +kernel
theorem dX8_countPending_20 : decode cX8_countPending 20 = .ok (.aaload, 1) := by decide +kernel
theorem dX8_countPending_21 : decode cX8_countPending 21 = .ok (.getfield 172, 3) := by decide +kernel
theorem dX8_countPending_24 : decode cX8_countPending 24 = .ok (.ifCond .eq 34, 3) := by decide +kernel
theorem dX8_countPending_27 : decode cX8_countPending 27 = .ok (.aload_n 0, 1) := by decide +kernel
theorem dX8_countPending_28 : decode cX8_countPending 28 = .ok (.getfield 31, 3) := by decide +kernel
theorem dX8_countPending_31 : decode cX8_countPending 31 = .ok (.iload 4, 2) := by decide +kernel
theorem dX8_countPending_33 : decode cX8_countPending 33 = .ok (.aaload, 1) := by decide +kernel
theorem dX8_countPending_34 : decode cX8_countPending 34 = .ok (.getfield 163, 3) := by decide +kernel
theorem dX8_countPending_37 : decode cX8_countPending 37 = .ok (.iload_n 1, 1) := by decide +kernel
theorem dX8_countPending_38 : decode cX8_countPending 38 = .ok (.if_icmp .ne 20, 3) := by decide +kernel
theorem dX8_countPending_41 : decode cX8_countPending 41 = .ok (.aload_n 0, 1) := by decide +kernel
theorem dX8_countPending_42 : decode cX8_countPending 42 = .ok (.getfield 31, 3) := by decide +kernel
theorem dX8_countPending_45 : decode cX8_countPending 45 = .ok (.iload 4, 2) := by decide +kernel
theorem dX8_countPending_47 : decode cX8_countPending 47 = .ok (.aaload, 1) := by decide +kernel
theorem dX8_countPending_48 : decode cX8_countPending 48 = .ok (.getfield 166, 3) := by decide +kernel
theorem dX8_countPending_51 : decode cX8_countPending 51 = .ok (.iload_n 2, 1) := by decide +kernel
theorem dX8_countPending_52 : decode cX8_countPending 52 = .ok (.if_icmp .ne 6, 3) := by decide +kernel
theorem dX8_countPending_55 : decode cX8_countPending 55 = .ok (.iinc 3 1, 3) := by decide +kernel
theorem dX8_countPending_58 : decode cX8_countPending 58 = .ok (.iinc 4 1, 3) := by decide +kernel
theorem dX8_countPending_61 : decode cX8_countPending 61 = .ok (.goto (-56), 3) := by decide +kernel
theorem dX8_countPending_64 : decode cX8_countPending 64 = .ok (.iload_n 3, 1) := by decide +kernel
theorem dX8_countPending_65 : decode cX8_countPending 65 = .ok (.ireturn, 1) := by decide +kernel
theorem dX8_lowestPendingProblem_0 : decode cX8_lowestPendingProblem 0 = .ok (.iconst 0, 1) := by decide +kernel
theorem dX8_lowestPendingProblem_1 : decode cX8_lowestPendingProblem 1 = .ok (.istore_n 2, 1) := by decide +kernel
theorem dX8_lowestPendingProblem_2 : decode cX8_lowestPendingProblem 2 = .ok (.iload_n 2, 1) := by decide +kernel
theorem dX8_lowestPendingProblem_3 : decode cX8_lowestPendingProblem 3 = .ok (.aload_n 0, 1) := by decide +kernel
theorem dX8_lowestPendingProblem_4 : decode cX8_lowestPendingProblem 4 = .ok (.getfield 69, 3) := by decide +kernel
theorem dX8_lowestPendingProblem_7 : decode cX8_lowestPendingProblem 7 = .ok (.if_icmp .ge 20, 3) := by decide +kernel
theorem dX8_lowestPendingProblem_10 : decode cX8_lowestPendingProblem 10 = .ok (.aload_n 0, 1) := by decide +kernel
theorem dX8_lowestPendingProblem_11 : decode cX8_lowestPendingProblem 11 = .ok (.iload_n 1, 1) := by decide +kernel
theorem dX8_lowestPendingProblem_12 : decode cX8_lowestPendingProblem 12 = .ok (.iload_n 2, 1) := by decide +kernel
theorem dX8_lowestPendingProblem_13 : decode cX8_lowestPendingProblem 13 = .ok (.invokevirtual 263, 3) := by decide +kernel
theorem dX8_lowestPendingProblem_16 : decode cX8_lowestPendingProblem 16 = .ok (.ifCond .le 5, 3) := by decide +kernel
theorem dX8_lowestPendingProblem_19 : decode cX8_lowestPendingProblem 19 = .ok (.iload_n 2, 1) := by decide +kernel
theorem dX8_lowestPendingProblem_20 : decode cX8_lowestPendingProblem 20 = .ok (.ireturn, 1) := by decide +kernel
theorem dX8_lowestPendingProblem_21 : decode cX8_lowestPendingProblem 21 = .ok (.iinc 2 1, 3) := by decide +kernel
theorem dX8_lowestPendingProblem_24 : decode cX8_lowestPendingProblem 24 = .ok (.goto (-22), 3) := by decide +kernel
theorem dX8_lowestPendingProblem_27 : decode cX8_lowestPendingProblem 27 = .ok (.iconst (-1), 1) := by decide +kernel
theorem dX8_lowestPendingProblem_28 : decode cX8_lowestPendingProblem 28 = .ok (.ireturn, 1) := by decide +kernel
theorem dX8_lowestPendingTeam_0 : decode cX8_lowestPendingTeam 0 = .ok (.aload_n 0, 1) := by decide +kernel
theorem dX8_lowestPendingTeam_1 : decode cX8_lowestPendingTeam 1 = .ok (.getfield 73, 3) := by decide +kernel
theorem dX8_lowestPendingTeam_4 : decode cX8_lowestPendingTeam 4 = .ok (.iconst 1, 1) := by decide +kernel
theorem dX8_lowestPendingTeam_5 : decode cX8_lowestPendingTeam 5 = .ok (.isub, 1) := by decide +kernel
theorem dX8_lowestPendingTeam_6 : decode cX8_lowestPendingTeam 6 = .ok (.istore_n 1, 1) := by decide +kernel
theorem dX8_lowestPendingTeam_7 : decode cX8_lowestPendingTeam 7 = .ok (.iload_n 1, 1) := by decide +kernel
theorem dX8_lowestPendingTeam_8 : decode cX8_lowestPendingTeam 8 = .ok (.ifCond .lt 30, 3) := by decide +kernel
theorem dX8_lowestPendingTeam_11 : decode cX8_lowestPendingTeam 11 = .ok (.aload_n 0, 1) := by decide +kernel
theorem dX8_lowestPendingTeam_12 : decode cX8_lowestPendingTeam 12 = .ok (.getfield 63, 3) := by decide +kernel
theorem dX8_lowestPendingTeam_15 : decode cX8_lowestPendingTeam 15 = .ok (.getfield 289, 3) := by decide +kernel
theorem dX8_lowestPendingTeam_18 : decode cX8_lowestPendingTeam 18 = .ok (.iload_n 1, 1) := by decide +kernel
theorem dX8_lowestPendingTeam_19 : decode cX8_lowestPendingTeam 19 = .ok (.iaload, 1) := by decide +kernel
theorem dX8_lowestPendingTeam_20 : decode cX8_lowestPendingTeam 20 = .ok (.istore_n 2, 1) := by decide +kernel
theorem dX8_lowestPendingTeam_21 : decode cX8_lowestPendingTeam 21 = .ok (.aload_n 0, 1) := by decide +kernel
theorem dX8_lowestPendingTeam_22 : decode cX8_lowestPendingTeam 22 = .ok (.iload_n 2, 1) := by decide +kernel
theorem dX8_lowestPendingTeam_23 : decode cX8_lowestPendingTeam 23 = .ok (.invokevirtual 269, 3) := by decide +kernel
theorem dX8_lowestPendingTeam_26 : decode cX8_lowestPendingTeam 26 = .ok (.iconst (-1), 1) := by decide +kernel
theorem dX8_lowestPendingTeam_27 : decode cX8_lowestPendingTeam 27 = .ok (.if_icmp .eq 5, 3) := by decide +kernel
theorem dX8_lowestPendingTeam_30 : decode cX8_lowestPendingTeam 30 = .ok (.iload_n 2, 1) := by decide +kernel
theorem dX8_lowestPendingTeam_31 : decode cX8_lowestPendingTeam 31 = .ok (.ireturn, 1) := by decide +kernel
theorem dX8_lowestPendingTeam_32 : decode cX8_lowestPendingTeam 32 = .ok (.iinc 1 (-1), 3) := by decide +kernel
theorem dX8_lowestPendingTeam_35 : decode cX8_lowestPendingTeam 35 = .ok (.goto (-28), 3) := by decide +kernel
theorem dX8_lowestPendingTeam_38 : decode cX8_lowestPendingTeam 38 = .ok (.iconst (-1), 1) := by decide +kernel
theorem dX8_lowestPendingTeam_39 : decode cX8_lowestPendingTeam 39 = .ok (.ireturn, 1) := by decide +kernel
theorem dX8_openRuns_0 : decode cX8_openRuns 0 = .ok (.iconst 0, 1) := by decide +kernel
theorem dX8_openRuns_1 : decode cX8_openRuns 1 = .ok (.istore_n 3, 1) := by decide +kernel
theorem dX8_openRuns_2 : decode cX8_openRuns 2 = .ok (.iload_n 3, 1) := by decide +kernel
theorem dX8_openRuns_3 : decode cX8_openRuns 3 = .ok (.aload_n 0, 1) := by decide +kernel
theorem dX8_openRuns_4 : decode cX8_openRuns 4 = .ok (.getfield 76, 3) := by decide +kernel
theorem dX8_openRuns_7 : decode cX8_openRuns 7 = .ok (.if_icmp .ge 45, 3) := by decide +kernel
theorem dX8_openRuns_10 : decode cX8_openRuns 10 = .ok (.aload_n 0, 1) := by decide +kernel
theorem dX8_openRuns_11 : decode cX8_openRuns 11 = .ok (.getfield 31, 3) := by decide +kernel
theorem dX8_openRuns_14 : decode cX8_openRuns 14 = .ok (.iload_n 3, 1) := by decide +kernel
theorem dX8_openRuns_15 : decode cX8_openRuns 15 = .ok (.aaload, 1) := by decide +kernel
theorem dX8_openRuns_16 : decode cX8_openRuns 16 = .ok (.getfield 163, 3) := by decide +kernel
theorem dX8_openRuns_19 : decode cX8_openRuns 19 = .ok (.iload_n 1, 1) := by decide +kernel
theorem dX8_openRuns_20 : decode cX8_openRuns 20 = .ok (.if_icmp .ne 26, 3) := by decide +kernel
theorem dX8_openRuns_23 : decode cX8_openRuns 23 = .ok (.aload_n 0, 1) := by decide +kernel
theorem dX8_openRuns_24 : decode cX8_openRuns 24 = .ok (.getfield 31, 3) := by decide +kernel
theorem dX8_openRuns_27 : decode cX8_openRuns 27 = .ok (.iload_n 3, 1) := by decide +kernel
theorem dX8_openRuns_28 : decode cX8_openRuns 28 = .ok (.aaload, 1) := by decide +kernel
theorem dX8_openRuns_29 : decode cX8_openRuns 29 = .ok (.getfield 166, 3) := by decide +kernel
theorem dX8_openRuns_32 : decode cX8_openRuns 32 = .ok (.iload_n 2, 1) := by decide +kernel
theorem dX8_openRuns_33 : decode cX8_openRuns 33 = .ok (.if_icmp .ne 13, 3) := by decide +kernel
theorem dX8_openRuns_36 : decode cX8_openRuns 36 = .ok (.aload_n 0, 1) := by decide +kernel
theorem dX8_openRuns_37 : decode cX8_openRuns 37 = .ok (.getfield 31, 3) := by decide +kernel
theorem dX8_openRuns_40 : decode cX8_openRuns 40 = .ok (.iload_n 3, 1) := by decide +kernel
theorem dX8_openRuns_41 : decode cX8_openRuns 41 = .ok (.aaload, 1) := by decide +kernel
theorem dX8_openRuns_42 : decode cX8_openRuns 42 = .ok (.iconst 0, 1) := by decide +kernel
theorem dX8_openRuns_43 : decode cX8_openRuns 43 = .ok (.putfield 172, 3) := by decide +kernel
theorem dX8_openRuns_46 : decode cX8_openRuns 46 = .ok (.iinc 3 1, 3) := by decide +kernel
theorem dX8_openRuns_49 : decode cX8_openRuns 49 = .ok (.goto (-47), 3) := by decide +kernel
theorem dX8_openRuns_52 : decode cX8_openRuns 52 = .ok (.return_, 1) := by decide +kernel
theorem dX8_isRankedAnew_0 : decode cX8_isRankedAnew 0 = .ok (.aload_n 0, 1) := by decide +kernel
theorem dX8_isRankedAnew_1 : decode cX8_isRankedAnew 1 = .ok (.getfield 66, 3) := by decide +kernel
theorem dX8_isRankedAnew_4 : decode cX8_isRankedAnew 4 = .ok (.aload_n 0, 1) := by decide +kernel
theorem dX8_isRankedAnew_5 : decode cX8_isRankedAnew 5 = .ok (.getfield 31, 3) := by decide +kernel
theorem dX8_isRankedAnew_8 : decode cX8_isRankedAnew 8 = .ok (.aload_n 0, 1) := by decide +kernel
theorem dX8_isRankedAnew_9 : decode cX8_isRankedAnew 9 = .ok (.getfield 76, 3) := by decide +kernel
theorem dX8_isRankedAnew_12 : decode cX8_isRankedAnew 12 = .ok (.aload_n 0, 1) := by decide +kernel
theorem dX8_isRankedAnew_13 : decode cX8_isRankedAnew 13 = .ok (.getfield 73, 3) := by decide +kernel
theorem dX8_isRankedAnew_16 : decode cX8_isRankedAnew 16 = .ok (.iload_n 1, 1) := by decide +kernel
theorem dX8_isRankedAnew_17 : decode cX8_isRankedAnew 17 = .ok (.invokevirtual 325, 3) := by decide +kernel
theorem dX8_isRankedAnew_20 : decode cX8_isRankedAnew 20 = .ok (.aload_n 0, 1) := by decide +kernel
theorem dX8_isRankedAnew_21 : decode cX8_isRankedAnew 21 = .ok (.getfield 66, 3) := by decide +kernel
theorem dX8_isRankedAnew_24 : decode cX8_isRankedAnew 24 = .ok (.aload_n 0, 1) := by decide +kernel
theorem dX8_isRankedAnew_25 : decode cX8_isRankedAnew 25 = .ok (.iload_n 1, 1) := by decide +kernel
theorem dX8_isRankedAnew_26 : decode cX8_isRankedAnew 26 = .ok (.invokevirtual 276, 3) := by decide +kernel
theorem dX8_isRankedAnew_29 : decode cX8_isRankedAnew 29 = .ok (.invokevirtual 359, 3) := by decide +kernel
theorem dX8_isRankedAnew_32 : decode cX8_isRankedAnew 32 = .ok (.ireturn, 1) := by decide +kernel
theorem dX8_areBalloonsEarned_0 : decode cX8_areBalloonsEarned 0 = .ok (.aload_n 0, 1) := by decide +kernel
theorem dX8_areBalloonsEarned_1 : decode cX8_areBalloonsEarned 1 = .ok (.getfield 66, 3) := by decide +kernel
theorem dX8_areBalloonsEarned_4 : decode cX8_areBalloonsEarned 4 = .ok (.aload_n 0, 1) := by decide +kernel
theorem dX8_areBalloonsEarned_5 : decode cX8_areBalloonsEarned 5 = .ok (.getfield 31, 3) := by decide +kernel
theorem dX8_areBalloonsEarned_8 : decode cX8_areBalloonsEarned 8 = .ok (.aload_n 0, 1) := by decide +kernel
theorem dX8_areBalloonsEarned_9 : decode cX8_areBalloonsEarned 9 = .ok (.getfield 76, 3) := by decide +kernel
theorem dX8_areBalloonsEarned_12 : decode cX8_areBalloonsEarned 12 = .ok (.aload_n 0, 1) := by decide +kernel
theorem dX8_areBalloonsEarned_13 : decode cX8_areBalloonsEarned 13 = .ok (.getfield 73, 3) := by decide +kernel
theorem dX8_areBalloonsEarned_16 : decode cX8_areBalloonsEarned 16 = .ok (.iconst 0, 1) := by decide +kernel
theorem dX8_areBalloonsEarned_17 : decode cX8_areBalloonsEarned 17 = .ok (.invokevirtual 325, 3) := by decide +kernel
theorem dX8_areBalloonsEarned_20 : decode cX8_areBalloonsEarned 20 = .ok (.iconst 0, 1) := by decide +kernel
theorem dX8_areBalloonsEarned_21 : decode cX8_areBalloonsEarned 21 = .ok (.istore_n 1, 1) := by decide +kernel
theorem dX8_areBalloonsEarned_22 : decode cX8_areBalloonsEarned 22 = .ok (.iload_n 1, 1) := by decide +kernel
theorem dX8_areBalloonsEarned_23 : decode cX8_areBalloonsEarned 23 = .ok (.aload_n 0, 1) := by decide +kernel
theorem dX8_areBalloonsEarned_24 : decode cX8_areBalloonsEarned 24 = .ok (.getfield 73, 3) := by decide +kernel
theorem dX8_areBalloonsEarned_27 : decode cX8_areBalloonsEarned 27 = .ok (.if_icmp .ge 67, 3) := by decide +kernel
theorem dX8_areBalloonsEarned_30 : decode cX8_areBalloonsEarned 30 = .ok (.iconst 0, 1) := by decide +kernel
theorem dX8_areBalloonsEarned_31 : decode cX8_areBalloonsEarned 31 = .ok (.istore_n 2, 1) := by decide +kernel
theorem dX8_areBalloonsEarned_32 : decode cX8_areBalloonsEarned 32 = .ok (.iload_n 2, 1) := by decide +kernel
theorem dX8_areBalloonsEarned_33 : decode cX8_areBalloonsEarned 33 = .ok (.aload_n 0, 1) := by decide +kernel
theorem dX8_areBalloonsEarned_34 : decode cX8_areBalloonsEarned 34 = .ok (.getfield 69, 3) := by decide +kernel
theorem dX8_areBalloonsEarned_37 : decode cX8_areBalloonsEarned 37 = .ok (.if_icmp .ge 51, 3) := by decide +kernel
theorem dX8_areBalloonsEarned_40 : decode cX8_areBalloonsEarned 40 = .ok (.iload_n 1, 1) := by decide +kernel
theorem dX8_areBalloonsEarned_41 : decode cX8_areBalloonsEarned 41 = .ok (.iload_n 2, 1) := by decide +kernel
theorem dX8_areBalloonsEarned_42 : decode cX8_areBalloonsEarned 42 = .ok (.invokestatic 243, 3) := by decide +kernel
theorem dX8_areBalloonsEarned_45 : decode cX8_areBalloonsEarned 45 = .ok (.istore_n 3, 1) := by decide +kernel
theorem dX8_areBalloonsEarned_46 : decode cX8_areBalloonsEarned 46 = .ok (.aload_n 0, 1) := by decide +kernel
theorem dX8_areBalloonsEarned_47 : decode cX8_areBalloonsEarned 47 = .ok (.getfield 52, 3) := by decide +kernel
theorem dX8_areBalloonsEarned_50 : decode cX8_areBalloonsEarned 50 = .ok (.getfield 240, 3) := by decide +kernel
theorem dX8_areBalloonsEarned_53 : decode cX8_areBalloonsEarned 53 = .ok (.iload_n 3, 1) := by decide +kernel
theorem dX8_areBalloonsEarned_54 : decode cX8_areBalloonsEarned 54 = .ok (.caload, 1) := by decide +kernel
theorem dX8_areBalloonsEarned_55 : decode cX8_areBalloonsEarned 55 = .ok (.bipush 45, 2) := by decide +kernel
theorem dX8_areBalloonsEarned_57 : decode cX8_areBalloonsEarned 57 = .ok (.if_icmp .eq 7, 3) := by decide +kernel
theorem dX8_areBalloonsEarned_60 : decode cX8_areBalloonsEarned 60 = .ok (.iconst 1, 1) := by decide +kernel
theorem dX8_areBalloonsEarned_61 : decode cX8_areBalloonsEarned 61 = .ok (.goto 4, 3) := by decide +kernel
theorem dX8_areBalloonsEarned_64 : decode cX8_areBalloonsEarned 64 = .ok (.iconst 0, 1) := by decide +kernel
theorem dX8_areBalloonsEarned_65 : decode cX8_areBalloonsEarned 65 = .ok (.istore 4, 2) := by decide +kernel
theorem dX8_areBalloonsEarned_67 : decode cX8_areBalloonsEarned 67 = .ok (.iload 4, 2) := by decide +kernel
theorem dX8_areBalloonsEarned_69 : decode cX8_areBalloonsEarned 69 = .ok (.aload_n 0, 1) := by decide +kernel
theorem dX8_areBalloonsEarned_70 : decode cX8_areBalloonsEarned 70 = .ok (.getfield 66, 3) := by decide +kernel
theorem dX8_areBalloonsEarned_73 : decode cX8_areBalloonsEarned 73 = .ok (.iload_n 3, 1) := by decide +kernel
theorem dX8_areBalloonsEarned_74 : decode cX8_areBalloonsEarned 74 = .ok (.invokevirtual 363, 3) := by decide +kernel
theorem dX8_areBalloonsEarned_77 : decode cX8_areBalloonsEarned 77 = .ok (.if_icmp .eq 5, 3) := by decide +kernel
theorem dX8_areBalloonsEarned_80 : decode cX8_areBalloonsEarned 80 = .ok (.iconst 0, 1) := by decide +kernel
theorem dX8_areBalloonsEarned_81 : decode cX8_areBalloonsEarned 81 = .ok (.ireturn, 1) := by decide +kernel
theorem dX8_areBalloonsEarned_82 : decode cX8_areBalloonsEarned 82 = .ok (.iinc 2 1, 3) := by decide +kernel
theorem dX8_areBalloonsEarned_85 : decode cX8_areBalloonsEarned 85 = .ok (.goto (-53), 3) := by decide +kernel
theorem dX8_areBalloonsEarned_88 : decode cX8_areBalloonsEarned 88 = .ok (.iinc 1 1, 3) := by decide +kernel
theorem dX8_areBalloonsEarned_91 : decode cX8_areBalloonsEarned 91 = .ok (.goto (-69), 3) := by decide +kernel
theorem dX8_areBalloonsEarned_94 : decode cX8_areBalloonsEarned 94 = .ok (.iconst 1, 1) := by decide +kernel
theorem dX8_areBalloonsEarned_95 : decode cX8_areBalloonsEarned 95 = .ok (.ireturn, 1) := by decide +kernel
theorem dX8_areOutputsAnew_0 : decode cX8_areOutputsAnew 0 = .ok (.iconst 0, 1) := by decide +kernel
theorem dX8_areOutputsAnew_1 : decode cX8_areOutputsAnew 1 = .ok (.istore_n 1, 1) := by decide +kernel
theorem dX8_areOutputsAnew_2 : decode cX8_areOutputsAnew 2 = .ok (.iload_n 1, 1) := by decide +kernel
theorem dX8_areOutputsAnew_3 : decode cX8_areOutputsAnew 3 = .ok (.aload_n 0, 1) := by decide +kernel
theorem dX8_areOutputsAnew_4 : decode cX8_areOutputsAnew 4 = .ok (.getfield 76, 3) := by decide +kernel
theorem dX8_areOutputsAnew_7 : decode cX8_areOutputsAnew 7 = .ok (.if_icmp .ge 103, 3) := by decide +kernel
theorem dX8_areOutputsAnew_10 : decode cX8_areOutputsAnew 10 = .ok (.aload_n 0, 1) := by decide +kernel
theorem dX8_areOutputsAnew_11 : decode cX8_areOutputsAnew 11 = .ok (.getfield 25, 3) := by decide +kernel
theorem dX8_areOutputsAnew_14 : decode cX8_areOutputsAnew 14 = .ok (.aload_n 0, 1) := by decide +kernel
theorem dX8_areOutputsAnew_15 : decode cX8_areOutputsAnew 15 = .ok (.getfield 31, 3) := by decide +kernel
theorem dX8_areOutputsAnew_18 : decode cX8_areOutputsAnew 18 = .ok (.iload_n 1, 1) := by decide +kernel
theorem dX8_areOutputsAnew_19 : decode cX8_areOutputsAnew 19 = .ok (.aaload, 1) := by decide +kernel
theorem dX8_areOutputsAnew_20 : decode cX8_areOutputsAnew 20 = .ok (.getfield 166, 3) := by decide +kernel
theorem dX8_areOutputsAnew_23 : decode cX8_areOutputsAnew 23 = .ok (.aaload, 1) := by decide +kernel
theorem dX8_areOutputsAnew_24 : decode cX8_areOutputsAnew 24 = .ok (.astore_n 2, 1) := by decide +kernel
theorem dX8_areOutputsAnew_25 : decode cX8_areOutputsAnew 25 = .ok (.iconst 0, 1) := by decide +kernel
theorem dX8_areOutputsAnew_26 : decode cX8_areOutputsAnew 26 = .ok (.istore_n 3, 1) := by decide +kernel
theorem dX8_areOutputsAnew_27 : decode cX8_areOutputsAnew 27 = .ok (.iload_n 3, 1) := by decide +kernel
theorem dX8_areOutputsAnew_28 : decode cX8_areOutputsAnew 28 = .ok (.aload_n 2, 1) := by decide +kernel
theorem dX8_areOutputsAnew_29 : decode cX8_areOutputsAnew 29 = .ok (.getfield 136, 3) := by decide +kernel
theorem dX8_areOutputsAnew_32 : decode cX8_areOutputsAnew 32 = .ok (.if_icmp .ge 72, 3) := by decide +kernel
theorem dX8_areOutputsAnew_35 : decode cX8_areOutputsAnew 35 = .ok (.aload_n 0, 1) := by decide +kernel
theorem dX8_areOutputsAnew_36 : decode cX8_areOutputsAnew 36 = .ok (.getfield 38, 3) := by decide +kernel
theorem dX8_areOutputsAnew_39 : decode cX8_areOutputsAnew 39 = .ok (.aload_n 0, 1) := by decide +kernel
theorem dX8_areOutputsAnew_40 : decode cX8_areOutputsAnew 40 = .ok (.getfield 31, 3) := by decide +kernel
theorem dX8_areOutputsAnew_43 : decode cX8_areOutputsAnew 43 = .ok (.iload_n 1, 1) := by decide +kernel
theorem dX8_areOutputsAnew_44 : decode cX8_areOutputsAnew 44 = .ok (.aaload, 1) := by decide +kernel
theorem dX8_areOutputsAnew_45 : decode cX8_areOutputsAnew 45 = .ok (.getfield 176, 3) := by decide +kernel
theorem dX8_areOutputsAnew_48 : decode cX8_areOutputsAnew 48 = .ok (.aload_n 2, 1) := by decide +kernel
theorem dX8_areOutputsAnew_49 : decode cX8_areOutputsAnew 49 = .ok (.getfield 139, 3) := by decide +kernel
theorem dX8_areOutputsAnew_52 : decode cX8_areOutputsAnew 52 = .ok (.iload_n 3, 1) := by decide +kernel
theorem dX8_areOutputsAnew_53 : decode cX8_areOutputsAnew 53 = .ok (.aaload, 1) := by decide +kernel
theorem dX8_areOutputsAnew_54 : decode cX8_areOutputsAnew 54 = .ok (.aload_n 2, 1) := by decide +kernel
theorem dX8_areOutputsAnew_55 : decode cX8_areOutputsAnew 55 = .ok (.getfield 127, 3) := by decide +kernel
theorem dX8_areOutputsAnew_58 : decode cX8_areOutputsAnew 58 = .ok (.invokevirtual 336, 3) := by decide +kernel
theorem dX8_areOutputsAnew_61 : decode cX8_areOutputsAnew 61 = .ok (.aload_n 0, 1) := by decide +kernel
theorem dX8_areOutputsAnew_62 : decode cX8_areOutputsAnew 62 = .ok (.getfield 45, 3) := by decide +kernel
theorem dX8_areOutputsAnew_65 : decode cX8_areOutputsAnew 65 = .ok (.aload_n 0, 1) := by decide +kernel
theorem dX8_areOutputsAnew_66 : decode cX8_areOutputsAnew 66 = .ok (.getfield 31, 3) := by decide +kernel
theorem dX8_areOutputsAnew_69 : decode cX8_areOutputsAnew 69 = .ok (.iload_n 1, 1) := by decide +kernel
theorem dX8_areOutputsAnew_70 : decode cX8_areOutputsAnew 70 = .ok (.aaload, 1) := by decide +kernel
theorem dX8_areOutputsAnew_71 : decode cX8_areOutputsAnew 71 = .ok (.getfield 215, 3) := by decide +kernel
theorem dX8_areOutputsAnew_74 : decode cX8_areOutputsAnew 74 = .ok (.iload_n 3, 1) := by decide +kernel
theorem dX8_areOutputsAnew_75 : decode cX8_areOutputsAnew 75 = .ok (.iaload, 1) := by decide +kernel
theorem dX8_areOutputsAnew_76 : decode cX8_areOutputsAnew 76 = .ok (.aload_n 0, 1) := by decide +kernel
theorem dX8_areOutputsAnew_77 : decode cX8_areOutputsAnew 77 = .ok (.getfield 38, 3) := by decide +kernel
theorem dX8_areOutputsAnew_80 : decode cX8_areOutputsAnew 80 = .ok (.getfield 343, 3) := by decide +kernel
theorem dX8_areOutputsAnew_83 : decode cX8_areOutputsAnew 83 = .ok (.aload_n 0, 1) := by decide +kernel
theorem dX8_areOutputsAnew_84 : decode cX8_areOutputsAnew 84 = .ok (.getfield 38, 3) := by decide +kernel
theorem dX8_areOutputsAnew_87 : decode cX8_areOutputsAnew 87 = .ok (.getfield 346, 3) := by decide +kernel
theorem dX8_areOutputsAnew_90 : decode cX8_areOutputsAnew 90 = .ok (.invokevirtual 366, 3) := by decide +kernel
theorem dX8_areOutputsAnew_93 : decode cX8_areOutputsAnew 93 = .ok (.ifCond .ne 5, 3) := by decide +kernel
theorem dX8_areOutputsAnew_96 : decode cX8_areOutputsAnew 96 = .ok (.iconst 0, 1) := by decide +kernel
theorem dX8_areOutputsAnew_97 : decode cX8_areOutputsAnew 97 = .ok (.ireturn, 1) := by decide +kernel
theorem dX8_areOutputsAnew_98 : decode cX8_areOutputsAnew 98 = .ok (.iinc 3 1, 3) := by decide +kernel
theorem dX8_areOutputsAnew_101 : decode cX8_areOutputsAnew 101 = .ok (.goto (-74), 3) := by decide +kernel
theorem dX8_areOutputsAnew_104 : decode cX8_areOutputsAnew 104 = .ok (.iinc 1 1, 3) := by decide +kernel
theorem dX8_areOutputsAnew_107 : decode cX8_areOutputsAnew 107 = .ok (.goto (-105), 3) := by decide +kernel
theorem dX8_areOutputsAnew_110 : decode cX8_areOutputsAnew 110 = .ok (.iconst 1, 1) := by decide +kernel
theorem dX8_areOutputsAnew_111 : decode cX8_areOutputsAnew 111 = .ok (.ireturn, 1) := by decide +kernel
end
section
theorem dX9_init_0 : decode cX9_init 0 = .ok (.aload_n 0, 1) := by decide +kernel
theorem dX9_init_1 : decode cX9_init 1 = .ok (.invokespecial 1, 3) := by decide +kernel
theorem dX9_init_4 : decode cX9_init 4 = .ok (.aload_n 0, 1) := by decide +kernel
theorem dX9_init_5 : decode cX9_init 5 = .ok (.bipush 20, 2) := by decide +kernel
theorem dX9_init_7 : decode cX9_init 7 = .ok (.newarray .char, 2) := by decide +kernel
theorem dX9_init_9 : decode cX9_init 9 = .ok (.putfield 7, 3) := by decide +kernel
theorem dX9_init_12 : decode cX9_init 12 = .ok (.aload_n 0, 1) := by decide +kernel
theorem dX9_init_13 : decode cX9_init 13 = .ok (.bipush 20, 2) := by decide +kernel
theorem dX9_init_15 : decode cX9_init 15 = .ok (.newarray .int, 2) := by decide +kernel
theorem dX9_init_17 : decode cX9_init 17 = .ok (.putfield 13, 3) := by decide +kernel
theorem dX9_init_20 : decode cX9_init 20 = .ok (.aload_n 0, 1) := by decide +kernel
theorem dX9_init_21 : decode cX9_init 21 = .ok (.bipush 20, 2) := by decide +kernel
theorem dX9_init_23 : decode cX9_init 23 = .ok (.newarray .int, 2) := by decide +kernel
theorem dX9_init_25 : decode cX9_init 25 = .ok (.putfield 17, 3) := by decide +kernel
theorem dX9_init_28 : decode cX9_init 28 = .ok (.aload_n 0, 1) := by decide +kernel
theorem dX9_init_29 : decode cX9_init 29 = .ok (.iconst 4, 1) := by decide +kernel
theorem dX9_init_30 : decode cX9_init 30 = .ok (.newarray .int, 2) := by decide +kernel
theorem dX9_init_32 : decode cX9_init 32 = .ok (.putfield 20, 3) := by decide +kernel
theorem dX9_init_35 : decode cX9_init 35 = .ok (.aload_n 0, 1) := by decide +kernel
theorem dX9_init_36 : decode cX9_init 36 = .ok (.bipush 6, 2) := by decide +kernel
theorem dX9_init_38 : decode cX9_init 38 = .ok (.newarray .int, 2) := by decide +kernel
theorem dX9_init_40 : decode cX9_init 40 = .ok (.putfield 23, 3) := by decide +kernel
theorem dX9_init_43 : decode cX9_init 43 = .ok (.aload_n 0, 1) := by decide +kernel
theorem dX9_init_44 : decode cX9_init 44 = .ok (.iconst 5, 1) := by decide +kernel
theorem dX9_init_45 : decode cX9_init 45 = .ok (.newarray .int, 2) := by decide +kernel
theorem dX9_init_47 : decode cX9_init 47 = .ok (.putfield 26, 3) := by decide +kernel
theorem dX9_init_50 : decode cX9_init 50 = .ok (.aload_n 0, 1) := by decide +kernel
theorem dX9_init_51 : decode cX9_init 51 = .ok (.iconst 5, 1) := by decide +kernel
theorem dX9_init_52 : decode cX9_init 52 = .ok (.newarray .int, 2) := by decide +kernel
theorem dX9_init_54 : decode cX9_init 54 = .ok (.putfield 29, 3) := by decide +kernel
theorem dX9_init_57 : decode cX9_init 57 = .ok (.aload_n 0, 1) := by decide +kernel
theorem dX9_init_58 : decode cX9_init 58 = .ok (.iconst 5, 1) := by decide +kernel
theorem dX9_init_59 : decode cX9_init 59 = .ok (.newarray .int, 2) := by decide +kernel
theorem dX9_init_61 : decode cX9_init 61 = .ok (.putfield 32, 3) := by decide +kernel
theorem dX9_init_64 : decode cX9_init 64 = .ok (.aload_n 0, 1) := by decide +kernel
theorem dX9_init_65 : decode cX9_init 65 = .ok (.bipush 120, 2) := by decide +kernel
theorem dX9_init_67 : decode cX9_init 67 = .ok (.newarray .int, 2) := by decide +kernel
theorem dX9_init_69 : decode cX9_init 69 = .ok (.putfield 35, 3) := by decide +kernel
theorem dX9_init_72 : decode cX9_init 72 = .ok (.aload_n 0, 1) := by decide +kernel
theorem dX9_init_73 : decode cX9_init 73 = .ok (.bipush 30, 2) := by decide +kernel
theorem dX9_init_75 : decode cX9_init 75 = .ok (.newarray .int, 2) := by decide +kernel
theorem dX9_init_77 : decode cX9_init 77 = .ok (.putfield 38, 3) := by decide +kernel
theorem dX9_init_80 : decode cX9_init 80 = .ok (.aload_n 0, 1) := by decide +kernel
theorem dX9_init_81 : decode cX9_init 81 = .ok (.sipush 180, 3) := by decide +kernel
theorem dX9_init_84 : decode cX9_init 84 = .ok (.newarray .int, 2) := by decide +kernel
theorem dX9_init_86 : decode cX9_init 86 = .ok (.putfield 41, 3) := by decide +kernel
theorem dX9_init_89 : decode cX9_init 89 = .ok (.aload_n 0, 1) := by decide +kernel
theorem dX9_init_90 : decode cX9_init 90 = .ok (.bipush 30, 2) := by decide +kernel
theorem dX9_init_92 : decode cX9_init 92 = .ok (.newarray .int, 2) := by decide +kernel
theorem dX9_init_94 : decode cX9_init 94 = .ok (.putfield 44, 3) := by decide +kernel
theorem dX9_init_97 : decode cX9_init 97 = .ok (.aload_n 0, 1) := by decide +kernel
theorem dX9_init_98 : decode cX9_init 98 = .ok (.bipush 40, 2) := by decide +kernel
theorem dX9_init_100 : decode cX9_init 100 = .ok (.newarray .int, 2) := by decide +kernel
theorem dX9_init_102 : decode cX9_init 102 = .ok (.putfield 47, 3) := by decide +kernel
theorem dX9_init_105 : decode cX9_init 105 = .ok (.aload_n 0, 1) := by decide +kernel
theorem dX9_init_106 : decode cX9_init 106 = .ok (.bipush 40, 2) := by decide +kernel
theorem dX9_init_108 : decode cX9_init 108 = .ok (.newarray .int, 2) := by decide +kernel
theorem dX9_init_110 : decode cX9_init 110 = .ok (.putfield 50, 3) := by decide +kernel
theorem dX9_init_113 : decode cX9_init 113 = .ok (.aload_n 0, 1) := by decide +kernel
theorem dX9_init_114 : decode cX9_init 114 = .ok (.bipush 40, 2) := by decide +kernel
theorem dX9_init_116 : decode cX9_init 116 = .ok (.newarray .int, 2) := by decide +kernel
theorem dX9_init_118 : decode cX9_init 118 = .ok (.putfield 53, 3) := by decide +kernel
theorem dX9_init_121 : decode cX9_init 121 = .ok (.aload_n 0, 1) := by decide +kernel
theorem dX9_init_122 : decode cX9_init 122 = .ok (.bipush 40, 2) := by decide +kernel
theorem dX9_init_124 : decode cX9_init 124 = .ok (.newarray .int, 2) := by decide +kernel
theorem dX9_init_126 : decode cX9_init 126 = .ok (.putfield 56, 3) := by decide +kernel
theorem dX9_init_129 : decode cX9_init 129 = .ok (.aload_n 0, 1) := by decide +kernel
theorem dX9_init_130 : decode cX9_init 130 = .ok (.sipush 800, 3) := by decide +kernel
theorem dX9_init_133 : decode cX9_init 133 = .ok (.newarray .char, 2) := by decide +kernel
theorem dX9_init_135 : decode cX9_init 135 = .ok (.putfield 59, 3) := by decide +kernel
theorem dX9_init_138 : decode cX9_init 138 = .ok (.aload_n 0, 1) := by decide +kernel
theorem dX9_init_139 : decode cX9_init 139 = .ok (.sipush 800, 3) := by decide +kernel
theorem dX9_init_142 : decode cX9_init 142 = .ok (.newarray .int, 2) := by decide +kernel
theorem dX9_init_144 : decode cX9_init 144 = .ok (.putfield 62, 3) := by decide +kernel
theorem dX9_init_147 : decode cX9_init 147 = .ok (.aload_n 0, 1) := by decide +kernel
theorem dX9_init_148 : decode cX9_init 148 = .ok (.sipush 800, 3) := by decide +kernel
theorem dX9_init_151 : decode cX9_init 151 = .ok (.newarray .int, 2) := by decide +kernel
theorem dX9_init_153 : decode cX9_init 153 = .ok (.putfield 65, 3) := by decide +kernel
theorem dX9_init_156 : decode cX9_init 156 = .ok (.aload_n 0, 1) := by decide +kernel
theorem dX9_init_157 : decode cX9_init 157 = .ok (.sipush 240, 3) := by decide +kernel
theorem dX9_init_160 : decode cX9_init 160 = .ok (.newarray .char, 2) := by decide +kernel
theorem dX9_init_162 : decode cX9_init 162 = .ok (.putfield 68, 3) := by decide +kernel
theorem dX9_init_165 : decode cX9_init 165 = .ok (.aload_n 0, 1) := by decide +kernel
theorem dX9_init_166 : decode cX9_init 166 = .ok (.sipush 240, 3) := by decide +kernel
theorem dX9_init_169 : decode cX9_init 169 = .ok (.newarray .int, 2) := by decide +kernel
theorem dX9_init_171 : decode cX9_init 171 = .ok (.putfield 71, 3) := by decide +kernel
theorem dX9_init_174 : decode cX9_init 174 = .ok (.aload_n 0, 1) := by decide +kernel
theorem dX9_init_175 : decode cX9_init 175 = .ok (.sipush 1440, 3) := by decide +kernel
theorem dX9_init_178 : decode cX9_init 178 = .ok (.newarray .int, 2) := by decide +kernel
theorem dX9_init_180 : decode cX9_init 180 = .ok (.putfield 74, 3) := by decide +kernel
theorem dX9_init_183 : decode cX9_init 183 = .ok (.aload_n 0, 1) := by decide +kernel
theorem dX9_init_184 : decode cX9_init 184 = .ok (.sipush 240, 3) := by decide +kernel
theorem dX9_init_187 : decode cX9_init 187 = .ok (.newarray .int, 2) := by decide +kernel
theorem dX9_init_189 : decode cX9_init 189 = .ok (.putfield 77, 3) := by decide +kernel
theorem dX9_init_192 : decode cX9_init 192 = .ok (.aload_n 0, 1) := by decide +kernel
theorem dX9_init_193 : decode cX9_init 193 = .ok (.iconst 4, 1) := by decide +kernel
theorem dX9_init_194 : decode cX9_init 194 = .ok (.newarray .int, 2) := by decide +kernel
theorem dX9_init_196 : decode cX9_init 196 = .ok (.putfield 80, 3) := by decide +kernel
theorem dX9_init_199 : decode cX9_init 199 = .ok (.aload_n 0, 1) := by decide +kernel
theorem dX9_init_200 : decode cX9_init 200 = .ok (.bipush 40, 2) := by decide +kernel
theorem dX9_init_202 : decode cX9_init 202 = .ok (.newarray .char, 2) := by decide +kernel
theorem dX9_init_204 : decode cX9_init 204 = .ok (.putfield 83, 3) := by decide +kernel
theorem dX9_init_207 : decode cX9_init 207 = .ok (.aload_n 0, 1) := by decide +kernel
theorem dX9_init_208 : decode cX9_init 208 = .ok (.bipush 40, 2) := by decide +kernel
theorem dX9_init_210 : decode cX9_init 210 = .ok (.newarray .int, 2) := by decide +kernel
theorem dX9_init_212 : decode cX9_init 212 = .ok (.putfield 86, 3) := by decide +kernel
theorem dX9_init_215 : decode cX9_init 215 = .ok (.aload_n 0, 1) := by decide +kernel
theorem dX9_init_216 : decode cX9_init 216 = .ok (.iconst 4, 1) := by decide +kernel
theorem dX9_init_217 : decode cX9_init 217 = .ok (.newarray .int, 2) := by decide +kernel
theorem dX9_init_219 : decode cX9_init 219 = .ok (.putfield 89, 3) := by decide +kernel
theorem dX9_init_222 : decode cX9_init 222 = .ok (.aload_n 0, 1) := by decide +kernel
theorem dX9_init_223 : decode cX9_init 223 = .ok (.iconst (-1), 1) := by decide +kernel
theorem dX9_init_224 : decode cX9_init 224 = .ok (.putfield 92, 3) := by decide +kernel
theorem dX9_init_227 : decode cX9_init 227 = .ok (.aload_n 0, 1) := by decide +kernel
theorem dX9_init_228 : decode cX9_init 228 = .ok (.bipush 40, 2) := by decide +kernel
theorem dX9_init_230 : decode cX9_init 230 = .ok (.newarray .boolean, 2) := by decide +kernel
theorem dX9_init_232 : decode cX9_init 232 = .ok (.putfield 96, 3) := by decide +kernel
theorem dX9_init_235 : decode cX9_init 235 = .ok (.return_, 1) := by decide +kernel
theorem dX9_thrown_0 : decode cX9_thrown 0 = .ok (.aload_n 0, 1) := by decide +kernel
theorem dX9_thrown_1 : decode cX9_thrown 1 = .ok (.getfield 100, 3) := by decide +kernel
theorem dX9_thrown_4 : decode cX9_thrown 4 = .ok (.ireturn, 1) := by decide +kernel
theorem dX9_fails_0 : decode cX9_fails 0 = .ok (.aload_n 0, 1) := by decide +kernel
theorem dX9_fails_1 : decode cX9_fails 1 = .ok (.iload_n 1, 1) := by decide +kernel
theorem dX9_fails_2 : decode cX9_fails 2 = .ok (.putfield 100, 3) := by decide +kernel
theorem dX9_fails_5 : decode cX9_fails 5 = .ok (.iload_n 1, 1) := by decide +kernel
theorem dX9_fails_6 : decode cX9_fails 6 = .ok (.ifCond .le 7, 3) := by decide +kernel
theorem dX9_fails_9 : decode cX9_fails 9 = .ok (.iconst 1, 1) := by decide +kernel
theorem dX9_fails_10 : decode cX9_fails 10 = .ok (.goto 4, 3) := by decide +kernel
theorem dX9_fails_13 : decode cX9_fails 13 = .ok (.iconst 0, 1) := by decide +kernel
theorem dX9_fails_14 : decode cX9_fails 14 = .ok (.ireturn, 1) := by decide +kernel
theorem dX9_in_0 : decode cX9_in 0 = .ok (.iload_n 0, 1) := by decide +kernel
theorem dX9_in_1 : decode cX9_in 1 = .ok (.iload_n 1, 1) := by decide +kernel
theorem dX9_in_2 : decode cX9_in 2 = .ok (.if_icmp .lt 12, 3) := by decide +kernel
theorem dX9_in_5 : decode cX9_in 5 = .ok (.iload_n 0, 1) := by decide +kernel
theorem dX9_in_6 : decode cX9_in 6 = .ok (.iload_n 2, 1) := by decide +kernel
theorem dX9_in_7 : decode cX9_in 7 = .ok (.if_icmp .gt 7, 3) := by decide +kernel
theorem dX9_in_10 : decode cX9_in 10 = .ok (.iconst 1, 1) := by decide +kernel
theorem dX9_in_11 : decode cX9_in 11 = .ok (.goto 4, 3) := by decide +kernel
theorem dX9_in_14 : decode cX9_in 14 = .ok (.iconst 0, 1) := by decide +kernel
theorem dX9_in_15 : decode cX9_in 15 = .ok (.ireturn, 1) := by decide +kernel
theorem dX9_isStep_0 : decode cX9_isStep 0 = .ok (.iload_n 0, 1) := by decide +kernel
theorem dX9_isStep_1 : decode cX9_isStep 1 = .ok (.bipush 104, 2) := by decide +kernel
theorem dX9_isStep_3 : decode cX9_isStep 3 = .ok (.if_icmp .ne 5, 3) := by decide +kernel
theorem dX9_isStep_6 : decode cX9_isStep 6 = .ok (.iconst 1, 1) := by decide +kernel
theorem dX9_isStep_7 : decode cX9_isStep 7 = .ok (.ireturn, 1) := by decide +kernel
theorem dX9_isStep_8 : decode cX9_isStep 8 = .ok (.iload_n 1, 1) := by decide +kernel
theorem dX9_isStep_9 : decode cX9_isStep 9 = .ok (.iconst 0, 1) := by decide +kernel
theorem dX9_isStep_10 : decode cX9_isStep 10 = .ok (.iconst 3, 1) := by decide +kernel
theorem dX9_isStep_11 : decode cX9_isStep 11 = .ok (.invokestatic 103, 3) := by decide +kernel
theorem dX9_isStep_14 : decode cX9_isStep 14 = .ok (.ifCond .ne 5, 3) := by decide +kernel
theorem dX9_isStep_17 : decode cX9_isStep 17 = .ok (.iconst 0, 1) := by decide +kernel
theorem dX9_isStep_18 : decode cX9_isStep 18 = .ok (.ireturn, 1) := by decide +kernel
theorem dX9_isStep_19 : decode cX9_isStep 19 = .ok (.iload_n 0, 1) := by decide +kernel
theorem dX9_isStep_20 : decode cX9_isStep 20 = .ok (.bipush 115, 2) := by decide +kernel
theorem dX9_isStep_22 : decode cX9_isStep 22 = .ok (.if_icmp .ne 14, 3) := by decide +kernel
theorem dX9_isStep_25 : decode cX9_isStep 25 = .ok (.iload_n 2, 1) := by decide +kernel
theorem dX9_isStep_26 : decode cX9_isStep 26 = .ok (.sipush (-999), 3) := by decide +kernel
theorem dX9_isStep_29 : decode cX9_isStep 29 = .ok (.sipush 999, 3) := by decide +kernel
theorem dX9_isStep_32 : decode cX9_isStep 32 = .ok (.invokestatic 103, 3) := by decide +kernel
theorem dX9_isStep_35 : decode cX9_isStep 35 = .ok (.ireturn, 1) := by decide +kernel
theorem dX9_isStep_36 : decode cX9_isStep 36 = .ok (.iload_n 0, 1) := by decide +kernel
theorem dX9_isStep_37 : decode cX9_isStep 37 = .ok (.bipush 106, 2) := by decide +kernel
theorem dX9_isStep_39 : decode cX9_isStep 39 = .ok (.if_icmp .eq 9, 3) := by decide +kernel
theorem dX9_isStep_42 : decode cX9_isStep 42 = .ok (.iload_n 0, 1) := by decide +kernel
theorem dX9_isStep_43 : decode cX9_isStep 43 = .ok (.bipush 110, 2) := by decide +kernel
theorem dX9_isStep_45 : decode cX9_isStep 45 = .ok (.if_icmp .ne 11, 3) := by decide +kernel
theorem dX9_isStep_48 : decode cX9_isStep 48 = .ok (.iload_n 2, 1) := by decide +kernel
theorem dX9_isStep_49 : decode cX9_isStep 49 = .ok (.iconst 0, 1) := by decide +kernel
theorem dX9_isStep_50 : decode cX9_isStep 50 = .ok (.bipush 99, 2) := by decide +kernel
theorem dX9_isStep_52 : decode cX9_isStep 52 = .ok (.invokestatic 103, 3) := by decide +kernel
theorem dX9_isStep_55 : decode cX9_isStep 55 = .ok (.ireturn, 1) := by decide +kernel
theorem dX9_isStep_56 : decode cX9_isStep 56 = .ok (.iload_n 0, 1) := by decide +kernel
theorem dX9_isStep_57 : decode cX9_isStep 57 = .ok (.bipush 105, 2) := by decide +kernel
theorem dX9_isStep_59 : decode cX9_isStep 59 = .ok (.if_icmp .eq 36, 3) := by decide +kernel
theorem dX9_isStep_62 : decode cX9_isStep 62 = .ok (.iload_n 0, 1) := by decide +kernel
theorem dX9_isStep_63 : decode cX9_isStep 63 = .ok (.bipush 111, 2) := by decide +kernel
theorem dX9_isStep_65 : decode cX9_isStep 65 = .ok (.if_icmp .eq 30, 3) := by decide +kernel
theorem dX9_isStep_68 : decode cX9_isStep 68 = .ok (.iload_n 0, 1) := by decide +kernel
theorem dX9_isStep_69 : decode cX9_isStep 69 = .ok (.bipush 97, 2) := by decide +kernel
theorem dX9_isStep_71 : decode cX9_isStep 71 = .ok (.if_icmp .eq 15, 3) := by decide +kernel
theorem dX9_isStep_74 : decode cX9_isStep 74 = .ok (.iload_n 0, 1) := by decide +kernel
theorem dX9_isStep_75 : decode cX9_isStep 75 = .ok (.bipush 109, 2) := by decide +kernel
theorem dX9_isStep_77 : decode cX9_isStep 77 = .ok (.if_icmp .eq 9, 3) := by decide +kernel
theorem dX9_isStep_80 : decode cX9_isStep 80 = .ok (.iload_n 0, 1) := by decide +kernel
theorem dX9_isStep_81 : decode cX9_isStep 81 = .ok (.bipush 100, 2) := by decide +kernel
theorem dX9_isStep_83 : decode cX9_isStep 83 = .ok (.if_icmp .ne 16, 3) := by decide +kernel
theorem dX9_isStep_86 : decode cX9_isStep 86 = .ok (.iload_n 2, 1) := by decide +kernel
theorem dX9_isStep_87 : decode cX9_isStep 87 = .ok (.iconst 0, 1) := by decide +kernel
theorem dX9_isStep_88 : decode cX9_isStep 88 = .ok (.iconst 3, 1) := by decide +kernel
theorem dX9_isStep_89 : decode cX9_isStep 89 = .ok (.invokestatic 103, 3) := by decide +kernel
theorem dX9_isStep_92 : decode cX9_isStep 92 = .ok (.ifCond .eq 7, 3) := by decide +kernel
theorem dX9_isStep_95 : decode cX9_isStep 95 = .ok (.iconst 1, 1) := by decide +kernel
theorem dX9_isStep_96 : decode cX9_isStep 96 = .ok (.goto 4, 3) := by decide +kernel
theorem dX9_isStep_99 : decode cX9_isStep 99 = .ok (.iconst 0, 1) := by decide +kernel
theorem dX9_isStep_100 : decode cX9_isStep 100 = .ok (.ireturn, 1) := by decide +kernel
theorem dX9_step_0 : decode cX9_step 0 = .ok (.aload_n 0, 1) := by decide +kernel
theorem dX9_step_1 : decode cX9_step 1 = .ok (.iload_n 1, 1) := by decide +kernel
theorem dX9_step_2 : decode cX9_step 2 = .ok (.iload_n 2, 1) := by decide +kernel
theorem dX9_step_3 : decode cX9_step 3 = .ok (.iload_n 3, 1) := by decide +kernel
theorem dX9_step_4 : decode cX9_step 4 = .ok (.invokestatic 107, 3) := by decide +kernel
theorem dX9_step_7 : decode cX9_step 7 = .ok (.ifCond .ne 7, 3) := by decide +kernel
theorem dX9_step_10 : decode cX9_step 10 = .ok (.iconst 1, 1) := by decide +kernel
theorem dX9_step_11 : decode cX9_step 11 = .ok (.goto 17, 3) := by decide +kernel
theorem dX9_step_14 : decode cX9_step 14 = .ok (.aload_n 0, 1) := by decide +kernel
theorem dX9_step_15 : decode cX9_step 15 = .ok (.getfield 111, 3) := by decide +kernel
theorem dX9_step_18 : decode cX9_step 18 = .ok (.bipush 20, 2) := by decide +kernel
theorem dX9_step_20 : decode cX9_step 20 = .ok (.if_icmp .ne 7, 3) := by decide +kernel
theorem dX9_step_23 : decode cX9_step 23 = .ok (.iconst 2, 1) := by decide +kernel
theorem dX9_step_24 : decode cX9_step 24 = .ok (.goto 4, 3) := by decide +kernel
theorem dX9_step_27 : decode cX9_step 27 = .ok (.iconst 0, 1) := by decide +kernel
theorem dX9_step_28 : decode cX9_step 28 = .ok (.invokevirtual 114, 3) := by decide +kernel
theorem dX9_step_31 : decode cX9_step 31 = .ok (.ifCond .eq 5, 3) := by decide +kernel
theorem dX9_step_34 : decode cX9_step 34 = .ok (.iconst 0, 1) := by decide +kernel
theorem dX9_step_35 : decode cX9_step 35 = .ok (.ireturn, 1) := by decide +kernel
theorem dX9_step_36 : decode cX9_step 36 = .ok (.aload_n 0, 1) := by decide +kernel
theorem dX9_step_37 : decode cX9_step 37 = .ok (.getfield 7, 3) := by decide +kernel
theorem dX9_step_40 : decode cX9_step 40 = .ok (.aload_n 0, 1) := by decide +kernel
theorem dX9_step_41 : decode cX9_step 41 = .ok (.getfield 111, 3) := by decide +kernel
theorem dX9_step_44 : decode cX9_step 44 = .ok (.iload_n 1, 1) := by decide +kernel
theorem dX9_step_45 : decode cX9_step 45 = .ok (.castore, 1) := by decide +kernel
theorem dX9_step_46 : decode cX9_step 46 = .ok (.aload_n 0, 1) := by decide +kernel
theorem dX9_step_47 : decode cX9_step 47 = .ok (.getfield 13, 3) := by decide +kernel
theorem dX9_step_50 : decode cX9_step 50 = .ok (.aload_n 0, 1) := by decide +kernel
theorem dX9_step_51 : decode cX9_step 51 = .ok (.getfield 111, 3) := by decide +kernel
theorem dX9_step_54 : decode cX9_step 54 = .ok (.iload_n 2, 1) := by decide +kernel
theorem dX9_step_55 : decode cX9_step 55 = .ok (.iastore, 1) := by decide +kernel
theorem dX9_step_56 : decode cX9_step 56 = .ok (.aload_n 0, 1) := by decide +kernel
theorem dX9_step_57 : decode cX9_step 57 = .ok (.getfield 17, 3) := by decide +kernel
theorem dX9_step_60 : decode cX9_step 60 = .ok (.aload_n 0, 1) := by decide +kernel
theorem dX9_step_61 : decode cX9_step 61 = .ok (.getfield 111, 3) := by decide +kernel
theorem dX9_step_64 : decode cX9_step 64 = .ok (.iload_n 3, 1) := by decide +kernel
theorem dX9_step_65 : decode cX9_step 65 = .ok (.iastore, 1) := by decide +kernel
theorem dX9_step_66 : decode cX9_step 66 = .ok (.aload_n 0, 1) := by decide +kernel
theorem dX9_step_67 : decode cX9_step 67 = .ok (.dup, 1) := by decide +kernel
theorem dX9_step_68 : decode cX9_step 68 = .ok (.getfield 111, 3) := by decide +kernel
theorem dX9_step_71 : decode cX9_step 71 = .ok (.iconst 1, 1) := by decide +kernel
theorem dX9_step_72 : decode cX9_step 72 = .ok (.iadd, 1) := by decide +kernel
theorem dX9_step_73 : decode cX9_step 73 = .ok (.putfield 111, 3) := by decide +kernel
theorem dX9_step_76 : decode cX9_step 76 = .ok (.aload_n 0, 1) := by decide +kernel
theorem dX9_step_77 : decode cX9_step 77 = .ok (.getfield 111, 3) := by decide +kernel
theorem dX9_step_80 : decode cX9_step 80 = .ok (.ireturn, 1) := by decide +kernel
theorem dX9_number_0 : decode cX9_number 0 = .ok (.aload_n 0, 1) := by decide +kernel
theorem dX9_number_1 : decode cX9_number 1 = .ok (.iload_n 1, 1) := by decide +kernel
theorem dX9_number_2 : decode cX9_number 2 = .ok (.sipush (-999), 3) := by decide +kernel
theorem dX9_number_5 : decode cX9_number 5 = .ok (.sipush 999, 3) := by decide +kernel
theorem dX9_number_8 : decode cX9_number 8 = .ok (.invokestatic 103, 3) := by decide +kernel
theorem dX9_number_11 : decode cX9_number 11 = .ok (.ifCond .ne 7, 3) := by decide +kernel
theorem dX9_number_14 : decode cX9_number 14 = .ok (.iconst 1, 1) := by decide +kernel
theorem dX9_number_15 : decode cX9_number 15 = .ok (.goto 33, 3) := by decide +kernel
theorem dX9_number_18 : decode cX9_number 18 = .ok (.iload_n 2, 1) := by decide +kernel
theorem dX9_number_19 : decode cX9_number 19 = .ok (.ifCond .eq 12, 3) := by decide +kernel
theorem dX9_number_22 : decode cX9_number 22 = .ok (.aload_n 0, 1) := by decide +kernel
theorem dX9_number_23 : decode cX9_number 23 = .ok (.getfield 118, 3) := by decide +kernel
theorem dX9_number_26 : decode cX9_number 26 = .ok (.bipush 6, 2) := by decide +kernel
theorem dX9_number_28 : decode cX9_number 28 = .ok (.if_icmp .eq 15, 3) := by decide +kernel
theorem dX9_number_31 : decode cX9_number 31 = .ok (.iload_n 2, 1) := by decide +kernel
theorem dX9_number_32 : decode cX9_number 32 = .ok (.ifCond .ne 15, 3) := by decide +kernel
theorem dX9_number_35 : decode cX9_number 35 = .ok (.aload_n 0, 1) := by decide +kernel
theorem dX9_number_36 : decode cX9_number 36 = .ok (.getfield 121, 3) := by decide +kernel
theorem dX9_number_39 : decode cX9_number 39 = .ok (.iconst 4, 1) := by decide +kernel
theorem dX9_number_40 : decode cX9_number 40 = .ok (.if_icmp .ne 7, 3) := by decide +kernel
theorem dX9_number_43 : decode cX9_number 43 = .ok (.iconst 2, 1) := by decide +kernel
theorem dX9_number_44 : decode cX9_number 44 = .ok (.goto 4, 3) := by decide +kernel
theorem dX9_number_47 : decode cX9_number 47 = .ok (.iconst 0, 1) := by decide +kernel
theorem dX9_number_48 : decode cX9_number 48 = .ok (.invokevirtual 114, 3) := by decide +kernel
theorem dX9_number_51 : decode cX9_number 51 = .ok (.ifCond .eq 5, 3) := by decide +kernel
theorem dX9_number_54 : decode cX9_number 54 = .ok (.iconst 0, 1) := by decide +kernel
theorem dX9_number_55 : decode cX9_number 55 = .ok (.ireturn, 1) := by decide +kernel
theorem dX9_number_56 : decode cX9_number 56 = .ok (.iload_n 2, 1) := by decide +kernel
theorem dX9_number_57 : decode cX9_number 57 = .ok (.ifCond .eq 28, 3) := by decide +kernel
theorem dX9_number_60 : decode cX9_number 60 = .ok (.aload_n 0, 1) := by decide +kernel
theorem dX9_number_61 : decode cX9_number 61 = .ok (.getfield 23, 3) := by decide +kernel
theorem dX9_number_64 : decode cX9_number 64 = .ok (.aload_n 0, 1) := by decide +kernel
theorem dX9_number_65 : decode cX9_number 65 = .ok (.getfield 118, 3) := by decide +kernel
theorem dX9_number_68 : decode cX9_number 68 = .ok (.iload_n 1, 1) := by decide +kernel
theorem dX9_number_69 : decode cX9_number 69 = .ok (.iastore, 1) := by decide +kernel
theorem dX9_number_70 : decode cX9_number 70 = .ok (.aload_n 0, 1) := by decide +kernel
theorem dX9_number_71 : decode cX9_number 71 = .ok (.dup, 1) := by decide +kernel
theorem dX9_number_72 : decode cX9_number 72 = .ok (.getfield 118, 3) := by decide +kernel
theorem dX9_number_75 : decode cX9_number 75 = .ok (.iconst 1, 1) := by decide +kernel
theorem dX9_number_76 : decode cX9_number 76 = .ok (.iadd, 1) := by decide +kernel
theorem dX9_number_77 : decode cX9_number 77 = .ok (.putfield 118, 3) := by decide +kernel
theorem dX9_number_80 : decode cX9_number 80 = .ok (.aload_n 0, 1) := by decide +kernel
theorem dX9_number_81 : decode cX9_number 81 = .ok (.getfield 118, 3) := by decide +kernel
theorem dX9_number_84 : decode cX9_number 84 = .ok (.ireturn, 1) := by decide +kernel
theorem dX9_number_85 : decode cX9_number 85 = .ok (.aload_n 0, 1) := by decide +kernel
theorem dX9_number_86 : decode cX9_number 86 = .ok (.getfield 20, 3) := by decide +kernel
theorem dX9_number_89 : decode cX9_number 89 = .ok (.aload_n 0, 1) := by decide +kernel
theorem dX9_number_90 : decode cX9_number 90 = .ok (.getfield 121, 3) := by decide +kernel
theorem dX9_number_93 : decode cX9_number 93 = .ok (.iload_n 1, 1) := by decide +kernel
theorem dX9_number_94 : decode cX9_number 94 = .ok (.iastore, 1) := by decide +kernel
theorem dX9_number_95 : decode cX9_number 95 = .ok (.aload_n 0, 1) := by decide +kernel
theorem dX9_number_96 : decode cX9_number 96 = .ok (.dup, 1) := by decide +kernel
theorem dX9_number_97 : decode cX9_number 97 = .ok (.getfield 121, 3) := by decide +kernel
theorem dX9_number_100 : decode cX9_number 100 = .ok (.iconst 1, 1) := by decide +kernel
theorem dX9_number_101 : decode cX9_number 101 = .ok (.iadd, 1) := by decide +kernel
theorem dX9_number_102 : decode cX9_number 102 = .ok (.putfield 121, 3) := by decide +kernel
theorem dX9_number_105 : decode cX9_number 105 = .ok (.aload_n 0, 1) := by decide +kernel
theorem dX9_number_106 : decode cX9_number 106 = .ok (.getfield 121, 3) := by decide +kernel
theorem dX9_number_109 : decode cX9_number 109 = .ok (.ireturn, 1) := by decide +kernel
theorem dX9_wipe_0 : decode cX9_wipe 0 = .ok (.aload_n 0, 1) := by decide +kernel
theorem dX9_wipe_1 : decode cX9_wipe 1 = .ok (.iconst 0, 1) := by decide +kernel
theorem dX9_wipe_2 : decode cX9_wipe 2 = .ok (.putfield 100, 3) := by decide +kernel
theorem dX9_wipe_5 : decode cX9_wipe 5 = .ok (.iload_n 1, 1) := by decide +kernel
theorem dX9_wipe_6 : decode cX9_wipe 6 = .ok (.ifCond .eq 10, 3) := by decide +kernel
theorem dX9_wipe_9 : decode cX9_wipe 9 = .ok (.aload_n 0, 1) := by decide +kernel
theorem dX9_wipe_10 : decode cX9_wipe 10 = .ok (.getfield 111, 3) := by decide +kernel
theorem dX9_wipe_13 : decode cX9_wipe 13 = .ok (.goto 12, 3) := by decide +kernel
theorem dX9_wipe_16 : decode cX9_wipe 16 = .ok (.aload_n 0, 1) := by decide +kernel
theorem dX9_wipe_17 : decode cX9_wipe 17 = .ok (.getfield 121, 3) := by decide +kernel
theorem dX9_wipe_20 : decode cX9_wipe 20 = .ok (.aload_n 0, 1) := by decide +kernel
theorem dX9_wipe_21 : decode cX9_wipe 21 = .ok (.getfield 118, 3) := by decide +kernel
theorem dX9_wipe_24 : decode cX9_wipe 24 = .ok (.iadd, 1) := by decide +kernel
theorem dX9_wipe_25 : decode cX9_wipe 25 = .ok (.istore_n 2, 1) := by decide +kernel
theorem dX9_wipe_26 : decode cX9_wipe 26 = .ok (.iload_n 1, 1) := by decide +kernel
theorem dX9_wipe_27 : decode cX9_wipe 27 = .ok (.ifCond .eq 11, 3) := by decide +kernel
theorem dX9_wipe_30 : decode cX9_wipe 30 = .ok (.aload_n 0, 1) := by decide +kernel
theorem dX9_wipe_31 : decode cX9_wipe 31 = .ok (.iconst 0, 1) := by decide +kernel
theorem dX9_wipe_32 : decode cX9_wipe 32 = .ok (.putfield 111, 3) := by decide +kernel
theorem dX9_wipe_35 : decode cX9_wipe 35 = .ok (.goto 13, 3) := by decide +kernel
theorem dX9_wipe_38 : decode cX9_wipe 38 = .ok (.aload_n 0, 1) := by decide +kernel
theorem dX9_wipe_39 : decode cX9_wipe 39 = .ok (.iconst 0, 1) := by decide +kernel
theorem dX9_wipe_40 : decode cX9_wipe 40 = .ok (.putfield 121, 3) := by decide +kernel
theorem dX9_wipe_43 : decode cX9_wipe 43 = .ok (.aload_n 0, 1) := by decide +kernel
theorem dX9_wipe_44 : decode cX9_wipe 44 = .ok (.iconst 0, 1) := by decide +kernel
theorem dX9_wipe_45 : decode cX9_wipe 45 = .ok (.putfield 118, 3) := by decide +kernel
theorem dX9_wipe_48 : decode cX9_wipe 48 = .ok (.iload_n 2, 1) := by decide +kernel
theorem dX9_wipe_49 : decode cX9_wipe 49 = .ok (.ireturn, 1) := by decide +kernel
theorem dX9_isNoProblem_0 : decode cX9_isNoProblem 0 = .ok (.iload_n 1, 1) := by decide +kernel
theorem dX9_isNoProblem_1 : decode cX9_isNoProblem 1 = .ok (.iconst 0, 1) := by decide +kernel
theorem dX9_isNoProblem_2 : decode cX9_isNoProblem 2 = .ok (.aload_n 0, 1) := by decide +kernel
theorem dX9_isNoProblem_3 : decode cX9_isNoProblem 3 = .ok (.getfield 124, 3) := by decide +kernel
theorem dX9_isNoProblem_6 : decode cX9_isNoProblem 6 = .ok (.iconst 1, 1) := by decide +kernel
theorem dX9_isNoProblem_7 : decode cX9_isNoProblem 7 = .ok (.isub, 1) := by decide +kernel
theorem dX9_isNoProblem_8 : decode cX9_isNoProblem 8 = .ok (.invokestatic 103, 3) := by decide +kernel
theorem dX9_isNoProblem_11 : decode cX9_isNoProblem 11 = .ok (.ifCond .ne 7, 3) := by decide +kernel
theorem dX9_isNoProblem_14 : decode cX9_isNoProblem 14 = .ok (.iconst 1, 1) := by decide +kernel
theorem dX9_isNoProblem_15 : decode cX9_isNoProblem 15 = .ok (.goto 4, 3) := by decide +kernel
theorem dX9_isNoProblem_18 : decode cX9_isNoProblem 18 = .ok (.iconst 0, 1) := by decide +kernel
theorem dX9_isNoProblem_19 : decode cX9_isNoProblem 19 = .ok (.ireturn, 1) := by decide +kernel
theorem dX9_isNoTeam_0 : decode cX9_isNoTeam 0 = .ok (.iload_n 1, 1) := by decide +kernel
theorem dX9_isNoTeam_1 : decode cX9_isNoTeam 1 = .ok (.iconst 0, 1) := by decide +kernel
theorem dX9_isNoTeam_2 : decode cX9_isNoTeam 2 = .ok (.aload_n 0, 1) := by decide +kernel
theorem dX9_isNoTeam_3 : decode cX9_isNoTeam 3 = .ok (.getfield 127, 3) := by decide +kernel
theorem dX9_isNoTeam_6 : decode cX9_isNoTeam 6 = .ok (.iconst 1, 1) := by decide +kernel
theorem dX9_isNoTeam_7 : decode cX9_isNoTeam 7 = .ok (.isub, 1) := by decide +kernel
theorem dX9_isNoTeam_8 : decode cX9_isNoTeam 8 = .ok (.invokestatic 103, 3) := by decide +kernel
theorem dX9_isNoTeam_11 : decode cX9_isNoTeam 11 = .ok (.ifCond .ne 7, 3) := by decide +kernel
theorem dX9_isNoTeam_14 : decode cX9_isNoTeam 14 = .ok (.iconst 1, 1) := by decide +kernel
theorem dX9_isNoTeam_15 : decode cX9_isNoTeam 15 = .ok (.goto 4, 3) := by decide +kernel
theorem dX9_isNoTeam_18 : decode cX9_isNoTeam 18 = .ok (.iconst 0, 1) := by decide +kernel
theorem dX9_isNoTeam_19 : decode cX9_isNoTeam 19 = .ok (.ireturn, 1) := by decide +kernel
theorem dX9_isNoRun_0 : decode cX9_isNoRun 0 = .ok (.iload_n 1, 1) := by decide +kernel
theorem dX9_isNoRun_1 : decode cX9_isNoRun 1 = .ok (.iconst 0, 1) := by decide +kernel
theorem dX9_isNoRun_2 : decode cX9_isNoRun 2 = .ok (.aload_n 0, 1) := by decide +kernel
theorem dX9_isNoRun_3 : decode cX9_isNoRun 3 = .ok (.getfield 130, 3) := by decide +kernel
theorem dX9_isNoRun_6 : decode cX9_isNoRun 6 = .ok (.iconst 1, 1) := by decide +kernel
theorem dX9_isNoRun_7 : decode cX9_isNoRun 7 = .ok (.isub, 1) := by decide +kernel
theorem dX9_isNoRun_8 : decode cX9_isNoRun 8 = .ok (.invokestatic 103, 3) := by decide +kernel
theorem dX9_isNoRun_11 : decode cX9_isNoRun 11 = .ok (.ifCond .ne 7, 3) := by decide +kernel
theorem dX9_isNoRun_14 : decode cX9_isNoRun 14 = .ok (.iconst 1, 1) := by decide +kernel
theorem dX9_isNoRun_15 : decode cX9_isNoRun 15 = .ok (.goto 4, 3) := by decide +kernel
theorem dX9_isNoRun_18 : decode cX9_isNoRun 18 = .ok (.iconst 0, 1) := by decide +kernel
theorem dX9_isNoRun_19 : decode cX9_isNoRun 19 = .ok (.ireturn, 1) := by decide +kernel
theorem dX9_problem_0 : decode cX9_problem 0 = .ok (.aload_n 0, 1) := by decide +kernel
theorem dX9_problem_1 : decode cX9_problem 1 = .ok (.iload_n 1, 1) := by decide +kernel
theorem dX9_problem_2 : decode cX9_problem 2 = .ok (.iconst 0, 1) := by decide +kernel
theorem dX9_problem_3 : decode cX9_problem 3 = .ok (.iconst 3, 1) := by decide +kernel
theorem dX9_problem_4 : decode cX9_problem 4 = .ok (.invokestatic 103, 3) := by decide +kernel
theorem dX9_problem_7 : decode cX9_problem 7 = .ok (.ifCond .eq 14, 3) := by decide +kernel
theorem dX9_problem_10 : decode cX9_problem 10 = .ok (.iload_n 2, 1) := by decide +kernel
theorem dX9_problem_11 : decode cX9_problem 11 = .ok (.iconst 1, 1) := by decide +kernel
theorem dX9_problem_12 : decode cX9_problem 12 = .ok (.sipush 400, 3) := by decide +kernel
theorem dX9_problem_15 : decode cX9_problem 15 = .ok (.invokestatic 103, 3) := by decide +kernel
theorem dX9_problem_18 : decode cX9_problem 18 = .ok (.ifCond .ne 7, 3) := by decide +kernel
theorem dX9_problem_21 : decode cX9_problem 21 = .ok (.iconst 1, 1) := by decide +kernel
theorem dX9_problem_22 : decode cX9_problem 22 = .ok (.goto 16, 3) := by decide +kernel
theorem dX9_problem_25 : decode cX9_problem 25 = .ok (.aload_n 0, 1) := by decide +kernel
theorem dX9_problem_26 : decode cX9_problem 26 = .ok (.getfield 124, 3) := by decide +kernel
theorem dX9_problem_29 : decode cX9_problem 29 = .ok (.iconst 5, 1) := by decide +kernel
theorem dX9_problem_30 : decode cX9_problem 30 = .ok (.if_icmp .ne 7, 3) := by decide +kernel
theorem dX9_problem_33 : decode cX9_problem 33 = .ok (.iconst 2, 1) := by decide +kernel
theorem dX9_problem_34 : decode cX9_problem 34 = .ok (.goto 4, 3) := by decide +kernel
theorem dX9_problem_37 : decode cX9_problem 37 = .ok (.iconst 0, 1) := by decide +kernel
theorem dX9_problem_38 : decode cX9_problem 38 = .ok (.invokevirtual 114, 3) := by decide +kernel
theorem dX9_problem_41 : decode cX9_problem 41 = .ok (.ifCond .eq 5, 3) := by decide +kernel
theorem dX9_problem_44 : decode cX9_problem 44 = .ok (.iconst 0, 1) := by decide +kernel
theorem dX9_problem_45 : decode cX9_problem 45 = .ok (.ireturn, 1) := by decide +kernel
theorem dX9_problem_46 : decode cX9_problem 46 = .ok (.aload_n 0, 1) := by decide +kernel
theorem dX9_problem_47 : decode cX9_problem 47 = .ok (.getfield 26, 3) := by decide +kernel
theorem dX9_problem_50 : decode cX9_problem 50 = .ok (.aload_n 0, 1) := by decide +kernel
theorem dX9_problem_51 : decode cX9_problem 51 = .ok (.getfield 124, 3) := by decide +kernel
theorem dX9_problem_54 : decode cX9_problem 54 = .ok (.iload_n 1, 1) := by decide +kernel
theorem dX9_problem_55 : decode cX9_problem 55 = .ok (.iastore, 1) := by decide +kernel
theorem dX9_problem_56 : decode cX9_problem 56 = .ok (.aload_n 0, 1) := by decide +kernel
theorem dX9_problem_57 : decode cX9_problem 57 = .ok (.getfield 29, 3) := by decide +kernel
theorem dX9_problem_60 : decode cX9_problem 60 = .ok (.aload_n 0, 1) := by decide +kernel
theorem dX9_problem_61 : decode cX9_problem 61 = .ok (.getfield 124, 3) := by decide +kernel
theorem dX9_problem_64 : decode cX9_problem 64 = .ok (.iload_n 2, 1) := by decide +kernel
theorem dX9_problem_65 : decode cX9_problem 65 = .ok (.iastore, 1) := by decide +kernel
theorem dX9_problem_66 : decode cX9_problem 66 = .ok (.aload_n 0, 1) := by decide +kernel
theorem dX9_problem_67 : decode cX9_problem 67 = .ok (.dup, 1) := by decide +kernel
theorem dX9_problem_68 : decode cX9_problem 68 = .ok (.getfield 124, 3) := by decide +kernel
theorem dX9_problem_71 : decode cX9_problem 71 = .ok (.iconst 1, 1) := by decide +kernel
theorem dX9_problem_72 : decode cX9_problem 72 = .ok (.iadd, 1) := by decide +kernel
theorem dX9_problem_73 : decode cX9_problem 73 = .ok (.putfield 124, 3) := by decide +kernel
theorem dX9_problem_76 : decode cX9_problem 76 = .ok (.aload_n 0, 1) := by decide +kernel
theorem dX9_problem_77 : decode cX9_problem 77 = .ok (.getfield 124, 3) := by decide +kernel
theorem dX9_problem_80 : decode cX9_problem 80 = .ok (.iconst 1, 1) := by decide +kernel
theorem dX9_problem_81 : decode cX9_problem 81 = .ok (.isub, 1) := by decide +kernel
theorem dX9_problem_82 : decode cX9_problem 82 = .ok (.ireturn, 1) := by decide +kernel
theorem dX9_lays_0 : decode cX9_lays 0 = .ok (.aload_n 0, 1) := by decide +kernel
theorem dX9_lays_1 : decode cX9_lays 1 = .ok (.getfield 38, 3) := by decide +kernel
theorem dX9_lays_4 : decode cX9_lays 4 = .ok (.bipush 6, 2) := by decide +kernel
theorem dX9_lays_6 : decode cX9_lays 6 = .ok (.iload_n 1, 1) := by decide +kernel
theorem dX9_lays_7 : decode cX9_lays 7 = .ok (.imul, 1) := by decide +kernel
theorem dX9_lays_8 : decode cX9_lays 8 = .ok (.iload_n 2, 1) := by decide +kernel
theorem dX9_lays_9 : decode cX9_lays 9 = .ok (.iadd, 1) := by decide +kernel
theorem dX9_lays_10 : decode cX9_lays 10 = .ok (.aload_n 0, 1) := by decide +kernel
theorem dX9_lays_11 : decode cX9_lays 11 = .ok (.getfield 121, 3) := by decide +kernel
theorem dX9_lays_14 : decode cX9_lays 14 = .ok (.iastore, 1) := by decide +kernel
theorem dX9_lays_15 : decode cX9_lays 15 = .ok (.aload_n 0, 1) := by decide +kernel
theorem dX9_lays_16 : decode cX9_lays 16 = .ok (.getfield 44, 3) := by decide +kernel
theorem dX9_lays_19 : decode cX9_lays 19 = .ok (.bipush 6, 2) := by decide +kernel
theorem dX9_lays_21 : decode cX9_lays 21 = .ok (.iload_n 1, 1) := by decide +kernel
theorem dX9_lays_22 : decode cX9_lays 22 = .ok (.imul, 1) := by decide +kernel
theorem dX9_lays_23 : decode cX9_lays 23 = .ok (.iload_n 2, 1) := by decide +kernel
theorem dX9_lays_24 : decode cX9_lays 24 = .ok (.iadd, 1) := by decide +kernel
theorem dX9_lays_25 : decode cX9_lays 25 = .ok (.aload_n 0, 1) := by decide +kernel
theorem dX9_lays_26 : decode cX9_lays 26 = .ok (.getfield 118, 3) := by decide +kernel
theorem dX9_lays_29 : decode cX9_lays 29 = .ok (.iastore, 1) := by decide +kernel
theorem dX9_lays_30 : decode cX9_lays 30 = .ok (.iconst 0, 1) := by decide +kernel
theorem dX9_lays_31 : decode cX9_lays 31 = .ok (.istore_n 3, 1) := by decide +kernel
theorem dX9_lays_32 : decode cX9_lays 32 = .ok (.iload_n 3, 1) := by decide +kernel
theorem dX9_lays_33 : decode cX9_lays 33 = .ok (.aload_n 0, 1) := by decide +kernel
theorem dX9_lays_34 : decode cX9_lays 34 = .ok (.getfield 121, 3) := by decide +kernel
theorem dX9_lays_37 : decode cX9_lays 37 = .ok (.if_icmp .ge 30, 3) := by decide +kernel
theorem dX9_lays_40 : decode cX9_lays 40 = .ok (.aload_n 0, 1) := by decide +kernel
theorem dX9_lays_41 : decode cX9_lays 41 = .ok (.getfield 35, 3) := by decide +kernel
theorem dX9_lays_44 : decode cX9_lays 44 = .ok (.bipush 24, 2) := by decide +kernel
theorem dX9_lays_46 : decode cX9_lays 46 = .ok (.iload_n 1, 1) := by decide +kernel
theorem dX9_lays_47 : decode cX9_lays 47 = .ok (.imul, 1) := by decide +kernel
theorem dX9_lays_48 : decode cX9_lays 48 = .ok (.iconst 4, 1) := by decide +kernel
theorem dX9_lays_49 : decode cX9_lays 49 = .ok (.iload_n 2, 1) := by decide +kernel
theorem dX9_lays_50 : decode cX9_lays 50 = .ok (.imul, 1) := by decide +kernel
theorem dX9_lays_51 : decode cX9_lays 51 = .ok (.iadd, 1) := by decide +kernel
theorem dX9_lays_52 : decode cX9_lays 52 = .ok (.iload_n 3, 1) := by decide +kernel
theorem dX9_lays_53 : decode cX9_lays 53 = .ok (.iadd, 1) := by decide +kernel
theorem dX9_lays_54 : decode cX9_lays 54 = .ok (.aload_n 0, 1) := by decide +kernel
theorem dX9_lays_55 : decode cX9_lays 55 = .ok (.getfield 20, 3) := by decide +kernel
theorem dX9_lays_58 : decode cX9_lays 58 = .ok (.iload_n 3, 1) := by decide +kernel
theorem dX9_lays_59 : decode cX9_lays 59 = .ok (.iaload, 1) := by decide +kernel
theorem dX9_lays_60 : decode cX9_lays 60 = .ok (.iastore, 1) := by decide +kernel
theorem dX9_lays_61 : decode cX9_lays 61 = .ok (.iinc 3 1, 3) := by decide +kernel
theorem dX9_lays_64 : decode cX9_lays 64 = .ok (.goto (-32), 3) := by decide +kernel
theorem dX9_lays_67 : decode cX9_lays 67 = .ok (.iconst 0, 1) := by decide +kernel
theorem dX9_lays_68 : decode cX9_lays 68 = .ok (.istore_n 3, 1) := by decide +kernel
theorem dX9_lays_69 : decode cX9_lays 69 = .ok (.iload_n 3, 1) := by decide +kernel
theorem dX9_lays_70 : decode cX9_lays 70 = .ok (.aload_n 0, 1) := by decide +kernel
theorem dX9_lays_71 : decode cX9_lays 71 = .ok (.getfield 118, 3) := by decide +kernel
theorem dX9_lays_74 : decode cX9_lays 74 = .ok (.if_icmp .ge 31, 3) := by decide +kernel
theorem dX9_lays_77 : decode cX9_lays 77 = .ok (.aload_n 0, 1) := by decide +kernel
theorem dX9_lays_78 : decode cX9_lays 78 = .ok (.getfield 41, 3) := by decide +kernel
theorem dX9_lays_81 : decode cX9_lays 81 = .ok (.bipush 36, 2) := by decide +kernel
theorem dX9_lays_83 : decode cX9_lays 83 = .ok (.iload_n 1, 1) := by decide +kernel
theorem dX9_lays_84 : decode cX9_lays 84 = .ok (.imul, 1) := by decide +kernel
theorem dX9_lays_85 : decode cX9_lays 85 = .ok (.bipush 6, 2) := by decide +kernel
theorem dX9_lays_87 : decode cX9_lays 87 = .ok (.iload_n 2, 1) := by decide +kernel
theorem dX9_lays_88 : decode cX9_lays 88 = .ok (.imul, 1) := by decide +kernel
theorem dX9_lays_89 : decode cX9_lays 89 = .ok (.iadd, 1) := by decide +kernel
theorem dX9_lays_90 : decode cX9_lays 90 = .ok (.iload_n 3, 1) := by decide +kernel
theorem dX9_lays_91 : decode cX9_lays 91 = .ok (.iadd, 1) := by decide +kernel
theorem dX9_lays_92 : decode cX9_lays 92 = .ok (.aload_n 0, 1) := by decide +kernel
theorem dX9_lays_93 : decode cX9_lays 93 = .ok (.getfield 23, 3) := by decide +kernel
theorem dX9_lays_96 : decode cX9_lays 96 = .ok (.iload_n 3, 1) := by decide +kernel
theorem dX9_lays_97 : decode cX9_lays 97 = .ok (.iaload, 1) := by decide +kernel
theorem dX9_lays_98 : decode cX9_lays 98 = .ok (.iastore, 1) := by decide +kernel
theorem dX9_lays_99 : decode cX9_lays 99 = .ok (.iinc 3 1, 3) := by decide +kernel
theorem dX9_lays_102 : decode cX9_lays 102 = .ok (.goto (-33), 3) := by decide +kernel
theorem dX9_lays_105 : decode cX9_lays 105 = .ok (.return_, 1) := by decide +kernel
theorem dX9_test_0 : decode cX9_test 0 = .ok (.aload_n 0, 1) := by decide +kernel
theorem dX9_test_1 : decode cX9_test 1 = .ok (.aload_n 0, 1) := by decide +kernel
theorem dX9_test_2 : decode cX9_test 2 = .ok (.iload_n 1, 1) := by decide +kernel
theorem dX9_test_3 : decode cX9_test 3 = .ok (.invokevirtual 133, 3) := by decide +kernel
theorem dX9_test_6 : decode cX9_test 6 = .ok (.ifCond .eq 7, 3) := by decide +kernel
theorem dX9_test_9 : decode cX9_test 9 = .ok (.iconst 1, 1) := by decide +kernel
theorem dX9_test_10 : decode cX9_test 10 = .ok (.goto 19, 3) := by decide +kernel
theorem dX9_test_13 : decode cX9_test 13 = .ok (.aload_n 0, 1) := by decide +kernel
theorem dX9_test_14 : decode cX9_test 14 = .ok (.getfield 32, 3) := by decide +kernel
theorem dX9_test_17 : decode cX9_test 17 = .ok (.iload_n 1, 1) := by decide +kernel
theorem dX9_test_18 : decode cX9_test 18 = .ok (.iaload, 1) := by decide +kernel
theorem dX9_test_19 : decode cX9_test 19 = .ok (.bipush 6, 2) := by decide +kernel
theorem dX9_test_21 : decode cX9_test 21 = .ok (.if_icmp .ne 7, 3) := by decide +kernel
theorem dX9_test_24 : decode cX9_test 24 = .ok (.iconst 2, 1) := by decide +kernel
theorem dX9_test_25 : decode cX9_test 25 = .ok (.goto 4, 3) := by decide +kernel
theorem dX9_test_28 : decode cX9_test 28 = .ok (.iconst 0, 1) := by decide +kernel
theorem dX9_test_29 : decode cX9_test 29 = .ok (.invokevirtual 114, 3) := by decide +kernel
theorem dX9_test_32 : decode cX9_test 32 = .ok (.ifCond .eq 5, 3) := by decide +kernel
theorem dX9_test_35 : decode cX9_test 35 = .ok (.iconst 0, 1) := by decide +kernel
theorem dX9_test_36 : decode cX9_test 36 = .ok (.ireturn, 1) := by decide +kernel
theorem dX9_test_37 : decode cX9_test 37 = .ok (.aload_n 0, 1) := by decide +kernel
theorem dX9_test_38 : decode cX9_test 38 = .ok (.getfield 32, 3) := by decide +kernel
theorem dX9_test_41 : decode cX9_test 41 = .ok (.iload_n 1, 1) := by decide +kernel
theorem dX9_test_42 : decode cX9_test 42 = .ok (.iaload, 1) := by decide +kernel
theorem dX9_test_43 : decode cX9_test 43 = .ok (.istore_n 2, 1) := by decide +kernel
theorem dX9_test_44 : decode cX9_test 44 = .ok (.aload_n 0, 1) := by decide +kernel
theorem dX9_test_45 : decode cX9_test 45 = .ok (.iload_n 1, 1) := by decide +kernel
theorem dX9_test_46 : decode cX9_test 46 = .ok (.iload_n 2, 1) := by decide +kernel
theorem dX9_test_47 : decode cX9_test 47 = .ok (.invokevirtual 136, 3) := by decide +kernel
theorem dX9_test_50 : decode cX9_test 50 = .ok (.aload_n 0, 1) := by decide +kernel
theorem dX9_test_51 : decode cX9_test 51 = .ok (.iload_n 1, 1) := by decide +kernel
theorem dX9_test_52 : decode cX9_test 52 = .ok (.iload_n 2, 1) := by decide +kernel
theorem dX9_test_53 : decode cX9_test 53 = .ok (.iload_n 2, 1) := by decide +kernel
theorem dX9_test_54 : decode cX9_test 54 = .ok (.iconst 1, 1) := by decide +kernel
theorem dX9_test_55 : decode cX9_test 55 = .ok (.iadd, 1) := by decide +kernel
theorem dX9_test_56 : decode cX9_test 56 = .ok (.invokevirtual 140, 3) := by decide +kernel
theorem dX9_test_59 : decode cX9_test 59 = .ok (.ireturn, 1) := by decide +kernel
theorem dX9_fix_0 : decode cX9_fix 0 = .ok (.aload_n 0, 1) := by decide +kernel
theorem dX9_fix_1 : decode cX9_fix 1 = .ok (.aload_n 0, 1) := by decide +kernel
theorem dX9_fix_2 : decode cX9_fix 2 = .ok (.iload_n 1, 1) := by decide +kernel
theorem dX9_fix_3 : decode cX9_fix 3 = .ok (.invokevirtual 133, 3) := by decide +kernel
theorem dX9_fix_6 : decode cX9_fix 6 = .ok (.ifCond .ne 19, 3) := by decide +kernel
theorem dX9_fix_9 : decode cX9_fix 9 = .ok (.iload_n 2, 1) := by decide +kernel
theorem dX9_fix_10 : decode cX9_fix 10 = .ok (.iconst 0, 1) := by decide +kernel
theorem dX9_fix_11 : decode cX9_fix 11 = .ok (.aload_n 0, 1) := by decide +kernel
theorem dX9_fix_12 : decode cX9_fix 12 = .ok (.getfield 32, 3) := by decide +kernel
theorem dX9_fix_15 : decode cX9_fix 15 = .ok (.iload_n 1, 1) := by decide +kernel
theorem dX9_fix_16 : decode cX9_fix 16 = .ok (.iaload, 1) := by decide +kernel
theorem dX9_fix_17 : decode cX9_fix 17 = .ok (.iconst 1, 1) := by decide +kernel
theorem dX9_fix_18 : decode cX9_fix 18 = .ok (.isub, 1) := by decide +kernel
theorem dX9_fix_19 : decode cX9_fix 19 = .ok (.invokestatic 103, 3) := by decide +kernel
theorem dX9_fix_22 : decode cX9_fix 22 = .ok (.ifCond .ne 7, 3) := by decide +kernel
theorem dX9_fix_25 : decode cX9_fix 25 = .ok (.iconst 1, 1) := by decide +kernel
theorem dX9_fix_26 : decode cX9_fix 26 = .ok (.goto 4, 3) := by decide +kernel
theorem dX9_fix_29 : decode cX9_fix 29 = .ok (.iconst 0, 1) := by decide +kernel
theorem dX9_fix_30 : decode cX9_fix 30 = .ok (.invokevirtual 114, 3) := by decide +kernel
theorem dX9_fix_33 : decode cX9_fix 33 = .ok (.ifCond .eq 5, 3) := by decide +kernel
theorem dX9_fix_36 : decode cX9_fix 36 = .ok (.iconst 0, 1) := by decide +kernel
theorem dX9_fix_37 : decode cX9_fix 37 = .ok (.ireturn, 1) := by decide +kernel
theorem dX9_fix_38 : decode cX9_fix 38 = .ok (.aload_n 0, 1) := by decide +kernel
theorem dX9_fix_39 : decode cX9_fix 39 = .ok (.iload_n 1, 1) := by decide +kernel
theorem dX9_fix_40 : decode cX9_fix 40 = .ok (.iload_n 2, 1) := by decide +kernel
theorem dX9_fix_41 : decode cX9_fix 41 = .ok (.invokevirtual 136, 3) := by decide +kernel
theorem dX9_fix_44 : decode cX9_fix 44 = .ok (.aload_n 0, 1) := by decide +kernel
theorem dX9_fix_45 : decode cX9_fix 45 = .ok (.iload_n 1, 1) := by decide +kernel
theorem dX9_fix_46 : decode cX9_fix 46 = .ok (.iload_n 2, 1) := by decide +kernel
theorem dX9_fix_47 : decode cX9_fix 47 = .ok (.aload_n 0, 1) := by decide +kernel
theorem dX9_fix_48 : decode cX9_fix 48 = .ok (.getfield 32, 3) := by decide +kernel
theorem dX9_fix_51 : decode cX9_fix 51 = .ok (.iload_n 1, 1) := by decide +kernel
theorem dX9_fix_52 : decode cX9_fix 52 = .ok (.iaload, 1) := by decide +kernel
theorem dX9_fix_53 : decode cX9_fix 53 = .ok (.invokevirtual 140, 3) := by decide +kernel
theorem dX9_fix_56 : decode cX9_fix 56 = .ok (.ireturn, 1) := by decide +kernel
theorem dX9_tests_0 : decode cX9_tests 0 = .ok (.aload_n 0, 1) := by decide +kernel
theorem dX9_tests_1 : decode cX9_tests 1 = .ok (.aload_n 0, 1) := by decide +kernel
theorem dX9_tests_2 : decode cX9_tests 2 = .ok (.iload_n 1, 1) := by decide +kernel
theorem dX9_tests_3 : decode cX9_tests 3 = .ok (.invokevirtual 133, 3) := by decide +kernel
theorem dX9_tests_6 : decode cX9_tests 6 = .ok (.ifCond .eq 7, 3) := by decide +kernel
theorem dX9_tests_9 : decode cX9_tests 9 = .ok (.iconst 1, 1) := by decide +kernel
theorem dX9_tests_10 : decode cX9_tests 10 = .ok (.goto 4, 3) := by decide +kernel
theorem dX9_tests_13 : decode cX9_tests 13 = .ok (.iconst 0, 1) := by decide +kernel
theorem dX9_tests_14 : decode cX9_tests 14 = .ok (.invokevirtual 114, 3) := by decide +kernel
theorem dX9_tests_17 : decode cX9_tests 17 = .ok (.ifCond .eq 7, 3) := by decide +kernel
theorem dX9_tests_20 : decode cX9_tests 20 = .ok (.iconst 0, 1) := by decide +kernel
theorem dX9_tests_21 : decode cX9_tests 21 = .ok (.goto 9, 3) := by decide +kernel
theorem dX9_tests_24 : decode cX9_tests 24 = .ok (.aload_n 0, 1) := by decide +kernel
theorem dX9_tests_25 : decode cX9_tests 25 = .ok (.getfield 32, 3) := by decide +kernel
theorem dX9_tests_28 : decode cX9_tests 28 = .ok (.iload_n 1, 1) := by decide +kernel
theorem dX9_tests_29 : decode cX9_tests 29 = .ok (.iaload, 1) := by decide +kernel
theorem dX9_tests_30 : decode cX9_tests 30 = .ok (.ireturn, 1) := by decide +kernel
theorem dX9_judges_0 : decode cX9_judges 0 = .ok (.iconst 0, 1) := by decide +kernel
theorem dX9_judges_1 : decode cX9_judges 1 = .ok (.istore_n 3, 1) := by decide +kernel
theorem dX9_judges_2 : decode cX9_judges 2 = .ok (.iload_n 3, 1) := by decide +kernel
theorem dX9_judges_3 : decode cX9_judges 3 = .ok (.iconst 4, 1) := by decide +kernel
theorem dX9_judges_4 : decode cX9_judges 4 = .ok (.if_icmp .ge 16, 3) := by decide +kernel
theorem dX9_judges_7 : decode cX9_judges 7 = .ok (.aload_n 0, 1) := by decide +kernel
theorem dX9_judges_8 : decode cX9_judges 8 = .ok (.getfield 80, 3) := by decide +kernel
theorem dX9_judges_11 : decode cX9_judges 11 = .ok (.iload_n 3, 1) := by decide +kernel
theorem dX9_judges_12 : decode cX9_judges 12 = .ok (.iconst 0, 1) := by decide +kernel
theorem dX9_judges_13 : decode cX9_judges 13 = .ok (.iastore, 1) := by decide +kernel
theorem dX9_judges_14 : decode cX9_judges 14 = .ok (.iinc 3 1, 3) := by decide +kernel
theorem dX9_judges_17 : decode cX9_judges 17 = .ok (.goto (-15), 3) := by decide +kernel
theorem dX9_judges_20 : decode cX9_judges 20 = .ok (.aload_n 0, 1) := by decide +kernel
theorem dX9_judges_21 : decode cX9_judges 21 = .ok (.getfield 77, 3) := by decide +kernel
theorem dX9_judges_24 : decode cX9_judges 24 = .ok (.bipush 6, 2) := by decide +kernel
theorem dX9_judges_26 : decode cX9_judges 26 = .ok (.iload_n 1, 1) := by decide +kernel
theorem dX9_judges_27 : decode cX9_judges 27 = .ok (.imul, 1) := by decide +kernel
theorem dX9_judges_28 : decode cX9_judges 28 = .ok (.iload_n 2, 1) := by decide +kernel
theorem dX9_judges_29 : decode cX9_judges 29 = .ok (.iadd, 1) := by decide +kernel
theorem dX9_judges_30 : decode cX9_judges 30 = .ok (.iconst 0, 1) := by decide +kernel
theorem dX9_judges_31 : decode cX9_judges 31 = .ok (.iastore, 1) := by decide +kernel
theorem dX9_judges_32 : decode cX9_judges 32 = .ok (.aload_n 0, 1) := by decide +kernel
theorem dX9_judges_33 : decode cX9_judges 33 = .ok (.getfield 71, 3) := by decide +kernel
theorem dX9_judges_36 : decode cX9_judges 36 = .ok (.bipush 6, 2) := by decide +kernel
theorem dX9_judges_38 : decode cX9_judges 38 = .ok (.iload_n 1, 1) := by decide +kernel
theorem dX9_judges_39 : decode cX9_judges 39 = .ok (.imul, 1) := by decide +kernel
theorem dX9_judges_40 : decode cX9_judges 40 = .ok (.iload_n 2, 1) := by decide +kernel
theorem dX9_judges_41 : decode cX9_judges 41 = .ok (.iadd, 1) := by decide +kernel
theorem dX9_judges_42 : decode cX9_judges 42 = .ok (.iconst 0, 1) := by decide +kernel
theorem dX9_judges_43 : decode cX9_judges 43 = .ok (.iastore, 1) := by decide +kernel
theorem dX9_judges_44 : decode cX9_judges 44 = .ok (.bipush 32, 2) := by decide +kernel
theorem dX9_judges_46 : decode cX9_judges 46 = .ok (.istore_n 3, 1) := by decide +kernel
theorem dX9_judges_47 : decode cX9_judges 47 = .ok (.iconst 0, 1) := by decide +kernel
theorem dX9_judges_48 : decode cX9_judges 48 = .ok (.istore 4, 2) := by decide +kernel
theorem dX9_judges_50 : decode cX9_judges 50 = .ok (.iconst 0, 1) := by decide +kernel
theorem dX9_judges_51 : decode cX9_judges 51 = .ok (.istore 5, 2) := by decide +kernel
theorem dX9_judges_53 : decode cX9_judges 53 = .ok (.aload_n 0, 1) := by decide +kernel
theorem dX9_judges_54 : decode cX9_judges 54 = .ok (.getfield 50, 3) := by decide +kernel
theorem dX9_judges_57 : decode cX9_judges 57 = .ok (.iload_n 1, 1) := by decide +kernel
theorem dX9_judges_58 : decode cX9_judges 58 = .ok (.iaload, 1) := by decide +kernel
theorem dX9_judges_59 : decode cX9_judges 59 = .ok (.istore 6, 2) := by decide +kernel
theorem dX9_judges_61 : decode cX9_judges 61 = .ok (.iload_n 3, 1) := by decide +kernel
theorem dX9_judges_62 : decode cX9_judges 62 = .ok (.bipush 32, 2) := by decide +kernel
theorem dX9_judges_64 : decode cX9_judges 64 = .ok (.if_icmp .ne 327, 3) := by decide +kernel
theorem dX9_judges_67 : decode cX9_judges 67 = .ok (.iload 4, 2) := by decide +kernel
theorem dX9_judges_69 : decode cX9_judges 69 = .ok (.aload_n 0, 1) := by decide +kernel
theorem dX9_judges_70 : decode cX9_judges 70 = .ok (.getfield 56, 3) := by decide +kernel
theorem dX9_judges_73 : decode cX9_judges 73 = .ok (.iload_n 1, 1) := by decide +kernel
theorem dX9_judges_74 : decode cX9_judges 74 = .ok (.iaload, 1) := by decide +kernel
theorem dX9_judges_75 : decode cX9_judges 75 = .ok (.if_icmp .ne 23, 3) := by decide +kernel
theorem dX9_judges_78 : decode cX9_judges 78 = .ok (.aload_n 0, 1) := by decide +kernel
theorem dX9_judges_79 : decode cX9_judges 79 = .ok (.iload_n 1, 1) := by decide +kernel
theorem dX9_judges_80 : decode cX9_judges 80 = .ok (.iload_n 2, 1) := by decide +kernel
theorem dX9_judges_81 : decode cX9_judges 81 = .ok (.invokevirtual 144, 3) := by decide +kernel
theorem dX9_judges_84 : decode cX9_judges 84 = .ok (.ifCond .eq 8, 3) := by decide +kernel
theorem dX9_judges_87 : decode cX9_judges 87 = .ok (.bipush 111, 2) := by decide +kernel
theorem dX9_judges_89 : decode cX9_judges 89 = .ok (.goto 5, 3) := by decide +kernel
theorem dX9_judges_92 : decode cX9_judges 92 = .ok (.bipush 119, 2) := by decide +kernel
theorem dX9_judges_94 : decode cX9_judges 94 = .ok (.istore_n 3, 1) := by decide +kernel
theorem dX9_judges_95 : decode cX9_judges 95 = .ok (.goto (-34), 3) := by decide +kernel
theorem dX9_judges_98 : decode cX9_judges 98 = .ok (.aload_n 0, 1) := by decide +kernel
theorem dX9_judges_99 : decode cX9_judges 99 = .ok (.getfield 71, 3) := by decide +kernel
theorem dX9_judges_102 : decode cX9_judges 102 = .ok (.bipush 6, 2) := by decide +kernel
theorem dX9_judges_104 : decode cX9_judges 104 = .ok (.iload_n 1, 1) := by decide +kernel
theorem dX9_judges_105 : decode cX9_judges 105 = .ok (.imul, 1) := by decide +kernel
theorem dX9_judges_106 : decode cX9_judges 106 = .ok (.iload_n 2, 1) := by decide +kernel
theorem dX9_judges_107 : decode cX9_judges 107 = .ok (.iadd, 1) := by decide +kernel
theorem dX9_judges_108 : decode cX9_judges 108 = .ok (.iaload, 1) := by decide +kernel
theorem dX9_judges_109 : decode cX9_judges 109 = .ok (.aload_n 0, 1) := by decide +kernel
theorem dX9_judges_110 : decode cX9_judges 110 = .ok (.getfield 29, 3) := by decide +kernel
theorem dX9_judges_113 : decode cX9_judges 113 = .ok (.iload 6, 2) := by decide +kernel
theorem dX9_judges_115 : decode cX9_judges 115 = .ok (.iaload, 1) := by decide +kernel
theorem dX9_judges_116 : decode cX9_judges 116 = .ok (.if_icmp .ne 9, 3) := by decide +kernel
theorem dX9_judges_119 : decode cX9_judges 119 = .ok (.bipush 116, 2) := by decide +kernel
theorem dX9_judges_121 : decode cX9_judges 121 = .ok (.istore_n 3, 1) := by decide +kernel
theorem dX9_judges_122 : decode cX9_judges 122 = .ok (.goto (-61), 3) := by decide +kernel
theorem dX9_judges_125 : decode cX9_judges 125 = .ok (.aload_n 0, 1) := by decide +kernel
theorem dX9_judges_126 : decode cX9_judges 126 = .ok (.getfield 71, 3) := by decide +kernel
theorem dX9_judges_129 : decode cX9_judges 129 = .ok (.bipush 6, 2) := by decide +kernel
theorem dX9_judges_131 : decode cX9_judges 131 = .ok (.iload_n 1, 1) := by decide +kernel
theorem dX9_judges_132 : decode cX9_judges 132 = .ok (.imul, 1) := by decide +kernel
theorem dX9_judges_133 : decode cX9_judges 133 = .ok (.iload_n 2, 1) := by decide +kernel
theorem dX9_judges_134 : decode cX9_judges 134 = .ok (.iadd, 1) := by decide +kernel
theorem dX9_judges_135 : decode cX9_judges 135 = .ok (.dup2, 1) := by decide +kernel
theorem dX9_judges_136 : decode cX9_judges 136 = .ok (.iaload, 1) := by decide +kernel
theorem dX9_judges_137 : decode cX9_judges 137 = .ok (.iconst 1, 1) := by decide +kernel
theorem dX9_judges_138 : decode cX9_judges 138 = .ok (.iadd, 1) := by decide +kernel
theorem dX9_judges_139 : decode cX9_judges 139 = .ok (.iastore, 1) := by decide +kernel
theorem dX9_judges_140 : decode cX9_judges 140 = .ok (.aload_n 0, 1) := by decide +kernel
theorem dX9_judges_141 : decode cX9_judges 141 = .ok (.getfield 59, 3) := by decide +kernel
theorem dX9_judges_144 : decode cX9_judges 144 = .ok (.bipush 20, 2) := by decide +kernel
theorem dX9_judges_146 : decode cX9_judges 146 = .ok (.iload_n 1, 1) := by decide +kernel
theorem dX9_judges_147 : decode cX9_judges 147 = .ok (.imul, 1) := by decide +kernel
theorem dX9_judges_148 : decode cX9_judges 148 = .ok (.iload 4, 2) := by decide +kernel
theorem dX9_judges_150 : decode cX9_judges 150 = .ok (.iadd, 1) := by decide +kernel
theorem dX9_judges_151 : decode cX9_judges 151 = .ok (.caload, 1) := by decide +kernel
theorem dX9_judges_152 : decode cX9_judges 152 = .ok (.istore 7, 2) := by decide +kernel
theorem dX9_judges_154 : decode cX9_judges 154 = .ok (.aload_n 0, 1) := by decide +kernel
theorem dX9_judges_155 : decode cX9_judges 155 = .ok (.getfield 62, 3) := by decide +kernel
theorem dX9_judges_158 : decode cX9_judges 158 = .ok (.bipush 20, 2) := by decide +kernel
theorem dX9_judges_160 : decode cX9_judges 160 = .ok (.iload_n 1, 1) := by decide +kernel
theorem dX9_judges_161 : decode cX9_judges 161 = .ok (.imul, 1) := by decide +kernel
theorem dX9_judges_162 : decode cX9_judges 162 = .ok (.iload 4, 2) := by decide +kernel
theorem dX9_judges_164 : decode cX9_judges 164 = .ok (.iadd, 1) := by decide +kernel
theorem dX9_judges_165 : decode cX9_judges 165 = .ok (.iaload, 1) := by decide +kernel
theorem dX9_judges_166 : decode cX9_judges 166 = .ok (.istore 8, 2) := by decide +kernel
theorem dX9_judges_168 : decode cX9_judges 168 = .ok (.aload_n 0, 1) := by decide +kernel
theorem dX9_judges_169 : decode cX9_judges 169 = .ok (.getfield 65, 3) := by decide +kernel
theorem dX9_judges_172 : decode cX9_judges 172 = .ok (.bipush 20, 2) := by decide +kernel
theorem dX9_judges_174 : decode cX9_judges 174 = .ok (.iload_n 1, 1) := by decide +kernel
theorem dX9_judges_175 : decode cX9_judges 175 = .ok (.imul, 1) := by decide +kernel
theorem dX9_judges_176 : decode cX9_judges 176 = .ok (.iload 4, 2) := by decide +kernel
theorem dX9_judges_178 : decode cX9_judges 178 = .ok (.iadd, 1) := by decide +kernel
theorem dX9_judges_179 : decode cX9_judges 179 = .ok (.iaload, 1) := by decide +kernel
theorem dX9_judges_180 : decode cX9_judges 180 = .ok (.istore 9, 2) := by decide +kernel
theorem dX9_judges_182 : decode cX9_judges 182 = .ok (.iinc 4 1, 3) := by decide +kernel
theorem dX9_judges_185 : decode cX9_judges 185 = .ok (.iload 7, 2) := by decide +kernel
theorem dX9_judges_187 : decode cX9_judges 187 = .ok (.bipush 104, 2) := by decide +kernel
theorem dX9_judges_189 : decode cX9_judges 189 = .ok (.if_icmp .ne 14, 3) := by decide +kernel
theorem dX9_judges_192 : decode cX9_judges 192 = .ok (.aload_n 0, 1) := by decide +kernel
theorem dX9_judges_193 : decode cX9_judges 193 = .ok (.getfield 56, 3) := by decide +kernel
theorem dX9_judges_196 : decode cX9_judges 196 = .ok (.iload_n 1, 1) := by decide +kernel
theorem dX9_judges_197 : decode cX9_judges 197 = .ok (.iaload, 1) := by decide +kernel
theorem dX9_judges_198 : decode cX9_judges 198 = .ok (.istore 4, 2) := by decide +kernel
theorem dX9_judges_200 : decode cX9_judges 200 = .ok (.goto 188, 3) := by decide +kernel
theorem dX9_judges_203 : decode cX9_judges 203 = .ok (.iload 7, 2) := by decide +kernel
theorem dX9_judges_205 : decode cX9_judges 205 = .ok (.bipush 105, 2) := by decide +kernel
theorem dX9_judges_207 : decode cX9_judges 207 = .ok (.if_icmp .ne 56, 3) := by decide +kernel
theorem dX9_judges_210 : decode cX9_judges 210 = .ok (.iload 5, 2) := by decide +kernel
theorem dX9_judges_212 : decode cX9_judges 212 = .ok (.aload_n 0, 1) := by decide +kernel
theorem dX9_judges_213 : decode cX9_judges 213 = .ok (.getfield 38, 3) := by decide +kernel
theorem dX9_judges_216 : decode cX9_judges 216 = .ok (.bipush 6, 2) := by decide +kernel
theorem dX9_judges_218 : decode cX9_judges 218 = .ok (.iload 6, 2) := by decide +kernel
theorem dX9_judges_220 : decode cX9_judges 220 = .ok (.imul, 1) := by decide +kernel
theorem dX9_judges_221 : decode cX9_judges 221 = .ok (.iload_n 2, 1) := by decide +kernel
theorem dX9_judges_222 : decode cX9_judges 222 = .ok (.iadd, 1) := by decide +kernel
theorem dX9_judges_223 : decode cX9_judges 223 = .ok (.iaload, 1) := by decide +kernel
theorem dX9_judges_224 : decode cX9_judges 224 = .ok (.if_icmp .ne 9, 3) := by decide +kernel
theorem dX9_judges_227 : decode cX9_judges 227 = .ok (.bipush 114, 2) := by decide +kernel
theorem dX9_judges_229 : decode cX9_judges 229 = .ok (.istore_n 3, 1) := by decide +kernel
theorem dX9_judges_230 : decode cX9_judges 230 = .ok (.goto 158, 3) := by decide +kernel
theorem dX9_judges_233 : decode cX9_judges 233 = .ok (.aload_n 0, 1) := by decide +kernel
theorem dX9_judges_234 : decode cX9_judges 234 = .ok (.getfield 80, 3) := by decide +kernel
theorem dX9_judges_237 : decode cX9_judges 237 = .ok (.iload 8, 2) := by decide +kernel
theorem dX9_judges_239 : decode cX9_judges 239 = .ok (.aload_n 0, 1) := by decide +kernel
theorem dX9_judges_240 : decode cX9_judges 240 = .ok (.getfield 35, 3) := by decide +kernel
theorem dX9_judges_243 : decode cX9_judges 243 = .ok (.bipush 24, 2) := by decide +kernel
theorem dX9_judges_245 : decode cX9_judges 245 = .ok (.iload 6, 2) := by decide +kernel
theorem dX9_judges_247 : decode cX9_judges 247 = .ok (.imul, 1) := by decide +kernel
theorem dX9_judges_248 : decode cX9_judges 248 = .ok (.iconst 4, 1) := by decide +kernel
theorem dX9_judges_249 : decode cX9_judges 249 = .ok (.iload_n 2, 1) := by decide +kernel
theorem dX9_judges_250 : decode cX9_judges 250 = .ok (.imul, 1) := by decide +kernel
theorem dX9_judges_251 : decode cX9_judges 251 = .ok (.iadd, 1) := by decide +kernel
theorem dX9_judges_252 : decode cX9_judges 252 = .ok (.iload 5, 2) := by decide +kernel
theorem dX9_judges_254 : decode cX9_judges 254 = .ok (.iadd, 1) := by decide +kernel
theorem dX9_judges_255 : decode cX9_judges 255 = .ok (.iaload, 1) := by decide +kernel
theorem dX9_judges_256 : decode cX9_judges 256 = .ok (.iastore, 1) := by decide +kernel
theorem dX9_judges_257 : decode cX9_judges 257 = .ok (.iinc 5 1, 3) := by decide +kernel
theorem dX9_judges_260 : decode cX9_judges 260 = .ok (.goto 128, 3) := by decide +kernel
theorem dX9_judges_263 : decode cX9_judges 263 = .ok (.iload 7, 2) := by decide +kernel
theorem dX9_judges_265 : decode cX9_judges 265 = .ok (.bipush 111, 2) := by decide +kernel
theorem dX9_judges_267 : decode cX9_judges 267 = .ok (.if_icmp .ne 20, 3) := by decide +kernel
theorem dX9_judges_270 : decode cX9_judges 270 = .ok (.aload_n 0, 1) := by decide +kernel
theorem dX9_judges_271 : decode cX9_judges 271 = .ok (.iload_n 1, 1) := by decide +kernel
theorem dX9_judges_272 : decode cX9_judges 272 = .ok (.iload_n 2, 1) := by decide +kernel
theorem dX9_judges_273 : decode cX9_judges 273 = .ok (.aload_n 0, 1) := by decide +kernel
theorem dX9_judges_274 : decode cX9_judges 274 = .ok (.getfield 80, 3) := by decide +kernel
theorem dX9_judges_277 : decode cX9_judges 277 = .ok (.iload 8, 2) := by decide +kernel
theorem dX9_judges_279 : decode cX9_judges 279 = .ok (.iaload, 1) := by decide +kernel
theorem dX9_judges_280 : decode cX9_judges 280 = .ok (.invokevirtual 148, 3) := by decide +kernel
theorem dX9_judges_283 : decode cX9_judges 283 = .ok (.istore_n 3, 1) := by decide +kernel
theorem dX9_judges_284 : decode cX9_judges 284 = .ok (.goto 104, 3) := by decide +kernel
theorem dX9_judges_287 : decode cX9_judges 287 = .ok (.iload 7, 2) := by decide +kernel
theorem dX9_judges_289 : decode cX9_judges 289 = .ok (.bipush 106, 2) := by decide +kernel
theorem dX9_judges_291 : decode cX9_judges 291 = .ok (.if_icmp .eq 10, 3) := by decide +kernel
theorem dX9_judges_294 : decode cX9_judges 294 = .ok (.iload 7, 2) := by decide +kernel
theorem dX9_judges_296 : decode cX9_judges 296 = .ok (.bipush 110, 2) := by decide +kernel
theorem dX9_judges_298 : decode cX9_judges 298 = .ok (.if_icmp .ne 79, 3) := by decide +kernel
theorem dX9_judges_301 : decode cX9_judges 301 = .ok (.iload 7, 2) := by decide +kernel
theorem dX9_judges_303 : decode cX9_judges 303 = .ok (.bipush 106, 2) := by decide +kernel
theorem dX9_judges_305 : decode cX9_judges 305 = .ok (.if_icmp .ne 21, 3) := by decide +kernel
theorem dX9_judges_308 : decode cX9_judges 308 = .ok (.aload_n 0, 1) := by decide +kernel
theorem dX9_judges_309 : decode cX9_judges 309 = .ok (.getfield 80, 3) := by decide +kernel
theorem dX9_judges_312 : decode cX9_judges 312 = .ok (.iload 8, 2) := by decide +kernel
theorem dX9_judges_314 : decode cX9_judges 314 = .ok (.iaload, 1) := by decide +kernel
theorem dX9_judges_315 : decode cX9_judges 315 = .ok (.ifCond .eq 7, 3) := by decide +kernel
theorem dX9_judges_318 : decode cX9_judges 318 = .ok (.iconst 1, 1) := by decide +kernel
theorem dX9_judges_319 : decode cX9_judges 319 = .ok (.goto 22, 3) := by decide +kernel
theorem dX9_judges_322 : decode cX9_judges 322 = .ok (.iconst 0, 1) := by decide +kernel
theorem dX9_judges_323 : decode cX9_judges 323 = .ok (.goto 18, 3) := by decide +kernel
theorem dX9_judges_326 : decode cX9_judges 326 = .ok (.aload_n 0, 1) := by decide +kernel
theorem dX9_judges_327 : decode cX9_judges 327 = .ok (.getfield 80, 3) := by decide +kernel
theorem dX9_judges_330 : decode cX9_judges 330 = .ok (.iload 8, 2) := by decide +kernel
theorem dX9_judges_332 : decode cX9_judges 332 = .ok (.iaload, 1) := by decide +kernel
theorem dX9_judges_333 : decode cX9_judges 333 = .ok (.ifCond .ge 7, 3) := by decide +kernel
theorem dX9_judges_336 : decode cX9_judges 336 = .ok (.iconst 1, 1) := by decide +kernel
theorem dX9_judges_337 : decode cX9_judges 337 = .ok (.goto 4, 3) := by decide +kernel
theorem dX9_judges_340 : decode cX9_judges 340 = .ok (.iconst 0, 1) := by decide +kernel
theorem dX9_judges_341 : decode cX9_judges 341 = .ok (.istore 10, 2) := by decide +kernel
theorem dX9_judges_343 : decode cX9_judges 343 = .ok (.iload 10, 2) := by decide +kernel
theorem dX9_judges_345 : decode cX9_judges 345 = .ok (.ifCond .eq 20, 3) := by decide +kernel
theorem dX9_judges_348 : decode cX9_judges 348 = .ok (.iload 9, 2) := by decide +kernel
theorem dX9_judges_350 : decode cX9_judges 350 = .ok (.aload_n 0, 1) := by decide +kernel
theorem dX9_judges_351 : decode cX9_judges 351 = .ok (.getfield 56, 3) := by decide +kernel
theorem dX9_judges_354 : decode cX9_judges 354 = .ok (.iload_n 1, 1) := by decide +kernel
theorem dX9_judges_355 : decode cX9_judges 355 = .ok (.iaload, 1) := by decide +kernel
theorem dX9_judges_356 : decode cX9_judges 356 = .ok (.if_icmp .lt 9, 3) := by decide +kernel
theorem dX9_judges_359 : decode cX9_judges 359 = .ok (.bipush 114, 2) := by decide +kernel
theorem dX9_judges_361 : decode cX9_judges 361 = .ok (.istore_n 3, 1) := by decide +kernel
theorem dX9_judges_362 : decode cX9_judges 362 = .ok (.goto 12, 3) := by decide +kernel
theorem dX9_judges_365 : decode cX9_judges 365 = .ok (.iload 10, 2) := by decide +kernel
theorem dX9_judges_367 : decode cX9_judges 367 = .ok (.ifCond .eq 7, 3) := by decide +kernel
theorem dX9_judges_370 : decode cX9_judges 370 = .ok (.iload 9, 2) := by decide +kernel
theorem dX9_judges_372 : decode cX9_judges 372 = .ok (.istore 4, 2) := by decide +kernel
theorem dX9_judges_374 : decode cX9_judges 374 = .ok (.goto 14, 3) := by decide +kernel
theorem dX9_judges_377 : decode cX9_judges 377 = .ok (.aload_n 0, 1) := by decide +kernel
theorem dX9_judges_378 : decode cX9_judges 378 = .ok (.iload 7, 2) := by decide +kernel
theorem dX9_judges_380 : decode cX9_judges 380 = .ok (.iload 8, 2) := by decide +kernel
theorem dX9_judges_382 : decode cX9_judges 382 = .ok (.iload 9, 2) := by decide +kernel
theorem dX9_judges_384 : decode cX9_judges 384 = .ok (.invokevirtual 152, 3) := by decide +kernel
theorem dX9_judges_387 : decode cX9_judges 387 = .ok (.istore_n 3, 1) := by decide +kernel
theorem dX9_judges_388 : decode cX9_judges 388 = .ok (.goto (-327), 3) := by decide +kernel
theorem dX9_judges_391 : decode cX9_judges 391 = .ok (.aload_n 0, 1) := by decide +kernel
theorem dX9_judges_392 : decode cX9_judges 392 = .ok (.getfield 68, 3) := by decide +kernel
theorem dX9_judges_395 : decode cX9_judges 395 = .ok (.bipush 6, 2) := by decide +kernel
theorem dX9_judges_397 : decode cX9_judges 397 = .ok (.iload_n 1, 1) := by decide +kernel
theorem dX9_judges_398 : decode cX9_judges 398 = .ok (.imul, 1) := by decide +kernel
theorem dX9_judges_399 : decode cX9_judges 399 = .ok (.iload_n 2, 1) := by decide +kernel
theorem dX9_judges_400 : decode cX9_judges 400 = .ok (.iadd, 1) := by decide +kernel
theorem dX9_judges_401 : decode cX9_judges 401 = .ok (.iload_n 3, 1) := by decide +kernel
theorem dX9_judges_402 : decode cX9_judges 402 = .ok (.castore, 1) := by decide +kernel
theorem dX9_judges_403 : decode cX9_judges 403 = .ok (.return_, 1) := by decide +kernel
theorem dX9_tells_0 : decode cX9_tells 0 = .ok (.aload_n 0, 1) := by decide +kernel
theorem dX9_tells_1 : decode cX9_tells 1 = .ok (.getfield 77, 3) := by decide +kernel
theorem dX9_tells_4 : decode cX9_tells 4 = .ok (.bipush 6, 2) := by decide +kernel
theorem dX9_tells_6 : decode cX9_tells 6 = .ok (.iload_n 1, 1) := by decide +kernel
theorem dX9_tells_7 : decode cX9_tells 7 = .ok (.imul, 1) := by decide +kernel
theorem dX9_tells_8 : decode cX9_tells 8 = .ok (.iload_n 2, 1) := by decide +kernel
theorem dX9_tells_9 : decode cX9_tells 9 = .ok (.iadd, 1) := by decide +kernel
theorem dX9_tells_10 : decode cX9_tells 10 = .ok (.iaload, 1) := by decide +kernel
theorem dX9_tells_11 : decode cX9_tells 11 = .ok (.bipush 6, 2) := by decide +kernel
theorem dX9_tells_13 : decode cX9_tells 13 = .ok (.if_icmp .ne 6, 3) := by decide +kernel
theorem dX9_tells_16 : decode cX9_tells 16 = .ok (.bipush 108, 2) := by decide +kernel
theorem dX9_tells_18 : decode cX9_tells 18 = .ok (.ireturn, 1) := by decide +kernel
theorem dX9_tells_19 : decode cX9_tells 19 = .ok (.aload_n 0, 1) := by decide +kernel
theorem dX9_tells_20 : decode cX9_tells 20 = .ok (.getfield 74, 3) := by decide +kernel
theorem dX9_tells_23 : decode cX9_tells 23 = .ok (.bipush 36, 2) := by decide +kernel
theorem dX9_tells_25 : decode cX9_tells 25 = .ok (.iload_n 1, 1) := by decide +kernel
theorem dX9_tells_26 : decode cX9_tells 26 = .ok (.imul, 1) := by decide +kernel
theorem dX9_tells_27 : decode cX9_tells 27 = .ok (.bipush 6, 2) := by decide +kernel
theorem dX9_tells_29 : decode cX9_tells 29 = .ok (.iload_n 2, 1) := by decide +kernel
theorem dX9_tells_30 : decode cX9_tells 30 = .ok (.imul, 1) := by decide +kernel
theorem dX9_tells_31 : decode cX9_tells 31 = .ok (.iadd, 1) := by decide +kernel
theorem dX9_tells_32 : decode cX9_tells 32 = .ok (.aload_n 0, 1) := by decide +kernel
theorem dX9_tells_33 : decode cX9_tells 33 = .ok (.getfield 77, 3) := by decide +kernel
theorem dX9_tells_36 : decode cX9_tells 36 = .ok (.bipush 6, 2) := by decide +kernel
theorem dX9_tells_38 : decode cX9_tells 38 = .ok (.iload_n 1, 1) := by decide +kernel
theorem dX9_tells_39 : decode cX9_tells 39 = .ok (.imul, 1) := by decide +kernel
theorem dX9_tells_40 : decode cX9_tells 40 = .ok (.iload_n 2, 1) := by decide +kernel
theorem dX9_tells_41 : decode cX9_tells 41 = .ok (.iadd, 1) := by decide +kernel
theorem dX9_tells_42 : decode cX9_tells 42 = .ok (.iaload, 1) := by decide +kernel
theorem dX9_tells_43 : decode cX9_tells 43 = .ok (.iadd, 1) := by decide +kernel
theorem dX9_tells_44 : decode cX9_tells 44 = .ok (.iload_n 3, 1) := by decide +kernel
theorem dX9_tells_45 : decode cX9_tells 45 = .ok (.iastore, 1) := by decide +kernel
theorem dX9_tells_46 : decode cX9_tells 46 = .ok (.aload_n 0, 1) := by decide +kernel
theorem dX9_tells_47 : decode cX9_tells 47 = .ok (.getfield 77, 3) := by decide +kernel
theorem dX9_tells_50 : decode cX9_tells 50 = .ok (.bipush 6, 2) := by decide +kernel
theorem dX9_tells_52 : decode cX9_tells 52 = .ok (.iload_n 1, 1) := by decide +kernel
theorem dX9_tells_53 : decode cX9_tells 53 = .ok (.imul, 1) := by decide +kernel
theorem dX9_tells_54 : decode cX9_tells 54 = .ok (.iload_n 2, 1) := by decide +kernel
theorem dX9_tells_55 : decode cX9_tells 55 = .ok (.iadd, 1) := by decide +kernel
theorem dX9_tells_56 : decode cX9_tells 56 = .ok (.dup2, 1) := by decide +kernel
theorem dX9_tells_57 : decode cX9_tells 57 = .ok (.iaload, 1) := by decide +kernel
theorem dX9_tells_58 : decode cX9_tells 58 = .ok (.iconst 1, 1) := by decide +kernel
theorem dX9_tells_59 : decode cX9_tells 59 = .ok (.iadd, 1) := by decide +kernel
theorem dX9_tells_60 : decode cX9_tells 60 = .ok (.iastore, 1) := by decide +kernel
theorem dX9_tells_61 : decode cX9_tells 61 = .ok (.bipush 32, 2) := by decide +kernel
theorem dX9_tells_63 : decode cX9_tells 63 = .ok (.ireturn, 1) := by decide +kernel
theorem dX9_reckons_0 : decode cX9_reckons 0 = .ok (.iload_n 1, 1) := by decide +kernel
theorem dX9_reckons_1 : decode cX9_reckons 1 = .ok (.bipush 100, 2) := by decide +kernel
theorem dX9_reckons_3 : decode cX9_reckons 3 = .ok (.if_icmp .ne 15, 3) := by decide +kernel
theorem dX9_reckons_6 : decode cX9_reckons 6 = .ok (.aload_n 0, 1) := by decide +kernel
theorem dX9_reckons_7 : decode cX9_reckons 7 = .ok (.getfield 80, 3) := by decide +kernel
theorem dX9_reckons_10 : decode cX9_reckons 10 = .ok (.iload_n 3, 1) := by decide +kernel
theorem dX9_reckons_11 : decode cX9_reckons 11 = .ok (.iaload, 1) := by decide +kernel
theorem dX9_reckons_12 : decode cX9_reckons 12 = .ok (.ifCond .ne 6, 3) := by decide +kernel
theorem dX9_reckons_15 : decode cX9_reckons 15 = .ok (.bipush 114, 2) := by decide +kernel
theorem dX9_reckons_17 : decode cX9_reckons 17 = .ok (.ireturn, 1) := by decide +kernel
theorem dX9_reckons_18 : decode cX9_reckons 18 = .ok (.iload_n 1, 1) := by decide +kernel
theorem dX9_reckons_19 : decode cX9_reckons 19 = .ok (.bipush 115, 2) := by decide +kernel
theorem dX9_reckons_21 : decode cX9_reckons 21 = .ok (.if_icmp .ne 13, 3) := by decide +kernel
theorem dX9_reckons_24 : decode cX9_reckons 24 = .ok (.aload_n 0, 1) := by decide +kernel
theorem dX9_reckons_25 : decode cX9_reckons 25 = .ok (.getfield 80, 3) := by decide +kernel
theorem dX9_reckons_28 : decode cX9_reckons 28 = .ok (.iload_n 2, 1) := by decide +kernel
theorem dX9_reckons_29 : decode cX9_reckons 29 = .ok (.iload_n 3, 1) := by decide +kernel
theorem dX9_reckons_30 : decode cX9_reckons 30 = .ok (.iastore, 1) := by decide +kernel
theorem dX9_reckons_31 : decode cX9_reckons 31 = .ok (.goto 66, 3) := by decide +kernel
theorem dX9_reckons_34 : decode cX9_reckons 34 = .ok (.iload_n 1, 1) := by decide +kernel
theorem dX9_reckons_35 : decode cX9_reckons 35 = .ok (.bipush 97, 2) := by decide +kernel
theorem dX9_reckons_37 : decode cX9_reckons 37 = .ok (.if_icmp .ne 21, 3) := by decide +kernel
theorem dX9_reckons_40 : decode cX9_reckons 40 = .ok (.aload_n 0, 1) := by decide +kernel
theorem dX9_reckons_41 : decode cX9_reckons 41 = .ok (.getfield 80, 3) := by decide +kernel
theorem dX9_reckons_44 : decode cX9_reckons 44 = .ok (.iload_n 2, 1) := by decide +kernel
theorem dX9_reckons_45 : decode cX9_reckons 45 = .ok (.dup2, 1) := by decide +kernel
theorem dX9_reckons_46 : decode cX9_reckons 46 = .ok (.iaload, 1) := by decide +kernel
theorem dX9_reckons_47 : decode cX9_reckons 47 = .ok (.aload_n 0, 1) := by decide +kernel
theorem dX9_reckons_48 : decode cX9_reckons 48 = .ok (.getfield 80, 3) := by decide +kernel
theorem dX9_reckons_51 : decode cX9_reckons 51 = .ok (.iload_n 3, 1) := by decide +kernel
theorem dX9_reckons_52 : decode cX9_reckons 52 = .ok (.iaload, 1) := by decide +kernel
theorem dX9_reckons_53 : decode cX9_reckons 53 = .ok (.iadd, 1) := by decide +kernel
theorem dX9_reckons_54 : decode cX9_reckons 54 = .ok (.iastore, 1) := by decide +kernel
theorem dX9_reckons_55 : decode cX9_reckons 55 = .ok (.goto 42, 3) := by decide +kernel
theorem dX9_reckons_58 : decode cX9_reckons 58 = .ok (.iload_n 1, 1) := by decide +kernel
theorem dX9_reckons_59 : decode cX9_reckons 59 = .ok (.bipush 109, 2) := by decide +kernel
theorem dX9_reckons_61 : decode cX9_reckons 61 = .ok (.if_icmp .ne 21, 3) := by decide +kernel
theorem dX9_reckons_64 : decode cX9_reckons 64 = .ok (.aload_n 0, 1) := by decide +kernel
theorem dX9_reckons_65 : decode cX9_reckons 65 = .ok (.getfield 80, 3) := by decide +kernel
theorem dX9_reckons_68 : decode cX9_reckons 68 = .ok (.iload_n 2, 1) := by decide +kernel
theorem dX9_reckons_69 : decode cX9_reckons 69 = .ok (.dup2, 1) := by decide +kernel
theorem dX9_reckons_70 : decode cX9_reckons 70 = .ok (.iaload, 1) := by decide +kernel
theorem dX9_reckons_71 : decode cX9_reckons 71 = .ok (.aload_n 0, 1) := by decide +kernel
theorem dX9_reckons_72 : decode cX9_reckons 72 = .ok (.getfield 80, 3) := by decide +kernel
theorem dX9_reckons_75 : decode cX9_reckons 75 = .ok (.iload_n 3, 1) := by decide +kernel
theorem dX9_reckons_76 : decode cX9_reckons 76 = .ok (.iaload, 1) := by decide +kernel
theorem dX9_reckons_77 : decode cX9_reckons 77 = .ok (.imul, 1) := by decide +kernel
theorem dX9_reckons_78 : decode cX9_reckons 78 = .ok (.iastore, 1) := by decide +kernel
theorem dX9_reckons_79 : decode cX9_reckons 79 = .ok (.goto 18, 3) := by decide +kernel
theorem dX9_reckons_82 : decode cX9_reckons 82 = .ok (.aload_n 0, 1) := by decide +kernel
theorem dX9_reckons_83 : decode cX9_reckons 83 = .ok (.getfield 80, 3) := by decide +kernel
theorem dX9_reckons_86 : decode cX9_reckons 86 = .ok (.iload_n 2, 1) := by decide +kernel
theorem dX9_reckons_87 : decode cX9_reckons 87 = .ok (.dup2, 1) := by decide +kernel
theorem dX9_reckons_88 : decode cX9_reckons 88 = .ok (.iaload, 1) := by decide +kernel
theorem dX9_reckons_89 : decode cX9_reckons 89 = .ok (.aload_n 0, 1) := by decide +kernel
theorem dX9_reckons_90 : decode cX9_reckons 90 = .ok (.getfield 80, 3) := by decide +kernel
theorem dX9_reckons_93 : decode cX9_reckons 93 = .ok (.iload_n 3, 1) := by decide +kernel
theorem dX9_reckons_94 : decode cX9_reckons 94 = .ok (.iaload, 1) := by decide +kernel
theorem dX9_reckons_95 : decode cX9_reckons 95 = .ok (.idiv, 1) := by decide +kernel
theorem dX9_reckons_96 : decode cX9_reckons 96 = .ok (.iastore, 1) := by decide +kernel
theorem dX9_reckons_97 : decode cX9_reckons 97 = .ok (.bipush 32, 2) := by decide +kernel
theorem dX9_reckons_99 : decode cX9_reckons 99 = .ok (.ireturn, 1) := by decide +kernel
theorem dX9_isExpected_0 : decode cX9_isExpected 0 = .ok (.aload_n 0, 1) := by decide +kernel
theorem dX9_isExpected_1 : decode cX9_isExpected 1 = .ok (.getfield 50, 3) := by decide +kernel
theorem dX9_isExpected_4 : decode cX9_isExpected 4 = .ok (.iload_n 1, 1) := by decide +kernel
theorem dX9_isExpected_5 : decode cX9_isExpected 5 = .ok (.iaload, 1) := by decide +kernel
theorem dX9_isExpected_6 : decode cX9_isExpected 6 = .ok (.istore_n 3, 1) := by decide +kernel
theorem dX9_isExpected_7 : decode cX9_isExpected 7 = .ok (.aload_n 0, 1) := by decide +kernel
theorem dX9_isExpected_8 : decode cX9_isExpected 8 = .ok (.getfield 77, 3) := by decide +kernel
theorem dX9_isExpected_11 : decode cX9_isExpected 11 = .ok (.bipush 6, 2) := by decide +kernel
theorem dX9_isExpected_13 : decode cX9_isExpected 13 = .ok (.iload_n 1, 1) := by decide +kernel
theorem dX9_isExpected_14 : decode cX9_isExpected 14 = .ok (.imul, 1) := by decide +kernel
theorem dX9_isExpected_15 : decode cX9_isExpected 15 = .ok (.iload_n 2, 1) := by decide +kernel
theorem dX9_isExpected_16 : decode cX9_isExpected 16 = .ok (.iadd, 1) := by decide +kernel
theorem dX9_isExpected_17 : decode cX9_isExpected 17 = .ok (.iaload, 1) := by decide +kernel
theorem dX9_isExpected_18 : decode cX9_isExpected 18 = .ok (.aload_n 0, 1) := by decide +kernel
theorem dX9_isExpected_19 : decode cX9_isExpected 19 = .ok (.getfield 44, 3) := by decide +kernel
theorem dX9_isExpected_22 : decode cX9_isExpected 22 = .ok (.bipush 6, 2) := by decide +kernel
theorem dX9_isExpected_24 : decode cX9_isExpected 24 = .ok (.iload_n 3, 1) := by decide +kernel
theorem dX9_isExpected_25 : decode cX9_isExpected 25 = .ok (.imul, 1) := by decide +kernel
theorem dX9_isExpected_26 : decode cX9_isExpected 26 = .ok (.iload_n 2, 1) := by decide +kernel
theorem dX9_isExpected_27 : decode cX9_isExpected 27 = .ok (.iadd, 1) := by decide +kernel
theorem dX9_isExpected_28 : decode cX9_isExpected 28 = .ok (.iaload, 1) := by decide +kernel
theorem dX9_isExpected_29 : decode cX9_isExpected 29 = .ok (.if_icmp .ne 7, 3) := by decide +kernel
theorem dX9_isExpected_32 : decode cX9_isExpected 32 = .ok (.iconst 1, 1) := by decide +kernel
theorem dX9_isExpected_33 : decode cX9_isExpected 33 = .ok (.goto 4, 3) := by decide +kernel
theorem dX9_isExpected_36 : decode cX9_isExpected 36 = .ok (.iconst 0, 1) := by decide +kernel
theorem dX9_isExpected_37 : decode cX9_isExpected 37 = .ok (.istore 4, 2) := by decide +kernel
theorem dX9_isExpected_39 : decode cX9_isExpected 39 = .ok (.iconst 0, 1) := by decide +kernel
theorem dX9_isExpected_40 : decode cX9_isExpected 40 = .ok (.istore 5, 2) := by decide +kernel
theorem dX9_isExpected_42 : decode cX9_isExpected 42 = .ok (.iload 5, 2) := by decide +kernel
theorem dX9_isExpected_44 : decode cX9_isExpected 44 = .ok (.aload_n 0, 1) := by decide +kernel
theorem dX9_isExpected_45 : decode cX9_isExpected 45 = .ok (.getfield 77, 3) := by decide +kernel
theorem dX9_isExpected_48 : decode cX9_isExpected 48 = .ok (.bipush 6, 2) := by decide +kernel
theorem dX9_isExpected_50 : decode cX9_isExpected 50 = .ok (.iload_n 1, 1) := by decide +kernel
theorem dX9_isExpected_51 : decode cX9_isExpected 51 = .ok (.imul, 1) := by decide +kernel
theorem dX9_isExpected_52 : decode cX9_isExpected 52 = .ok (.iload_n 2, 1) := by decide +kernel
theorem dX9_isExpected_53 : decode cX9_isExpected 53 = .ok (.iadd, 1) := by decide +kernel
theorem dX9_isExpected_54 : decode cX9_isExpected 54 = .ok (.iaload, 1) := by decide +kernel
theorem dX9_isExpected_55 : decode cX9_isExpected 55 = .ok (.if_icmp .ge 58, 3) := by decide +kernel
theorem dX9_isExpected_58 : decode cX9_isExpected 58 = .ok (.iload 4, 2) := by decide +kernel
theorem dX9_isExpected_60 : decode cX9_isExpected 60 = .ok (.ifCond .eq 53, 3) := by decide +kernel
theorem dX9_isExpected_63 : decode cX9_isExpected 63 = .ok (.aload_n 0, 1) := by decide +kernel
theorem dX9_isExpected_64 : decode cX9_isExpected 64 = .ok (.getfield 74, 3) := by decide +kernel
theorem dX9_isExpected_67 : decode cX9_isExpected 67 = .ok (.bipush 36, 2) := by decide +kernel
theorem dX9_isExpected_69 : decode cX9_isExpected 69 = .ok (.iload_n 1, 1) := by decide +kernel
theorem dX9_isExpected_70 : decode cX9_isExpected 70 = .ok (.imul, 1) := by decide +kernel
theorem dX9_isExpected_71 : decode cX9_isExpected 71 = .ok (.bipush 6, 2) := by decide +kernel
theorem dX9_isExpected_73 : decode cX9_isExpected 73 = .ok (.iload_n 2, 1) := by decide +kernel
theorem dX9_isExpected_74 : decode cX9_isExpected 74 = .ok (.imul, 1) := by decide +kernel
theorem dX9_isExpected_75 : decode cX9_isExpected 75 = .ok (.iadd, 1) := by decide +kernel
theorem dX9_isExpected_76 : decode cX9_isExpected 76 = .ok (.iload 5, 2) := by decide +kernel
theorem dX9_isExpected_78 : decode cX9_isExpected 78 = .ok (.iadd, 1) := by decide +kernel
theorem dX9_isExpected_79 : decode cX9_isExpected 79 = .ok (.iaload, 1) := by decide +kernel
theorem dX9_isExpected_80 : decode cX9_isExpected 80 = .ok (.aload_n 0, 1) := by decide +kernel
theorem dX9_isExpected_81 : decode cX9_isExpected 81 = .ok (.getfield 41, 3) := by decide +kernel
theorem dX9_isExpected_84 : decode cX9_isExpected 84 = .ok (.bipush 36, 2) := by decide +kernel
theorem dX9_isExpected_86 : decode cX9_isExpected 86 = .ok (.iload_n 3, 1) := by decide +kernel
theorem dX9_isExpected_87 : decode cX9_isExpected 87 = .ok (.imul, 1) := by decide +kernel
theorem dX9_isExpected_88 : decode cX9_isExpected 88 = .ok (.bipush 6, 2) := by decide +kernel
theorem dX9_isExpected_90 : decode cX9_isExpected 90 = .ok (.iload_n 2, 1) := by decide +kernel
theorem dX9_isExpected_91 : decode cX9_isExpected 91 = .ok (.imul, 1) := by decide +kernel
theorem dX9_isExpected_92 : decode cX9_isExpected 92 = .ok (.iadd, 1) := by decide +kernel
theorem dX9_isExpected_93 : decode cX9_isExpected 93 = .ok (.iload 5, 2) := by decide +kernel
theorem dX9_isExpected_95 : decode cX9_isExpected 95 = .ok (.iadd, 1) := by decide +kernel
theorem dX9_isExpected_96 : decode cX9_isExpected 96 = .ok (.iaload, 1) := by decide +kernel
theorem dX9_isExpected_97 : decode cX9_isExpected 97 = .ok (.if_icmp .ne 7, 3) := by decide +kernel
theorem dX9_isExpected_100 : decode cX9_isExpected 100 = .ok (.iconst 1, 1) := by decide +kernel
theorem dX9_isExpected_101 : decode cX9_isExpected 101 = .ok (.goto 4, 3) := by decide +kernel
theorem dX9_isExpected_104 : decode cX9_isExpected 104 = .ok (.iconst 0, 1) := by decide +kernel
theorem dX9_isExpected_105 : decode cX9_isExpected 105 = .ok (.istore 4, 2) := by decide +kernel
theorem dX9_isExpected_107 : decode cX9_isExpected 107 = .ok (.iinc 5 1, 3) := by decide +kernel
theorem dX9_isExpected_110 : decode cX9_isExpected 110 = .ok (.goto (-68), 3) := by decide +kernel
theorem dX9_isExpected_113 : decode cX9_isExpected 113 = .ok (.iload 4, 2) := by decide +kernel
theorem dX9_isExpected_115 : decode cX9_isExpected 115 = .ok (.ireturn, 1) := by decide +kernel
theorem dX9_failedOf_0 : decode cX9_failedOf 0 = .ok (.iconst 0, 1) := by decide +kernel
theorem dX9_failedOf_1 : decode cX9_failedOf 1 = .ok (.istore_n 2, 1) := by decide +kernel
theorem dX9_failedOf_2 : decode cX9_failedOf 2 = .ok (.iload_n 2, 1) := by decide +kernel
theorem dX9_failedOf_3 : decode cX9_failedOf 3 = .ok (.aload_n 0, 1) := by decide +kernel
theorem dX9_failedOf_4 : decode cX9_failedOf 4 = .ok (.getfield 32, 3) := by decide +kernel
theorem dX9_failedOf_7 : decode cX9_failedOf 7 = .ok (.aload_n 0, 1) := by decide +kernel
theorem dX9_failedOf_8 : decode cX9_failedOf 8 = .ok (.getfield 50, 3) := by decide +kernel
theorem dX9_failedOf_11 : decode cX9_failedOf 11 = .ok (.iload_n 1, 1) := by decide +kernel
theorem dX9_failedOf_12 : decode cX9_failedOf 12 = .ok (.iaload, 1) := by decide +kernel
theorem dX9_failedOf_13 : decode cX9_failedOf 13 = .ok (.iaload, 1) := by decide +kernel
theorem dX9_failedOf_14 : decode cX9_failedOf 14 = .ok (.if_icmp .ge 27, 3) := by decide +kernel
theorem dX9_failedOf_17 : decode cX9_failedOf 17 = .ok (.aload_n 0, 1) := by decide +kernel
theorem dX9_failedOf_18 : decode cX9_failedOf 18 = .ok (.getfield 68, 3) := by decide +kernel
theorem dX9_failedOf_21 : decode cX9_failedOf 21 = .ok (.bipush 6, 2) := by decide +kernel
theorem dX9_failedOf_23 : decode cX9_failedOf 23 = .ok (.iload_n 1, 1) := by decide +kernel
theorem dX9_failedOf_24 : decode cX9_failedOf 24 = .ok (.imul, 1) := by decide +kernel
theorem dX9_failedOf_25 : decode cX9_failedOf 25 = .ok (.iload_n 2, 1) := by decide +kernel
theorem dX9_failedOf_26 : decode cX9_failedOf 26 = .ok (.iadd, 1) := by decide +kernel
theorem dX9_failedOf_27 : decode cX9_failedOf 27 = .ok (.caload, 1) := by decide +kernel
theorem dX9_failedOf_28 : decode cX9_failedOf 28 = .ok (.bipush 111, 2) := by decide +kernel
theorem dX9_failedOf_30 : decode cX9_failedOf 30 = .ok (.if_icmp .eq 5, 3) := by decide +kernel
theorem dX9_failedOf_33 : decode cX9_failedOf 33 = .ok (.iload_n 2, 1) := by decide +kernel
theorem dX9_failedOf_34 : decode cX9_failedOf 34 = .ok (.ireturn, 1) := by decide +kernel
theorem dX9_failedOf_35 : decode cX9_failedOf 35 = .ok (.iinc 2 1, 3) := by decide +kernel
theorem dX9_failedOf_38 : decode cX9_failedOf 38 = .ok (.goto (-36), 3) := by decide +kernel
theorem dX9_failedOf_41 : decode cX9_failedOf 41 = .ok (.iconst (-1), 1) := by decide +kernel
theorem dX9_failedOf_42 : decode cX9_failedOf 42 = .ok (.ireturn, 1) := by decide +kernel
theorem dX9_verdictOf_0 : decode cX9_verdictOf 0 = .ok (.aload_n 0, 1) := by decide +kernel
theorem dX9_verdictOf_1 : decode cX9_verdictOf 1 = .ok (.iload_n 1, 1) := by decide +kernel
theorem dX9_verdictOf_2 : decode cX9_verdictOf 2 = .ok (.invokevirtual 156, 3) := by decide +kernel
theorem dX9_verdictOf_5 : decode cX9_verdictOf 5 = .ok (.istore_n 2, 1) := by decide +kernel
theorem dX9_verdictOf_6 : decode cX9_verdictOf 6 = .ok (.iload_n 2, 1) := by decide +kernel
theorem dX9_verdictOf_7 : decode cX9_verdictOf 7 = .ok (.iconst (-1), 1) := by decide +kernel
theorem dX9_verdictOf_8 : decode cX9_verdictOf 8 = .ok (.if_icmp .ne 8, 3) := by decide +kernel
theorem dX9_verdictOf_11 : decode cX9_verdictOf 11 = .ok (.bipush 97, 2) := by decide +kernel
theorem dX9_verdictOf_13 : decode cX9_verdictOf 13 = .ok (.goto 14, 3) := by decide +kernel
theorem dX9_verdictOf_16 : decode cX9_verdictOf 16 = .ok (.aload_n 0, 1) := by decide +kernel
theorem dX9_verdictOf_17 : decode cX9_verdictOf 17 = .ok (.getfield 68, 3) := by decide +kernel
theorem dX9_verdictOf_20 : decode cX9_verdictOf 20 = .ok (.bipush 6, 2) := by decide +kernel
theorem dX9_verdictOf_22 : decode cX9_verdictOf 22 = .ok (.iload_n 1, 1) := by decide +kernel
theorem dX9_verdictOf_23 : decode cX9_verdictOf 23 = .ok (.imul, 1) := by decide +kernel
theorem dX9_verdictOf_24 : decode cX9_verdictOf 24 = .ok (.iload_n 2, 1) := by decide +kernel
theorem dX9_verdictOf_25 : decode cX9_verdictOf 25 = .ok (.iadd, 1) := by decide +kernel
theorem dX9_verdictOf_26 : decode cX9_verdictOf 26 = .ok (.caload, 1) := by decide +kernel
theorem dX9_verdictOf_27 : decode cX9_verdictOf 27 = .ok (.ireturn, 1) := by decide +kernel
theorem dX9_judgesAnew_0 : decode cX9_judgesAnew 0 = .ok (.aload_n 0, 1) := by decide +kernel
theorem dX9_judgesAnew_1 : decode cX9_judgesAnew 1 = .ok (.getfield 32, 3) := by decide +kernel
theorem dX9_judgesAnew_4 : decode cX9_judgesAnew 4 = .ok (.iload_n 1, 1) := by decide +kernel
theorem dX9_judgesAnew_5 : decode cX9_judgesAnew 5 = .ok (.iaload, 1) := by decide +kernel
theorem dX9_judgesAnew_6 : decode cX9_judgesAnew 6 = .ok (.istore 4, 2) := by decide +kernel
theorem dX9_judgesAnew_8 : decode cX9_judgesAnew 8 = .ok (.iconst 0, 1) := by decide +kernel
theorem dX9_judgesAnew_9 : decode cX9_judgesAnew 9 = .ok (.istore 5, 2) := by decide +kernel
theorem dX9_judgesAnew_11 : decode cX9_judgesAnew 11 = .ok (.iconst 0, 1) := by decide +kernel
theorem dX9_judgesAnew_12 : decode cX9_judgesAnew 12 = .ok (.istore 6, 2) := by decide +kernel
theorem dX9_judgesAnew_14 : decode cX9_judgesAnew 14 = .ok (.iload 6, 2) := by decide +kernel
theorem dX9_judgesAnew_16 : decode cX9_judgesAnew 16 = .ok (.aload_n 0, 1) := by decide +kernel
theorem dX9_judgesAnew_17 : decode cX9_judgesAnew 17 = .ok (.getfield 130, 3) := by decide +kernel
theorem dX9_judgesAnew_20 : decode cX9_judgesAnew 20 = .ok (.if_icmp .ge 74, 3) := by decide +kernel
theorem dX9_judgesAnew_23 : decode cX9_judgesAnew 23 = .ok (.aload_n 0, 1) := by decide +kernel
theorem dX9_judgesAnew_24 : decode cX9_judgesAnew 24 = .ok (.getfield 50, 3) := by decide +kernel
theorem dX9_judgesAnew_27 : decode cX9_judgesAnew 27 = .ok (.iload 6, 2) := by decide +kernel
theorem dX9_judgesAnew_29 : decode cX9_judgesAnew 29 = .ok (.iaload, 1) := by decide +kernel
theorem dX9_judgesAnew_30 : decode cX9_judgesAnew 30 = .ok (.iload_n 1, 1) := by decide +kernel
theorem dX9_judgesAnew_31 : decode cX9_judgesAnew 31 = .ok (.if_icmp .eq 6, 3) := by decide +kernel
theorem dX9_judgesAnew_34 : decode cX9_judgesAnew 34 = .ok (.goto 54, 3) := by decide +kernel
theorem dX9_judgesAnew_37 : decode cX9_judgesAnew 37 = .ok (.aload_n 0, 1) := by decide +kernel
theorem dX9_judgesAnew_38 : decode cX9_judgesAnew 38 = .ok (.getfield 32, 3) := by decide +kernel
theorem dX9_judgesAnew_41 : decode cX9_judgesAnew 41 = .ok (.iload_n 1, 1) := by decide +kernel
theorem dX9_judgesAnew_42 : decode cX9_judgesAnew 42 = .ok (.iload 4, 2) := by decide +kernel
theorem dX9_judgesAnew_44 : decode cX9_judgesAnew 44 = .ok (.iastore, 1) := by decide +kernel
theorem dX9_judgesAnew_45 : decode cX9_judgesAnew 45 = .ok (.aload_n 0, 1) := by decide +kernel
theorem dX9_judgesAnew_46 : decode cX9_judgesAnew 46 = .ok (.iload 6, 2) := by decide +kernel
theorem dX9_judgesAnew_48 : decode cX9_judgesAnew 48 = .ok (.invokevirtual 160, 3) := by decide +kernel
theorem dX9_judgesAnew_51 : decode cX9_judgesAnew 51 = .ok (.istore 7, 2) := by decide +kernel
theorem dX9_judgesAnew_53 : decode cX9_judgesAnew 53 = .ok (.aload_n 0, 1) := by decide +kernel
theorem dX9_judgesAnew_54 : decode cX9_judgesAnew 54 = .ok (.getfield 32, 3) := by decide +kernel
theorem dX9_judgesAnew_57 : decode cX9_judgesAnew 57 = .ok (.iload_n 1, 1) := by decide +kernel
theorem dX9_judgesAnew_58 : decode cX9_judgesAnew 58 = .ok (.iload_n 3, 1) := by decide +kernel
theorem dX9_judgesAnew_59 : decode cX9_judgesAnew 59 = .ok (.iastore, 1) := by decide +kernel
theorem dX9_judgesAnew_60 : decode cX9_judgesAnew 60 = .ok (.aload_n 0, 1) := by decide +kernel
theorem dX9_judgesAnew_61 : decode cX9_judgesAnew 61 = .ok (.iload 6, 2) := by decide +kernel
theorem dX9_judgesAnew_63 : decode cX9_judgesAnew 63 = .ok (.iload_n 2, 1) := by decide +kernel
theorem dX9_judgesAnew_64 : decode cX9_judgesAnew 64 = .ok (.invokevirtual 164, 3) := by decide +kernel
theorem dX9_judgesAnew_67 : decode cX9_judgesAnew 67 = .ok (.iload 5, 2) := by decide +kernel
theorem dX9_judgesAnew_69 : decode cX9_judgesAnew 69 = .ok (.aload_n 0, 1) := by decide +kernel
theorem dX9_judgesAnew_70 : decode cX9_judgesAnew 70 = .ok (.iload 6, 2) := by decide +kernel
theorem dX9_judgesAnew_72 : decode cX9_judgesAnew 72 = .ok (.invokevirtual 160, 3) := by decide +kernel
theorem dX9_judgesAnew_75 : decode cX9_judgesAnew 75 = .ok (.iload 7, 2) := by decide +kernel
theorem dX9_judgesAnew_77 : decode cX9_judgesAnew 77 = .ok (.if_icmp .eq 7, 3) := by decide +kernel
theorem dX9_judgesAnew_80 : decode cX9_judgesAnew 80 = .ok (.iconst 1, 1) := by decide +kernel
theorem dX9_judgesAnew_81 : decode cX9_judgesAnew 81 = .ok (.goto 4, 3) := by decide +kernel
theorem dX9_judgesAnew_84 : decode cX9_judgesAnew 84 = .ok (.iconst 0, 1) := by decide +kernel
theorem dX9_judgesAnew_85 : decode cX9_judgesAnew 85 = .ok (.iadd, 1) := by decide +kernel
theorem dX9_judgesAnew_86 : decode cX9_judgesAnew 86 = .ok (.istore 5, 2) := by decide +kernel
theorem dX9_judgesAnew_88 : decode cX9_judgesAnew 88 = .ok (.iinc 6 1, 3) := by decide +kernel
theorem dX9_judgesAnew_91 : decode cX9_judgesAnew 91 = .ok (.goto (-77), 3) := by decide +kernel
theorem dX9_judgesAnew_94 : decode cX9_judgesAnew 94 = .ok (.aload_n 0, 1) := by decide +kernel
theorem dX9_judgesAnew_95 : decode cX9_judgesAnew 95 = .ok (.getfield 32, 3) := by decide +kernel
theorem dX9_judgesAnew_98 : decode cX9_judgesAnew 98 = .ok (.iload_n 1, 1) := by decide +kernel
theorem dX9_judgesAnew_99 : decode cX9_judgesAnew 99 = .ok (.iload_n 3, 1) := by decide +kernel
theorem dX9_judgesAnew_100 : decode cX9_judgesAnew 100 = .ok (.iastore, 1) := by decide +kernel
theorem dX9_judgesAnew_101 : decode cX9_judgesAnew 101 = .ok (.aload_n 0, 1) := by decide +kernel
theorem dX9_judgesAnew_102 : decode cX9_judgesAnew 102 = .ok (.iload_n 1, 1) := by decide +kernel
theorem dX9_judgesAnew_103 : decode cX9_judgesAnew 103 = .ok (.invokevirtual 167, 3) := by decide +kernel
theorem dX9_judgesAnew_106 : decode cX9_judgesAnew 106 = .ok (.iload 5, 2) := by decide +kernel
theorem dX9_judgesAnew_108 : decode cX9_judgesAnew 108 = .ok (.ireturn, 1) := by decide +kernel
theorem dX9_hasSolved_0 : decode cX9_hasSolved 0 = .ok (.iconst 0, 1) := by decide +kernel
theorem dX9_hasSolved_1 : decode cX9_hasSolved 1 = .ok (.istore_n 3, 1) := by decide +kernel
theorem dX9_hasSolved_2 : decode cX9_hasSolved 2 = .ok (.iconst 0, 1) := by decide +kernel
theorem dX9_hasSolved_3 : decode cX9_hasSolved 3 = .ok (.istore 4, 2) := by decide +kernel
theorem dX9_hasSolved_5 : decode cX9_hasSolved 5 = .ok (.iload 4, 2) := by decide +kernel
theorem dX9_hasSolved_7 : decode cX9_hasSolved 7 = .ok (.aload_n 0, 1) := by decide +kernel
theorem dX9_hasSolved_8 : decode cX9_hasSolved 8 = .ok (.getfield 130, 3) := by decide +kernel
theorem dX9_hasSolved_11 : decode cX9_hasSolved 11 = .ok (.if_icmp .ge 50, 3) := by decide +kernel
theorem dX9_hasSolved_14 : decode cX9_hasSolved 14 = .ok (.iload_n 3, 1) := by decide +kernel
theorem dX9_hasSolved_15 : decode cX9_hasSolved 15 = .ok (.aload_n 0, 1) := by decide +kernel
theorem dX9_hasSolved_16 : decode cX9_hasSolved 16 = .ok (.getfield 47, 3) := by decide +kernel
theorem dX9_hasSolved_19 : decode cX9_hasSolved 19 = .ok (.iload 4, 2) := by decide +kernel
theorem dX9_hasSolved_21 : decode cX9_hasSolved 21 = .ok (.iaload, 1) := by decide +kernel
theorem dX9_hasSolved_22 : decode cX9_hasSolved 22 = .ok (.iload_n 1, 1) := by decide +kernel
theorem dX9_hasSolved_23 : decode cX9_hasSolved 23 = .ok (.if_icmp .ne 29, 3) := by decide +kernel
theorem dX9_hasSolved_26 : decode cX9_hasSolved 26 = .ok (.aload_n 0, 1) := by decide +kernel
theorem dX9_hasSolved_27 : decode cX9_hasSolved 27 = .ok (.getfield 50, 3) := by decide +kernel
theorem dX9_hasSolved_30 : decode cX9_hasSolved 30 = .ok (.iload 4, 2) := by decide +kernel
theorem dX9_hasSolved_32 : decode cX9_hasSolved 32 = .ok (.iaload, 1) := by decide +kernel
theorem dX9_hasSolved_33 : decode cX9_hasSolved 33 = .ok (.iload_n 2, 1) := by decide +kernel
theorem dX9_hasSolved_34 : decode cX9_hasSolved 34 = .ok (.if_icmp .ne 18, 3) := by decide +kernel
theorem dX9_hasSolved_37 : decode cX9_hasSolved 37 = .ok (.aload_n 0, 1) := by decide +kernel
theorem dX9_hasSolved_38 : decode cX9_hasSolved 38 = .ok (.iload 4, 2) := by decide +kernel
theorem dX9_hasSolved_40 : decode cX9_hasSolved 40 = .ok (.invokevirtual 160, 3) := by decide +kernel
theorem dX9_hasSolved_43 : decode cX9_hasSolved 43 = .ok (.bipush 97, 2) := by decide +kernel
theorem dX9_hasSolved_45 : decode cX9_hasSolved 45 = .ok (.if_icmp .ne 7, 3) := by decide +kernel
theorem dX9_hasSolved_48 : decode cX9_hasSolved 48 = .ok (.iconst 1, 1) := by decide +kernel
theorem dX9_hasSolved_49 : decode cX9_hasSolved 49 = .ok (.goto 4, 3) := by decide +kernel
theorem dX9_hasSolved_52 : decode cX9_hasSolved 52 = .ok (.iconst 0, 1) := by decide +kernel
theorem dX9_hasSolved_53 : decode cX9_hasSolved 53 = .ok (.ior, 1) := by decide +kernel
theorem dX9_hasSolved_54 : decode cX9_hasSolved 54 = .ok (.istore_n 3, 1) := by decide +kernel
theorem dX9_hasSolved_55 : decode cX9_hasSolved 55 = .ok (.iinc 4 1, 3) := by decide +kernel
theorem dX9_hasSolved_58 : decode cX9_hasSolved 58 = .ok (.goto (-53), 3) := by decide +kernel
theorem dX9_hasSolved_61 : decode cX9_hasSolved 61 = .ok (.iload_n 3, 1) := by decide +kernel
theorem dX9_hasSolved_62 : decode cX9_hasSolved 62 = .ok (.ireturn, 1) := by decide +kernel
theorem dX9_calls_0 : decode cX9_calls 0 = .ok (.iconst 0, 1) := by decide +kernel
theorem dX9_calls_1 : decode cX9_calls 1 = .ok (.istore_n 2, 1) := by decide +kernel
theorem dX9_calls_2 : decode cX9_calls 2 = .ok (.iload_n 2, 1) := by decide +kernel
theorem dX9_calls_3 : decode cX9_calls 3 = .ok (.aload_n 0, 1) := by decide +kernel
theorem dX9_calls_4 : decode cX9_calls 4 = .ok (.getfield 127, 3) := by decide +kernel
theorem dX9_calls_7 : decode cX9_calls 7 = .ok (.if_icmp .ge 88, 3) := by decide +kernel
theorem dX9_calls_10 : decode cX9_calls 10 = .ok (.aload_n 0, 1) := by decide +kernel
theorem dX9_calls_11 : decode cX9_calls 11 = .ok (.getfield 83, 3) := by decide +kernel
theorem dX9_calls_14 : decode cX9_calls 14 = .ok (.iconst 5, 1) := by decide +kernel
theorem dX9_calls_15 : decode cX9_calls 15 = .ok (.iload_n 2, 1) := by decide +kernel
theorem dX9_calls_16 : decode cX9_calls 16 = .ok (.imul, 1) := by decide +kernel
theorem dX9_calls_17 : decode cX9_calls 17 = .ok (.iload_n 1, 1) := by decide +kernel
theorem dX9_calls_18 : decode cX9_calls 18 = .ok (.iadd, 1) := by decide +kernel
theorem dX9_calls_19 : decode cX9_calls 19 = .ok (.caload, 1) := by decide +kernel
theorem dX9_calls_20 : decode cX9_calls 20 = .ok (.bipush 45, 2) := by decide +kernel
theorem dX9_calls_22 : decode cX9_calls 22 = .ok (.if_icmp .eq 67, 3) := by decide +kernel
theorem dX9_calls_25 : decode cX9_calls 25 = .ok (.aload_n 0, 1) := by decide +kernel
theorem dX9_calls_26 : decode cX9_calls 26 = .ok (.iload_n 2, 1) := by decide +kernel
theorem dX9_calls_27 : decode cX9_calls 27 = .ok (.iload_n 1, 1) := by decide +kernel
theorem dX9_calls_28 : decode cX9_calls 28 = .ok (.invokevirtual 171, 3) := by decide +kernel
theorem dX9_calls_31 : decode cX9_calls 31 = .ok (.ifCond .eq 6, 3) := by decide +kernel
theorem dX9_calls_34 : decode cX9_calls 34 = .ok (.goto 55, 3) := by decide +kernel
theorem dX9_calls_37 : decode cX9_calls 37 = .ok (.aload_n 0, 1) := by decide +kernel
theorem dX9_calls_38 : decode cX9_calls 38 = .ok (.getfield 83, 3) := by decide +kernel
theorem dX9_calls_41 : decode cX9_calls 41 = .ok (.iconst 5, 1) := by decide +kernel
theorem dX9_calls_42 : decode cX9_calls 42 = .ok (.iload_n 2, 1) := by decide +kernel
theorem dX9_calls_43 : decode cX9_calls 43 = .ok (.imul, 1) := by decide +kernel
theorem dX9_calls_44 : decode cX9_calls 44 = .ok (.iload_n 1, 1) := by decide +kernel
theorem dX9_calls_45 : decode cX9_calls 45 = .ok (.iadd, 1) := by decide +kernel
theorem dX9_calls_46 : decode cX9_calls 46 = .ok (.caload, 1) := by decide +kernel
theorem dX9_calls_47 : decode cX9_calls 47 = .ok (.bipush 111, 2) := by decide +kernel
theorem dX9_calls_49 : decode cX9_calls 49 = .ok (.if_icmp .ne 28, 3) := by decide +kernel
theorem dX9_calls_52 : decode cX9_calls 52 = .ok (.aload_n 0, 1) := by decide +kernel
theorem dX9_calls_53 : decode cX9_calls 53 = .ok (.getfield 89, 3) := by decide +kernel
theorem dX9_calls_56 : decode cX9_calls 56 = .ok (.aload_n 0, 1) := by decide +kernel
theorem dX9_calls_57 : decode cX9_calls 57 = .ok (.getfield 26, 3) := by decide +kernel
theorem dX9_calls_60 : decode cX9_calls 60 = .ok (.iload_n 1, 1) := by decide +kernel
theorem dX9_calls_61 : decode cX9_calls 61 = .ok (.iaload, 1) := by decide +kernel
theorem dX9_calls_62 : decode cX9_calls 62 = .ok (.dup2, 1) := by decide +kernel
theorem dX9_calls_63 : decode cX9_calls 63 = .ok (.iaload, 1) := by decide +kernel
theorem dX9_calls_64 : decode cX9_calls 64 = .ok (.iconst 1, 1) := by decide +kernel
theorem dX9_calls_65 : decode cX9_calls 65 = .ok (.iadd, 1) := by decide +kernel
theorem dX9_calls_66 : decode cX9_calls 66 = .ok (.iastore, 1) := by decide +kernel
theorem dX9_calls_67 : decode cX9_calls 67 = .ok (.aload_n 0, 1) := by decide +kernel
theorem dX9_calls_68 : decode cX9_calls 68 = .ok (.dup, 1) := by decide +kernel
theorem dX9_calls_69 : decode cX9_calls 69 = .ok (.getfield 174, 3) := by decide +kernel
theorem dX9_calls_72 : decode cX9_calls 72 = .ok (.iconst 1, 1) := by decide +kernel
theorem dX9_calls_73 : decode cX9_calls 73 = .ok (.iadd, 1) := by decide +kernel
theorem dX9_calls_74 : decode cX9_calls 74 = .ok (.putfield 174, 3) := by decide +kernel
theorem dX9_calls_77 : decode cX9_calls 77 = .ok (.aload_n 0, 1) := by decide +kernel
theorem dX9_calls_78 : decode cX9_calls 78 = .ok (.getfield 83, 3) := by decide +kernel
theorem dX9_calls_81 : decode cX9_calls 81 = .ok (.iconst 5, 1) := by decide +kernel
theorem dX9_calls_82 : decode cX9_calls 82 = .ok (.iload_n 2, 1) := by decide +kernel
theorem dX9_calls_83 : decode cX9_calls 83 = .ok (.imul, 1) := by decide +kernel
theorem dX9_calls_84 : decode cX9_calls 84 = .ok (.iload_n 1, 1) := by decide +kernel
theorem dX9_calls_85 : decode cX9_calls 85 = .ok (.iadd, 1) := by decide +kernel
theorem dX9_calls_86 : decode cX9_calls 86 = .ok (.bipush 45, 2) := by decide +kernel
theorem dX9_calls_88 : decode cX9_calls 88 = .ok (.castore, 1) := by decide +kernel
theorem dX9_calls_89 : decode cX9_calls 89 = .ok (.iinc 2 1, 3) := by decide +kernel
theorem dX9_calls_92 : decode cX9_calls 92 = .ok (.goto (-90), 3) := by decide +kernel
theorem dX9_calls_95 : decode cX9_calls 95 = .ok (.aload_n 0, 1) := by decide +kernel
theorem dX9_calls_96 : decode cX9_calls 96 = .ok (.aload_n 0, 1) := by decide +kernel
theorem dX9_calls_97 : decode cX9_calls 97 = .ok (.getfield 26, 3) := by decide +kernel
theorem dX9_calls_100 : decode cX9_calls 100 = .ok (.iload_n 1, 1) := by decide +kernel
theorem dX9_calls_101 : decode cX9_calls 101 = .ok (.iaload, 1) := by decide +kernel
theorem dX9_calls_102 : decode cX9_calls 102 = .ok (.invokevirtual 177, 3) := by decide +kernel
theorem dX9_calls_105 : decode cX9_calls 105 = .ok (.iconst 0, 1) := by decide +kernel
theorem dX9_calls_106 : decode cX9_calls 106 = .ok (.istore_n 2, 1) := by decide +kernel
theorem dX9_calls_107 : decode cX9_calls 107 = .ok (.iload_n 2, 1) := by decide +kernel
theorem dX9_calls_108 : decode cX9_calls 108 = .ok (.aload_n 0, 1) := by decide +kernel
theorem dX9_calls_109 : decode cX9_calls 109 = .ok (.getfield 127, 3) := by decide +kernel
theorem dX9_calls_112 : decode cX9_calls 112 = .ok (.if_icmp .ge 15, 3) := by decide +kernel
theorem dX9_calls_115 : decode cX9_calls 115 = .ok (.aload_n 0, 1) := by decide +kernel
theorem dX9_calls_116 : decode cX9_calls 116 = .ok (.iload_n 2, 1) := by decide +kernel
theorem dX9_calls_117 : decode cX9_calls 117 = .ok (.iload_n 1, 1) := by decide +kernel
theorem dX9_calls_118 : decode cX9_calls 118 = .ok (.invokevirtual 180, 3) := by decide +kernel
theorem dX9_calls_121 : decode cX9_calls 121 = .ok (.iinc 2 1, 3) := by decide +kernel
theorem dX9_calls_124 : decode cX9_calls 124 = .ok (.goto (-17), 3) := by decide +kernel
theorem dX9_calls_127 : decode cX9_calls 127 = .ok (.return_, 1) := by decide +kernel
theorem dX9_sends_0 : decode cX9_sends 0 = .ok (.aload_n 0, 1) := by decide +kernel
theorem dX9_sends_1 : decode cX9_sends 1 = .ok (.getfield 83, 3) := by decide +kernel
theorem dX9_sends_4 : decode cX9_sends 4 = .ok (.iconst 5, 1) := by decide +kernel
theorem dX9_sends_5 : decode cX9_sends 5 = .ok (.iload_n 1, 1) := by decide +kernel
theorem dX9_sends_6 : decode cX9_sends 6 = .ok (.imul, 1) := by decide +kernel
theorem dX9_sends_7 : decode cX9_sends 7 = .ok (.iload_n 2, 1) := by decide +kernel
theorem dX9_sends_8 : decode cX9_sends 8 = .ok (.iadd, 1) := by decide +kernel
theorem dX9_sends_9 : decode cX9_sends 9 = .ok (.caload, 1) := by decide +kernel
theorem dX9_sends_10 : decode cX9_sends 10 = .ok (.bipush 45, 2) := by decide +kernel
theorem dX9_sends_12 : decode cX9_sends 12 = .ok (.if_icmp .ne 12, 3) := by decide +kernel
theorem dX9_sends_15 : decode cX9_sends 15 = .ok (.aload_n 0, 1) := by decide +kernel
theorem dX9_sends_16 : decode cX9_sends 16 = .ok (.iload_n 1, 1) := by decide +kernel
theorem dX9_sends_17 : decode cX9_sends 17 = .ok (.iload_n 2, 1) := by decide +kernel
theorem dX9_sends_18 : decode cX9_sends 18 = .ok (.invokevirtual 171, 3) := by decide +kernel
theorem dX9_sends_21 : decode cX9_sends 21 = .ok (.ifCond .ne 4, 3) := by decide +kernel
theorem dX9_sends_24 : decode cX9_sends 24 = .ok (.return_, 1) := by decide +kernel
theorem dX9_sends_25 : decode cX9_sends 25 = .ok (.aload_n 0, 1) := by decide +kernel
theorem dX9_sends_26 : decode cX9_sends 26 = .ok (.dup, 1) := by decide +kernel
theorem dX9_sends_27 : decode cX9_sends 27 = .ok (.getfield 183, 3) := by decide +kernel
theorem dX9_sends_30 : decode cX9_sends 30 = .ok (.iconst 1, 1) := by decide +kernel
theorem dX9_sends_31 : decode cX9_sends 31 = .ok (.iadd, 1) := by decide +kernel
theorem dX9_sends_32 : decode cX9_sends 32 = .ok (.putfield 183, 3) := by decide +kernel
theorem dX9_sends_35 : decode cX9_sends 35 = .ok (.aload_n 0, 1) := by decide +kernel
theorem dX9_sends_36 : decode cX9_sends 36 = .ok (.getfield 86, 3) := by decide +kernel
theorem dX9_sends_39 : decode cX9_sends 39 = .ok (.iconst 5, 1) := by decide +kernel
theorem dX9_sends_40 : decode cX9_sends 40 = .ok (.iload_n 1, 1) := by decide +kernel
theorem dX9_sends_41 : decode cX9_sends 41 = .ok (.imul, 1) := by decide +kernel
theorem dX9_sends_42 : decode cX9_sends 42 = .ok (.iload_n 2, 1) := by decide +kernel
theorem dX9_sends_43 : decode cX9_sends 43 = .ok (.iadd, 1) := by decide +kernel
theorem dX9_sends_44 : decode cX9_sends 44 = .ok (.aload_n 0, 1) := by decide +kernel
theorem dX9_sends_45 : decode cX9_sends 45 = .ok (.getfield 183, 3) := by decide +kernel
theorem dX9_sends_48 : decode cX9_sends 48 = .ok (.iastore, 1) := by decide +kernel
theorem dX9_sends_49 : decode cX9_sends 49 = .ok (.aload_n 0, 1) := by decide +kernel
theorem dX9_sends_50 : decode cX9_sends 50 = .ok (.getfield 83, 3) := by decide +kernel
theorem dX9_sends_53 : decode cX9_sends 53 = .ok (.iconst 5, 1) := by decide +kernel
theorem dX9_sends_54 : decode cX9_sends 54 = .ok (.iload_n 1, 1) := by decide +kernel
theorem dX9_sends_55 : decode cX9_sends 55 = .ok (.imul, 1) := by decide +kernel
theorem dX9_sends_56 : decode cX9_sends 56 = .ok (.iload_n 2, 1) := by decide +kernel
theorem dX9_sends_57 : decode cX9_sends 57 = .ok (.iadd, 1) := by decide +kernel
theorem dX9_sends_58 : decode cX9_sends 58 = .ok (.bipush 113, 2) := by decide +kernel
theorem dX9_sends_60 : decode cX9_sends 60 = .ok (.castore, 1) := by decide +kernel
theorem dX9_sends_61 : decode cX9_sends 61 = .ok (.aload_n 0, 1) := by decide +kernel
theorem dX9_sends_62 : decode cX9_sends 62 = .ok (.aload_n 0, 1) := by decide +kernel
theorem dX9_sends_63 : decode cX9_sends 63 = .ok (.getfield 26, 3) := by decide +kernel
theorem dX9_sends_66 : decode cX9_sends 66 = .ok (.iload_n 2, 1) := by decide +kernel
theorem dX9_sends_67 : decode cX9_sends 67 = .ok (.iaload, 1) := by decide +kernel
theorem dX9_sends_68 : decode cX9_sends 68 = .ok (.invokevirtual 177, 3) := by decide +kernel
theorem dX9_sends_71 : decode cX9_sends 71 = .ok (.return_, 1) := by decide +kernel
theorem dX9_waitingAt_0 : decode cX9_waitingAt 0 = .ok (.iconst 0, 1) := by decide +kernel
theorem dX9_waitingAt_1 : decode cX9_waitingAt 1 = .ok (.istore_n 3, 1) := by decide +kernel
theorem dX9_waitingAt_2 : decode cX9_waitingAt 2 = .ok (.iconst 0, 1) := by decide +kernel
theorem dX9_waitingAt_3 : decode cX9_waitingAt 3 = .ok (.istore 4, 2) := by decide +kernel
theorem dX9_waitingAt_5 : decode cX9_waitingAt 5 = .ok (.iconst 0, 1) := by decide +kernel
theorem dX9_waitingAt_6 : decode cX9_waitingAt 6 = .ok (.istore 5, 2) := by decide +kernel
theorem dX9_waitingAt_8 : decode cX9_waitingAt 8 = .ok (.iload 5, 2) := by decide +kernel
theorem dX9_waitingAt_10 : decode cX9_waitingAt 10 = .ok (.iload_n 2, 1) := by decide +kernel
theorem dX9_waitingAt_11 : decode cX9_waitingAt 11 = .ok (.if_icmp .gt 180, 3) := by decide +kernel
theorem dX9_waitingAt_14 : decode cX9_waitingAt 14 = .ok (.iconst (-1), 1) := by decide +kernel
theorem dX9_waitingAt_15 : decode cX9_waitingAt 15 = .ok (.istore 4, 2) := by decide +kernel
theorem dX9_waitingAt_17 : decode cX9_waitingAt 17 = .ok (.iconst 0, 1) := by decide +kernel
theorem dX9_waitingAt_18 : decode cX9_waitingAt 18 = .ok (.istore 6, 2) := by decide +kernel
theorem dX9_waitingAt_20 : decode cX9_waitingAt 20 = .ok (.iload 6, 2) := by decide +kernel
theorem dX9_waitingAt_22 : decode cX9_waitingAt 22 = .ok (.aload_n 0, 1) := by decide +kernel
theorem dX9_waitingAt_23 : decode cX9_waitingAt 23 = .ok (.getfield 127, 3) := by decide +kernel
theorem dX9_waitingAt_26 : decode cX9_waitingAt 26 = .ok (.if_icmp .ge 132, 3) := by decide +kernel
theorem dX9_waitingAt_29 : decode cX9_waitingAt 29 = .ok (.iconst 0, 1) := by decide +kernel
theorem dX9_waitingAt_30 : decode cX9_waitingAt 30 = .ok (.istore 7, 2) := by decide +kernel
theorem dX9_waitingAt_32 : decode cX9_waitingAt 32 = .ok (.iload 7, 2) := by decide +kernel
theorem dX9_waitingAt_34 : decode cX9_waitingAt 34 = .ok (.aload_n 0, 1) := by decide +kernel
theorem dX9_waitingAt_35 : decode cX9_waitingAt 35 = .ok (.getfield 124, 3) := by decide +kernel
theorem dX9_waitingAt_38 : decode cX9_waitingAt 38 = .ok (.if_icmp .ge 114, 3) := by decide +kernel
theorem dX9_waitingAt_41 : decode cX9_waitingAt 41 = .ok (.aload_n 0, 1) := by decide +kernel
theorem dX9_waitingAt_42 : decode cX9_waitingAt 42 = .ok (.getfield 83, 3) := by decide +kernel
theorem dX9_waitingAt_45 : decode cX9_waitingAt 45 = .ok (.iconst 5, 1) := by decide +kernel
theorem dX9_waitingAt_46 : decode cX9_waitingAt 46 = .ok (.iload 6, 2) := by decide +kernel
theorem dX9_waitingAt_48 : decode cX9_waitingAt 48 = .ok (.imul, 1) := by decide +kernel
theorem dX9_waitingAt_49 : decode cX9_waitingAt 49 = .ok (.iload 7, 2) := by decide +kernel
theorem dX9_waitingAt_51 : decode cX9_waitingAt 51 = .ok (.iadd, 1) := by decide +kernel
theorem dX9_waitingAt_52 : decode cX9_waitingAt 52 = .ok (.caload, 1) := by decide +kernel
theorem dX9_waitingAt_53 : decode cX9_waitingAt 53 = .ok (.bipush 113, 2) := by decide +kernel
theorem dX9_waitingAt_55 : decode cX9_waitingAt 55 = .ok (.if_icmp .ne 34, 3) := by decide +kernel
theorem dX9_waitingAt_58 : decode cX9_waitingAt 58 = .ok (.aload_n 0, 1) := by decide +kernel
theorem dX9_waitingAt_59 : decode cX9_waitingAt 59 = .ok (.getfield 26, 3) := by decide +kernel
theorem dX9_waitingAt_62 : decode cX9_waitingAt 62 = .ok (.iload 7, 2) := by decide +kernel
theorem dX9_waitingAt_64 : decode cX9_waitingAt 64 = .ok (.iaload, 1) := by decide +kernel
theorem dX9_waitingAt_65 : decode cX9_waitingAt 65 = .ok (.iload_n 1, 1) := by decide +kernel
theorem dX9_waitingAt_66 : decode cX9_waitingAt 66 = .ok (.if_icmp .ne 23, 3) := by decide +kernel
theorem dX9_waitingAt_69 : decode cX9_waitingAt 69 = .ok (.aload_n 0, 1) := by decide +kernel
theorem dX9_waitingAt_70 : decode cX9_waitingAt 70 = .ok (.getfield 86, 3) := by decide +kernel
theorem dX9_waitingAt_73 : decode cX9_waitingAt 73 = .ok (.iconst 5, 1) := by decide +kernel
theorem dX9_waitingAt_74 : decode cX9_waitingAt 74 = .ok (.iload 6, 2) := by decide +kernel
theorem dX9_waitingAt_76 : decode cX9_waitingAt 76 = .ok (.imul, 1) := by decide +kernel
theorem dX9_waitingAt_77 : decode cX9_waitingAt 77 = .ok (.iload 7, 2) := by decide +kernel
theorem dX9_waitingAt_79 : decode cX9_waitingAt 79 = .ok (.iadd, 1) := by decide +kernel
theorem dX9_waitingAt_80 : decode cX9_waitingAt 80 = .ok (.iaload, 1) := by decide +kernel
theorem dX9_waitingAt_81 : decode cX9_waitingAt 81 = .ok (.iload_n 3, 1) := by decide +kernel
theorem dX9_waitingAt_82 : decode cX9_waitingAt 82 = .ok (.if_icmp .le 7, 3) := by decide +kernel
theorem dX9_waitingAt_85 : decode cX9_waitingAt 85 = .ok (.iconst 1, 1) := by decide +kernel
theorem dX9_waitingAt_86 : decode cX9_waitingAt 86 = .ok (.goto 4, 3) := by decide +kernel
theorem dX9_waitingAt_89 : decode cX9_waitingAt 89 = .ok (.iconst 0, 1) := by decide +kernel
theorem dX9_waitingAt_90 : decode cX9_waitingAt 90 = .ok (.istore 8, 2) := by decide +kernel
theorem dX9_waitingAt_92 : decode cX9_waitingAt 92 = .ok (.iload 8, 2) := by decide +kernel
theorem dX9_waitingAt_94 : decode cX9_waitingAt 94 = .ok (.ifCond .eq 52, 3) := by decide +kernel
theorem dX9_waitingAt_97 : decode cX9_waitingAt 97 = .ok (.iload 4, 2) := by decide +kernel
theorem dX9_waitingAt_99 : decode cX9_waitingAt 99 = .ok (.iconst (-1), 1) := by decide +kernel
theorem dX9_waitingAt_100 : decode cX9_waitingAt 100 = .ok (.if_icmp .eq 36, 3) := by decide +kernel
theorem dX9_waitingAt_103 : decode cX9_waitingAt 103 = .ok (.aload_n 0, 1) := by decide +kernel
theorem dX9_waitingAt_104 : decode cX9_waitingAt 104 = .ok (.getfield 86, 3) := by decide +kernel
theorem dX9_waitingAt_107 : decode cX9_waitingAt 107 = .ok (.iconst 5, 1) := by decide +kernel
theorem dX9_waitingAt_108 : decode cX9_waitingAt 108 = .ok (.iload 6, 2) := by decide +kernel
theorem dX9_waitingAt_110 : decode cX9_waitingAt 110 = .ok (.imul, 1) := by decide +kernel
theorem dX9_waitingAt_111 : decode cX9_waitingAt 111 = .ok (.iload 7, 2) := by decide +kernel
theorem dX9_waitingAt_113 : decode cX9_waitingAt 113 = .ok (.iadd, 1) := by decide +kernel
theorem dX9_waitingAt_114 : decode cX9_waitingAt 114 = .ok (.iaload, 1) := by decide +kernel
theorem dX9_waitingAt_115 : decode cX9_waitingAt 115 = .ok (.aload_n 0, 1) := by decide +kernel
theorem dX9_waitingAt_116 : decode cX9_waitingAt 116 = .ok (.getfield 86, 3) := by decide +kernel
theorem dX9_waitingAt_119 : decode cX9_waitingAt 119 = .ok (.iconst 5, 1) := by decide +kernel
theorem dX9_waitingAt_120 : decode cX9_waitingAt 120 = .ok (.iload 4, 2) := by decide +kernel
theorem dX9_waitingAt_122 : decode cX9_waitingAt 122 = .ok (.bipush 10, 2) := by decide +kernel
theorem dX9_waitingAt_124 : decode cX9_waitingAt 124 = .ok (.idiv, 1) := by decide +kernel
theorem dX9_waitingAt_125 : decode cX9_waitingAt 125 = .ok (.imul, 1) := by decide +kernel
theorem dX9_waitingAt_126 : decode cX9_waitingAt 126 = .ok (.iload 4, 2) := by decide +kernel
theorem dX9_waitingAt_128 : decode cX9_waitingAt 128 = .ok (.bipush 10, 2) := by decide +kernel
theorem dX9_waitingAt_130 : decode cX9_waitingAt 130 = .ok (.irem, 1) := by decide +kernel
theorem dX9_waitingAt_131 : decode cX9_waitingAt 131 = .ok (.iadd, 1) := by decide +kernel
theorem dX9_waitingAt_132 : decode cX9_waitingAt 132 = .ok (.iaload, 1) := by decide +kernel
theorem dX9_waitingAt_133 : decode cX9_waitingAt 133 = .ok (.if_icmp .ge 13, 3) := by decide +kernel
theorem dX9_waitingAt_136 : decode cX9_waitingAt 136 = .ok (.bipush 10, 2) := by decide +kernel
theorem dX9_waitingAt_138 : decode cX9_waitingAt 138 = .ok (.iload 6, 2) := by decide +kernel
theorem dX9_waitingAt_140 : decode cX9_waitingAt 140 = .ok (.imul, 1) := by decide +kernel
theorem dX9_waitingAt_141 : decode cX9_waitingAt 141 = .ok (.iload 7, 2) := by decide +kernel
theorem dX9_waitingAt_143 : decode cX9_waitingAt 143 = .ok (.iadd, 1) := by decide +kernel
theorem dX9_waitingAt_144 : decode cX9_waitingAt 144 = .ok (.istore 4, 2) := by decide +kernel
theorem dX9_waitingAt_146 : decode cX9_waitingAt 146 = .ok (.iinc 7 1, 3) := by decide +kernel
theorem dX9_waitingAt_149 : decode cX9_waitingAt 149 = .ok (.goto (-117), 3) := by decide +kernel
theorem dX9_waitingAt_152 : decode cX9_waitingAt 152 = .ok (.iinc 6 1, 3) := by decide +kernel
theorem dX9_waitingAt_155 : decode cX9_waitingAt 155 = .ok (.goto (-135), 3) := by decide +kernel
theorem dX9_waitingAt_158 : decode cX9_waitingAt 158 = .ok (.iload 4, 2) := by decide +kernel
theorem dX9_waitingAt_160 : decode cX9_waitingAt 160 = .ok (.iconst (-1), 1) := by decide +kernel
theorem dX9_waitingAt_161 : decode cX9_waitingAt 161 = .ok (.if_icmp .ne 5, 3) := by decide +kernel
theorem dX9_waitingAt_164 : decode cX9_waitingAt 164 = .ok (.iconst (-1), 1) := by decide +kernel
theorem dX9_waitingAt_165 : decode cX9_waitingAt 165 = .ok (.ireturn, 1) := by decide +kernel
theorem dX9_waitingAt_166 : decode cX9_waitingAt 166 = .ok (.aload_n 0, 1) := by decide +kernel
theorem dX9_waitingAt_167 : decode cX9_waitingAt 167 = .ok (.getfield 86, 3) := by decide +kernel
theorem dX9_waitingAt_170 : decode cX9_waitingAt 170 = .ok (.iconst 5, 1) := by decide +kernel
theorem dX9_waitingAt_171 : decode cX9_waitingAt 171 = .ok (.iload 4, 2) := by decide +kernel
theorem dX9_waitingAt_173 : decode cX9_waitingAt 173 = .ok (.bipush 10, 2) := by decide +kernel
theorem dX9_waitingAt_175 : decode cX9_waitingAt 175 = .ok (.idiv, 1) := by decide +kernel
theorem dX9_waitingAt_176 : decode cX9_waitingAt 176 = .ok (.imul, 1) := by decide +kernel
theorem dX9_waitingAt_177 : decode cX9_waitingAt 177 = .ok (.iload 4, 2) := by decide +kernel
theorem dX9_waitingAt_179 : decode cX9_waitingAt 179 = .ok (.bipush 10, 2) := by decide +kernel
theorem dX9_waitingAt_181 : decode cX9_waitingAt 181 = .ok (.irem, 1) := by decide +kernel
theorem dX9_waitingAt_182 : decode cX9_waitingAt 182 = .ok (.iadd, 1) := by decide +kernel
theorem dX9_waitingAt_183 : decode cX9_waitingAt 183 = .ok (.iaload, 1) := by decide +kernel
theorem dX9_waitingAt_184 : decode cX9_waitingAt 184 = .ok (.istore_n 3, 1) := by decide +kernel
theorem dX9_waitingAt_185 : decode cX9_waitingAt 185 = .ok (.iinc 5 1, 3) := by decide +kernel
theorem dX9_waitingAt_188 : decode cX9_waitingAt 188 = .ok (.goto (-180), 3) := by decide +kernel
theorem dX9_waitingAt_191 : decode cX9_waitingAt 191 = .ok (.iload 4, 2) := by decide +kernel
theorem dX9_waitingAt_193 : decode cX9_waitingAt 193 = .ok (.ireturn, 1) := by decide +kernel
theorem dX9_gives_0 : decode cX9_gives 0 = .ok (.aload_n 0, 1) := by decide +kernel
theorem dX9_gives_1 : decode cX9_gives 1 = .ok (.iload_n 1, 1) := by decide +kernel
theorem dX9_gives_2 : decode cX9_gives 2 = .ok (.iconst 0, 1) := by decide +kernel
theorem dX9_gives_3 : decode cX9_gives 3 = .ok (.invokevirtual 186, 3) := by decide +kernel
theorem dX9_gives_6 : decode cX9_gives 6 = .ok (.istore_n 2, 1) := by decide +kernel
theorem dX9_gives_7 : decode cX9_gives 7 = .ok (.aload_n 0, 1) := by decide +kernel
theorem dX9_gives_8 : decode cX9_gives 8 = .ok (.getfield 89, 3) := by decide +kernel
theorem dX9_gives_11 : decode cX9_gives 11 = .ok (.iload_n 1, 1) := by decide +kernel
theorem dX9_gives_12 : decode cX9_gives 12 = .ok (.iaload, 1) := by decide +kernel
theorem dX9_gives_13 : decode cX9_gives 13 = .ok (.ifCond .le 46, 3) := by decide +kernel
theorem dX9_gives_16 : decode cX9_gives 16 = .ok (.iload_n 2, 1) := by decide +kernel
theorem dX9_gives_17 : decode cX9_gives 17 = .ok (.iconst (-1), 1) := by decide +kernel
theorem dX9_gives_18 : decode cX9_gives 18 = .ok (.if_icmp .eq 41, 3) := by decide +kernel
theorem dX9_gives_21 : decode cX9_gives 21 = .ok (.aload_n 0, 1) := by decide +kernel
theorem dX9_gives_22 : decode cX9_gives 22 = .ok (.getfield 89, 3) := by decide +kernel
theorem dX9_gives_25 : decode cX9_gives 25 = .ok (.iload_n 1, 1) := by decide +kernel
theorem dX9_gives_26 : decode cX9_gives 26 = .ok (.dup2, 1) := by decide +kernel
theorem dX9_gives_27 : decode cX9_gives 27 = .ok (.iaload, 1) := by decide +kernel
theorem dX9_gives_28 : decode cX9_gives 28 = .ok (.iconst 1, 1) := by decide +kernel
theorem dX9_gives_29 : decode cX9_gives 29 = .ok (.isub, 1) := by decide +kernel
theorem dX9_gives_30 : decode cX9_gives 30 = .ok (.iastore, 1) := by decide +kernel
theorem dX9_gives_31 : decode cX9_gives 31 = .ok (.aload_n 0, 1) := by decide +kernel
theorem dX9_gives_32 : decode cX9_gives 32 = .ok (.getfield 83, 3) := by decide +kernel
theorem dX9_gives_35 : decode cX9_gives 35 = .ok (.iconst 5, 1) := by decide +kernel
theorem dX9_gives_36 : decode cX9_gives 36 = .ok (.iload_n 2, 1) := by decide +kernel
theorem dX9_gives_37 : decode cX9_gives 37 = .ok (.bipush 10, 2) := by decide +kernel
theorem dX9_gives_39 : decode cX9_gives 39 = .ok (.idiv, 1) := by decide +kernel
theorem dX9_gives_40 : decode cX9_gives 40 = .ok (.imul, 1) := by decide +kernel
theorem dX9_gives_41 : decode cX9_gives 41 = .ok (.iload_n 2, 1) := by decide +kernel
theorem dX9_gives_42 : decode cX9_gives 42 = .ok (.bipush 10, 2) := by decide +kernel
theorem dX9_gives_44 : decode cX9_gives 44 = .ok (.irem, 1) := by decide +kernel
theorem dX9_gives_45 : decode cX9_gives 45 = .ok (.iadd, 1) := by decide +kernel
theorem dX9_gives_46 : decode cX9_gives 46 = .ok (.bipush 111, 2) := by decide +kernel
theorem dX9_gives_48 : decode cX9_gives 48 = .ok (.castore, 1) := by decide +kernel
theorem dX9_gives_49 : decode cX9_gives 49 = .ok (.aload_n 0, 1) := by decide +kernel
theorem dX9_gives_50 : decode cX9_gives 50 = .ok (.iload_n 1, 1) := by decide +kernel
theorem dX9_gives_51 : decode cX9_gives 51 = .ok (.iconst 0, 1) := by decide +kernel
theorem dX9_gives_52 : decode cX9_gives 52 = .ok (.invokevirtual 186, 3) := by decide +kernel
theorem dX9_gives_55 : decode cX9_gives 55 = .ok (.istore_n 2, 1) := by decide +kernel
theorem dX9_gives_56 : decode cX9_gives 56 = .ok (.goto (-49), 3) := by decide +kernel
theorem dX9_gives_59 : decode cX9_gives 59 = .ok (.return_, 1) := by decide +kernel
theorem dX9_team_0 : decode cX9_team 0 = .ok (.aload_n 0, 1) := by decide +kernel
theorem dX9_team_1 : decode cX9_team 1 = .ok (.aload_n 0, 1) := by decide +kernel
theorem dX9_team_2 : decode cX9_team 2 = .ok (.getfield 127, 3) := by decide +kernel
theorem dX9_team_5 : decode cX9_team 5 = .ok (.bipush 8, 2) := by decide +kernel
theorem dX9_team_7 : decode cX9_team 7 = .ok (.if_icmp .ne 7, 3) := by decide +kernel
theorem dX9_team_10 : decode cX9_team 10 = .ok (.iconst 1, 1) := by decide +kernel
theorem dX9_team_11 : decode cX9_team 11 = .ok (.goto 4, 3) := by decide +kernel
theorem dX9_team_14 : decode cX9_team 14 = .ok (.iconst 0, 1) := by decide +kernel
theorem dX9_team_15 : decode cX9_team 15 = .ok (.invokevirtual 114, 3) := by decide +kernel
theorem dX9_team_18 : decode cX9_team 18 = .ok (.ifCond .eq 5, 3) := by decide +kernel
theorem dX9_team_21 : decode cX9_team 21 = .ok (.iconst 0, 1) := by decide +kernel
theorem dX9_team_22 : decode cX9_team 22 = .ok (.ireturn, 1) := by decide +kernel
theorem dX9_team_23 : decode cX9_team 23 = .ok (.iconst 0, 1) := by decide +kernel
theorem dX9_team_24 : decode cX9_team 24 = .ok (.istore_n 1, 1) := by decide +kernel
theorem dX9_team_25 : decode cX9_team 25 = .ok (.iload_n 1, 1) := by decide +kernel
theorem dX9_team_26 : decode cX9_team 26 = .ok (.iconst 5, 1) := by decide +kernel
theorem dX9_team_27 : decode cX9_team 27 = .ok (.if_icmp .ge 24, 3) := by decide +kernel
theorem dX9_team_30 : decode cX9_team 30 = .ok (.aload_n 0, 1) := by decide +kernel
theorem dX9_team_31 : decode cX9_team 31 = .ok (.getfield 83, 3) := by decide +kernel
theorem dX9_team_34 : decode cX9_team 34 = .ok (.iconst 5, 1) := by decide +kernel
theorem dX9_team_35 : decode cX9_team 35 = .ok (.aload_n 0, 1) := by decide +kernel
theorem dX9_team_36 : decode cX9_team 36 = .ok (.getfield 127, 3) := by decide +kernel
theorem dX9_team_39 : decode cX9_team 39 = .ok (.imul, 1) := by decide +kernel
theorem dX9_team_40 : decode cX9_team 40 = .ok (.iload_n 1, 1) := by decide +kernel
theorem dX9_team_41 : decode cX9_team 41 = .ok (.iadd, 1) := by decide +kernel
theorem dX9_team_42 : decode cX9_team 42 = .ok (.bipush 45, 2) := by decide +kernel
theorem dX9_team_44 : decode cX9_team 44 = .ok (.castore, 1) := by decide +kernel
theorem dX9_team_45 : decode cX9_team 45 = .ok (.iinc 1 1, 3) := by decide +kernel
theorem dX9_team_48 : decode cX9_team 48 = .ok (.goto (-23), 3) := by decide +kernel
theorem dX9_team_51 : decode cX9_team 51 = .ok (.aload_n 0, 1) := by decide +kernel
theorem dX9_team_52 : decode cX9_team 52 = .ok (.dup, 1) := by decide +kernel
theorem dX9_team_53 : decode cX9_team 53 = .ok (.getfield 127, 3) := by decide +kernel
theorem dX9_team_56 : decode cX9_team 56 = .ok (.iconst 1, 1) := by decide +kernel
theorem dX9_team_57 : decode cX9_team 57 = .ok (.iadd, 1) := by decide +kernel
theorem dX9_team_58 : decode cX9_team 58 = .ok (.putfield 127, 3) := by decide +kernel
theorem dX9_team_61 : decode cX9_team 61 = .ok (.aload_n 0, 1) := by decide +kernel
theorem dX9_team_62 : decode cX9_team 62 = .ok (.getfield 127, 3) := by decide +kernel
theorem dX9_team_65 : decode cX9_team 65 = .ok (.iconst 1, 1) := by decide +kernel
theorem dX9_team_66 : decode cX9_team 66 = .ok (.isub, 1) := by decide +kernel
theorem dX9_team_67 : decode cX9_team 67 = .ok (.ireturn, 1) := by decide +kernel
theorem dX9_submit_0 : decode cX9_submit 0 = .ok (.iload_n 3, 1) := by decide +kernel
theorem dX9_submit_1 : decode cX9_submit 1 = .ok (.iconst 0, 1) := by decide +kernel
theorem dX9_submit_2 : decode cX9_submit 2 = .ok (.sipush 999, 3) := by decide +kernel
theorem dX9_submit_5 : decode cX9_submit 5 = .ok (.invokestatic 103, 3) := by decide +kernel
theorem dX9_submit_8 : decode cX9_submit 8 = .ok (.ifCond .eq 29, 3) := by decide +kernel
theorem dX9_submit_11 : decode cX9_submit 11 = .ok (.aload_n 0, 1) := by decide +kernel
theorem dX9_submit_12 : decode cX9_submit 12 = .ok (.getfield 130, 3) := by decide +kernel
theorem dX9_submit_15 : decode cX9_submit 15 = .ok (.ifCond .eq 18, 3) := by decide +kernel
theorem dX9_submit_18 : decode cX9_submit 18 = .ok (.iload_n 3, 1) := by decide +kernel
theorem dX9_submit_19 : decode cX9_submit 19 = .ok (.aload_n 0, 1) := by decide +kernel
theorem dX9_submit_20 : decode cX9_submit 20 = .ok (.getfield 53, 3) := by decide +kernel
theorem dX9_submit_23 : decode cX9_submit 23 = .ok (.aload_n 0, 1) := by decide +kernel
theorem dX9_submit_24 : decode cX9_submit 24 = .ok (.getfield 130, 3) := by decide +kernel
theorem dX9_submit_27 : decode cX9_submit 27 = .ok (.iconst 1, 1) := by decide +kernel
theorem dX9_submit_28 : decode cX9_submit 28 = .ok (.isub, 1) := by decide +kernel
theorem dX9_submit_29 : decode cX9_submit 29 = .ok (.iaload, 1) := by decide +kernel
theorem dX9_submit_30 : decode cX9_submit 30 = .ok (.if_icmp .lt 7, 3) := by decide +kernel
theorem dX9_submit_33 : decode cX9_submit 33 = .ok (.iconst 1, 1) := by decide +kernel
theorem dX9_submit_34 : decode cX9_submit 34 = .ok (.goto 4, 3) := by decide +kernel
theorem dX9_submit_37 : decode cX9_submit 37 = .ok (.iconst 0, 1) := by decide +kernel
theorem dX9_submit_38 : decode cX9_submit 38 = .ok (.istore 4, 2) := by decide +kernel
theorem dX9_submit_40 : decode cX9_submit 40 = .ok (.aload_n 0, 1) := by decide +kernel
theorem dX9_submit_41 : decode cX9_submit 41 = .ok (.aload_n 0, 1) := by decide +kernel
theorem dX9_submit_42 : decode cX9_submit 42 = .ok (.iload_n 1, 1) := by decide +kernel
theorem dX9_submit_43 : decode cX9_submit 43 = .ok (.invokevirtual 190, 3) := by decide +kernel
theorem dX9_submit_46 : decode cX9_submit 46 = .ok (.ifCond .ne 11, 3) := by decide +kernel
theorem dX9_submit_49 : decode cX9_submit 49 = .ok (.aload_n 0, 1) := by decide +kernel
theorem dX9_submit_50 : decode cX9_submit 50 = .ok (.iload_n 2, 1) := by decide +kernel
theorem dX9_submit_51 : decode cX9_submit 51 = .ok (.invokevirtual 133, 3) := by decide +kernel
theorem dX9_submit_54 : decode cX9_submit 54 = .ok (.ifCond .eq 7, 3) := by decide +kernel
theorem dX9_submit_57 : decode cX9_submit 57 = .ok (.iconst 1, 1) := by decide +kernel
theorem dX9_submit_58 : decode cX9_submit 58 = .ok (.goto 26, 3) := by decide +kernel
theorem dX9_submit_61 : decode cX9_submit 61 = .ok (.iload 4, 2) := by decide +kernel
theorem dX9_submit_63 : decode cX9_submit 63 = .ok (.ifCond .ne 7, 3) := by decide +kernel
theorem dX9_submit_66 : decode cX9_submit 66 = .ok (.iconst 2, 1) := by decide +kernel
theorem dX9_submit_67 : decode cX9_submit 67 = .ok (.goto 17, 3) := by decide +kernel
theorem dX9_submit_70 : decode cX9_submit 70 = .ok (.aload_n 0, 1) := by decide +kernel
theorem dX9_submit_71 : decode cX9_submit 71 = .ok (.getfield 130, 3) := by decide +kernel
theorem dX9_submit_74 : decode cX9_submit 74 = .ok (.bipush 40, 2) := by decide +kernel
theorem dX9_submit_76 : decode cX9_submit 76 = .ok (.if_icmp .ne 7, 3) := by decide +kernel
theorem dX9_submit_79 : decode cX9_submit 79 = .ok (.iconst 3, 1) := by decide +kernel
theorem dX9_submit_80 : decode cX9_submit 80 = .ok (.goto 4, 3) := by decide +kernel
theorem dX9_submit_83 : decode cX9_submit 83 = .ok (.iconst 0, 1) := by decide +kernel
theorem dX9_submit_84 : decode cX9_submit 84 = .ok (.invokevirtual 114, 3) := by decide +kernel
theorem dX9_submit_87 : decode cX9_submit 87 = .ok (.ifCond .eq 5, 3) := by decide +kernel
theorem dX9_submit_90 : decode cX9_submit 90 = .ok (.iconst 0, 1) := by decide +kernel
theorem dX9_submit_91 : decode cX9_submit 91 = .ok (.ireturn, 1) := by decide +kernel
theorem dX9_submit_92 : decode cX9_submit 92 = .ok (.aload_n 0, 1) := by decide +kernel
theorem dX9_submit_93 : decode cX9_submit 93 = .ok (.getfield 130, 3) := by decide +kernel
theorem dX9_submit_96 : decode cX9_submit 96 = .ok (.istore 5, 2) := by decide +kernel
theorem dX9_submit_98 : decode cX9_submit 98 = .ok (.aload_n 0, 1) := by decide +kernel
theorem dX9_submit_99 : decode cX9_submit 99 = .ok (.getfield 47, 3) := by decide +kernel
theorem dX9_submit_102 : decode cX9_submit 102 = .ok (.iload 5, 2) := by decide +kernel
theorem dX9_submit_104 : decode cX9_submit 104 = .ok (.iload_n 1, 1) := by decide +kernel
theorem dX9_submit_105 : decode cX9_submit 105 = .ok (.iastore, 1) := by decide +kernel
theorem dX9_submit_106 : decode cX9_submit 106 = .ok (.aload_n 0, 1) := by decide +kernel
theorem dX9_submit_107 : decode cX9_submit 107 = .ok (.getfield 50, 3) := by decide +kernel
theorem dX9_submit_110 : decode cX9_submit 110 = .ok (.iload 5, 2) := by decide +kernel
theorem dX9_submit_112 : decode cX9_submit 112 = .ok (.iload_n 2, 1) := by decide +kernel
theorem dX9_submit_113 : decode cX9_submit 113 = .ok (.iastore, 1) := by decide +kernel
theorem dX9_submit_114 : decode cX9_submit 114 = .ok (.aload_n 0, 1) := by decide +kernel
theorem dX9_submit_115 : decode cX9_submit 115 = .ok (.getfield 53, 3) := by decide +kernel
theorem dX9_submit_118 : decode cX9_submit 118 = .ok (.iload 5, 2) := by decide +kernel
theorem dX9_submit_120 : decode cX9_submit 120 = .ok (.iload_n 3, 1) := by decide +kernel
theorem dX9_submit_121 : decode cX9_submit 121 = .ok (.iastore, 1) := by decide +kernel
theorem dX9_submit_122 : decode cX9_submit 122 = .ok (.aload_n 0, 1) := by decide +kernel
theorem dX9_submit_123 : decode cX9_submit 123 = .ok (.getfield 56, 3) := by decide +kernel
theorem dX9_submit_126 : decode cX9_submit 126 = .ok (.iload 5, 2) := by decide +kernel
theorem dX9_submit_128 : decode cX9_submit 128 = .ok (.aload_n 0, 1) := by decide +kernel
theorem dX9_submit_129 : decode cX9_submit 129 = .ok (.getfield 111, 3) := by decide +kernel
theorem dX9_submit_132 : decode cX9_submit 132 = .ok (.iastore, 1) := by decide +kernel
theorem dX9_submit_133 : decode cX9_submit 133 = .ok (.iconst 0, 1) := by decide +kernel
theorem dX9_submit_134 : decode cX9_submit 134 = .ok (.istore 6, 2) := by decide +kernel
theorem dX9_submit_136 : decode cX9_submit 136 = .ok (.iload 6, 2) := by decide +kernel
theorem dX9_submit_138 : decode cX9_submit 138 = .ok (.aload_n 0, 1) := by decide +kernel
theorem dX9_submit_139 : decode cX9_submit 139 = .ok (.getfield 111, 3) := by decide +kernel
theorem dX9_submit_142 : decode cX9_submit 142 = .ok (.if_icmp .ge 69, 3) := by decide +kernel
theorem dX9_submit_145 : decode cX9_submit 145 = .ok (.aload_n 0, 1) := by decide +kernel
theorem dX9_submit_146 : decode cX9_submit 146 = .ok (.getfield 59, 3) := by decide +kernel
theorem dX9_submit_149 : decode cX9_submit 149 = .ok (.bipush 20, 2) := by decide +kernel
theorem dX9_submit_151 : decode cX9_submit 151 = .ok (.iload 5, 2) := by decide +kernel
theorem dX9_submit_153 : decode cX9_submit 153 = .ok (.imul, 1) := by decide +kernel
theorem dX9_submit_154 : decode cX9_submit 154 = .ok (.iload 6, 2) := by decide +kernel
theorem dX9_submit_156 : decode cX9_submit 156 = .ok (.iadd, 1) := by decide +kernel
theorem dX9_submit_157 : decode cX9_submit 157 = .ok (.aload_n 0, 1) := by decide +kernel
theorem dX9_submit_158 : decode cX9_submit 158 = .ok (.getfield 7, 3) := by decide +kernel
theorem dX9_submit_161 : decode cX9_submit 161 = .ok (.iload 6, 2) := by decide +kernel
theorem dX9_submit_163 : decode cX9_submit 163 = .ok (.caload, 1) := by decide +kernel
theorem dX9_submit_164 : decode cX9_submit 164 = .ok (.castore, 1) := by decide +kernel
theorem dX9_submit_165 : decode cX9_submit 165 = .ok (.aload_n 0, 1) := by decide +kernel
theorem dX9_submit_166 : decode cX9_submit 166 = .ok (.getfield 62, 3) := by decide +kernel
theorem dX9_submit_169 : decode cX9_submit 169 = .ok (.bipush 20, 2) := by decide +kernel
theorem dX9_submit_171 : decode cX9_submit 171 = .ok (.iload 5, 2) := by decide +kernel
theorem dX9_submit_173 : decode cX9_submit 173 = .ok (.imul, 1) := by decide +kernel
theorem dX9_submit_174 : decode cX9_submit 174 = .ok (.iload 6, 2) := by decide +kernel
theorem dX9_submit_176 : decode cX9_submit 176 = .ok (.iadd, 1) := by decide +kernel
theorem dX9_submit_177 : decode cX9_submit 177 = .ok (.aload_n 0, 1) := by decide +kernel
theorem dX9_submit_178 : decode cX9_submit 178 = .ok (.getfield 13, 3) := by decide +kernel
theorem dX9_submit_181 : decode cX9_submit 181 = .ok (.iload 6, 2) := by decide +kernel
theorem dX9_submit_183 : decode cX9_submit 183 = .ok (.iaload, 1) := by decide +kernel
theorem dX9_submit_184 : decode cX9_submit 184 = .ok (.iastore, 1) := by decide +kernel
theorem dX9_submit_185 : decode cX9_submit 185 = .ok (.aload_n 0, 1) := by decide +kernel
theorem dX9_submit_186 : decode cX9_submit 186 = .ok (.getfield 65, 3) := by decide +kernel
theorem dX9_submit_189 : decode cX9_submit 189 = .ok (.bipush 20, 2) := by decide +kernel
theorem dX9_submit_191 : decode cX9_submit 191 = .ok (.iload 5, 2) := by decide +kernel
theorem dX9_submit_193 : decode cX9_submit 193 = .ok (.imul, 1) := by decide +kernel
theorem dX9_submit_194 : decode cX9_submit 194 = .ok (.iload 6, 2) := by decide +kernel
theorem dX9_submit_196 : decode cX9_submit 196 = .ok (.iadd, 1) := by decide +kernel
theorem dX9_submit_197 : decode cX9_submit 197 = .ok (.aload_n 0, 1) := by decide +kernel
theorem dX9_submit_198 : decode cX9_submit 198 = .ok (.getfield 17, 3) := by decide +kernel
theorem dX9_submit_201 : decode cX9_submit 201 = .ok (.iload 6, 2) := by decide +kernel
theorem dX9_submit_203 : decode cX9_submit 203 = .ok (.iaload, 1) := by decide +kernel
theorem dX9_submit_204 : decode cX9_submit 204 = .ok (.iastore, 1) := by decide +kernel
theorem dX9_submit_205 : decode cX9_submit 205 = .ok (.iinc 6 1, 3) := by decide +kernel
theorem dX9_submit_208 : decode cX9_submit 208 = .ok (.goto (-72), 3) := by decide +kernel
theorem dX9_submit_211 : decode cX9_submit 211 = .ok (.aload_n 0, 1) := by decide +kernel
theorem dX9_submit_212 : decode cX9_submit 212 = .ok (.dup, 1) := by decide +kernel
theorem dX9_submit_213 : decode cX9_submit 213 = .ok (.getfield 130, 3) := by decide +kernel
theorem dX9_submit_216 : decode cX9_submit 216 = .ok (.iconst 1, 1) := by decide +kernel
theorem dX9_submit_217 : decode cX9_submit 217 = .ok (.iadd, 1) := by decide +kernel
theorem dX9_submit_218 : decode cX9_submit 218 = .ok (.putfield 130, 3) := by decide +kernel
theorem dX9_submit_221 : decode cX9_submit 221 = .ok (.iconst 0, 1) := by decide +kernel
theorem dX9_submit_222 : decode cX9_submit 222 = .ok (.istore 6, 2) := by decide +kernel
theorem dX9_submit_224 : decode cX9_submit 224 = .ok (.iload 6, 2) := by decide +kernel
theorem dX9_submit_226 : decode cX9_submit 226 = .ok (.aload_n 0, 1) := by decide +kernel
theorem dX9_submit_227 : decode cX9_submit 227 = .ok (.getfield 32, 3) := by decide +kernel
theorem dX9_submit_230 : decode cX9_submit 230 = .ok (.iload_n 2, 1) := by decide +kernel
theorem dX9_submit_231 : decode cX9_submit 231 = .ok (.iaload, 1) := by decide +kernel
theorem dX9_submit_232 : decode cX9_submit 232 = .ok (.if_icmp .ge 17, 3) := by decide +kernel
theorem dX9_submit_235 : decode cX9_submit 235 = .ok (.aload_n 0, 1) := by decide +kernel
theorem dX9_submit_236 : decode cX9_submit 236 = .ok (.iload 5, 2) := by decide +kernel
theorem dX9_submit_238 : decode cX9_submit 238 = .ok (.iload 6, 2) := by decide +kernel
theorem dX9_submit_240 : decode cX9_submit 240 = .ok (.invokevirtual 164, 3) := by decide +kernel
theorem dX9_submit_243 : decode cX9_submit 243 = .ok (.iinc 6 1, 3) := by decide +kernel
theorem dX9_submit_246 : decode cX9_submit 246 = .ok (.goto (-22), 3) := by decide +kernel
theorem dX9_submit_249 : decode cX9_submit 249 = .ok (.aload_n 0, 1) := by decide +kernel
theorem dX9_submit_250 : decode cX9_submit 250 = .ok (.iload_n 1, 1) := by decide +kernel
theorem dX9_submit_251 : decode cX9_submit 251 = .ok (.iload_n 2, 1) := by decide +kernel
theorem dX9_submit_252 : decode cX9_submit 252 = .ok (.invokevirtual 180, 3) := by decide +kernel
theorem dX9_submit_255 : decode cX9_submit 255 = .ok (.iload 5, 2) := by decide +kernel
theorem dX9_submit_257 : decode cX9_submit 257 = .ok (.ireturn, 1) := by decide +kernel
theorem dX9_verdict_0 : decode cX9_verdict 0 = .ok (.aload_n 0, 1) := by decide +kernel
theorem dX9_verdict_1 : decode cX9_verdict 1 = .ok (.aload_n 0, 1) := by decide +kernel
theorem dX9_verdict_2 : decode cX9_verdict 2 = .ok (.iload_n 1, 1) := by decide +kernel
theorem dX9_verdict_3 : decode cX9_verdict 3 = .ok (.invokevirtual 193, 3) := by decide +kernel
theorem dX9_verdict_6 : decode cX9_verdict 6 = .ok (.ifCond .eq 7, 3) := by decide +kernel
theorem dX9_verdict_9 : decode cX9_verdict 9 = .ok (.iconst 1, 1) := by decide +kernel
theorem dX9_verdict_10 : decode cX9_verdict 10 = .ok (.goto 4, 3) := by decide +kernel
theorem dX9_verdict_13 : decode cX9_verdict 13 = .ok (.iconst 0, 1) := by decide +kernel
theorem dX9_verdict_14 : decode cX9_verdict 14 = .ok (.invokevirtual 114, 3) := by decide +kernel
theorem dX9_verdict_17 : decode cX9_verdict 17 = .ok (.ifCond .eq 8, 3) := by decide +kernel
theorem dX9_verdict_20 : decode cX9_verdict 20 = .ok (.bipush 32, 2) := by decide +kernel
theorem dX9_verdict_22 : decode cX9_verdict 22 = .ok (.goto 8, 3) := by decide +kernel
theorem dX9_verdict_25 : decode cX9_verdict 25 = .ok (.aload_n 0, 1) := by decide +kernel
theorem dX9_verdict_26 : decode cX9_verdict 26 = .ok (.iload_n 1, 1) := by decide +kernel
theorem dX9_verdict_27 : decode cX9_verdict 27 = .ok (.invokevirtual 160, 3) := by decide +kernel
theorem dX9_verdict_30 : decode cX9_verdict 30 = .ok (.ireturn, 1) := by decide +kernel
theorem dX9_failed_0 : decode cX9_failed 0 = .ok (.aload_n 0, 1) := by decide +kernel
theorem dX9_failed_1 : decode cX9_failed 1 = .ok (.aload_n 0, 1) := by decide +kernel
theorem dX9_failed_2 : decode cX9_failed 2 = .ok (.iload_n 1, 1) := by decide +kernel
theorem dX9_failed_3 : decode cX9_failed 3 = .ok (.invokevirtual 193, 3) := by decide +kernel
theorem dX9_failed_6 : decode cX9_failed 6 = .ok (.ifCond .eq 7, 3) := by decide +kernel
theorem dX9_failed_9 : decode cX9_failed 9 = .ok (.iconst 1, 1) := by decide +kernel
theorem dX9_failed_10 : decode cX9_failed 10 = .ok (.goto 4, 3) := by decide +kernel
theorem dX9_failed_13 : decode cX9_failed 13 = .ok (.iconst 0, 1) := by decide +kernel
theorem dX9_failed_14 : decode cX9_failed 14 = .ok (.invokevirtual 114, 3) := by decide +kernel
theorem dX9_failed_17 : decode cX9_failed 17 = .ok (.ifCond .eq 7, 3) := by decide +kernel
theorem dX9_failed_20 : decode cX9_failed 20 = .ok (.iconst 0, 1) := by decide +kernel
theorem dX9_failed_21 : decode cX9_failed 21 = .ok (.goto 8, 3) := by decide +kernel
theorem dX9_failed_24 : decode cX9_failed 24 = .ok (.aload_n 0, 1) := by decide +kernel
theorem dX9_failed_25 : decode cX9_failed 25 = .ok (.iload_n 1, 1) := by decide +kernel
theorem dX9_failed_26 : decode cX9_failed 26 = .ok (.invokevirtual 156, 3) := by decide +kernel
theorem dX9_failed_29 : decode cX9_failed 29 = .ok (.ireturn, 1) := by decide +kernel
theorem dX9_isNoTest_0 : decode cX9_isNoTest 0 = .ok (.aload_n 0, 1) := by decide +kernel
theorem dX9_isNoTest_1 : decode cX9_isNoTest 1 = .ok (.iload_n 1, 1) := by decide +kernel
theorem dX9_isNoTest_2 : decode cX9_isNoTest 2 = .ok (.invokevirtual 193, 3) := by decide +kernel
theorem dX9_isNoTest_5 : decode cX9_isNoTest 5 = .ok (.ifCond .ne 24, 3) := by decide +kernel
theorem dX9_isNoTest_8 : decode cX9_isNoTest 8 = .ok (.iload_n 2, 1) := by decide +kernel
theorem dX9_isNoTest_9 : decode cX9_isNoTest 9 = .ok (.iconst 0, 1) := by decide +kernel
theorem dX9_isNoTest_10 : decode cX9_isNoTest 10 = .ok (.aload_n 0, 1) := by decide +kernel
theorem dX9_isNoTest_11 : decode cX9_isNoTest 11 = .ok (.getfield 32, 3) := by decide +kernel
theorem dX9_isNoTest_14 : decode cX9_isNoTest 14 = .ok (.aload_n 0, 1) := by decide +kernel
theorem dX9_isNoTest_15 : decode cX9_isNoTest 15 = .ok (.getfield 50, 3) := by decide +kernel
theorem dX9_isNoTest_18 : decode cX9_isNoTest 18 = .ok (.iload_n 1, 1) := by decide +kernel
theorem dX9_isNoTest_19 : decode cX9_isNoTest 19 = .ok (.iaload, 1) := by decide +kernel
theorem dX9_isNoTest_20 : decode cX9_isNoTest 20 = .ok (.iaload, 1) := by decide +kernel
theorem dX9_isNoTest_21 : decode cX9_isNoTest 21 = .ok (.iconst 1, 1) := by decide +kernel
theorem dX9_isNoTest_22 : decode cX9_isNoTest 22 = .ok (.isub, 1) := by decide +kernel
theorem dX9_isNoTest_23 : decode cX9_isNoTest 23 = .ok (.invokestatic 103, 3) := by decide +kernel
theorem dX9_isNoTest_26 : decode cX9_isNoTest 26 = .ok (.ifCond .ne 7, 3) := by decide +kernel
theorem dX9_isNoTest_29 : decode cX9_isNoTest 29 = .ok (.iconst 1, 1) := by decide +kernel
theorem dX9_isNoTest_30 : decode cX9_isNoTest 30 = .ok (.goto 4, 3) := by decide +kernel
theorem dX9_isNoTest_33 : decode cX9_isNoTest 33 = .ok (.iconst 0, 1) := by decide +kernel
theorem dX9_isNoTest_34 : decode cX9_isNoTest 34 = .ok (.ireturn, 1) := by decide +kernel
theorem dX9_ended_0 : decode cX9_ended 0 = .ok (.aload_n 0, 1) := by decide +kernel
theorem dX9_ended_1 : decode cX9_ended 1 = .ok (.aload_n 0, 1) := by decide +kernel
theorem dX9_ended_2 : decode cX9_ended 2 = .ok (.iload_n 1, 1) := by decide +kernel
theorem dX9_ended_3 : decode cX9_ended 3 = .ok (.iload_n 2, 1) := by decide +kernel
theorem dX9_ended_4 : decode cX9_ended 4 = .ok (.invokevirtual 196, 3) := by decide +kernel
theorem dX9_ended_7 : decode cX9_ended 7 = .ok (.ifCond .eq 7, 3) := by decide +kernel
theorem dX9_ended_10 : decode cX9_ended 10 = .ok (.iconst 1, 1) := by decide +kernel
theorem dX9_ended_11 : decode cX9_ended 11 = .ok (.goto 4, 3) := by decide +kernel
theorem dX9_ended_14 : decode cX9_ended 14 = .ok (.iconst 0, 1) := by decide +kernel
theorem dX9_ended_15 : decode cX9_ended 15 = .ok (.invokevirtual 114, 3) := by decide +kernel
theorem dX9_ended_18 : decode cX9_ended 18 = .ok (.ifCond .eq 8, 3) := by decide +kernel
theorem dX9_ended_21 : decode cX9_ended 21 = .ok (.bipush 32, 2) := by decide +kernel
theorem dX9_ended_23 : decode cX9_ended 23 = .ok (.goto 14, 3) := by decide +kernel
theorem dX9_ended_26 : decode cX9_ended 26 = .ok (.aload_n 0, 1) := by decide +kernel
theorem dX9_ended_27 : decode cX9_ended 27 = .ok (.getfield 68, 3) := by decide +kernel
theorem dX9_ended_30 : decode cX9_ended 30 = .ok (.bipush 6, 2) := by decide +kernel
theorem dX9_ended_32 : decode cX9_ended 32 = .ok (.iload_n 1, 1) := by decide +kernel
theorem dX9_ended_33 : decode cX9_ended 33 = .ok (.imul, 1) := by decide +kernel
theorem dX9_ended_34 : decode cX9_ended 34 = .ok (.iload_n 2, 1) := by decide +kernel
theorem dX9_ended_35 : decode cX9_ended 35 = .ok (.iadd, 1) := by decide +kernel
theorem dX9_ended_36 : decode cX9_ended 36 = .ok (.caload, 1) := by decide +kernel
theorem dX9_ended_37 : decode cX9_ended 37 = .ok (.ireturn, 1) := by decide +kernel
theorem dX9_steps_0 : decode cX9_steps 0 = .ok (.aload_n 0, 1) := by decide +kernel
theorem dX9_steps_1 : decode cX9_steps 1 = .ok (.aload_n 0, 1) := by decide +kernel
theorem dX9_steps_2 : decode cX9_steps 2 = .ok (.iload_n 1, 1) := by decide +kernel
theorem dX9_steps_3 : decode cX9_steps 3 = .ok (.iload_n 2, 1) := by decide +kernel
theorem dX9_steps_4 : decode cX9_steps 4 = .ok (.invokevirtual 196, 3) := by decide +kernel
theorem dX9_steps_7 : decode cX9_steps 7 = .ok (.ifCond .eq 7, 3) := by decide +kernel
theorem dX9_steps_10 : decode cX9_steps 10 = .ok (.iconst 1, 1) := by decide +kernel
theorem dX9_steps_11 : decode cX9_steps 11 = .ok (.goto 4, 3) := by decide +kernel
theorem dX9_steps_14 : decode cX9_steps 14 = .ok (.iconst 0, 1) := by decide +kernel
theorem dX9_steps_15 : decode cX9_steps 15 = .ok (.invokevirtual 114, 3) := by decide +kernel
theorem dX9_steps_18 : decode cX9_steps 18 = .ok (.ifCond .eq 7, 3) := by decide +kernel
theorem dX9_steps_21 : decode cX9_steps 21 = .ok (.iconst 0, 1) := by decide +kernel
theorem dX9_steps_22 : decode cX9_steps 22 = .ok (.goto 14, 3) := by decide +kernel
theorem dX9_steps_25 : decode cX9_steps 25 = .ok (.aload_n 0, 1) := by decide +kernel
theorem dX9_steps_26 : decode cX9_steps 26 = .ok (.getfield 71, 3) := by decide +kernel
theorem dX9_steps_29 : decode cX9_steps 29 = .ok (.bipush 6, 2) := by decide +kernel
theorem dX9_steps_31 : decode cX9_steps 31 = .ok (.iload_n 1, 1) := by decide +kernel
theorem dX9_steps_32 : decode cX9_steps 32 = .ok (.imul, 1) := by decide +kernel
theorem dX9_steps_33 : decode cX9_steps 33 = .ok (.iload_n 2, 1) := by decide +kernel
theorem dX9_steps_34 : decode cX9_steps 34 = .ok (.iadd, 1) := by decide +kernel
theorem dX9_steps_35 : decode cX9_steps 35 = .ok (.iaload, 1) := by decide +kernel
theorem dX9_steps_36 : decode cX9_steps 36 = .ok (.ireturn, 1) := by decide +kernel
theorem dX9_outputs_0 : decode cX9_outputs 0 = .ok (.aload_n 0, 1) := by decide +kernel
theorem dX9_outputs_1 : decode cX9_outputs 1 = .ok (.aload_n 0, 1) := by decide +kernel
theorem dX9_outputs_2 : decode cX9_outputs 2 = .ok (.iload_n 1, 1) := by decide +kernel
theorem dX9_outputs_3 : decode cX9_outputs 3 = .ok (.iload_n 2, 1) := by decide +kernel
theorem dX9_outputs_4 : decode cX9_outputs 4 = .ok (.invokevirtual 196, 3) := by decide +kernel
theorem dX9_outputs_7 : decode cX9_outputs 7 = .ok (.ifCond .eq 7, 3) := by decide +kernel
theorem dX9_outputs_10 : decode cX9_outputs 10 = .ok (.iconst 1, 1) := by decide +kernel
theorem dX9_outputs_11 : decode cX9_outputs 11 = .ok (.goto 4, 3) := by decide +kernel
theorem dX9_outputs_14 : decode cX9_outputs 14 = .ok (.iconst 0, 1) := by decide +kernel
theorem dX9_outputs_15 : decode cX9_outputs 15 = .ok (.invokevirtual 114, 3) := by decide +kernel
theorem dX9_outputs_18 : decode cX9_outputs 18 = .ok (.ifCond .eq 7, 3) := by decide +kernel
theorem dX9_outputs_21 : decode cX9_outputs 21 = .ok (.iconst 0, 1) := by decide +kernel
theorem dX9_outputs_22 : decode cX9_outputs 22 = .ok (.goto 14, 3) := by decide +kernel
theorem dX9_outputs_25 : decode cX9_outputs 25 = .ok (.aload_n 0, 1) := by decide +kernel
theorem dX9_outputs_26 : decode cX9_outputs 26 = .ok (.getfield 77, 3) := by decide +kernel
theorem dX9_outputs_29 : decode cX9_outputs 29 = .ok (.bipush 6, 2) := by decide +kernel
theorem dX9_outputs_31 : decode cX9_outputs 31 = .ok (.iload_n 1, 1) := by decide +kernel
theorem dX9_outputs_32 : decode cX9_outputs 32 = .ok (.imul, 1) := by decide +kernel
theorem dX9_outputs_33 : decode cX9_outputs 33 = .ok (.iload_n 2, 1) := by decide +kernel
theorem dX9_outputs_34 : decode cX9_outputs 34 = .ok (.iadd, 1) := by decide +kernel
theorem dX9_outputs_35 : decode cX9_outputs 35 = .ok (.iaload, 1) := by decide +kernel
theorem dX9_outputs_36 : decode cX9_outputs 36 = .ok (.ireturn, 1) := by decide +kernel
theorem dX9_output_0 : decode cX9_output 0 = .ok (.aload_n 0, 1) := by decide +kernel
theorem dX9_output_1 : decode cX9_output 1 = .ok (.aload_n 0, 1) := by decide +kernel
theorem dX9_output_2 : decode cX9_output 2 = .ok (.iload_n 1, 1) := by decide +kernel
theorem dX9_output_3 : decode cX9_output 3 = .ok (.iload_n 2, 1) := by decide +kernel
theorem dX9_output_4 : decode cX9_output 4 = .ok (.invokevirtual 196, 3) := by decide +kernel
theorem dX9_output_7 : decode cX9_output 7 = .ok (.ifCond .eq 7, 3) := by decide +kernel
theorem dX9_output_10 : decode cX9_output 10 = .ok (.iconst 1, 1) := by decide +kernel
theorem dX9_output_11 : decode cX9_output 11 = .ok (.goto 29, 3) := by decide +kernel
theorem dX9_output_14 : decode cX9_output 14 = .ok (.iload_n 3, 1) := by decide +kernel
theorem dX9_output_15 : decode cX9_output 15 = .ok (.iconst 0, 1) := by decide +kernel
theorem dX9_output_16 : decode cX9_output 16 = .ok (.aload_n 0, 1) := by decide +kernel
theorem dX9_output_17 : decode cX9_output 17 = .ok (.getfield 77, 3) := by decide +kernel
theorem dX9_output_20 : decode cX9_output 20 = .ok (.bipush 6, 2) := by decide +kernel
theorem dX9_output_22 : decode cX9_output 22 = .ok (.iload_n 1, 1) := by decide +kernel
theorem dX9_output_23 : decode cX9_output 23 = .ok (.imul, 1) := by decide +kernel
theorem dX9_output_24 : decode cX9_output 24 = .ok (.iload_n 2, 1) := by decide +kernel
theorem dX9_output_25 : decode cX9_output 25 = .ok (.iadd, 1) := by decide +kernel
theorem dX9_output_26 : decode cX9_output 26 = .ok (.iaload, 1) := by decide +kernel
theorem dX9_output_27 : decode cX9_output 27 = .ok (.iconst 1, 1) := by decide +kernel
theorem dX9_output_28 : decode cX9_output 28 = .ok (.isub, 1) := by decide +kernel
theorem dX9_output_29 : decode cX9_output 29 = .ok (.invokestatic 103, 3) := by decide +kernel
theorem dX9_output_32 : decode cX9_output 32 = .ok (.ifCond .ne 7, 3) := by decide +kernel
theorem dX9_output_35 : decode cX9_output 35 = .ok (.iconst 2, 1) := by decide +kernel
theorem dX9_output_36 : decode cX9_output 36 = .ok (.goto 4, 3) := by decide +kernel
theorem dX9_output_39 : decode cX9_output 39 = .ok (.iconst 0, 1) := by decide +kernel
theorem dX9_output_40 : decode cX9_output 40 = .ok (.invokevirtual 114, 3) := by decide +kernel
theorem dX9_output_43 : decode cX9_output 43 = .ok (.ifCond .eq 7, 3) := by decide +kernel
theorem dX9_output_46 : decode cX9_output 46 = .ok (.iconst 0, 1) := by decide +kernel
theorem dX9_output_47 : decode cX9_output 47 = .ok (.goto 19, 3) := by decide +kernel
theorem dX9_output_50 : decode cX9_output 50 = .ok (.aload_n 0, 1) := by decide +kernel
theorem dX9_output_51 : decode cX9_output 51 = .ok (.getfield 74, 3) := by decide +kernel
theorem dX9_output_54 : decode cX9_output 54 = .ok (.bipush 36, 2) := by decide +kernel
theorem dX9_output_56 : decode cX9_output 56 = .ok (.iload_n 1, 1) := by decide +kernel
theorem dX9_output_57 : decode cX9_output 57 = .ok (.imul, 1) := by decide +kernel
theorem dX9_output_58 : decode cX9_output 58 = .ok (.bipush 6, 2) := by decide +kernel
theorem dX9_output_60 : decode cX9_output 60 = .ok (.iload_n 2, 1) := by decide +kernel
theorem dX9_output_61 : decode cX9_output 61 = .ok (.imul, 1) := by decide +kernel
theorem dX9_output_62 : decode cX9_output 62 = .ok (.iadd, 1) := by decide +kernel
theorem dX9_output_63 : decode cX9_output 63 = .ok (.iload_n 3, 1) := by decide +kernel
theorem dX9_output_64 : decode cX9_output 64 = .ok (.iadd, 1) := by decide +kernel
theorem dX9_output_65 : decode cX9_output 65 = .ok (.iaload, 1) := by decide +kernel
theorem dX9_output_66 : decode cX9_output 66 = .ok (.ireturn, 1) := by decide +kernel
theorem dX9_areAlike_0 : decode cX9_areAlike 0 = .ok (.aload_n 0, 1) := by decide +kernel
theorem dX9_areAlike_1 : decode cX9_areAlike 1 = .ok (.getfield 77, 3) := by decide +kernel
theorem dX9_areAlike_4 : decode cX9_areAlike 4 = .ok (.bipush 6, 2) := by decide +kernel
theorem dX9_areAlike_6 : decode cX9_areAlike 6 = .ok (.iload_n 1, 1) := by decide +kernel
theorem dX9_areAlike_7 : decode cX9_areAlike 7 = .ok (.imul, 1) := by decide +kernel
theorem dX9_areAlike_8 : decode cX9_areAlike 8 = .ok (.iload_n 2, 1) := by decide +kernel
theorem dX9_areAlike_9 : decode cX9_areAlike 9 = .ok (.iadd, 1) := by decide +kernel
theorem dX9_areAlike_10 : decode cX9_areAlike 10 = .ok (.iaload, 1) := by decide +kernel
theorem dX9_areAlike_11 : decode cX9_areAlike 11 = .ok (.aload_n 0, 1) := by decide +kernel
theorem dX9_areAlike_12 : decode cX9_areAlike 12 = .ok (.getfield 77, 3) := by decide +kernel
theorem dX9_areAlike_15 : decode cX9_areAlike 15 = .ok (.bipush 6, 2) := by decide +kernel
theorem dX9_areAlike_17 : decode cX9_areAlike 17 = .ok (.iload_n 3, 1) := by decide +kernel
theorem dX9_areAlike_18 : decode cX9_areAlike 18 = .ok (.imul, 1) := by decide +kernel
theorem dX9_areAlike_19 : decode cX9_areAlike 19 = .ok (.iload 4, 2) := by decide +kernel
theorem dX9_areAlike_21 : decode cX9_areAlike 21 = .ok (.iadd, 1) := by decide +kernel
theorem dX9_areAlike_22 : decode cX9_areAlike 22 = .ok (.iaload, 1) := by decide +kernel
theorem dX9_areAlike_23 : decode cX9_areAlike 23 = .ok (.if_icmp .ne 7, 3) := by decide +kernel
theorem dX9_areAlike_26 : decode cX9_areAlike 26 = .ok (.iconst 1, 1) := by decide +kernel
theorem dX9_areAlike_27 : decode cX9_areAlike 27 = .ok (.goto 4, 3) := by decide +kernel
theorem dX9_areAlike_30 : decode cX9_areAlike 30 = .ok (.iconst 0, 1) := by decide +kernel
theorem dX9_areAlike_31 : decode cX9_areAlike 31 = .ok (.istore 5, 2) := by decide +kernel
theorem dX9_areAlike_33 : decode cX9_areAlike 33 = .ok (.iconst 0, 1) := by decide +kernel
theorem dX9_areAlike_34 : decode cX9_areAlike 34 = .ok (.istore 6, 2) := by decide +kernel
theorem dX9_areAlike_36 : decode cX9_areAlike 36 = .ok (.iload 6, 2) := by decide +kernel
theorem dX9_areAlike_38 : decode cX9_areAlike 38 = .ok (.aload_n 0, 1) := by decide +kernel
theorem dX9_areAlike_39 : decode cX9_areAlike 39 = .ok (.getfield 77, 3) := by decide +kernel
theorem dX9_areAlike_42 : decode cX9_areAlike 42 = .ok (.bipush 6, 2) := by decide +kernel
theorem dX9_areAlike_44 : decode cX9_areAlike 44 = .ok (.iload_n 1, 1) := by decide +kernel
theorem dX9_areAlike_45 : decode cX9_areAlike 45 = .ok (.imul, 1) := by decide +kernel
theorem dX9_areAlike_46 : decode cX9_areAlike 46 = .ok (.iload_n 2, 1) := by decide +kernel
theorem dX9_areAlike_47 : decode cX9_areAlike 47 = .ok (.iadd, 1) := by decide +kernel
theorem dX9_areAlike_48 : decode cX9_areAlike 48 = .ok (.iaload, 1) := by decide +kernel
theorem dX9_areAlike_49 : decode cX9_areAlike 49 = .ok (.if_icmp .ge 59, 3) := by decide +kernel
theorem dX9_areAlike_52 : decode cX9_areAlike 52 = .ok (.iload 5, 2) := by decide +kernel
theorem dX9_areAlike_54 : decode cX9_areAlike 54 = .ok (.ifCond .eq 54, 3) := by decide +kernel
theorem dX9_areAlike_57 : decode cX9_areAlike 57 = .ok (.aload_n 0, 1) := by decide +kernel
theorem dX9_areAlike_58 : decode cX9_areAlike 58 = .ok (.getfield 74, 3) := by decide +kernel
theorem dX9_areAlike_61 : decode cX9_areAlike 61 = .ok (.bipush 36, 2) := by decide +kernel
theorem dX9_areAlike_63 : decode cX9_areAlike 63 = .ok (.iload_n 1, 1) := by decide +kernel
theorem dX9_areAlike_64 : decode cX9_areAlike 64 = .ok (.imul, 1) := by decide +kernel
theorem dX9_areAlike_65 : decode cX9_areAlike 65 = .ok (.bipush 6, 2) := by decide +kernel
theorem dX9_areAlike_67 : decode cX9_areAlike 67 = .ok (.iload_n 2, 1) := by decide +kernel
theorem dX9_areAlike_68 : decode cX9_areAlike 68 = .ok (.imul, 1) := by decide +kernel
theorem dX9_areAlike_69 : decode cX9_areAlike 69 = .ok (.iadd, 1) := by decide +kernel
theorem dX9_areAlike_70 : decode cX9_areAlike 70 = .ok (.iload 6, 2) := by decide +kernel
theorem dX9_areAlike_72 : decode cX9_areAlike 72 = .ok (.iadd, 1) := by decide +kernel
theorem dX9_areAlike_73 : decode cX9_areAlike 73 = .ok (.iaload, 1) := by decide +kernel
theorem dX9_areAlike_74 : decode cX9_areAlike 74 = .ok (.aload_n 0, 1) := by decide +kernel
theorem dX9_areAlike_75 : decode cX9_areAlike 75 = .ok (.getfield 74, 3) := by decide +kernel
theorem dX9_areAlike_78 : decode cX9_areAlike 78 = .ok (.bipush 36, 2) := by decide +kernel
theorem dX9_areAlike_80 : decode cX9_areAlike 80 = .ok (.iload_n 3, 1) := by decide +kernel
theorem dX9_areAlike_81 : decode cX9_areAlike 81 = .ok (.imul, 1) := by decide +kernel
theorem dX9_areAlike_82 : decode cX9_areAlike 82 = .ok (.bipush 6, 2) := by decide +kernel
theorem dX9_areAlike_84 : decode cX9_areAlike 84 = .ok (.iload 4, 2) := by decide +kernel
theorem dX9_areAlike_86 : decode cX9_areAlike 86 = .ok (.imul, 1) := by decide +kernel
theorem dX9_areAlike_87 : decode cX9_areAlike 87 = .ok (.iadd, 1) := by decide +kernel
theorem dX9_areAlike_88 : decode cX9_areAlike 88 = .ok (.iload 6, 2) := by decide +kernel
theorem dX9_areAlike_90 : decode cX9_areAlike 90 = .ok (.iadd, 1) := by decide +kernel
theorem dX9_areAlike_91 : decode cX9_areAlike 91 = .ok (.iaload, 1) := by decide +kernel
theorem dX9_areAlike_92 : decode cX9_areAlike 92 = .ok (.if_icmp .ne 7, 3) := by decide +kernel
theorem dX9_areAlike_95 : decode cX9_areAlike 95 = .ok (.iconst 1, 1) := by decide +kernel
theorem dX9_areAlike_96 : decode cX9_areAlike 96 = .ok (.goto 4, 3) := by decide +kernel
theorem dX9_areAlike_99 : decode cX9_areAlike 99 = .ok (.iconst 0, 1) := by decide +kernel
theorem dX9_areAlike_100 : decode cX9_areAlike 100 = .ok (.istore 5, 2) := by decide +kernel
theorem dX9_areAlike_102 : decode cX9_areAlike 102 = .ok (.iinc 6 1, 3) := by decide +kernel
theorem dX9_areAlike_105 : decode cX9_areAlike 105 = .ok (.goto (-69), 3) := by decide +kernel
theorem dX9_areAlike_108 : decode cX9_areAlike 108 = .ok (.iload 5, 2) := by decide +kernel
theorem dX9_areAlike_110 : decode cX9_areAlike 110 = .ok (.ireturn, 1) := by decide +kernel
theorem dX9_kept_0 : decode cX9_kept 0 = .ok (.aload_n 0, 1) := by decide +kernel
theorem dX9_kept_1 : decode cX9_kept 1 = .ok (.iconst 0, 1) := by decide +kernel
theorem dX9_kept_2 : decode cX9_kept 2 = .ok (.putfield 100, 3) := by decide +kernel
theorem dX9_kept_5 : decode cX9_kept 5 = .ok (.iconst 0, 1) := by decide +kernel
theorem dX9_kept_6 : decode cX9_kept 6 = .ok (.istore_n 1, 1) := by decide +kernel
theorem dX9_kept_7 : decode cX9_kept 7 = .ok (.iconst 0, 1) := by decide +kernel
theorem dX9_kept_8 : decode cX9_kept 8 = .ok (.istore_n 2, 1) := by decide +kernel
theorem dX9_kept_9 : decode cX9_kept 9 = .ok (.iload_n 2, 1) := by decide +kernel
theorem dX9_kept_10 : decode cX9_kept 10 = .ok (.aload_n 0, 1) := by decide +kernel
theorem dX9_kept_11 : decode cX9_kept 11 = .ok (.getfield 130, 3) := by decide +kernel
theorem dX9_kept_14 : decode cX9_kept 14 = .ok (.if_icmp .ge 49, 3) := by decide +kernel
theorem dX9_kept_17 : decode cX9_kept 17 = .ok (.iconst 0, 1) := by decide +kernel
theorem dX9_kept_18 : decode cX9_kept 18 = .ok (.istore_n 3, 1) := by decide +kernel
theorem dX9_kept_19 : decode cX9_kept 19 = .ok (.iload_n 3, 1) := by decide +kernel
theorem dX9_kept_20 : decode cX9_kept 20 = .ok (.aload_n 0, 1) := by decide +kernel
theorem dX9_kept_21 : decode cX9_kept 21 = .ok (.getfield 32, 3) := by decide +kernel
theorem dX9_kept_24 : decode cX9_kept 24 = .ok (.aload_n 0, 1) := by decide +kernel
theorem dX9_kept_25 : decode cX9_kept 25 = .ok (.getfield 50, 3) := by decide +kernel
theorem dX9_kept_28 : decode cX9_kept 28 = .ok (.iload_n 2, 1) := by decide +kernel
theorem dX9_kept_29 : decode cX9_kept 29 = .ok (.iaload, 1) := by decide +kernel
theorem dX9_kept_30 : decode cX9_kept 30 = .ok (.iaload, 1) := by decide +kernel
theorem dX9_kept_31 : decode cX9_kept 31 = .ok (.if_icmp .ge 26, 3) := by decide +kernel
theorem dX9_kept_34 : decode cX9_kept 34 = .ok (.iload_n 1, 1) := by decide +kernel
theorem dX9_kept_35 : decode cX9_kept 35 = .ok (.aload_n 0, 1) := by decide +kernel
theorem dX9_kept_36 : decode cX9_kept 36 = .ok (.iload_n 2, 1) := by decide +kernel
theorem dX9_kept_37 : decode cX9_kept 37 = .ok (.iload_n 3, 1) := by decide +kernel
theorem dX9_kept_38 : decode cX9_kept 38 = .ok (.invokevirtual 199, 3) := by decide +kernel
theorem dX9_kept_41 : decode cX9_kept 41 = .ok (.ifCond .eq 7, 3) := by decide +kernel
theorem dX9_kept_44 : decode cX9_kept 44 = .ok (.iconst 1, 1) := by decide +kernel
theorem dX9_kept_45 : decode cX9_kept 45 = .ok (.goto 4, 3) := by decide +kernel
theorem dX9_kept_48 : decode cX9_kept 48 = .ok (.iconst 0, 1) := by decide +kernel
theorem dX9_kept_49 : decode cX9_kept 49 = .ok (.iadd, 1) := by decide +kernel
theorem dX9_kept_50 : decode cX9_kept 50 = .ok (.istore_n 1, 1) := by decide +kernel
theorem dX9_kept_51 : decode cX9_kept 51 = .ok (.iinc 3 1, 3) := by decide +kernel
theorem dX9_kept_54 : decode cX9_kept 54 = .ok (.goto (-35), 3) := by decide +kernel
theorem dX9_kept_57 : decode cX9_kept 57 = .ok (.iinc 2 1, 3) := by decide +kernel
theorem dX9_kept_60 : decode cX9_kept 60 = .ok (.goto (-51), 3) := by decide +kernel
theorem dX9_kept_63 : decode cX9_kept 63 = .ok (.iload_n 1, 1) := by decide +kernel
theorem dX9_kept_64 : decode cX9_kept 64 = .ok (.ireturn, 1) := by decide +kernel
theorem dX9_isFirst_0 : decode cX9_isFirst 0 = .ok (.iconst 0, 1) := by decide +kernel
theorem dX9_isFirst_1 : decode cX9_isFirst 1 = .ok (.istore_n 3, 1) := by decide +kernel
theorem dX9_isFirst_2 : decode cX9_isFirst 2 = .ok (.iload_n 3, 1) := by decide +kernel
theorem dX9_isFirst_3 : decode cX9_isFirst 3 = .ok (.iload_n 1, 1) := by decide +kernel
theorem dX9_isFirst_4 : decode cX9_isFirst 4 = .ok (.if_icmp .gt 61, 3) := by decide +kernel
theorem dX9_isFirst_7 : decode cX9_isFirst 7 = .ok (.iload_n 3, 1) := by decide +kernel
theorem dX9_isFirst_8 : decode cX9_isFirst 8 = .ok (.iload_n 1, 1) := by decide +kernel
theorem dX9_isFirst_9 : decode cX9_isFirst 9 = .ok (.if_icmp .ne 7, 3) := by decide +kernel
theorem dX9_isFirst_12 : decode cX9_isFirst 12 = .ok (.iload_n 2, 1) := by decide +kernel
theorem dX9_isFirst_13 : decode cX9_isFirst 13 = .ok (.goto 14, 3) := by decide +kernel
theorem dX9_isFirst_16 : decode cX9_isFirst 16 = .ok (.aload_n 0, 1) := by decide +kernel
theorem dX9_isFirst_17 : decode cX9_isFirst 17 = .ok (.getfield 32, 3) := by decide +kernel
theorem dX9_isFirst_20 : decode cX9_isFirst 20 = .ok (.aload_n 0, 1) := by decide +kernel
theorem dX9_isFirst_21 : decode cX9_isFirst 21 = .ok (.getfield 50, 3) := by decide +kernel
theorem dX9_isFirst_24 : decode cX9_isFirst 24 = .ok (.iload_n 3, 1) := by decide +kernel
theorem dX9_isFirst_25 : decode cX9_isFirst 25 = .ok (.iaload, 1) := by decide +kernel
theorem dX9_isFirst_26 : decode cX9_isFirst 26 = .ok (.iaload, 1) := by decide +kernel
theorem dX9_isFirst_27 : decode cX9_isFirst 27 = .ok (.istore 4, 2) := by decide +kernel
theorem dX9_isFirst_29 : decode cX9_isFirst 29 = .ok (.iconst 0, 1) := by decide +kernel
theorem dX9_isFirst_30 : decode cX9_isFirst 30 = .ok (.istore 5, 2) := by decide +kernel
theorem dX9_isFirst_32 : decode cX9_isFirst 32 = .ok (.iload 5, 2) := by decide +kernel
theorem dX9_isFirst_34 : decode cX9_isFirst 34 = .ok (.iload 4, 2) := by decide +kernel
theorem dX9_isFirst_36 : decode cX9_isFirst 36 = .ok (.if_icmp .ge 23, 3) := by decide +kernel
theorem dX9_isFirst_39 : decode cX9_isFirst 39 = .ok (.aload_n 0, 1) := by decide +kernel
theorem dX9_isFirst_40 : decode cX9_isFirst 40 = .ok (.iload_n 1, 1) := by decide +kernel
theorem dX9_isFirst_41 : decode cX9_isFirst 41 = .ok (.iload_n 2, 1) := by decide +kernel
theorem dX9_isFirst_42 : decode cX9_isFirst 42 = .ok (.iload_n 3, 1) := by decide +kernel
theorem dX9_isFirst_43 : decode cX9_isFirst 43 = .ok (.iload 5, 2) := by decide +kernel
theorem dX9_isFirst_45 : decode cX9_isFirst 45 = .ok (.invokevirtual 202, 3) := by decide +kernel
theorem dX9_isFirst_48 : decode cX9_isFirst 48 = .ok (.ifCond .eq 5, 3) := by decide +kernel
theorem dX9_isFirst_51 : decode cX9_isFirst 51 = .ok (.iconst 0, 1) := by decide +kernel
theorem dX9_isFirst_52 : decode cX9_isFirst 52 = .ok (.ireturn, 1) := by decide +kernel
theorem dX9_isFirst_53 : decode cX9_isFirst 53 = .ok (.iinc 5 1, 3) := by decide +kernel
theorem dX9_isFirst_56 : decode cX9_isFirst 56 = .ok (.goto (-24), 3) := by decide +kernel
theorem dX9_isFirst_59 : decode cX9_isFirst 59 = .ok (.iinc 3 1, 3) := by decide +kernel
theorem dX9_isFirst_62 : decode cX9_isFirst 62 = .ok (.goto (-60), 3) := by decide +kernel
theorem dX9_isFirst_65 : decode cX9_isFirst 65 = .ok (.iconst 1, 1) := by decide +kernel
theorem dX9_isFirst_66 : decode cX9_isFirst 66 = .ok (.ireturn, 1) := by decide +kernel
theorem dX9_sharing_0 : decode cX9_sharing 0 = .ok (.aload_n 0, 1) := by decide +kernel
theorem dX9_sharing_1 : decode cX9_sharing 1 = .ok (.aload_n 0, 1) := by decide +kernel
theorem dX9_sharing_2 : decode cX9_sharing 2 = .ok (.iload_n 1, 1) := by decide +kernel
theorem dX9_sharing_3 : decode cX9_sharing 3 = .ok (.iload_n 2, 1) := by decide +kernel
theorem dX9_sharing_4 : decode cX9_sharing 4 = .ok (.invokevirtual 196, 3) := by decide +kernel
theorem dX9_sharing_7 : decode cX9_sharing 7 = .ok (.ifCond .eq 7, 3) := by decide +kernel
theorem dX9_sharing_10 : decode cX9_sharing 10 = .ok (.iconst 1, 1) := by decide +kernel
theorem dX9_sharing_11 : decode cX9_sharing 11 = .ok (.goto 4, 3) := by decide +kernel
theorem dX9_sharing_14 : decode cX9_sharing 14 = .ok (.iconst 0, 1) := by decide +kernel
theorem dX9_sharing_15 : decode cX9_sharing 15 = .ok (.invokevirtual 114, 3) := by decide +kernel
theorem dX9_sharing_18 : decode cX9_sharing 18 = .ok (.ifCond .eq 5, 3) := by decide +kernel
theorem dX9_sharing_21 : decode cX9_sharing 21 = .ok (.iconst 0, 1) := by decide +kernel
theorem dX9_sharing_22 : decode cX9_sharing 22 = .ok (.ireturn, 1) := by decide +kernel
theorem dX9_sharing_23 : decode cX9_sharing 23 = .ok (.iconst 0, 1) := by decide +kernel
theorem dX9_sharing_24 : decode cX9_sharing 24 = .ok (.istore_n 3, 1) := by decide +kernel
theorem dX9_sharing_25 : decode cX9_sharing 25 = .ok (.iconst 0, 1) := by decide +kernel
theorem dX9_sharing_26 : decode cX9_sharing 26 = .ok (.istore 4, 2) := by decide +kernel
theorem dX9_sharing_28 : decode cX9_sharing 28 = .ok (.iload 4, 2) := by decide +kernel
theorem dX9_sharing_30 : decode cX9_sharing 30 = .ok (.aload_n 0, 1) := by decide +kernel
theorem dX9_sharing_31 : decode cX9_sharing 31 = .ok (.getfield 130, 3) := by decide +kernel
theorem dX9_sharing_34 : decode cX9_sharing 34 = .ok (.if_icmp .ge 56, 3) := by decide +kernel
theorem dX9_sharing_37 : decode cX9_sharing 37 = .ok (.iconst 0, 1) := by decide +kernel
theorem dX9_sharing_38 : decode cX9_sharing 38 = .ok (.istore 5, 2) := by decide +kernel
theorem dX9_sharing_40 : decode cX9_sharing 40 = .ok (.iload 5, 2) := by decide +kernel
theorem dX9_sharing_42 : decode cX9_sharing 42 = .ok (.aload_n 0, 1) := by decide +kernel
theorem dX9_sharing_43 : decode cX9_sharing 43 = .ok (.getfield 32, 3) := by decide +kernel
theorem dX9_sharing_46 : decode cX9_sharing 46 = .ok (.aload_n 0, 1) := by decide +kernel
theorem dX9_sharing_47 : decode cX9_sharing 47 = .ok (.getfield 50, 3) := by decide +kernel
theorem dX9_sharing_50 : decode cX9_sharing 50 = .ok (.iload 4, 2) := by decide +kernel
theorem dX9_sharing_52 : decode cX9_sharing 52 = .ok (.iaload, 1) := by decide +kernel
theorem dX9_sharing_53 : decode cX9_sharing 53 = .ok (.iaload, 1) := by decide +kernel
theorem dX9_sharing_54 : decode cX9_sharing 54 = .ok (.if_icmp .ge 30, 3) := by decide +kernel
theorem dX9_sharing_57 : decode cX9_sharing 57 = .ok (.iload_n 3, 1) := by decide +kernel
theorem dX9_sharing_58 : decode cX9_sharing 58 = .ok (.aload_n 0, 1) := by decide +kernel
theorem dX9_sharing_59 : decode cX9_sharing 59 = .ok (.iload_n 1, 1) := by decide +kernel
theorem dX9_sharing_60 : decode cX9_sharing 60 = .ok (.iload_n 2, 1) := by decide +kernel
theorem dX9_sharing_61 : decode cX9_sharing 61 = .ok (.iload 4, 2) := by decide +kernel
theorem dX9_sharing_63 : decode cX9_sharing 63 = .ok (.iload 5, 2) := by decide +kernel
theorem dX9_sharing_65 : decode cX9_sharing 65 = .ok (.invokevirtual 202, 3) := by decide +kernel
theorem dX9_sharing_68 : decode cX9_sharing 68 = .ok (.ifCond .eq 7, 3) := by decide +kernel
theorem dX9_sharing_71 : decode cX9_sharing 71 = .ok (.iconst 1, 1) := by decide +kernel
theorem dX9_sharing_72 : decode cX9_sharing 72 = .ok (.goto 4, 3) := by decide +kernel
theorem dX9_sharing_75 : decode cX9_sharing 75 = .ok (.iconst 0, 1) := by decide +kernel
theorem dX9_sharing_76 : decode cX9_sharing 76 = .ok (.iadd, 1) := by decide +kernel
theorem dX9_sharing_77 : decode cX9_sharing 77 = .ok (.istore_n 3, 1) := by decide +kernel
theorem dX9_sharing_78 : decode cX9_sharing 78 = .ok (.iinc 5 1, 3) := by decide +kernel
theorem dX9_sharing_81 : decode cX9_sharing 81 = .ok (.goto (-41), 3) := by decide +kernel
theorem dX9_sharing_84 : decode cX9_sharing 84 = .ok (.iinc 4 1, 3) := by decide +kernel
theorem dX9_sharing_87 : decode cX9_sharing 87 = .ok (.goto (-59), 3) := by decide +kernel
theorem dX9_sharing_90 : decode cX9_sharing 90 = .ok (.iload_n 3, 1) := by decide +kernel
theorem dX9_sharing_91 : decode cX9_sharing 91 = .ok (.ireturn, 1) := by decide +kernel
theorem dX9_isNoColour_0 : decode cX9_isNoColour 0 = .ok (.iload_n 0, 1) := by decide +kernel
theorem dX9_isNoColour_1 : decode cX9_isNoColour 1 = .ok (.iconst 0, 1) := by decide +kernel
theorem dX9_isNoColour_2 : decode cX9_isNoColour 2 = .ok (.iconst 3, 1) := by decide +kernel
theorem dX9_isNoColour_3 : decode cX9_isNoColour 3 = .ok (.invokestatic 103, 3) := by decide +kernel
theorem dX9_isNoColour_6 : decode cX9_isNoColour 6 = .ok (.ifCond .ne 7, 3) := by decide +kernel
theorem dX9_isNoColour_9 : decode cX9_isNoColour 9 = .ok (.iconst 1, 1) := by decide +kernel
theorem dX9_isNoColour_10 : decode cX9_isNoColour 10 = .ok (.goto 4, 3) := by decide +kernel
theorem dX9_isNoColour_13 : decode cX9_isNoColour 13 = .ok (.iconst 0, 1) := by decide +kernel
theorem dX9_isNoColour_14 : decode cX9_isNoColour 14 = .ok (.ireturn, 1) := by decide +kernel
theorem dX9_stock_0 : decode cX9_stock 0 = .ok (.aload_n 0, 1) := by decide +kernel
theorem dX9_stock_1 : decode cX9_stock 1 = .ok (.iload_n 1, 1) := by decide +kernel
theorem dX9_stock_2 : decode cX9_stock 2 = .ok (.invokestatic 206, 3) := by decide +kernel
theorem dX9_stock_5 : decode cX9_stock 5 = .ok (.ifCond .ne 13, 3) := by decide +kernel
theorem dX9_stock_8 : decode cX9_stock 8 = .ok (.iload_n 2, 1) := by decide +kernel
theorem dX9_stock_9 : decode cX9_stock 9 = .ok (.iconst 1, 1) := by decide +kernel
theorem dX9_stock_10 : decode cX9_stock 10 = .ok (.bipush 20, 2) := by decide +kernel
theorem dX9_stock_12 : decode cX9_stock 12 = .ok (.invokestatic 103, 3) := by decide +kernel
theorem dX9_stock_15 : decode cX9_stock 15 = .ok (.ifCond .ne 7, 3) := by decide +kernel
theorem dX9_stock_18 : decode cX9_stock 18 = .ok (.iconst 1, 1) := by decide +kernel
theorem dX9_stock_19 : decode cX9_stock 19 = .ok (.goto 4, 3) := by decide +kernel
theorem dX9_stock_22 : decode cX9_stock 22 = .ok (.iconst 0, 1) := by decide +kernel
theorem dX9_stock_23 : decode cX9_stock 23 = .ok (.invokevirtual 114, 3) := by decide +kernel
theorem dX9_stock_26 : decode cX9_stock 26 = .ok (.ifCond .eq 5, 3) := by decide +kernel
theorem dX9_stock_29 : decode cX9_stock 29 = .ok (.iconst 0, 1) := by decide +kernel
theorem dX9_stock_30 : decode cX9_stock 30 = .ok (.ireturn, 1) := by decide +kernel
theorem dX9_stock_31 : decode cX9_stock 31 = .ok (.aload_n 0, 1) := by decide +kernel
theorem dX9_stock_32 : decode cX9_stock 32 = .ok (.getfield 89, 3) := by decide +kernel
theorem dX9_stock_35 : decode cX9_stock 35 = .ok (.iload_n 1, 1) := by decide +kernel
theorem dX9_stock_36 : decode cX9_stock 36 = .ok (.dup2, 1) := by decide +kernel
theorem dX9_stock_37 : decode cX9_stock 37 = .ok (.iaload, 1) := by decide +kernel
theorem dX9_stock_38 : decode cX9_stock 38 = .ok (.iload_n 2, 1) := by decide +kernel
theorem dX9_stock_39 : decode cX9_stock 39 = .ok (.iadd, 1) := by decide +kernel
theorem dX9_stock_40 : decode cX9_stock 40 = .ok (.iastore, 1) := by decide +kernel
theorem dX9_stock_41 : decode cX9_stock 41 = .ok (.aload_n 0, 1) := by decide +kernel
theorem dX9_stock_42 : decode cX9_stock 42 = .ok (.iload_n 1, 1) := by decide +kernel
theorem dX9_stock_43 : decode cX9_stock 43 = .ok (.invokevirtual 177, 3) := by decide +kernel
theorem dX9_stock_46 : decode cX9_stock 46 = .ok (.aload_n 0, 1) := by decide +kernel
theorem dX9_stock_47 : decode cX9_stock 47 = .ok (.getfield 89, 3) := by decide +kernel
theorem dX9_stock_50 : decode cX9_stock 50 = .ok (.iload_n 1, 1) := by decide +kernel
theorem dX9_stock_51 : decode cX9_stock 51 = .ok (.iaload, 1) := by decide +kernel
theorem dX9_stock_52 : decode cX9_stock 52 = .ok (.ireturn, 1) := by decide +kernel
theorem dX9_inStock_0 : decode cX9_inStock 0 = .ok (.aload_n 0, 1) := by decide +kernel
theorem dX9_inStock_1 : decode cX9_inStock 1 = .ok (.iload_n 1, 1) := by decide +kernel
theorem dX9_inStock_2 : decode cX9_inStock 2 = .ok (.invokestatic 206, 3) := by decide +kernel
theorem dX9_inStock_5 : decode cX9_inStock 5 = .ok (.ifCond .eq 7, 3) := by decide +kernel
theorem dX9_inStock_8 : decode cX9_inStock 8 = .ok (.iconst 1, 1) := by decide +kernel
theorem dX9_inStock_9 : decode cX9_inStock 9 = .ok (.goto 4, 3) := by decide +kernel
theorem dX9_inStock_12 : decode cX9_inStock 12 = .ok (.iconst 0, 1) := by decide +kernel
theorem dX9_inStock_13 : decode cX9_inStock 13 = .ok (.invokevirtual 114, 3) := by decide +kernel
theorem dX9_inStock_16 : decode cX9_inStock 16 = .ok (.ifCond .eq 7, 3) := by decide +kernel
theorem dX9_inStock_19 : decode cX9_inStock 19 = .ok (.iconst 0, 1) := by decide +kernel
theorem dX9_inStock_20 : decode cX9_inStock 20 = .ok (.goto 9, 3) := by decide +kernel
theorem dX9_inStock_23 : decode cX9_inStock 23 = .ok (.aload_n 0, 1) := by decide +kernel
theorem dX9_inStock_24 : decode cX9_inStock 24 = .ok (.getfield 89, 3) := by decide +kernel
theorem dX9_inStock_27 : decode cX9_inStock 27 = .ok (.iload_n 1, 1) := by decide +kernel
theorem dX9_inStock_28 : decode cX9_inStock 28 = .ok (.iaload, 1) := by decide +kernel
theorem dX9_inStock_29 : decode cX9_inStock 29 = .ok (.ireturn, 1) := by decide +kernel
theorem dX9_out_0 : decode cX9_out 0 = .ok (.aload_n 0, 1) := by decide +kernel
theorem dX9_out_1 : decode cX9_out 1 = .ok (.iload_n 1, 1) := by decide +kernel
theorem dX9_out_2 : decode cX9_out 2 = .ok (.invokestatic 206, 3) := by decide +kernel
theorem dX9_out_5 : decode cX9_out 5 = .ok (.ifCond .eq 7, 3) := by decide +kernel
theorem dX9_out_8 : decode cX9_out 8 = .ok (.iconst 1, 1) := by decide +kernel
theorem dX9_out_9 : decode cX9_out 9 = .ok (.goto 4, 3) := by decide +kernel
theorem dX9_out_12 : decode cX9_out 12 = .ok (.iconst 0, 1) := by decide +kernel
theorem dX9_out_13 : decode cX9_out 13 = .ok (.invokevirtual 114, 3) := by decide +kernel
theorem dX9_out_16 : decode cX9_out 16 = .ok (.ifCond .eq 5, 3) := by decide +kernel
theorem dX9_out_19 : decode cX9_out 19 = .ok (.iconst 0, 1) := by decide +kernel
theorem dX9_out_20 : decode cX9_out 20 = .ok (.ireturn, 1) := by decide +kernel
theorem dX9_out_21 : decode cX9_out 21 = .ok (.iconst 0, 1) := by decide +kernel
theorem dX9_out_22 : decode cX9_out 22 = .ok (.istore_n 2, 1) := by decide +kernel
theorem dX9_out_23 : decode cX9_out 23 = .ok (.iconst 0, 1) := by decide +kernel
theorem dX9_out_24 : decode cX9_out 24 = .ok (.istore_n 3, 1) := by decide +kernel
theorem dX9_out_25 : decode cX9_out 25 = .ok (.iload_n 3, 1) := by decide +kernel
theorem dX9_out_26 : decode cX9_out 26 = .ok (.aload_n 0, 1) := by decide +kernel
theorem dX9_out_27 : decode cX9_out 27 = .ok (.getfield 127, 3) := by decide +kernel
theorem dX9_out_30 : decode cX9_out 30 = .ok (.if_icmp .ge 62, 3) := by decide +kernel
theorem dX9_out_33 : decode cX9_out 33 = .ok (.iconst 0, 1) := by decide +kernel
theorem dX9_out_34 : decode cX9_out 34 = .ok (.istore 4, 2) := by decide +kernel
theorem dX9_out_36 : decode cX9_out 36 = .ok (.iload 4, 2) := by decide +kernel
theorem dX9_out_38 : decode cX9_out 38 = .ok (.aload_n 0, 1) := by decide +kernel
theorem dX9_out_39 : decode cX9_out 39 = .ok (.getfield 124, 3) := by decide +kernel
theorem dX9_out_42 : decode cX9_out 42 = .ok (.if_icmp .ge 44, 3) := by decide +kernel
theorem dX9_out_45 : decode cX9_out 45 = .ok (.iload_n 2, 1) := by decide +kernel
theorem dX9_out_46 : decode cX9_out 46 = .ok (.aload_n 0, 1) := by decide +kernel
theorem dX9_out_47 : decode cX9_out 47 = .ok (.getfield 26, 3) := by decide +kernel
theorem dX9_out_50 : decode cX9_out 50 = .ok (.iload 4, 2) := by decide +kernel
theorem dX9_out_52 : decode cX9_out 52 = .ok (.iaload, 1) := by decide +kernel
theorem dX9_out_53 : decode cX9_out 53 = .ok (.iload_n 1, 1) := by decide +kernel
theorem dX9_out_54 : decode cX9_out 54 = .ok (.if_icmp .ne 23, 3) := by decide +kernel
theorem dX9_out_57 : decode cX9_out 57 = .ok (.aload_n 0, 1) := by decide +kernel
theorem dX9_out_58 : decode cX9_out 58 = .ok (.getfield 83, 3) := by decide +kernel
theorem dX9_out_61 : decode cX9_out 61 = .ok (.iconst 5, 1) := by decide +kernel
theorem dX9_out_62 : decode cX9_out 62 = .ok (.iload_n 3, 1) := by decide +kernel
theorem dX9_out_63 : decode cX9_out 63 = .ok (.imul, 1) := by decide +kernel
theorem dX9_out_64 : decode cX9_out 64 = .ok (.iload 4, 2) := by decide +kernel
theorem dX9_out_66 : decode cX9_out 66 = .ok (.iadd, 1) := by decide +kernel
theorem dX9_out_67 : decode cX9_out 67 = .ok (.caload, 1) := by decide +kernel
theorem dX9_out_68 : decode cX9_out 68 = .ok (.bipush 111, 2) := by decide +kernel
theorem dX9_out_70 : decode cX9_out 70 = .ok (.if_icmp .ne 7, 3) := by decide +kernel
theorem dX9_out_73 : decode cX9_out 73 = .ok (.iconst 1, 1) := by decide +kernel
theorem dX9_out_74 : decode cX9_out 74 = .ok (.goto 4, 3) := by decide +kernel
theorem dX9_out_77 : decode cX9_out 77 = .ok (.iconst 0, 1) := by decide +kernel
theorem dX9_out_78 : decode cX9_out 78 = .ok (.iadd, 1) := by decide +kernel
theorem dX9_out_79 : decode cX9_out 79 = .ok (.istore_n 2, 1) := by decide +kernel
theorem dX9_out_80 : decode cX9_out 80 = .ok (.iinc 4 1, 3) := by decide +kernel
theorem dX9_out_83 : decode cX9_out 83 = .ok (.goto (-47), 3) := by decide +kernel
theorem dX9_out_86 : decode cX9_out 86 = .ok (.iinc 3 1, 3) := by decide +kernel
theorem dX9_out_89 : decode cX9_out 89 = .ok (.goto (-64), 3) := by decide +kernel
theorem dX9_out_92 : decode cX9_out 92 = .ok (.iload_n 2, 1) := by decide +kernel
theorem dX9_out_93 : decode cX9_out 93 = .ok (.ireturn, 1) := by decide +kernel
theorem dX9_balloon_0 : decode cX9_balloon 0 = .ok (.aload_n 0, 1) := by decide +kernel
theorem dX9_balloon_1 : decode cX9_balloon 1 = .ok (.aload_n 0, 1) := by decide +kernel
theorem dX9_balloon_2 : decode cX9_balloon 2 = .ok (.iload_n 1, 1) := by decide +kernel
theorem dX9_balloon_3 : decode cX9_balloon 3 = .ok (.invokevirtual 190, 3) := by decide +kernel
theorem dX9_balloon_6 : decode cX9_balloon 6 = .ok (.ifCond .ne 11, 3) := by decide +kernel
theorem dX9_balloon_9 : decode cX9_balloon 9 = .ok (.aload_n 0, 1) := by decide +kernel
theorem dX9_balloon_10 : decode cX9_balloon 10 = .ok (.iload_n 2, 1) := by decide +kernel
theorem dX9_balloon_11 : decode cX9_balloon 11 = .ok (.invokevirtual 133, 3) := by decide +kernel
theorem dX9_balloon_14 : decode cX9_balloon 14 = .ok (.ifCond .eq 7, 3) := by decide +kernel
theorem dX9_balloon_17 : decode cX9_balloon 17 = .ok (.iconst 1, 1) := by decide +kernel
theorem dX9_balloon_18 : decode cX9_balloon 18 = .ok (.goto 4, 3) := by decide +kernel
theorem dX9_balloon_21 : decode cX9_balloon 21 = .ok (.iconst 0, 1) := by decide +kernel
theorem dX9_balloon_22 : decode cX9_balloon 22 = .ok (.invokevirtual 114, 3) := by decide +kernel
theorem dX9_balloon_25 : decode cX9_balloon 25 = .ok (.ifCond .eq 8, 3) := by decide +kernel
theorem dX9_balloon_28 : decode cX9_balloon 28 = .ok (.bipush 32, 2) := by decide +kernel
theorem dX9_balloon_30 : decode cX9_balloon 30 = .ok (.goto 13, 3) := by decide +kernel
theorem dX9_balloon_33 : decode cX9_balloon 33 = .ok (.aload_n 0, 1) := by decide +kernel
theorem dX9_balloon_34 : decode cX9_balloon 34 = .ok (.getfield 83, 3) := by decide +kernel
theorem dX9_balloon_37 : decode cX9_balloon 37 = .ok (.iconst 5, 1) := by decide +kernel
theorem dX9_balloon_38 : decode cX9_balloon 38 = .ok (.iload_n 1, 1) := by decide +kernel
theorem dX9_balloon_39 : decode cX9_balloon 39 = .ok (.imul, 1) := by decide +kernel
theorem dX9_balloon_40 : decode cX9_balloon 40 = .ok (.iload_n 2, 1) := by decide +kernel
theorem dX9_balloon_41 : decode cX9_balloon 41 = .ok (.iadd, 1) := by decide +kernel
theorem dX9_balloon_42 : decode cX9_balloon 42 = .ok (.caload, 1) := by decide +kernel
theorem dX9_balloon_43 : decode cX9_balloon 43 = .ok (.ireturn, 1) := by decide +kernel
theorem dX9_waiting_0 : decode cX9_waiting 0 = .ok (.aload_n 0, 1) := by decide +kernel
theorem dX9_waiting_1 : decode cX9_waiting 1 = .ok (.iload_n 1, 1) := by decide +kernel
theorem dX9_waiting_2 : decode cX9_waiting 2 = .ok (.invokestatic 206, 3) := by decide +kernel
theorem dX9_waiting_5 : decode cX9_waiting 5 = .ok (.ifCond .eq 7, 3) := by decide +kernel
theorem dX9_waiting_8 : decode cX9_waiting 8 = .ok (.iconst 1, 1) := by decide +kernel
theorem dX9_waiting_9 : decode cX9_waiting 9 = .ok (.goto 4, 3) := by decide +kernel
theorem dX9_waiting_12 : decode cX9_waiting 12 = .ok (.iconst 0, 1) := by decide +kernel
theorem dX9_waiting_13 : decode cX9_waiting 13 = .ok (.invokevirtual 114, 3) := by decide +kernel
theorem dX9_waiting_16 : decode cX9_waiting 16 = .ok (.ifCond .eq 5, 3) := by decide +kernel
theorem dX9_waiting_19 : decode cX9_waiting 19 = .ok (.iconst 0, 1) := by decide +kernel
theorem dX9_waiting_20 : decode cX9_waiting 20 = .ok (.ireturn, 1) := by decide +kernel
theorem dX9_waiting_21 : decode cX9_waiting 21 = .ok (.iload_n 2, 1) := by decide +kernel
theorem dX9_waiting_22 : decode cX9_waiting 22 = .ok (.ifCond .ge 7, 3) := by decide +kernel
theorem dX9_waiting_25 : decode cX9_waiting 25 = .ok (.iconst (-1), 1) := by decide +kernel
theorem dX9_waiting_26 : decode cX9_waiting 26 = .ok (.goto 9, 3) := by decide +kernel
theorem dX9_waiting_29 : decode cX9_waiting 29 = .ok (.aload_n 0, 1) := by decide +kernel
theorem dX9_waiting_30 : decode cX9_waiting 30 = .ok (.iload_n 1, 1) := by decide +kernel
theorem dX9_waiting_31 : decode cX9_waiting 31 = .ok (.iload_n 2, 1) := by decide +kernel
theorem dX9_waiting_32 : decode cX9_waiting 32 = .ok (.invokevirtual 186, 3) := by decide +kernel
theorem dX9_waiting_35 : decode cX9_waiting 35 = .ok (.istore_n 3, 1) := by decide +kernel
theorem dX9_waiting_36 : decode cX9_waiting 36 = .ok (.aload_n 0, 1) := by decide +kernel
theorem dX9_waiting_37 : decode cX9_waiting 37 = .ok (.iload_n 3, 1) := by decide +kernel
theorem dX9_waiting_38 : decode cX9_waiting 38 = .ok (.iconst (-1), 1) := by decide +kernel
theorem dX9_waiting_39 : decode cX9_waiting 39 = .ok (.if_icmp .ne 7, 3) := by decide +kernel
theorem dX9_waiting_42 : decode cX9_waiting 42 = .ok (.iconst 2, 1) := by decide +kernel
theorem dX9_waiting_43 : decode cX9_waiting 43 = .ok (.goto 4, 3) := by decide +kernel
theorem dX9_waiting_46 : decode cX9_waiting 46 = .ok (.iconst 0, 1) := by decide +kernel
theorem dX9_waiting_47 : decode cX9_waiting 47 = .ok (.invokevirtual 114, 3) := by decide +kernel
theorem dX9_waiting_50 : decode cX9_waiting 50 = .ok (.ifCond .eq 7, 3) := by decide +kernel
theorem dX9_waiting_53 : decode cX9_waiting 53 = .ok (.iconst 0, 1) := by decide +kernel
theorem dX9_waiting_54 : decode cX9_waiting 54 = .ok (.goto 7, 3) := by decide +kernel
theorem dX9_waiting_57 : decode cX9_waiting 57 = .ok (.iload_n 3, 1) := by decide +kernel
theorem dX9_waiting_58 : decode cX9_waiting 58 = .ok (.bipush 10, 2) := by decide +kernel
theorem dX9_waiting_60 : decode cX9_waiting 60 = .ok (.idiv, 1) := by decide +kernel
theorem dX9_waiting_61 : decode cX9_waiting 61 = .ok (.ireturn, 1) := by decide +kernel
theorem dX9_calledBack_0 : decode cX9_calledBack 0 = .ok (.aload_n 0, 1) := by decide +kernel
theorem dX9_calledBack_1 : decode cX9_calledBack 1 = .ok (.iconst 0, 1) := by decide +kernel
theorem dX9_calledBack_2 : decode cX9_calledBack 2 = .ok (.putfield 100, 3) := by decide +kernel
theorem dX9_calledBack_5 : decode cX9_calledBack 5 = .ok (.aload_n 0, 1) := by decide +kernel
theorem dX9_calledBack_6 : decode cX9_calledBack 6 = .ok (.getfield 174, 3) := by decide +kernel
theorem dX9_calledBack_9 : decode cX9_calledBack 9 = .ok (.ireturn, 1) := by decide +kernel
theorem dX9_isPending_0 : decode cX9_isPending 0 = .ok (.aload_n 0, 1) := by decide +kernel
theorem dX9_isPending_1 : decode cX9_isPending 1 = .ok (.getfield 92, 3) := by decide +kernel
theorem dX9_isPending_4 : decode cX9_isPending 4 = .ok (.iconst (-1), 1) := by decide +kernel
theorem dX9_isPending_5 : decode cX9_isPending 5 = .ok (.if_icmp .eq 29, 3) := by decide +kernel
theorem dX9_isPending_8 : decode cX9_isPending 8 = .ok (.aload_n 0, 1) := by decide +kernel
theorem dX9_isPending_9 : decode cX9_isPending 9 = .ok (.getfield 53, 3) := by decide +kernel
theorem dX9_isPending_12 : decode cX9_isPending 12 = .ok (.iload_n 1, 1) := by decide +kernel
theorem dX9_isPending_13 : decode cX9_isPending 13 = .ok (.iaload, 1) := by decide +kernel
theorem dX9_isPending_14 : decode cX9_isPending 14 = .ok (.aload_n 0, 1) := by decide +kernel
theorem dX9_isPending_15 : decode cX9_isPending 15 = .ok (.getfield 92, 3) := by decide +kernel
theorem dX9_isPending_18 : decode cX9_isPending 18 = .ok (.if_icmp .lt 16, 3) := by decide +kernel
theorem dX9_isPending_21 : decode cX9_isPending 21 = .ok (.aload_n 0, 1) := by decide +kernel
theorem dX9_isPending_22 : decode cX9_isPending 22 = .ok (.getfield 96, 3) := by decide +kernel
theorem dX9_isPending_25 : decode cX9_isPending 25 = .ok (.iload_n 1, 1) := by decide +kernel
theorem dX9_isPending_26 : decode cX9_isPending 26 = .ok (.baload, 1) := by decide +kernel
theorem dX9_isPending_27 : decode cX9_isPending 27 = .ok (.ifCond .ne 7, 3) := by decide +kernel
theorem dX9_isPending_30 : decode cX9_isPending 30 = .ok (.iconst 1, 1) := by decide +kernel
theorem dX9_isPending_31 : decode cX9_isPending 31 = .ok (.goto 4, 3) := by decide +kernel
theorem dX9_isPending_34 : decode cX9_isPending 34 = .ok (.iconst 0, 1) := by decide +kernel
theorem dX9_isPending_35 : decode cX9_isPending 35 = .ok (.ireturn, 1) := by decide +kernel
theorem dX9_pendingOf_0 : decode cX9_pendingOf 0 = .ok (.iconst 0, 1) := by decide +kernel
theorem dX9_pendingOf_1 : decode cX9_pendingOf 1 = .ok (.istore_n 3, 1) := by decide +kernel
theorem dX9_pendingOf_2 : decode cX9_pendingOf 2 = .ok (.iconst 0, 1) := by decide +kernel
theorem dX9_pendingOf_3 : decode cX9_pendingOf 3 = .ok (.istore 4, 2) := by decide +kernel
theorem dX9_pendingOf_5 : decode cX9_pendingOf 5 = .ok (.iload 4, 2) := by decide +kernel
theorem dX9_pendingOf_7 : decode cX9_pendingOf 7 = .ok (.aload_n 0, 1) := by decide +kernel
theorem dX9_pendingOf_8 : decode cX9_pendingOf 8 = .ok (.getfield 130, 3) := by decide +kernel
theorem dX9_pendingOf_11 : decode cX9_pendingOf 11 = .ok (.if_icmp .ge 48, 3) := by decide +kernel
theorem dX9_pendingOf_14 : decode cX9_pendingOf 14 = .ok (.iload_n 3, 1) := by decide +kernel
theorem dX9_pendingOf_15 : decode cX9_pendingOf 15 = .ok (.aload_n 0, 1) := by decide +kernel
theorem dX9_pendingOf_16 : decode cX9_pendingOf 16 = .ok (.getfield 47, 3) := by decide +kernel
theorem dX9_pendingOf_19 : decode cX9_pendingOf 19 = .ok (.iload 4, 2) := by decide +kernel
theorem dX9_pendingOf_21 : decode cX9_pendingOf 21 = .ok (.iaload, 1) := by decide +kernel
theorem dX9_pendingOf_22 : decode cX9_pendingOf 22 = .ok (.iload_n 1, 1) := by decide +kernel
theorem dX9_pendingOf_23 : decode cX9_pendingOf 23 = .ok (.if_icmp .ne 27, 3) := by decide +kernel
theorem dX9_pendingOf_26 : decode cX9_pendingOf 26 = .ok (.aload_n 0, 1) := by decide +kernel
theorem dX9_pendingOf_27 : decode cX9_pendingOf 27 = .ok (.getfield 50, 3) := by decide +kernel
theorem dX9_pendingOf_30 : decode cX9_pendingOf 30 = .ok (.iload 4, 2) := by decide +kernel
theorem dX9_pendingOf_32 : decode cX9_pendingOf 32 = .ok (.iaload, 1) := by decide +kernel
theorem dX9_pendingOf_33 : decode cX9_pendingOf 33 = .ok (.iload_n 2, 1) := by decide +kernel
theorem dX9_pendingOf_34 : decode cX9_pendingOf 34 = .ok (.if_icmp .ne 16, 3) := by decide +kernel
theorem dX9_pendingOf_37 : decode cX9_pendingOf 37 = .ok (.aload_n 0, 1) := by decide +kernel
theorem dX9_pendingOf_38 : decode cX9_pendingOf 38 = .ok (.iload 4, 2) := by decide +kernel
theorem dX9_pendingOf_40 : decode cX9_pendingOf 40 = .ok (.invokevirtual 209, 3) := by decide +kernel
theorem dX9_pendingOf_43 : decode cX9_pendingOf 43 = .ok (.ifCond .eq 7, 3) := by decide +kernel
theorem dX9_pendingOf_46 : decode cX9_pendingOf 46 = .ok (.iconst 1, 1) := by decide +kernel
theorem dX9_pendingOf_47 : decode cX9_pendingOf 47 = .ok (.goto 4, 3) := by decide +kernel
theorem dX9_pendingOf_50 : decode cX9_pendingOf 50 = .ok (.iconst 0, 1) := by decide +kernel
theorem dX9_pendingOf_51 : decode cX9_pendingOf 51 = .ok (.iadd, 1) := by decide +kernel
theorem dX9_pendingOf_52 : decode cX9_pendingOf 52 = .ok (.istore_n 3, 1) := by decide +kernel
theorem dX9_pendingOf_53 : decode cX9_pendingOf 53 = .ok (.iinc 4 1, 3) := by decide +kernel
theorem dX9_pendingOf_56 : decode cX9_pendingOf 56 = .ok (.goto (-51), 3) := by decide +kernel
theorem dX9_pendingOf_59 : decode cX9_pendingOf 59 = .ok (.iload_n 3, 1) := by decide +kernel
theorem dX9_pendingOf_60 : decode cX9_pendingOf 60 = .ok (.ireturn, 1) := by decide +kernel
theorem dX9_freeze_0 : decode cX9_freeze 0 = .ok (.aload_n 0, 1) := by decide +kernel
theorem dX9_freeze_1 : decode cX9_freeze 1 = .ok (.iload_n 1, 1) := by decide +kernel
theorem dX9_freeze_2 : decode cX9_freeze 2 = .ok (.iconst 0, 1) := by decide +kernel
theorem dX9_freeze_3 : decode cX9_freeze 3 = .ok (.sipush 999, 3) := by decide +kernel
theorem dX9_freeze_6 : decode cX9_freeze 6 = .ok (.invokestatic 103, 3) := by decide +kernel
theorem dX9_freeze_9 : decode cX9_freeze 9 = .ok (.ifCond .ne 7, 3) := by decide +kernel
theorem dX9_freeze_12 : decode cX9_freeze 12 = .ok (.iconst 1, 1) := by decide +kernel
theorem dX9_freeze_13 : decode cX9_freeze 13 = .ok (.goto 16, 3) := by decide +kernel
theorem dX9_freeze_16 : decode cX9_freeze 16 = .ok (.aload_n 0, 1) := by decide +kernel
theorem dX9_freeze_17 : decode cX9_freeze 17 = .ok (.getfield 92, 3) := by decide +kernel
theorem dX9_freeze_20 : decode cX9_freeze 20 = .ok (.iconst (-1), 1) := by decide +kernel
theorem dX9_freeze_21 : decode cX9_freeze 21 = .ok (.if_icmp .eq 7, 3) := by decide +kernel
theorem dX9_freeze_24 : decode cX9_freeze 24 = .ok (.iconst 2, 1) := by decide +kernel
theorem dX9_freeze_25 : decode cX9_freeze 25 = .ok (.goto 4, 3) := by decide +kernel
theorem dX9_freeze_28 : decode cX9_freeze 28 = .ok (.iconst 0, 1) := by decide +kernel
theorem dX9_freeze_29 : decode cX9_freeze 29 = .ok (.invokevirtual 114, 3) := by decide +kernel
theorem dX9_freeze_32 : decode cX9_freeze 32 = .ok (.ifCond .eq 5, 3) := by decide +kernel
theorem dX9_freeze_35 : decode cX9_freeze 35 = .ok (.iconst 0, 1) := by decide +kernel
theorem dX9_freeze_36 : decode cX9_freeze 36 = .ok (.ireturn, 1) := by decide +kernel
theorem dX9_freeze_37 : decode cX9_freeze 37 = .ok (.aload_n 0, 1) := by decide +kernel
theorem dX9_freeze_38 : decode cX9_freeze 38 = .ok (.iload_n 1, 1) := by decide +kernel
theorem dX9_freeze_39 : decode cX9_freeze 39 = .ok (.putfield 92, 3) := by decide +kernel
theorem dX9_freeze_42 : decode cX9_freeze 42 = .ok (.iconst 0, 1) := by decide +kernel
theorem dX9_freeze_43 : decode cX9_freeze 43 = .ok (.istore_n 2, 1) := by decide +kernel
theorem dX9_freeze_44 : decode cX9_freeze 44 = .ok (.iconst 0, 1) := by decide +kernel
theorem dX9_freeze_45 : decode cX9_freeze 45 = .ok (.istore_n 3, 1) := by decide +kernel
theorem dX9_freeze_46 : decode cX9_freeze 46 = .ok (.iload_n 3, 1) := by decide +kernel
theorem dX9_freeze_47 : decode cX9_freeze 47 = .ok (.aload_n 0, 1) := by decide +kernel
theorem dX9_freeze_48 : decode cX9_freeze 48 = .ok (.getfield 130, 3) := by decide +kernel
theorem dX9_freeze_51 : decode cX9_freeze 51 = .ok (.if_icmp .ge 25, 3) := by decide +kernel
theorem dX9_freeze_54 : decode cX9_freeze 54 = .ok (.iload_n 2, 1) := by decide +kernel
theorem dX9_freeze_55 : decode cX9_freeze 55 = .ok (.aload_n 0, 1) := by decide +kernel
theorem dX9_freeze_56 : decode cX9_freeze 56 = .ok (.iload_n 3, 1) := by decide +kernel
theorem dX9_freeze_57 : decode cX9_freeze 57 = .ok (.invokevirtual 209, 3) := by decide +kernel
theorem dX9_freeze_60 : decode cX9_freeze 60 = .ok (.ifCond .eq 7, 3) := by decide +kernel
theorem dX9_freeze_63 : decode cX9_freeze 63 = .ok (.iconst 1, 1) := by decide +kernel
theorem dX9_freeze_64 : decode cX9_freeze 64 = .ok (.goto 4, 3) := by decide +kernel
theorem dX9_freeze_67 : decode cX9_freeze 67 = .ok (.iconst 0, 1) := by decide +kernel
theorem dX9_freeze_68 : decode cX9_freeze 68 = .ok (.iadd, 1) := by decide +kernel
theorem dX9_freeze_69 : decode cX9_freeze 69 = .ok (.istore_n 2, 1) := by decide +kernel
theorem dX9_freeze_70 : decode cX9_freeze 70 = .ok (.iinc 3 1, 3) := by decide +kernel
theorem dX9_freeze_73 : decode cX9_freeze 73 = .ok (.goto (-27), 3) := by decide +kernel
theorem dX9_freeze_76 : decode cX9_freeze 76 = .ok (.iload_n 2, 1) := by decide +kernel
theorem dX9_freeze_77 : decode cX9_freeze 77 = .ok (.ireturn, 1) := by decide +kernel
theorem dX9_pending_0 : decode cX9_pending 0 = .ok (.aload_n 0, 1) := by decide +kernel
theorem dX9_pending_1 : decode cX9_pending 1 = .ok (.aload_n 0, 1) := by decide +kernel
theorem dX9_pending_2 : decode cX9_pending 2 = .ok (.iload_n 1, 1) := by decide +kernel
theorem dX9_pending_3 : decode cX9_pending 3 = .ok (.invokevirtual 190, 3) := by decide +kernel
theorem dX9_pending_6 : decode cX9_pending 6 = .ok (.ifCond .ne 11, 3) := by decide +kernel
theorem dX9_pending_9 : decode cX9_pending 9 = .ok (.aload_n 0, 1) := by decide +kernel
theorem dX9_pending_10 : decode cX9_pending 10 = .ok (.iload_n 2, 1) := by decide +kernel
theorem dX9_pending_11 : decode cX9_pending 11 = .ok (.invokevirtual 133, 3) := by decide +kernel
theorem dX9_pending_14 : decode cX9_pending 14 = .ok (.ifCond .eq 7, 3) := by decide +kernel
theorem dX9_pending_17 : decode cX9_pending 17 = .ok (.iconst 1, 1) := by decide +kernel
theorem dX9_pending_18 : decode cX9_pending 18 = .ok (.goto 4, 3) := by decide +kernel
theorem dX9_pending_21 : decode cX9_pending 21 = .ok (.iconst 0, 1) := by decide +kernel
theorem dX9_pending_22 : decode cX9_pending 22 = .ok (.invokevirtual 114, 3) := by decide +kernel
theorem dX9_pending_25 : decode cX9_pending 25 = .ok (.ifCond .eq 7, 3) := by decide +kernel
theorem dX9_pending_28 : decode cX9_pending 28 = .ok (.iconst 0, 1) := by decide +kernel
theorem dX9_pending_29 : decode cX9_pending 29 = .ok (.goto 9, 3) := by decide +kernel
theorem dX9_pending_32 : decode cX9_pending 32 = .ok (.aload_n 0, 1) := by decide +kernel
theorem dX9_pending_33 : decode cX9_pending 33 = .ok (.iload_n 1, 1) := by decide +kernel
theorem dX9_pending_34 : decode cX9_pending 34 = .ok (.iload_n 2, 1) := by decide +kernel
theorem dX9_pending_35 : decode cX9_pending 35 = .ok (.invokevirtual 212, 3) := by decide +kernel
theorem dX9_pending_38 : decode cX9_pending 38 = .ok (.ireturn, 1) := by decide +kernel
theorem dX9_pendingIn_0 : decode cX9_pendingIn 0 = .ok (.iconst 0, 1) := by decide +kernel
theorem dX9_pendingIn_1 : decode cX9_pendingIn 1 = .ok (.istore_n 2, 1) := by decide +kernel
theorem dX9_pendingIn_2 : decode cX9_pendingIn 2 = .ok (.iload_n 2, 1) := by decide +kernel
theorem dX9_pendingIn_3 : decode cX9_pendingIn 3 = .ok (.aload_n 0, 1) := by decide +kernel
theorem dX9_pendingIn_4 : decode cX9_pendingIn 4 = .ok (.getfield 124, 3) := by decide +kernel
theorem dX9_pendingIn_7 : decode cX9_pendingIn 7 = .ok (.if_icmp .ge 20, 3) := by decide +kernel
theorem dX9_pendingIn_10 : decode cX9_pendingIn 10 = .ok (.aload_n 0, 1) := by decide +kernel
theorem dX9_pendingIn_11 : decode cX9_pendingIn 11 = .ok (.iload_n 1, 1) := by decide +kernel
theorem dX9_pendingIn_12 : decode cX9_pendingIn 12 = .ok (.iload_n 2, 1) := by decide +kernel
theorem dX9_pendingIn_13 : decode cX9_pendingIn 13 = .ok (.invokevirtual 212, 3) := by decide +kernel
theorem dX9_pendingIn_16 : decode cX9_pendingIn 16 = .ok (.ifCond .le 5, 3) := by decide +kernel
theorem dX9_pendingIn_19 : decode cX9_pendingIn 19 = .ok (.iload_n 2, 1) := by decide +kernel
theorem dX9_pendingIn_20 : decode cX9_pendingIn 20 = .ok (.ireturn, 1) := by decide +kernel
theorem dX9_pendingIn_21 : decode cX9_pendingIn 21 = .ok (.iinc 2 1, 3) := by decide +kernel
theorem dX9_pendingIn_24 : decode cX9_pendingIn 24 = .ok (.goto (-22), 3) := by decide +kernel
theorem dX9_pendingIn_27 : decode cX9_pendingIn 27 = .ok (.iconst (-1), 1) := by decide +kernel
theorem dX9_pendingIn_28 : decode cX9_pendingIn 28 = .ok (.ireturn, 1) := by decide +kernel
theorem dX9_open_0 : decode cX9_open 0 = .ok (.iconst (-1), 1) := by decide +kernel
theorem dX9_open_1 : decode cX9_open 1 = .ok (.istore_n 1, 1) := by decide +kernel
theorem dX9_open_2 : decode cX9_open 2 = .ok (.iconst 0, 1) := by decide +kernel
theorem dX9_open_3 : decode cX9_open 3 = .ok (.istore_n 2, 1) := by decide +kernel
theorem dX9_open_4 : decode cX9_open 4 = .ok (.iload_n 2, 1) := by decide +kernel
theorem dX9_open_5 : decode cX9_open 5 = .ok (.aload_n 0, 1) := by decide +kernel
theorem dX9_open_6 : decode cX9_open 6 = .ok (.getfield 127, 3) := by decide +kernel
theorem dX9_open_9 : decode cX9_open 9 = .ok (.if_icmp .ge 35, 3) := by decide +kernel
theorem dX9_open_12 : decode cX9_open 12 = .ok (.aload_n 0, 1) := by decide +kernel
theorem dX9_open_13 : decode cX9_open 13 = .ok (.iload_n 2, 1) := by decide +kernel
theorem dX9_open_14 : decode cX9_open 14 = .ok (.invokevirtual 215, 3) := by decide +kernel
theorem dX9_open_17 : decode cX9_open 17 = .ok (.iconst (-1), 1) := by decide +kernel
theorem dX9_open_18 : decode cX9_open 18 = .ok (.if_icmp .eq 20, 3) := by decide +kernel
theorem dX9_open_21 : decode cX9_open 21 = .ok (.iload_n 1, 1) := by decide +kernel
theorem dX9_open_22 : decode cX9_open 22 = .ok (.iconst (-1), 1) := by decide +kernel
theorem dX9_open_23 : decode cX9_open 23 = .ok (.if_icmp .eq 13, 3) := by decide +kernel
theorem dX9_open_26 : decode cX9_open 26 = .ok (.aload_n 0, 1) := by decide +kernel
theorem dX9_open_27 : decode cX9_open 27 = .ok (.iload_n 1, 1) := by decide +kernel
theorem dX9_open_28 : decode cX9_open 28 = .ok (.iload_n 2, 1) := by decide +kernel
theorem dX9_open_29 : decode cX9_open 29 = .ok (.iconst 1, 1) := by decide +kernel
theorem dX9_open_30 : decode cX9_open 30 = .ok (.invokevirtual 218, 3) := by decide +kernel
theorem dX9_open_33 : decode cX9_open 33 = .ok (.ifCond .eq 5, 3) := by decide +kernel
theorem dX9_open_36 : decode cX9_open 36 = .ok (.iload_n 2, 1) := by decide +kernel
theorem dX9_open_37 : decode cX9_open 37 = .ok (.istore_n 1, 1) := by decide +kernel
theorem dX9_open_38 : decode cX9_open 38 = .ok (.iinc 2 1, 3) := by decide +kernel
theorem dX9_open_41 : decode cX9_open 41 = .ok (.goto (-37), 3) := by decide +kernel
theorem dX9_open_44 : decode cX9_open 44 = .ok (.aload_n 0, 1) := by decide +kernel
theorem dX9_open_45 : decode cX9_open 45 = .ok (.iload_n 1, 1) := by decide +kernel
theorem dX9_open_46 : decode cX9_open 46 = .ok (.iconst (-1), 1) := by decide +kernel
theorem dX9_open_47 : decode cX9_open 47 = .ok (.if_icmp .ne 7, 3) := by decide +kernel
theorem dX9_open_50 : decode cX9_open 50 = .ok (.iconst 1, 1) := by decide +kernel
theorem dX9_open_51 : decode cX9_open 51 = .ok (.goto 4, 3) := by decide +kernel
theorem dX9_open_54 : decode cX9_open 54 = .ok (.iconst 0, 1) := by decide +kernel
theorem dX9_open_55 : decode cX9_open 55 = .ok (.invokevirtual 114, 3) := by decide +kernel
theorem dX9_open_58 : decode cX9_open 58 = .ok (.ifCond .eq 5, 3) := by decide +kernel
theorem dX9_open_61 : decode cX9_open 61 = .ok (.iconst 0, 1) := by decide +kernel
theorem dX9_open_62 : decode cX9_open 62 = .ok (.ireturn, 1) := by decide +kernel
theorem dX9_open_63 : decode cX9_open 63 = .ok (.aload_n 0, 1) := by decide +kernel
theorem dX9_open_64 : decode cX9_open 64 = .ok (.iload_n 1, 1) := by decide +kernel
theorem dX9_open_65 : decode cX9_open 65 = .ok (.invokevirtual 215, 3) := by decide +kernel
theorem dX9_open_68 : decode cX9_open 68 = .ok (.istore_n 2, 1) := by decide +kernel
theorem dX9_open_69 : decode cX9_open 69 = .ok (.iconst 0, 1) := by decide +kernel
theorem dX9_open_70 : decode cX9_open 70 = .ok (.istore_n 3, 1) := by decide +kernel
theorem dX9_open_71 : decode cX9_open 71 = .ok (.iload_n 3, 1) := by decide +kernel
theorem dX9_open_72 : decode cX9_open 72 = .ok (.aload_n 0, 1) := by decide +kernel
theorem dX9_open_73 : decode cX9_open 73 = .ok (.getfield 130, 3) := by decide +kernel
theorem dX9_open_76 : decode cX9_open 76 = .ok (.if_icmp .ge 44, 3) := by decide +kernel
theorem dX9_open_79 : decode cX9_open 79 = .ok (.aload_n 0, 1) := by decide +kernel
theorem dX9_open_80 : decode cX9_open 80 = .ok (.getfield 47, 3) := by decide +kernel
theorem dX9_open_83 : decode cX9_open 83 = .ok (.iload_n 3, 1) := by decide +kernel
theorem dX9_open_84 : decode cX9_open 84 = .ok (.iaload, 1) := by decide +kernel
theorem dX9_open_85 : decode cX9_open 85 = .ok (.iload_n 1, 1) := by decide +kernel
theorem dX9_open_86 : decode cX9_open 86 = .ok (.if_icmp .ne 28, 3) := by decide +kernel
theorem dX9_open_89 : decode cX9_open 89 = .ok (.aload_n 0, 1) := by decide +kernel
theorem dX9_open_90 : decode cX9_open 90 = .ok (.getfield 50, 3) := by decide +kernel
theorem dX9_open_93 : decode cX9_open 93 = .ok (.iload_n 3, 1) := by decide +kernel
theorem dX9_open_94 : decode cX9_open 94 = .ok (.iaload, 1) := by decide +kernel
theorem dX9_open_95 : decode cX9_open 95 = .ok (.iload_n 2, 1) := by decide +kernel
theorem dX9_open_96 : decode cX9_open 96 = .ok (.if_icmp .ne 18, 3) := by decide +kernel
theorem dX9_open_99 : decode cX9_open 99 = .ok (.aload_n 0, 1) := by decide +kernel
theorem dX9_open_100 : decode cX9_open 100 = .ok (.iload_n 3, 1) := by decide +kernel
theorem dX9_open_101 : decode cX9_open 101 = .ok (.invokevirtual 209, 3) := by decide +kernel
theorem dX9_open_104 : decode cX9_open 104 = .ok (.ifCond .eq 10, 3) := by decide +kernel
theorem dX9_open_107 : decode cX9_open 107 = .ok (.aload_n 0, 1) := by decide +kernel
theorem dX9_open_108 : decode cX9_open 108 = .ok (.getfield 96, 3) := by decide +kernel
theorem dX9_open_111 : decode cX9_open 111 = .ok (.iload_n 3, 1) := by decide +kernel
theorem dX9_open_112 : decode cX9_open 112 = .ok (.iconst 1, 1) := by decide +kernel
theorem dX9_open_113 : decode cX9_open 113 = .ok (.bastore, 1) := by decide +kernel
theorem dX9_open_114 : decode cX9_open 114 = .ok (.iinc 3 1, 3) := by decide +kernel
theorem dX9_open_117 : decode cX9_open 117 = .ok (.goto (-46), 3) := by decide +kernel
theorem dX9_open_120 : decode cX9_open 120 = .ok (.iload_n 1, 1) := by decide +kernel
theorem dX9_open_121 : decode cX9_open 121 = .ok (.ireturn, 1) := by decide +kernel
theorem dX9_firstOf_0 : decode cX9_firstOf 0 = .ok (.iconst 0, 1) := by decide +kernel
theorem dX9_firstOf_1 : decode cX9_firstOf 1 = .ok (.istore 4, 2) := by decide +kernel
theorem dX9_firstOf_3 : decode cX9_firstOf 3 = .ok (.iload 4, 2) := by decide +kernel
theorem dX9_firstOf_5 : decode cX9_firstOf 5 = .ok (.aload_n 0, 1) := by decide +kernel
theorem dX9_firstOf_6 : decode cX9_firstOf 6 = .ok (.getfield 130, 3) := by decide +kernel
theorem dX9_firstOf_9 : decode cX9_firstOf 9 = .ok (.if_icmp .ge 58, 3) := by decide +kernel
theorem dX9_firstOf_12 : decode cX9_firstOf 12 = .ok (.aload_n 0, 1) := by decide +kernel
theorem dX9_firstOf_13 : decode cX9_firstOf 13 = .ok (.getfield 47, 3) := by decide +kernel
theorem dX9_firstOf_16 : decode cX9_firstOf 16 = .ok (.iload 4, 2) := by decide +kernel
theorem dX9_firstOf_18 : decode cX9_firstOf 18 = .ok (.iaload, 1) := by decide +kernel
theorem dX9_firstOf_19 : decode cX9_firstOf 19 = .ok (.iload_n 1, 1) := by decide +kernel
theorem dX9_firstOf_20 : decode cX9_firstOf 20 = .ok (.if_icmp .ne 41, 3) := by decide +kernel
theorem dX9_firstOf_23 : decode cX9_firstOf 23 = .ok (.aload_n 0, 1) := by decide +kernel
theorem dX9_firstOf_24 : decode cX9_firstOf 24 = .ok (.getfield 50, 3) := by decide +kernel
theorem dX9_firstOf_27 : decode cX9_firstOf 27 = .ok (.iload 4, 2) := by decide +kernel
theorem dX9_firstOf_29 : decode cX9_firstOf 29 = .ok (.iaload, 1) := by decide +kernel
theorem dX9_firstOf_30 : decode cX9_firstOf 30 = .ok (.iload_n 2, 1) := by decide +kernel
theorem dX9_firstOf_31 : decode cX9_firstOf 31 = .ok (.if_icmp .ne 30, 3) := by decide +kernel
theorem dX9_firstOf_34 : decode cX9_firstOf 34 = .ok (.iload_n 3, 1) := by decide +kernel
theorem dX9_firstOf_35 : decode cX9_firstOf 35 = .ok (.ifCond .eq 12, 3) := by decide +kernel
theorem dX9_firstOf_38 : decode cX9_firstOf 38 = .ok (.aload_n 0, 1) := by decide +kernel
theorem dX9_firstOf_39 : decode cX9_firstOf 39 = .ok (.iload 4, 2) := by decide +kernel
theorem dX9_firstOf_41 : decode cX9_firstOf 41 = .ok (.invokevirtual 209, 3) := by decide +kernel
theorem dX9_firstOf_44 : decode cX9_firstOf 44 = .ok (.ifCond .ne 17, 3) := by decide +kernel
theorem dX9_firstOf_47 : decode cX9_firstOf 47 = .ok (.aload_n 0, 1) := by decide +kernel
theorem dX9_firstOf_48 : decode cX9_firstOf 48 = .ok (.iload 4, 2) := by decide +kernel
theorem dX9_firstOf_50 : decode cX9_firstOf 50 = .ok (.invokevirtual 160, 3) := by decide +kernel
theorem dX9_firstOf_53 : decode cX9_firstOf 53 = .ok (.bipush 97, 2) := by decide +kernel
theorem dX9_firstOf_55 : decode cX9_firstOf 55 = .ok (.if_icmp .ne 6, 3) := by decide +kernel
theorem dX9_firstOf_58 : decode cX9_firstOf 58 = .ok (.iload 4, 2) := by decide +kernel
theorem dX9_firstOf_60 : decode cX9_firstOf 60 = .ok (.ireturn, 1) := by decide +kernel
theorem dX9_firstOf_61 : decode cX9_firstOf 61 = .ok (.iinc 4 1, 3) := by decide +kernel
theorem dX9_firstOf_64 : decode cX9_firstOf 64 = .ok (.goto (-61), 3) := by decide +kernel
theorem dX9_firstOf_67 : decode cX9_firstOf 67 = .ok (.iconst (-1), 1) := by decide +kernel
theorem dX9_firstOf_68 : decode cX9_firstOf 68 = .ok (.ireturn, 1) := by decide +kernel
theorem dX9_solvedBy_0 : decode cX9_solvedBy 0 = .ok (.iconst 0, 1) := by decide +kernel
theorem dX9_solvedBy_1 : decode cX9_solvedBy 1 = .ok (.istore_n 3, 1) := by decide +kernel
theorem dX9_solvedBy_2 : decode cX9_solvedBy 2 = .ok (.iconst 0, 1) := by decide +kernel
theorem dX9_solvedBy_3 : decode cX9_solvedBy 3 = .ok (.istore 4, 2) := by decide +kernel
theorem dX9_solvedBy_5 : decode cX9_solvedBy 5 = .ok (.iload 4, 2) := by decide +kernel
theorem dX9_solvedBy_7 : decode cX9_solvedBy 7 = .ok (.aload_n 0, 1) := by decide +kernel
theorem dX9_solvedBy_8 : decode cX9_solvedBy 8 = .ok (.getfield 124, 3) := by decide +kernel
theorem dX9_solvedBy_11 : decode cX9_solvedBy 11 = .ok (.if_icmp .ge 29, 3) := by decide +kernel
theorem dX9_solvedBy_14 : decode cX9_solvedBy 14 = .ok (.iload_n 3, 1) := by decide +kernel
theorem dX9_solvedBy_15 : decode cX9_solvedBy 15 = .ok (.aload_n 0, 1) := by decide +kernel
theorem dX9_solvedBy_16 : decode cX9_solvedBy 16 = .ok (.iload_n 1, 1) := by decide +kernel
theorem dX9_solvedBy_17 : decode cX9_solvedBy 17 = .ok (.iload 4, 2) := by decide +kernel
theorem dX9_solvedBy_19 : decode cX9_solvedBy 19 = .ok (.iload_n 2, 1) := by decide +kernel
theorem dX9_solvedBy_20 : decode cX9_solvedBy 20 = .ok (.invokevirtual 222, 3) := by decide +kernel
theorem dX9_solvedBy_23 : decode cX9_solvedBy 23 = .ok (.iconst (-1), 1) := by decide +kernel
theorem dX9_solvedBy_24 : decode cX9_solvedBy 24 = .ok (.if_icmp .ne 7, 3) := by decide +kernel
theorem dX9_solvedBy_27 : decode cX9_solvedBy 27 = .ok (.iconst 0, 1) := by decide +kernel
theorem dX9_solvedBy_28 : decode cX9_solvedBy 28 = .ok (.goto 4, 3) := by decide +kernel
theorem dX9_solvedBy_31 : decode cX9_solvedBy 31 = .ok (.iconst 1, 1) := by decide +kernel
theorem dX9_solvedBy_32 : decode cX9_solvedBy 32 = .ok (.iadd, 1) := by decide +kernel
theorem dX9_solvedBy_33 : decode cX9_solvedBy 33 = .ok (.istore_n 3, 1) := by decide +kernel
theorem dX9_solvedBy_34 : decode cX9_solvedBy 34 = .ok (.iinc 4 1, 3) := by decide +kernel
theorem dX9_solvedBy_37 : decode cX9_solvedBy 37 = .ok (.goto (-32), 3) := by decide +kernel
theorem dX9_solvedBy_40 : decode cX9_solvedBy 40 = .ok (.iload_n 3, 1) := by decide +kernel
theorem dX9_solvedBy_41 : decode cX9_solvedBy 41 = .ok (.ireturn, 1) := by decide +kernel
theorem dX9_penaltyOf_0 : decode cX9_penaltyOf 0 = .ok (.iconst 0, 1) := by decide +kernel
theorem dX9_penaltyOf_1 : decode cX9_penaltyOf 1 = .ok (.istore_n 3, 1) := by decide +kernel
theorem dX9_penaltyOf_2 : decode cX9_penaltyOf 2 = .ok (.iconst 0, 1) := by decide +kernel
theorem dX9_penaltyOf_3 : decode cX9_penaltyOf 3 = .ok (.istore 4, 2) := by decide +kernel
theorem dX9_penaltyOf_5 : decode cX9_penaltyOf 5 = .ok (.iload 4, 2) := by decide +kernel
theorem dX9_penaltyOf_7 : decode cX9_penaltyOf 7 = .ok (.aload_n 0, 1) := by decide +kernel
theorem dX9_penaltyOf_8 : decode cX9_penaltyOf 8 = .ok (.getfield 124, 3) := by decide +kernel
theorem dX9_penaltyOf_11 : decode cX9_penaltyOf 11 = .ok (.if_icmp .ge 99, 3) := by decide +kernel
theorem dX9_penaltyOf_14 : decode cX9_penaltyOf 14 = .ok (.aload_n 0, 1) := by decide +kernel
theorem dX9_penaltyOf_15 : decode cX9_penaltyOf 15 = .ok (.iload_n 1, 1) := by decide +kernel
theorem dX9_penaltyOf_16 : decode cX9_penaltyOf 16 = .ok (.iload 4, 2) := by decide +kernel
theorem dX9_penaltyOf_18 : decode cX9_penaltyOf 18 = .ok (.iload_n 2, 1) := by decide +kernel
theorem dX9_penaltyOf_19 : decode cX9_penaltyOf 19 = .ok (.invokevirtual 222, 3) := by decide +kernel
theorem dX9_penaltyOf_22 : decode cX9_penaltyOf 22 = .ok (.istore 5, 2) := by decide +kernel
theorem dX9_penaltyOf_24 : decode cX9_penaltyOf 24 = .ok (.iload 5, 2) := by decide +kernel
theorem dX9_penaltyOf_26 : decode cX9_penaltyOf 26 = .ok (.iconst (-1), 1) := by decide +kernel
theorem dX9_penaltyOf_27 : decode cX9_penaltyOf 27 = .ok (.if_icmp .ne 6, 3) := by decide +kernel
theorem dX9_penaltyOf_30 : decode cX9_penaltyOf 30 = .ok (.goto 74, 3) := by decide +kernel
theorem dX9_penaltyOf_33 : decode cX9_penaltyOf 33 = .ok (.iload_n 3, 1) := by decide +kernel
theorem dX9_penaltyOf_34 : decode cX9_penaltyOf 34 = .ok (.aload_n 0, 1) := by decide +kernel
theorem dX9_penaltyOf_35 : decode cX9_penaltyOf 35 = .ok (.getfield 53, 3) := by decide +kernel
theorem dX9_penaltyOf_38 : decode cX9_penaltyOf 38 = .ok (.iload 5, 2) := by decide +kernel
theorem dX9_penaltyOf_40 : decode cX9_penaltyOf 40 = .ok (.iaload, 1) := by decide +kernel
theorem dX9_penaltyOf_41 : decode cX9_penaltyOf 41 = .ok (.iadd, 1) := by decide +kernel
theorem dX9_penaltyOf_42 : decode cX9_penaltyOf 42 = .ok (.istore_n 3, 1) := by decide +kernel
theorem dX9_penaltyOf_43 : decode cX9_penaltyOf 43 = .ok (.iconst 0, 1) := by decide +kernel
theorem dX9_penaltyOf_44 : decode cX9_penaltyOf 44 = .ok (.istore 6, 2) := by decide +kernel
theorem dX9_penaltyOf_46 : decode cX9_penaltyOf 46 = .ok (.iload 6, 2) := by decide +kernel
theorem dX9_penaltyOf_48 : decode cX9_penaltyOf 48 = .ok (.iload 5, 2) := by decide +kernel
theorem dX9_penaltyOf_50 : decode cX9_penaltyOf 50 = .ok (.if_icmp .ge 54, 3) := by decide +kernel
theorem dX9_penaltyOf_53 : decode cX9_penaltyOf 53 = .ok (.iload_n 3, 1) := by decide +kernel
theorem dX9_penaltyOf_54 : decode cX9_penaltyOf 54 = .ok (.aload_n 0, 1) := by decide +kernel
theorem dX9_penaltyOf_55 : decode cX9_penaltyOf 55 = .ok (.getfield 47, 3) := by decide +kernel
theorem dX9_penaltyOf_58 : decode cX9_penaltyOf 58 = .ok (.iload 6, 2) := by decide +kernel
theorem dX9_penaltyOf_60 : decode cX9_penaltyOf 60 = .ok (.iaload, 1) := by decide +kernel
theorem dX9_penaltyOf_61 : decode cX9_penaltyOf 61 = .ok (.iload_n 1, 1) := by decide +kernel
theorem dX9_penaltyOf_62 : decode cX9_penaltyOf 62 = .ok (.if_icmp .ne 33, 3) := by decide +kernel
theorem dX9_penaltyOf_65 : decode cX9_penaltyOf 65 = .ok (.aload_n 0, 1) := by decide +kernel
theorem dX9_penaltyOf_66 : decode cX9_penaltyOf 66 = .ok (.getfield 50, 3) := by decide +kernel
theorem dX9_penaltyOf_69 : decode cX9_penaltyOf 69 = .ok (.iload 6, 2) := by decide +kernel
theorem dX9_penaltyOf_71 : decode cX9_penaltyOf 71 = .ok (.iaload, 1) := by decide +kernel
theorem dX9_penaltyOf_72 : decode cX9_penaltyOf 72 = .ok (.iload 4, 2) := by decide +kernel
theorem dX9_penaltyOf_74 : decode cX9_penaltyOf 74 = .ok (.if_icmp .ne 21, 3) := by decide +kernel
theorem dX9_penaltyOf_77 : decode cX9_penaltyOf 77 = .ok (.iload_n 2, 1) := by decide +kernel
theorem dX9_penaltyOf_78 : decode cX9_penaltyOf 78 = .ok (.ifCond .eq 12, 3) := by decide +kernel
theorem dX9_penaltyOf_81 : decode cX9_penaltyOf 81 = .ok (.aload_n 0, 1) := by decide +kernel
theorem dX9_penaltyOf_82 : decode cX9_penaltyOf 82 = .ok (.iload 6, 2) := by decide +kernel
theorem dX9_penaltyOf_84 : decode cX9_penaltyOf 84 = .ok (.invokevirtual 209, 3) := by decide +kernel
theorem dX9_penaltyOf_87 : decode cX9_penaltyOf 87 = .ok (.ifCond .ne 8, 3) := by decide +kernel
theorem dX9_penaltyOf_90 : decode cX9_penaltyOf 90 = .ok (.bipush 20, 2) := by decide +kernel
theorem dX9_penaltyOf_92 : decode cX9_penaltyOf 92 = .ok (.goto 4, 3) := by decide +kernel
theorem dX9_penaltyOf_95 : decode cX9_penaltyOf 95 = .ok (.iconst 0, 1) := by decide +kernel
theorem dX9_penaltyOf_96 : decode cX9_penaltyOf 96 = .ok (.iadd, 1) := by decide +kernel
theorem dX9_penaltyOf_97 : decode cX9_penaltyOf 97 = .ok (.istore_n 3, 1) := by decide +kernel
theorem dX9_penaltyOf_98 : decode cX9_penaltyOf 98 = .ok (.iinc 6 1, 3) := by decide +kernel
theorem dX9_penaltyOf_101 : decode cX9_penaltyOf 101 = .ok (.goto (-55), 3) := by decide +kernel
theorem dX9_penaltyOf_104 : decode cX9_penaltyOf 104 = .ok (.iinc 4 1, 3) := by decide +kernel
theorem dX9_penaltyOf_107 : decode cX9_penaltyOf 107 = .ok (.goto (-102), 3) := by decide +kernel
theorem dX9_penaltyOf_110 : decode cX9_penaltyOf 110 = .ok (.iload_n 3, 1) := by decide +kernel
theorem dX9_penaltyOf_111 : decode cX9_penaltyOf 111 = .ok (.ireturn, 1) := by decide +kernel
theorem dX9_latestOf_0 : decode cX9_latestOf 0 = .ok (.iconst 0, 1) := by decide +kernel
theorem dX9_latestOf_1 : decode cX9_latestOf 1 = .ok (.istore_n 3, 1) := by decide +kernel
theorem dX9_latestOf_2 : decode cX9_latestOf 2 = .ok (.iconst 0, 1) := by decide +kernel
theorem dX9_latestOf_3 : decode cX9_latestOf 3 = .ok (.istore 4, 2) := by decide +kernel
theorem dX9_latestOf_5 : decode cX9_latestOf 5 = .ok (.iload 4, 2) := by decide +kernel
theorem dX9_latestOf_7 : decode cX9_latestOf 7 = .ok (.aload_n 0, 1) := by decide +kernel
theorem dX9_latestOf_8 : decode cX9_latestOf 8 = .ok (.getfield 124, 3) := by decide +kernel
theorem dX9_latestOf_11 : decode cX9_latestOf 11 = .ok (.if_icmp .ge 44, 3) := by decide +kernel
theorem dX9_latestOf_14 : decode cX9_latestOf 14 = .ok (.aload_n 0, 1) := by decide +kernel
theorem dX9_latestOf_15 : decode cX9_latestOf 15 = .ok (.iload_n 1, 1) := by decide +kernel
theorem dX9_latestOf_16 : decode cX9_latestOf 16 = .ok (.iload 4, 2) := by decide +kernel
theorem dX9_latestOf_18 : decode cX9_latestOf 18 = .ok (.iload_n 2, 1) := by decide +kernel
theorem dX9_latestOf_19 : decode cX9_latestOf 19 = .ok (.invokevirtual 222, 3) := by decide +kernel
theorem dX9_latestOf_22 : decode cX9_latestOf 22 = .ok (.istore 5, 2) := by decide +kernel
theorem dX9_latestOf_24 : decode cX9_latestOf 24 = .ok (.iload 5, 2) := by decide +kernel
theorem dX9_latestOf_26 : decode cX9_latestOf 26 = .ok (.iconst (-1), 1) := by decide +kernel
theorem dX9_latestOf_27 : decode cX9_latestOf 27 = .ok (.if_icmp .eq 22, 3) := by decide +kernel
theorem dX9_latestOf_30 : decode cX9_latestOf 30 = .ok (.aload_n 0, 1) := by decide +kernel
theorem dX9_latestOf_31 : decode cX9_latestOf 31 = .ok (.getfield 53, 3) := by decide +kernel
theorem dX9_latestOf_34 : decode cX9_latestOf 34 = .ok (.iload 5, 2) := by decide +kernel
theorem dX9_latestOf_36 : decode cX9_latestOf 36 = .ok (.iaload, 1) := by decide +kernel
theorem dX9_latestOf_37 : decode cX9_latestOf 37 = .ok (.iload_n 3, 1) := by decide +kernel
theorem dX9_latestOf_38 : decode cX9_latestOf 38 = .ok (.if_icmp .le 11, 3) := by decide +kernel
theorem dX9_latestOf_41 : decode cX9_latestOf 41 = .ok (.aload_n 0, 1) := by decide +kernel
theorem dX9_latestOf_42 : decode cX9_latestOf 42 = .ok (.getfield 53, 3) := by decide +kernel
theorem dX9_latestOf_45 : decode cX9_latestOf 45 = .ok (.iload 5, 2) := by decide +kernel
theorem dX9_latestOf_47 : decode cX9_latestOf 47 = .ok (.iaload, 1) := by decide +kernel
theorem dX9_latestOf_48 : decode cX9_latestOf 48 = .ok (.istore_n 3, 1) := by decide +kernel
theorem dX9_latestOf_49 : decode cX9_latestOf 49 = .ok (.iinc 4 1, 3) := by decide +kernel
theorem dX9_latestOf_52 : decode cX9_latestOf 52 = .ok (.goto (-47), 3) := by decide +kernel
theorem dX9_latestOf_55 : decode cX9_latestOf 55 = .ok (.iload_n 3, 1) := by decide +kernel
theorem dX9_latestOf_56 : decode cX9_latestOf 56 = .ok (.ireturn, 1) := by decide +kernel
theorem dX9_isAhead_0 : decode cX9_isAhead 0 = .ok (.aload_n 0, 1) := by decide +kernel
theorem dX9_isAhead_1 : decode cX9_isAhead 1 = .ok (.iload_n 2, 1) := by decide +kernel
theorem dX9_isAhead_2 : decode cX9_isAhead 2 = .ok (.iload_n 3, 1) := by decide +kernel
theorem dX9_isAhead_3 : decode cX9_isAhead 3 = .ok (.invokevirtual 226, 3) := by decide +kernel
theorem dX9_isAhead_6 : decode cX9_isAhead 6 = .ok (.aload_n 0, 1) := by decide +kernel
theorem dX9_isAhead_7 : decode cX9_isAhead 7 = .ok (.iload_n 1, 1) := by decide +kernel
theorem dX9_isAhead_8 : decode cX9_isAhead 8 = .ok (.iload_n 3, 1) := by decide +kernel
theorem dX9_isAhead_9 : decode cX9_isAhead 9 = .ok (.invokevirtual 226, 3) := by decide +kernel
theorem dX9_isAhead_12 : decode cX9_isAhead 12 = .ok (.isub, 1) := by decide +kernel
theorem dX9_isAhead_13 : decode cX9_isAhead 13 = .ok (.istore 4, 2) := by decide +kernel
theorem dX9_isAhead_15 : decode cX9_isAhead 15 = .ok (.iload 4, 2) := by decide +kernel
theorem dX9_isAhead_17 : decode cX9_isAhead 17 = .ok (.ifCond .ne 18, 3) := by decide +kernel
theorem dX9_isAhead_20 : decode cX9_isAhead 20 = .ok (.aload_n 0, 1) := by decide +kernel
theorem dX9_isAhead_21 : decode cX9_isAhead 21 = .ok (.iload_n 1, 1) := by decide +kernel
theorem dX9_isAhead_22 : decode cX9_isAhead 22 = .ok (.iload_n 3, 1) := by decide +kernel
theorem dX9_isAhead_23 : decode cX9_isAhead 23 = .ok (.invokevirtual 230, 3) := by decide +kernel
theorem dX9_isAhead_26 : decode cX9_isAhead 26 = .ok (.aload_n 0, 1) := by decide +kernel
theorem dX9_isAhead_27 : decode cX9_isAhead 27 = .ok (.iload_n 2, 1) := by decide +kernel
theorem dX9_isAhead_28 : decode cX9_isAhead 28 = .ok (.iload_n 3, 1) := by decide +kernel
theorem dX9_isAhead_29 : decode cX9_isAhead 29 = .ok (.invokevirtual 230, 3) := by decide +kernel
theorem dX9_isAhead_32 : decode cX9_isAhead 32 = .ok (.isub, 1) := by decide +kernel
theorem dX9_isAhead_33 : decode cX9_isAhead 33 = .ok (.istore 4, 2) := by decide +kernel
theorem dX9_isAhead_35 : decode cX9_isAhead 35 = .ok (.iload 4, 2) := by decide +kernel
theorem dX9_isAhead_37 : decode cX9_isAhead 37 = .ok (.ifCond .ne 18, 3) := by decide +kernel
theorem dX9_isAhead_40 : decode cX9_isAhead 40 = .ok (.aload_n 0, 1) := by decide +kernel
theorem dX9_isAhead_41 : decode cX9_isAhead 41 = .ok (.iload_n 1, 1) := by decide +kernel
theorem dX9_isAhead_42 : decode cX9_isAhead 42 = .ok (.iload_n 3, 1) := by decide +kernel
theorem dX9_isAhead_43 : decode cX9_isAhead 43 = .ok (.invokevirtual 233, 3) := by decide +kernel
theorem dX9_isAhead_46 : decode cX9_isAhead 46 = .ok (.aload_n 0, 1) := by decide +kernel
theorem dX9_isAhead_47 : decode cX9_isAhead 47 = .ok (.iload_n 2, 1) := by decide +kernel
theorem dX9_isAhead_48 : decode cX9_isAhead 48 = .ok (.iload_n 3, 1) := by decide +kernel
theorem dX9_isAhead_49 : decode cX9_isAhead 49 = .ok (.invokevirtual 233, 3) := by decide +kernel
theorem dX9_isAhead_52 : decode cX9_isAhead 52 = .ok (.isub, 1) := by decide +kernel
theorem dX9_isAhead_53 : decode cX9_isAhead 53 = .ok (.istore 4, 2) := by decide +kernel
theorem dX9_isAhead_55 : decode cX9_isAhead 55 = .ok (.iload 4, 2) := by decide +kernel
theorem dX9_isAhead_57 : decode cX9_isAhead 57 = .ok (.ifCond .ne 16, 3) := by decide +kernel
theorem dX9_isAhead_60 : decode cX9_isAhead 60 = .ok (.iload_n 1, 1) := by decide +kernel
theorem dX9_isAhead_61 : decode cX9_isAhead 61 = .ok (.iload_n 2, 1) := by decide +kernel
theorem dX9_isAhead_62 : decode cX9_isAhead 62 = .ok (.if_icmp .ge 7, 3) := by decide +kernel
theorem dX9_isAhead_65 : decode cX9_isAhead 65 = .ok (.iconst 1, 1) := by decide +kernel
theorem dX9_isAhead_66 : decode cX9_isAhead 66 = .ok (.goto 17, 3) := by decide +kernel
theorem dX9_isAhead_69 : decode cX9_isAhead 69 = .ok (.iconst 0, 1) := by decide +kernel
theorem dX9_isAhead_70 : decode cX9_isAhead 70 = .ok (.goto 13, 3) := by decide +kernel
theorem dX9_isAhead_73 : decode cX9_isAhead 73 = .ok (.iload 4, 2) := by decide +kernel
theorem dX9_isAhead_75 : decode cX9_isAhead 75 = .ok (.ifCond .ge 7, 3) := by decide +kernel
theorem dX9_isAhead_78 : decode cX9_isAhead 78 = .ok (.iconst 1, 1) := by decide +kernel
theorem dX9_isAhead_79 : decode cX9_isAhead 79 = .ok (.goto 4, 3) := by decide +kernel
theorem dX9_isAhead_82 : decode cX9_isAhead 82 = .ok (.iconst 0, 1) := by decide +kernel
theorem dX9_isAhead_83 : decode cX9_isAhead 83 = .ok (.ireturn, 1) := by decide +kernel
theorem dX9_rankOf_0 : decode cX9_rankOf 0 = .ok (.iconst 1, 1) := by decide +kernel
theorem dX9_rankOf_1 : decode cX9_rankOf 1 = .ok (.istore_n 3, 1) := by decide +kernel
theorem dX9_rankOf_2 : decode cX9_rankOf 2 = .ok (.iconst 0, 1) := by decide +kernel
theorem dX9_rankOf_3 : decode cX9_rankOf 3 = .ok (.istore 4, 2) := by decide +kernel
theorem dX9_rankOf_5 : decode cX9_rankOf 5 = .ok (.iload 4, 2) := by decide +kernel
theorem dX9_rankOf_7 : decode cX9_rankOf 7 = .ok (.aload_n 0, 1) := by decide +kernel
theorem dX9_rankOf_8 : decode cX9_rankOf 8 = .ok (.getfield 127, 3) := by decide +kernel
theorem dX9_rankOf_11 : decode cX9_rankOf 11 = .ok (.if_icmp .ge 34, 3) := by decide +kernel
theorem dX9_rankOf_14 : decode cX9_rankOf 14 = .ok (.iload_n 3, 1) := by decide +kernel
theorem dX9_rankOf_15 : decode cX9_rankOf 15 = .ok (.iload 4, 2) := by decide +kernel
theorem dX9_rankOf_17 : decode cX9_rankOf 17 = .ok (.iload_n 1, 1) := by decide +kernel
theorem dX9_rankOf_18 : decode cX9_rankOf 18 = .ok (.if_icmp .eq 18, 3) := by decide +kernel
theorem dX9_rankOf_21 : decode cX9_rankOf 21 = .ok (.aload_n 0, 1) := by decide +kernel
theorem dX9_rankOf_22 : decode cX9_rankOf 22 = .ok (.iload 4, 2) := by decide +kernel
theorem dX9_rankOf_24 : decode cX9_rankOf 24 = .ok (.iload_n 1, 1) := by decide +kernel
theorem dX9_rankOf_25 : decode cX9_rankOf 25 = .ok (.iload_n 2, 1) := by decide +kernel
theorem dX9_rankOf_26 : decode cX9_rankOf 26 = .ok (.invokevirtual 218, 3) := by decide +kernel
theorem dX9_rankOf_29 : decode cX9_rankOf 29 = .ok (.ifCond .eq 7, 3) := by decide +kernel
theorem dX9_rankOf_32 : decode cX9_rankOf 32 = .ok (.iconst 1, 1) := by decide +kernel
theorem dX9_rankOf_33 : decode cX9_rankOf 33 = .ok (.goto 4, 3) := by decide +kernel
theorem dX9_rankOf_36 : decode cX9_rankOf 36 = .ok (.iconst 0, 1) := by decide +kernel
theorem dX9_rankOf_37 : decode cX9_rankOf 37 = .ok (.iadd, 1) := by decide +kernel
theorem dX9_rankOf_38 : decode cX9_rankOf 38 = .ok (.istore_n 3, 1) := by decide +kernel
theorem dX9_rankOf_39 : decode cX9_rankOf 39 = .ok (.iinc 4 1, 3) := by decide +kernel
theorem dX9_rankOf_42 : decode cX9_rankOf 42 = .ok (.goto (-37), 3) := by decide +kernel
theorem dX9_rankOf_45 : decode cX9_rankOf 45 = .ok (.iload_n 3, 1) := by decide +kernel
theorem dX9_rankOf_46 : decode cX9_rankOf 46 = .ok (.ireturn, 1) := by decide +kernel
theorem dX9_solved_0 : decode cX9_solved 0 = .ok (.aload_n 0, 1) := by decide +kernel
theorem dX9_solved_1 : decode cX9_solved 1 = .ok (.aload_n 0, 1) := by decide +kernel
theorem dX9_solved_2 : decode cX9_solved 2 = .ok (.iload_n 1, 1) := by decide +kernel
theorem dX9_solved_3 : decode cX9_solved 3 = .ok (.invokevirtual 190, 3) := by decide +kernel
theorem dX9_solved_6 : decode cX9_solved 6 = .ok (.ifCond .eq 7, 3) := by decide +kernel
theorem dX9_solved_9 : decode cX9_solved 9 = .ok (.iconst 1, 1) := by decide +kernel
theorem dX9_solved_10 : decode cX9_solved 10 = .ok (.goto 4, 3) := by decide +kernel
theorem dX9_solved_13 : decode cX9_solved 13 = .ok (.iconst 0, 1) := by decide +kernel
theorem dX9_solved_14 : decode cX9_solved 14 = .ok (.invokevirtual 114, 3) := by decide +kernel
theorem dX9_solved_17 : decode cX9_solved 17 = .ok (.ifCond .eq 7, 3) := by decide +kernel
theorem dX9_solved_20 : decode cX9_solved 20 = .ok (.iconst 0, 1) := by decide +kernel
theorem dX9_solved_21 : decode cX9_solved 21 = .ok (.goto 9, 3) := by decide +kernel
theorem dX9_solved_24 : decode cX9_solved 24 = .ok (.aload_n 0, 1) := by decide +kernel
theorem dX9_solved_25 : decode cX9_solved 25 = .ok (.iload_n 1, 1) := by decide +kernel
theorem dX9_solved_26 : decode cX9_solved 26 = .ok (.iload_n 2, 1) := by decide +kernel
theorem dX9_solved_27 : decode cX9_solved 27 = .ok (.invokevirtual 226, 3) := by decide +kernel
theorem dX9_solved_30 : decode cX9_solved 30 = .ok (.ireturn, 1) := by decide +kernel
theorem dX9_penalty_0 : decode cX9_penalty 0 = .ok (.aload_n 0, 1) := by decide +kernel
theorem dX9_penalty_1 : decode cX9_penalty 1 = .ok (.aload_n 0, 1) := by decide +kernel
theorem dX9_penalty_2 : decode cX9_penalty 2 = .ok (.iload_n 1, 1) := by decide +kernel
theorem dX9_penalty_3 : decode cX9_penalty 3 = .ok (.invokevirtual 190, 3) := by decide +kernel
theorem dX9_penalty_6 : decode cX9_penalty 6 = .ok (.ifCond .eq 7, 3) := by decide +kernel
theorem dX9_penalty_9 : decode cX9_penalty 9 = .ok (.iconst 1, 1) := by decide +kernel
theorem dX9_penalty_10 : decode cX9_penalty 10 = .ok (.goto 4, 3) := by decide +kernel
theorem dX9_penalty_13 : decode cX9_penalty 13 = .ok (.iconst 0, 1) := by decide +kernel
theorem dX9_penalty_14 : decode cX9_penalty 14 = .ok (.invokevirtual 114, 3) := by decide +kernel
theorem dX9_penalty_17 : decode cX9_penalty 17 = .ok (.ifCond .eq 7, 3) := by decide +kernel
theorem dX9_penalty_20 : decode cX9_penalty 20 = .ok (.iconst 0, 1) := by decide +kernel
theorem dX9_penalty_21 : decode cX9_penalty 21 = .ok (.goto 9, 3) := by decide +kernel
theorem dX9_penalty_24 : decode cX9_penalty 24 = .ok (.aload_n 0, 1) := by decide +kernel
theorem dX9_penalty_25 : decode cX9_penalty 25 = .ok (.iload_n 1, 1) := by decide +kernel
theorem dX9_penalty_26 : decode cX9_penalty 26 = .ok (.iload_n 2, 1) := by decide +kernel
theorem dX9_penalty_27 : decode cX9_penalty 27 = .ok (.invokevirtual 230, 3) := by decide +kernel
theorem dX9_penalty_30 : decode cX9_penalty 30 = .ok (.ireturn, 1) := by decide +kernel
theorem dX9_rank_0 : decode cX9_rank 0 = .ok (.aload_n 0, 1) := by decide +kernel
theorem dX9_rank_1 : decode cX9_rank 1 = .ok (.aload_n 0, 1) := by decide +kernel
theorem dX9_rank_2 : decode cX9_rank 2 = .ok (.iload_n 1, 1) := by decide +kernel
theorem dX9_rank_3 : decode cX9_rank 3 = .ok (.invokevirtual 190, 3) := by decide +kernel
theorem dX9_rank_6 : decode cX9_rank 6 = .ok (.ifCond .eq 7, 3) := by decide +kernel
theorem dX9_rank_9 : decode cX9_rank 9 = .ok (.iconst 1, 1) := by decide +kernel
theorem dX9_rank_10 : decode cX9_rank 10 = .ok (.goto 4, 3) := by decide +kernel
theorem dX9_rank_13 : decode cX9_rank 13 = .ok (.iconst 0, 1) := by decide +kernel
theorem dX9_rank_14 : decode cX9_rank 14 = .ok (.invokevirtual 114, 3) := by decide +kernel
theorem dX9_rank_17 : decode cX9_rank 17 = .ok (.ifCond .eq 7, 3) := by decide +kernel
theorem dX9_rank_20 : decode cX9_rank 20 = .ok (.iconst 0, 1) := by decide +kernel
theorem dX9_rank_21 : decode cX9_rank 21 = .ok (.goto 9, 3) := by decide +kernel
theorem dX9_rank_24 : decode cX9_rank 24 = .ok (.aload_n 0, 1) := by decide +kernel
theorem dX9_rank_25 : decode cX9_rank 25 = .ok (.iload_n 1, 1) := by decide +kernel
theorem dX9_rank_26 : decode cX9_rank 26 = .ok (.iload_n 2, 1) := by decide +kernel
theorem dX9_rank_27 : decode cX9_rank 27 = .ok (.invokevirtual 236, 3) := by decide +kernel
theorem dX9_rank_30 : decode cX9_rank 30 = .ok (.ireturn, 1) := by decide +kernel
theorem dX9_ranked_0 : decode cX9_ranked 0 = .ok (.iconst (-1), 1) := by decide +kernel
theorem dX9_ranked_1 : decode cX9_ranked 1 = .ok (.istore_n 3, 1) := by decide +kernel
theorem dX9_ranked_2 : decode cX9_ranked 2 = .ok (.iconst 0, 1) := by decide +kernel
theorem dX9_ranked_3 : decode cX9_ranked 3 = .ok (.istore 4, 2) := by decide +kernel
theorem dX9_ranked_5 : decode cX9_ranked 5 = .ok (.iload 4, 2) := by decide +kernel
theorem dX9_ranked_7 : decode cX9_ranked 7 = .ok (.aload_n 0, 1) := by decide +kernel
theorem dX9_ranked_8 : decode cX9_ranked 8 = .ok (.getfield 127, 3) := by decide +kernel
theorem dX9_ranked_11 : decode cX9_ranked 11 = .ok (.if_icmp .ge 27, 3) := by decide +kernel
theorem dX9_ranked_14 : decode cX9_ranked 14 = .ok (.aload_n 0, 1) := by decide +kernel
theorem dX9_ranked_15 : decode cX9_ranked 15 = .ok (.iload 4, 2) := by decide +kernel
theorem dX9_ranked_17 : decode cX9_ranked 17 = .ok (.iload_n 2, 1) := by decide +kernel
theorem dX9_ranked_18 : decode cX9_ranked 18 = .ok (.invokevirtual 236, 3) := by decide +kernel
theorem dX9_ranked_21 : decode cX9_ranked 21 = .ok (.iload_n 1, 1) := by decide +kernel
theorem dX9_ranked_22 : decode cX9_ranked 22 = .ok (.if_icmp .ne 8, 3) := by decide +kernel
theorem dX9_ranked_25 : decode cX9_ranked 25 = .ok (.iload 4, 2) := by decide +kernel
theorem dX9_ranked_27 : decode cX9_ranked 27 = .ok (.goto 4, 3) := by decide +kernel
theorem dX9_ranked_30 : decode cX9_ranked 30 = .ok (.iload_n 3, 1) := by decide +kernel
theorem dX9_ranked_31 : decode cX9_ranked 31 = .ok (.istore_n 3, 1) := by decide +kernel
theorem dX9_ranked_32 : decode cX9_ranked 32 = .ok (.iinc 4 1, 3) := by decide +kernel
theorem dX9_ranked_35 : decode cX9_ranked 35 = .ok (.goto (-30), 3) := by decide +kernel
theorem dX9_ranked_38 : decode cX9_ranked 38 = .ok (.aload_n 0, 1) := by decide +kernel
theorem dX9_ranked_39 : decode cX9_ranked 39 = .ok (.iload_n 3, 1) := by decide +kernel
theorem dX9_ranked_40 : decode cX9_ranked 40 = .ok (.iconst (-1), 1) := by decide +kernel
theorem dX9_ranked_41 : decode cX9_ranked 41 = .ok (.if_icmp .ne 7, 3) := by decide +kernel
theorem dX9_ranked_44 : decode cX9_ranked 44 = .ok (.iconst 1, 1) := by decide +kernel
theorem dX9_ranked_45 : decode cX9_ranked 45 = .ok (.goto 4, 3) := by decide +kernel
theorem dX9_ranked_48 : decode cX9_ranked 48 = .ok (.iconst 0, 1) := by decide +kernel
theorem dX9_ranked_49 : decode cX9_ranked 49 = .ok (.invokevirtual 114, 3) := by decide +kernel
theorem dX9_ranked_52 : decode cX9_ranked 52 = .ok (.ifCond .eq 7, 3) := by decide +kernel
theorem dX9_ranked_55 : decode cX9_ranked 55 = .ok (.iconst 0, 1) := by decide +kernel
theorem dX9_ranked_56 : decode cX9_ranked 56 = .ok (.goto 4, 3) := by decide +kernel
theorem dX9_ranked_59 : decode cX9_ranked 59 = .ok (.iload_n 3, 1) := by decide +kernel
theorem dX9_ranked_60 : decode cX9_ranked 60 = .ok (.ireturn, 1) := by decide +kernel
theorem dX9_acceptedShare_0 : decode cX9_acceptedShare 0 = .ok (.iconst 0, 1) := by decide +kernel
theorem dX9_acceptedShare_1 : decode cX9_acceptedShare 1 = .ok (.istore_n 1, 1) := by decide +kernel
theorem dX9_acceptedShare_2 : decode cX9_acceptedShare 2 = .ok (.iconst 0, 1) := by decide +kernel
theorem dX9_acceptedShare_3 : decode cX9_acceptedShare 3 = .ok (.istore_n 2, 1) := by decide +kernel
theorem dX9_acceptedShare_4 : decode cX9_acceptedShare 4 = .ok (.iload_n 2, 1) := by decide +kernel
theorem dX9_acceptedShare_5 : decode cX9_acceptedShare 5 = .ok (.aload_n 0, 1) := by decide +kernel
theorem dX9_acceptedShare_6 : decode cX9_acceptedShare 6 = .ok (.getfield 130, 3) := by decide +kernel
theorem dX9_acceptedShare_9 : decode cX9_acceptedShare 9 = .ok (.if_icmp .ge 27, 3) := by decide +kernel
theorem dX9_acceptedShare_12 : decode cX9_acceptedShare 12 = .ok (.iload_n 1, 1) := by decide +kernel
theorem dX9_acceptedShare_13 : decode cX9_acceptedShare 13 = .ok (.aload_n 0, 1) := by decide +kernel
theorem dX9_acceptedShare_14 : decode cX9_acceptedShare 14 = .ok (.iload_n 2, 1) := by decide +kernel
theorem dX9_acceptedShare_15 : decode cX9_acceptedShare 15 = .ok (.invokevirtual 160, 3) := by decide +kernel
theorem dX9_acceptedShare_18 : decode cX9_acceptedShare 18 = .ok (.bipush 97, 2) := by decide +kernel
theorem dX9_acceptedShare_20 : decode cX9_acceptedShare 20 = .ok (.if_icmp .ne 7, 3) := by decide +kernel
theorem dX9_acceptedShare_23 : decode cX9_acceptedShare 23 = .ok (.iconst 1, 1) := by decide +kernel
theorem dX9_acceptedShare_24 : decode cX9_acceptedShare 24 = .ok (.goto 4, 3) := by decide +kernel
theorem dX9_acceptedShare_27 : decode cX9_acceptedShare 27 = .ok (.iconst 0, 1) := by decide +kernel
theorem dX9_acceptedShare_28 : decode cX9_acceptedShare 28 = .ok (.iadd, 1) := by decide +kernel
theorem dX9_acceptedShare_29 : decode cX9_acceptedShare 29 = .ok (.istore_n 1, 1) := by decide +kernel
theorem dX9_acceptedShare_30 : decode cX9_acceptedShare 30 = .ok (.iinc 2 1, 3) := by decide +kernel
theorem dX9_acceptedShare_33 : decode cX9_acceptedShare 33 = .ok (.goto (-29), 3) := by decide +kernel
theorem dX9_acceptedShare_36 : decode cX9_acceptedShare 36 = .ok (.aload_n 0, 1) := by decide +kernel
theorem dX9_acceptedShare_37 : decode cX9_acceptedShare 37 = .ok (.aload_n 0, 1) := by decide +kernel
theorem dX9_acceptedShare_38 : decode cX9_acceptedShare 38 = .ok (.getfield 130, 3) := by decide +kernel
theorem dX9_acceptedShare_41 : decode cX9_acceptedShare 41 = .ok (.ifCond .ne 7, 3) := by decide +kernel
theorem dX9_acceptedShare_44 : decode cX9_acceptedShare 44 = .ok (.iconst 1, 1) := by decide +kernel
theorem dX9_acceptedShare_45 : decode cX9_acceptedShare 45 = .ok (.goto 4, 3) := by decide +kernel
theorem dX9_acceptedShare_48 : decode cX9_acceptedShare 48 = .ok (.iconst 0, 1) := by decide +kernel
theorem dX9_acceptedShare_49 : decode cX9_acceptedShare 49 = .ok (.invokevirtual 114, 3) := by decide +kernel
theorem dX9_acceptedShare_52 : decode cX9_acceptedShare 52 = .ok (.ifCond .eq 7, 3) := by decide +kernel
theorem dX9_acceptedShare_55 : decode cX9_acceptedShare 55 = .ok (.fconst 0, 1) := by decide +kernel
theorem dX9_acceptedShare_56 : decode cX9_acceptedShare 56 = .ok (.goto 11, 3) := by decide +kernel
theorem dX9_acceptedShare_59 : decode cX9_acceptedShare 59 = .ok (.iload_n 1, 1) := by decide +kernel
theorem dX9_acceptedShare_60 : decode cX9_acceptedShare 60 = .ok (.i2f, 1) := by decide +kernel
theorem dX9_acceptedShare_61 : decode cX9_acceptedShare 61 = .ok (.aload_n 0, 1) := by decide +kernel
theorem dX9_acceptedShare_62 : decode cX9_acceptedShare 62 = .ok (.getfield 130, 3) := by decide +kernel
theorem dX9_acceptedShare_65 : decode cX9_acceptedShare 65 = .ok (.i2f, 1) := by decide +kernel
theorem dX9_acceptedShare_66 : decode cX9_acceptedShare 66 = .ok (.fdiv, 1) := by decide +kernel
theorem dX9_acceptedShare_67 : decode cX9_acceptedShare 67 = .ok (.freturn, 1) := by decide +kernel
theorem dX9_meanSteps_0 : decode cX9_meanSteps 0 = .ok (.iconst 0, 1) := by decide +kernel
theorem dX9_meanSteps_1 : decode cX9_meanSteps 1 = .ok (.istore_n 1, 1) := by decide +kernel
theorem dX9_meanSteps_2 : decode cX9_meanSteps 2 = .ok (.iconst 0, 1) := by decide +kernel
theorem dX9_meanSteps_3 : decode cX9_meanSteps 3 = .ok (.istore_n 2, 1) := by decide +kernel
theorem dX9_meanSteps_4 : decode cX9_meanSteps 4 = .ok (.iconst 0, 1) := by decide +kernel
theorem dX9_meanSteps_5 : decode cX9_meanSteps 5 = .ok (.istore_n 3, 1) := by decide +kernel
theorem dX9_meanSteps_6 : decode cX9_meanSteps 6 = .ok (.iload_n 3, 1) := by decide +kernel
theorem dX9_meanSteps_7 : decode cX9_meanSteps 7 = .ok (.aload_n 0, 1) := by decide +kernel
theorem dX9_meanSteps_8 : decode cX9_meanSteps 8 = .ok (.getfield 130, 3) := by decide +kernel
theorem dX9_meanSteps_11 : decode cX9_meanSteps 11 = .ok (.if_icmp .ge 52, 3) := by decide +kernel
theorem dX9_meanSteps_14 : decode cX9_meanSteps 14 = .ok (.iconst 0, 1) := by decide +kernel
theorem dX9_meanSteps_15 : decode cX9_meanSteps 15 = .ok (.istore 4, 2) := by decide +kernel
theorem dX9_meanSteps_17 : decode cX9_meanSteps 17 = .ok (.iload 4, 2) := by decide +kernel
theorem dX9_meanSteps_19 : decode cX9_meanSteps 19 = .ok (.aload_n 0, 1) := by decide +kernel
theorem dX9_meanSteps_20 : decode cX9_meanSteps 20 = .ok (.getfield 32, 3) := by decide +kernel
theorem dX9_meanSteps_23 : decode cX9_meanSteps 23 = .ok (.aload_n 0, 1) := by decide +kernel
theorem dX9_meanSteps_24 : decode cX9_meanSteps 24 = .ok (.getfield 50, 3) := by decide +kernel
theorem dX9_meanSteps_27 : decode cX9_meanSteps 27 = .ok (.iload_n 3, 1) := by decide +kernel
theorem dX9_meanSteps_28 : decode cX9_meanSteps 28 = .ok (.iaload, 1) := by decide +kernel
theorem dX9_meanSteps_29 : decode cX9_meanSteps 29 = .ok (.iaload, 1) := by decide +kernel
theorem dX9_meanSteps_30 : decode cX9_meanSteps 30 = .ok (.if_icmp .ge 27, 3) := by decide +kernel
theorem dX9_meanSteps_33 : decode cX9_meanSteps 33 = .ok (.iinc 1 1, 3) := by decide +kernel
theorem dX9_meanSteps_36 : decode cX9_meanSteps 36 = .ok (.iload_n 2, 1) := by decide +kernel
theorem dX9_meanSteps_37 : decode cX9_meanSteps 37 = .ok (.aload_n 0, 1) := by decide +kernel
theorem dX9_meanSteps_38 : decode cX9_meanSteps 38 = .ok (.getfield 71, 3) := by decide +kernel
theorem dX9_meanSteps_41 : decode cX9_meanSteps 41 = .ok (.bipush 6, 2) := by decide +kernel
theorem dX9_meanSteps_43 : decode cX9_meanSteps 43 = .ok (.iload_n 3, 1) := by decide +kernel
theorem dX9_meanSteps_44 : decode cX9_meanSteps 44 = .ok (.imul, 1) := by decide +kernel
theorem dX9_meanSteps_45 : decode cX9_meanSteps 45 = .ok (.iload 4, 2) := by decide +kernel
theorem dX9_meanSteps_47 : decode cX9_meanSteps 47 = .ok (.iadd, 1) := by decide +kernel
theorem dX9_meanSteps_48 : decode cX9_meanSteps 48 = .ok (.iaload, 1) := by decide +kernel
theorem dX9_meanSteps_49 : decode cX9_meanSteps 49 = .ok (.iadd, 1) := by decide +kernel
theorem dX9_meanSteps_50 : decode cX9_meanSteps 50 = .ok (.istore_n 2, 1) := by decide +kernel
theorem dX9_meanSteps_51 : decode cX9_meanSteps 51 = .ok (.iinc 4 1, 3) := by decide +kernel
theorem dX9_meanSteps_54 : decode cX9_meanSteps 54 = .ok (.goto (-37), 3) := by decide +kernel
theorem dX9_meanSteps_57 : decode cX9_meanSteps 57 = .ok (.iinc 3 1, 3) := by decide +kernel
theorem dX9_meanSteps_60 : decode cX9_meanSteps 60 = .ok (.goto (-54), 3) := by decide +kernel
theorem dX9_meanSteps_63 : decode cX9_meanSteps 63 = .ok (.aload_n 0, 1) := by decide +kernel
theorem dX9_meanSteps_64 : decode cX9_meanSteps 64 = .ok (.iload_n 1, 1) := by decide +kernel
theorem dX9_meanSteps_65 : decode cX9_meanSteps 65 = .ok (.ifCond .ne 7, 3) := by decide +kernel
theorem dX9_meanSteps_68 : decode cX9_meanSteps 68 = .ok (.iconst 1, 1) := by decide +kernel
theorem dX9_meanSteps_69 : decode cX9_meanSteps 69 = .ok (.goto 4, 3) := by decide +kernel
theorem dX9_meanSteps_72 : decode cX9_meanSteps 72 = .ok (.iconst 0, 1) := by decide +kernel
theorem dX9_meanSteps_73 : decode cX9_meanSteps 73 = .ok (.invokevirtual 114, 3) := by decide +kernel
theorem dX9_meanSteps_76 : decode cX9_meanSteps 76 = .ok (.ifCond .eq 7, 3) := by decide +kernel
theorem dX9_meanSteps_79 : decode cX9_meanSteps 79 = .ok (.dconst 0, 1) := by decide +kernel
theorem dX9_meanSteps_80 : decode cX9_meanSteps 80 = .ok (.goto 8, 3) := by decide +kernel
theorem dX9_meanSteps_83 : decode cX9_meanSteps 83 = .ok (.iload_n 2, 1) := by decide +kernel
theorem dX9_meanSteps_84 : decode cX9_meanSteps 84 = .ok (.i2d, 1) := by decide +kernel
theorem dX9_meanSteps_85 : decode cX9_meanSteps 85 = .ok (.iload_n 1, 1) := by decide +kernel
theorem dX9_meanSteps_86 : decode cX9_meanSteps 86 = .ok (.i2d, 1) := by decide +kernel
theorem dX9_meanSteps_87 : decode cX9_meanSteps 87 = .ok (.ddiv, 1) := by decide +kernel
theorem dX9_meanSteps_88 : decode cX9_meanSteps 88 = .ok (.dreturn, 1) := by decide +kernel
theorem dX9_checksum_0 : decode cX9_checksum 0 = .ok (.aload_n 0, 1) := by decide +kernel
theorem dX9_checksum_1 : decode cX9_checksum 1 = .ok (.iconst 0, 1) := by decide +kernel
theorem dX9_checksum_2 : decode cX9_checksum 2 = .ok (.putfield 100, 3) := by decide +kernel
theorem dX9_checksum_5 : decode cX9_checksum 5 = .ok (.ldc2_w 239, 3) := by decide +kernel
theorem dX9_checksum_8 : decode cX9_checksum 8 = .ok (.lstore_n 1, 1) := by decide +kernel
theorem dX9_checksum_9 : decode cX9_checksum 9 = .ok (.iconst 0, 1) := by decide +kernel
theorem dX9_checksum_10 : decode cX9_checksum 10 = .ok (.istore_n 3, 1) := by decide +kernel
theorem dX9_checksum_11 : decode cX9_checksum 11 = .ok (.iload_n 3, 1) := by decide +kernel
theorem dX9_checksum_12 : decode cX9_checksum 12 = .ok (.aload_n 0, 1) := by decide +kernel
theorem dX9_checksum_13 : decode cX9_checksum 13 = .ok (.getfield 130, 3) := by decide +kernel
theorem dX9_checksum_16 : decode cX9_checksum 16 = .ok (.if_icmp .ge 96, 3) := by decide +kernel
theorem dX9_checksum_19 : decode cX9_checksum 19 = .ok (.iconst 0, 1) := by decide +kernel
theorem dX9_checksum_20 : decode cX9_checksum 20 = .ok (.istore 4, 2) := by decide +kernel
theorem dX9_checksum_22 : decode cX9_checksum 22 = .ok (.iload 4, 2) := by decide +kernel
theorem dX9_checksum_24 : decode cX9_checksum 24 = .ok (.aload_n 0, 1) := by decide +kernel
theorem dX9_checksum_25 : decode cX9_checksum 25 = .ok (.getfield 32, 3) := by decide +kernel
theorem dX9_checksum_28 : decode cX9_checksum 28 = .ok (.aload_n 0, 1) := by decide +kernel
theorem dX9_checksum_29 : decode cX9_checksum 29 = .ok (.getfield 50, 3) := by decide +kernel
theorem dX9_checksum_32 : decode cX9_checksum 32 = .ok (.iload_n 3, 1) := by decide +kernel
theorem dX9_checksum_33 : decode cX9_checksum 33 = .ok (.iaload, 1) := by decide +kernel
theorem dX9_checksum_34 : decode cX9_checksum 34 = .ok (.iaload, 1) := by decide +kernel
theorem dX9_checksum_35 : decode cX9_checksum 35 = .ok (.if_icmp .ge 71, 3) := by decide +kernel
theorem dX9_checksum_38 : decode cX9_checksum 38 = .ok (.iconst 0, 1) := by decide +kernel
theorem dX9_checksum_39 : decode cX9_checksum 39 = .ok (.istore 5, 2) := by decide +kernel
theorem dX9_checksum_41 : decode cX9_checksum 41 = .ok (.iload 5, 2) := by decide +kernel
theorem dX9_checksum_43 : decode cX9_checksum 43 = .ok (.aload_n 0, 1) := by decide +kernel
theorem dX9_checksum_44 : decode cX9_checksum 44 = .ok (.getfield 77, 3) := by decide +kernel
theorem dX9_checksum_47 : decode cX9_checksum 47 = .ok (.bipush 6, 2) := by decide +kernel
theorem dX9_checksum_49 : decode cX9_checksum 49 = .ok (.iload_n 3, 1) := by decide +kernel
theorem dX9_checksum_50 : decode cX9_checksum 50 = .ok (.imul, 1) := by decide +kernel
theorem dX9_checksum_51 : decode cX9_checksum 51 = .ok (.iload 4, 2) := by decide +kernel
theorem dX9_checksum_53 : decode cX9_checksum 53 = .ok (.iadd, 1) := by decide +kernel
theorem dX9_checksum_54 : decode cX9_checksum 54 = .ok (.iaload, 1) := by decide +kernel
theorem dX9_checksum_55 : decode cX9_checksum 55 = .ok (.if_icmp .ge 35, 3) := by decide +kernel
theorem dX9_checksum_58 : decode cX9_checksum 58 = .ok (.ldc2_w 241, 3) := by decide +kernel
theorem dX9_checksum_61 : decode cX9_checksum 61 = .ok (.lload_n 1, 1) := by decide +kernel
theorem dX9_checksum_62 : decode cX9_checksum 62 = .ok (.lmul, 1) := by decide +kernel
theorem dX9_checksum_63 : decode cX9_checksum 63 = .ok (.aload_n 0, 1) := by decide +kernel
theorem dX9_checksum_64 : decode cX9_checksum 64 = .ok (.getfield 74, 3) := by decide +kernel
theorem dX9_checksum_67 : decode cX9_checksum 67 = .ok (.bipush 36, 2) := by decide +kernel
theorem dX9_checksum_69 : decode cX9_checksum 69 = .ok (.iload_n 3, 1) := by decide +kernel
theorem dX9_checksum_70 : decode cX9_checksum 70 = .ok (.imul, 1) := by decide +kernel
theorem dX9_checksum_71 : decode cX9_checksum 71 = .ok (.bipush 6, 2) := by decide +kernel
theorem dX9_checksum_73 : decode cX9_checksum 73 = .ok (.iload 4, 2) := by decide +kernel
theorem dX9_checksum_75 : decode cX9_checksum 75 = .ok (.imul, 1) := by decide +kernel
theorem dX9_checksum_76 : decode cX9_checksum 76 = .ok (.iadd, 1) := by decide +kernel
theorem dX9_checksum_77 : decode cX9_checksum 77 = .ok (.iload 5, 2) := by decide +kernel
theorem dX9_checksum_79 : decode cX9_checksum 79 = .ok (.iadd, 1) := by decide +kernel
theorem dX9_checksum_80 : decode cX9_checksum 80 = .ok (.iaload, 1) := by decide +kernel
theorem dX9_checksum_81 : decode cX9_checksum 81 = .ok (.i2l, 1) := by decide +kernel
theorem dX9_checksum_82 : decode cX9_checksum 82 = .ok (.ladd, 1) := by decide +kernel
theorem dX9_checksum_83 : decode cX9_checksum 83 = .ok (.lstore_n 1, 1) := by decide +kernel
theorem dX9_checksum_84 : decode cX9_checksum 84 = .ok (.iinc 5 1, 3) := by decide +kernel
theorem dX9_checksum_87 : decode cX9_checksum 87 = .ok (.goto (-46), 3) := by decide +kernel
theorem dX9_checksum_90 : decode cX9_checksum 90 = .ok (.ldc2_w 241, 3) := by decide +kernel
theorem dX9_checksum_93 : decode cX9_checksum 93 = .ok (.lload_n 1, 1) := by decide +kernel
theorem dX9_checksum_94 : decode cX9_checksum 94 = .ok (.lmul, 1) := by decide +kernel
theorem dX9_checksum_95 : decode cX9_checksum 95 = .ok (.ldc2_w 243, 3) := by decide +kernel
theorem dX9_checksum_98 : decode cX9_checksum 98 = .ok (.ladd, 1) := by decide +kernel
theorem dX9_checksum_99 : decode cX9_checksum 99 = .ok (.lstore_n 1, 1) := by decide +kernel
theorem dX9_checksum_100 : decode cX9_checksum 100 = .ok (.iinc 4 1, 3) := by decide +kernel
theorem dX9_checksum_103 : decode cX9_checksum 103 = .ok (.goto (-81), 3) := by decide +kernel
theorem dX9_checksum_106 : decode cX9_checksum 106 = .ok (.iinc 3 1, 3) := by decide +kernel
theorem dX9_checksum_109 : decode cX9_checksum 109 = .ok (.goto (-98), 3) := by decide +kernel
theorem dX9_checksum_112 : decode cX9_checksum 112 = .ok (.lload_n 1, 1) := by decide +kernel
theorem dX9_checksum_113 : decode cX9_checksum 113 = .ok (.lreturn, 1) := by decide +kernel
theorem dX9_isTrue_0 : decode cX9_isTrue 0 = .ok (.aload_n 0, 1) := by decide +kernel
theorem dX9_isTrue_1 : decode cX9_isTrue 1 = .ok (.iconst 0, 1) := by decide +kernel
theorem dX9_isTrue_2 : decode cX9_isTrue 2 = .ok (.putfield 100, 3) := by decide +kernel
theorem dX9_isTrue_5 : decode cX9_isTrue 5 = .ok (.iconst 1, 1) := by decide +kernel
theorem dX9_isTrue_6 : decode cX9_isTrue 6 = .ok (.ireturn, 1) := by decide +kernel
end
section
set_option maxHeartbeats 4000000 in
set_option maxRecDepth 100000 in
theorem c_X9_in (g : GG) (M : Mem) (v l h : Int) (hv : rg v) (hl : rg l) (hh : rg h) : Ct g yX9_in cX9_in 3 (some .boolean) 0 [iv v, iv l, iv h] M (pIP (fun z => (z = 1 ∧ l ≤ v ∧ v ≤ h) ∨ (z = 0 ∧ (v < l ∨ h < v))) M) := by
  refine ct_of (by decide +kernel) (Nat.le_of_ble_eq_true rfl) ?_
  show Ok g mX9_in (rmd 0) (FQ g (pIP (fun z => (z = 1 ∧ l ≤ v ∧ v ≤ h) ∨ (z = 0 ∧ (v < l ∨ h < v))) M)) 0 [(0, iv v), (1, iv l), (2, iv h)] [] M
  have hv1 := hv.1
  have hv2 := hv.2
  have hl1 := hl.1
  have hl2 := hl.2
  have hh1 := hh.1
  have hh2 := hh.2
  refine x_iload_n 0 dX9_in_0 rfl rfl ?_
  refine x_iload_n 1 dX9_in_1 rfl rfl ?_
  refine x_icmp_lt (tgt := 14) dX9_in_2 (by decide) ⟨by omega, by omega⟩ ⟨by omega, by omega⟩ (fun c1 => ?_) (fun c1 => ?_)
  · refine x_iconst (0) dX9_in_14 rfl ?_
    refine x_iret dX9_in_15 rfl (iZ_bool (by omega)) ?_
    exact ⟨_, rfl, rfl, by omega⟩
  · refine x_iload_n 0 dX9_in_5 rfl rfl ?_
    refine x_iload_n 2 dX9_in_6 rfl rfl ?_
    refine x_icmp_gt (tgt := 14) dX9_in_7 (by decide) ⟨by omega, by omega⟩ ⟨by omega, by omega⟩ (fun c2 => ?_) (fun c2 => ?_)
    · refine x_iconst (0) dX9_in_14 rfl ?_
      refine x_iret dX9_in_15 rfl (iZ_bool (by omega)) ?_
      exact ⟨_, rfl, rfl, by omega⟩
    · refine x_iconst (1) dX9_in_10 rfl ?_
      refine x_goto (tgt := 15) dX9_in_11 (by decide) ?_
      refine x_iret dX9_in_15 rfl (iZ_bool (by omega)) ?_
      exact ⟨_, rfl, rfl, by omega⟩

set_option maxHeartbeats 4000000 in
set_option maxRecDepth 100000 in
theorem c_X9_thrown (g : GG) (M : Mem)   : Ct g yX9_thrown cX9_thrown 1 (some .int) 0 [rv g 468] M (pIP (fun z => z = M 468 0) M) := by
  refine ct_of (by decide +kernel) (Nat.le_of_ble_eq_true rfl) ?_
  show Ok g mX9_thrown (rmd 0) (FQ g (pIP (fun z => z = M 468 0) M)) 0 [(0, rv g 468)] [] M
  refine x_aload_n 0 dX9_thrown_0 rfl rfl ?_
  refine x_geti (k := 0) (kI := 0) dX9_thrown_1 fl9_100 k_468 rfl rfl (fun ⟨a1, a1'⟩ => ?_)
  refine x_iret dX9_thrown_4 rfl rfl ?_
  exact ⟨_, rfl, rfl, by omega⟩

set_option maxHeartbeats 4000000 in
set_option maxRecDepth 100000 in
theorem c_X9_fails (g : GG) (M : Mem) (q : Int) (h0 : 0 ≤ q) (h1 : q ≤ 9) : Ct g yX9_fails cX9_fails 2 (some .boolean) 0 [rv g 468, iv q] M (pIP (fun z => (z = 1 ∧ 0 < q) ∨ (z = 0 ∧ q = 0)) (up M 468 0 q)) := by
  refine ct_of (by decide +kernel) (Nat.le_of_ble_eq_true rfl) ?_
  show Ok g mX9_fails (rmd 0) (FQ g (pIP (fun z => (z = 1 ∧ 0 < q) ∨ (z = 0 ∧ q = 0)) (up M 468 0 q))) 0 [(0, rv g 468), (1, iv q)] [] M
  refine x_aload_n 0 dX9_fails_0 rfl rfl ?_
  refine x_iload_n 1 dX9_fails_1 rfl rfl ?_
  refine x_puti (k := 0) (kI := 0) dX9_fails_2 fw9_100 k_468 rfl ⟨by omega, by omega⟩ rfl rfl rfl ?_
  refine x_iload_n 1 dX9_fails_5 rfl rfl ?_
  refine x_if_le (tgt := 13) dX9_fails_6 (by decide) ⟨by omega, by omega⟩ (fun c1 => ?_) (fun c1 => ?_)
  · refine x_iconst (0) dX9_fails_13 rfl ?_
    refine x_iret dX9_fails_14 rfl (iZ_bool (by omega)) ?_
    exact ⟨_, rfl, rfl, by omega⟩
  · refine x_iconst (1) dX9_fails_9 rfl ?_
    refine x_goto (tgt := 14) dX9_fails_10 (by decide) ?_
    refine x_iret dX9_fails_14 rfl (iZ_bool (by omega)) ?_
    exact ⟨_, rfl, rfl, by omega⟩

set_option maxHeartbeats 4000000 in
set_option maxRecDepth 100000 in
theorem c_X9_isNoProblem (g : GG) (M : Mem) (q : Int) (hq : rg q) (h0 : 0 ≤ M 468 9) (h1 : M 468 9 ≤ 40) : Ct g yX9_isNoProblem cX9_isNoProblem 2 (some .boolean) 1 [rv g 468, iv q] M (pIP (fun z => (z = 1 ∧ (q < 0 ∨ M 468 9 ≤ q)) ∨ (z = 0 ∧ 0 ≤ q ∧ q < M 468 9)) M) := by
  refine ct_of (by decide +kernel) (Nat.le_of_ble_eq_true rfl) ?_
  show Ok g mX9_isNoProblem (rmd 1) (FQ g (pIP (fun z => (z = 1 ∧ (q < 0 ∨ M 468 9 ≤ q)) ∨ (z = 0 ∧ 0 ≤ q ∧ q < M 468 9)) M)) 0 [(0, rv g 468), (1, iv q)] [] M
  have hq1 := hq.1
  have hq2 := hq.2
  refine x_iload_n 1 dX9_isNoProblem_0 rfl rfl ?_
  refine x_iconst (0) dX9_isNoProblem_1 rfl ?_
  refine x_aload_n 0 dX9_isNoProblem_2 rfl rfl ?_
  refine x_geti (k := 9) (kI := 9) dX9_isNoProblem_3 fl9_124 k_468 rfl rfl (fun ⟨a1, a1'⟩ => ?_)
  refine x_iconst (1) dX9_isNoProblem_6 rfl ?_
  refine x_isub dX9_isNoProblem_7 ?_
  refine x_callSIP (as := [iv q, iv 0, iv ((M 468 9) - 1)]) (rest := []) dX9_isNoProblem_8 sl9_103 (c_X9_in g M q 0 ((M 468 9) - 1) ⟨by omega, by omega⟩ ⟨by omega, by omega⟩ ⟨by omega, by omega⟩) rfl rfl (Nat.le_of_ble_eq_true rfl) ⟨Nat.le_of_ble_eq_true rfl, Nat.le_of_ble_eq_true rfl⟩ (fun z2 h3 => ?_)
  refine x_if_ne (tgt := 18) dX9_isNoProblem_11 (by decide) ⟨by omega, by omega⟩ (fun c5 => ?_) (fun c5 => ?_)
  · refine x_iconst (0) dX9_isNoProblem_18 rfl ?_
    refine x_iret dX9_isNoProblem_19 rfl (iZ_bool (by omega)) ?_
    exact ⟨_, rfl, rfl, by omega⟩
  · refine x_iconst (1) dX9_isNoProblem_14 rfl ?_
    refine x_goto (tgt := 19) dX9_isNoProblem_15 (by decide) ?_
    refine x_iret dX9_isNoProblem_19 rfl (iZ_bool (by omega)) ?_
    exact ⟨_, rfl, rfl, by omega⟩

set_option maxHeartbeats 4000000 in
set_option maxRecDepth 100000 in
theorem c_X9_isNoTeam (g : GG) (M : Mem) (q : Int) (hq : rg q) (h0 : 0 ≤ M 468 17) (h1 : M 468 17 ≤ 40) : Ct g yX9_isNoTeam cX9_isNoTeam 2 (some .boolean) 1 [rv g 468, iv q] M (pIP (fun z => (z = 1 ∧ (q < 0 ∨ M 468 17 ≤ q)) ∨ (z = 0 ∧ 0 ≤ q ∧ q < M 468 17)) M) := by
  refine ct_of (by decide +kernel) (Nat.le_of_ble_eq_true rfl) ?_
  show Ok g mX9_isNoTeam (rmd 1) (FQ g (pIP (fun z => (z = 1 ∧ (q < 0 ∨ M 468 17 ≤ q)) ∨ (z = 0 ∧ 0 ≤ q ∧ q < M 468 17)) M)) 0 [(0, rv g 468), (1, iv q)] [] M
  have hq1 := hq.1
  have hq2 := hq.2
  refine x_iload_n 1 dX9_isNoTeam_0 rfl rfl ?_
  refine x_iconst (0) dX9_isNoTeam_1 rfl ?_
  refine x_aload_n 0 dX9_isNoTeam_2 rfl rfl ?_
  refine x_geti (k := 17) (kI := 17) dX9_isNoTeam_3 fl9_127 k_468 rfl rfl (fun ⟨a1, a1'⟩ => ?_)
  refine x_iconst (1) dX9_isNoTeam_6 rfl ?_
  refine x_isub dX9_isNoTeam_7 ?_
  refine x_callSIP (as := [iv q, iv 0, iv ((M 468 17) - 1)]) (rest := []) dX9_isNoTeam_8 sl9_103 (c_X9_in g M q 0 ((M 468 17) - 1) ⟨by omega, by omega⟩ ⟨by omega, by omega⟩ ⟨by omega, by omega⟩) rfl rfl (Nat.le_of_ble_eq_true rfl) ⟨Nat.le_of_ble_eq_true rfl, Nat.le_of_ble_eq_true rfl⟩ (fun z2 h3 => ?_)
  refine x_if_ne (tgt := 18) dX9_isNoTeam_11 (by decide) ⟨by omega, by omega⟩ (fun c5 => ?_) (fun c5 => ?_)
  · refine x_iconst (0) dX9_isNoTeam_18 rfl ?_
    refine x_iret dX9_isNoTeam_19 rfl (iZ_bool (by omega)) ?_
    exact ⟨_, rfl, rfl, by omega⟩
  · refine x_iconst (1) dX9_isNoTeam_14 rfl ?_
    refine x_goto (tgt := 19) dX9_isNoTeam_15 (by decide) ?_
    refine x_iret dX9_isNoTeam_19 rfl (iZ_bool (by omega)) ?_
    exact ⟨_, rfl, rfl, by omega⟩

set_option maxHeartbeats 4000000 in
set_option maxRecDepth 100000 in
theorem c_X9_isNoRun (g : GG) (M : Mem) (q : Int) (hq : rg q) (h0 : 0 ≤ M 468 18) (h1 : M 468 18 ≤ 40) : Ct g yX9_isNoRun cX9_isNoRun 2 (some .boolean) 1 [rv g 468, iv q] M (pIP (fun z => (z = 1 ∧ (q < 0 ∨ M 468 18 ≤ q)) ∨ (z = 0 ∧ 0 ≤ q ∧ q < M 468 18)) M) := by
  refine ct_of (by decide +kernel) (Nat.le_of_ble_eq_true rfl) ?_
  show Ok g mX9_isNoRun (rmd 1) (FQ g (pIP (fun z => (z = 1 ∧ (q < 0 ∨ M 468 18 ≤ q)) ∨ (z = 0 ∧ 0 ≤ q ∧ q < M 468 18)) M)) 0 [(0, rv g 468), (1, iv q)] [] M
  have hq1 := hq.1
  have hq2 := hq.2
  refine x_iload_n 1 dX9_isNoRun_0 rfl rfl ?_
  refine x_iconst (0) dX9_isNoRun_1 rfl ?_
  refine x_aload_n 0 dX9_isNoRun_2 rfl rfl ?_
  refine x_geti (k := 18) (kI := 18) dX9_isNoRun_3 fl9_130 k_468 rfl rfl (fun ⟨a1, a1'⟩ => ?_)
  refine x_iconst (1) dX9_isNoRun_6 rfl ?_
  refine x_isub dX9_isNoRun_7 ?_
  refine x_callSIP (as := [iv q, iv 0, iv ((M 468 18) - 1)]) (rest := []) dX9_isNoRun_8 sl9_103 (c_X9_in g M q 0 ((M 468 18) - 1) ⟨by omega, by omega⟩ ⟨by omega, by omega⟩ ⟨by omega, by omega⟩) rfl rfl (Nat.le_of_ble_eq_true rfl) ⟨Nat.le_of_ble_eq_true rfl, Nat.le_of_ble_eq_true rfl⟩ (fun z2 h3 => ?_)
  refine x_if_ne (tgt := 18) dX9_isNoRun_11 (by decide) ⟨by omega, by omega⟩ (fun c5 => ?_) (fun c5 => ?_)
  · refine x_iconst (0) dX9_isNoRun_18 rfl ?_
    refine x_iret dX9_isNoRun_19 rfl (iZ_bool (by omega)) ?_
    exact ⟨_, rfl, rfl, by omega⟩
  · refine x_iconst (1) dX9_isNoRun_14 rfl ?_
    refine x_goto (tgt := 19) dX9_isNoRun_15 (by decide) ?_
    refine x_iret dX9_isNoRun_19 rfl (iZ_bool (by omega)) ?_
    exact ⟨_, rfl, rfl, by omega⟩

set_option maxHeartbeats 4000000 in
set_option maxRecDepth 100000 in
theorem c_X9_failedOf (g : GG) (M : Mem) (r : Int) (h0 : 0 ≤ r) (h1 : r < 40) (h2 : 0 ≤ (M 482 (r))) (h3 : (M 482 (r)) < 5) (h4 : 0 ≤ (M 476 ((M 482 (r))))) (h5 : (M 476 ((M 482 (r)))) ≤ 6) : Ct g yX9_failedOf cX9_failedOf 3 (some .int) 0 [rv g 468, iv r] M (pIP (fun z => (z = -1 ∧ ∀ t, 0 ≤ t → t < (M 476 ((M 482 (r)))) → (M 488 (6 * r + t)) = 111) ∨ (0 ≤ z ∧ z < (M 476 ((M 482 (r)))) ∧ (M 488 (6 * r + z)) ≠ 111 ∧ ∀ t, 0 ≤ t → t < z → (M 488 (6 * r + t)) = 111)) M) := by
  refine ct_of (by decide +kernel) (Nat.le_of_ble_eq_true rfl) ?_
  show Ok g mX9_failedOf (rmd 0) (FQ g (pIP (fun z => (z = -1 ∧ ∀ t, 0 ≤ t → t < (M 476 ((M 482 (r)))) → (M 488 (6 * r + t)) = 111) ∨ (0 ≤ z ∧ z < (M 476 ((M 482 (r)))) ∧ (M 488 (6 * r + z)) ≠ 111 ∧ ∀ t, 0 ≤ t → t < z → (M 488 (6 * r + t)) = 111)) M)) 0 [(0, rv g 468), (1, iv r)] [] M
  have h_2 : ∀ (n_ : Nat) (t : Int), (0 ≤ t) → (t ≤ (M 476 ((M 482 (r))))) → (∀ q, 0 ≤ q → q < t → (M 488 (6 * r + q)) = 111) → ((M 476 ((M 482 (r)))) - t).toNat < n_ → Ok g mX9_failedOf (rmd 0) (FQ g (pIP (fun z => (z = -1 ∧ ∀ t, 0 ≤ t → t < (M 476 ((M 482 (r)))) → (M 488 (6 * r + t)) = 111) ∨ (0 ≤ z ∧ z < (M 476 ((M 482 (r)))) ∧ (M 488 (6 * r + z)) ≠ 111 ∧ ∀ t, 0 ≤ t → t < z → (M 488 (6 * r + t)) = 111)) M)) 2 [(0, rv g 468), (1, iv r), (2, iv t)] [] M := by
    intro n_
    induction n_ with
    | zero => intro t; intro i0 i1 i2 hn_; exact absurd hn_ (Nat.not_lt_zero _)
    | succ n_ ih =>
      intro t i0 i1 i2 hn_
      refine x_iload_n 2 dX9_failedOf_2 rfl rfl ?_
      refine x_aload_n 0 dX9_failedOf_3 rfl rfl ?_
      refine x_getr (k := 12) (d := 8) dX9_failedOf_4 fl9_32 k_468 rfl (fun k1 => ?_)
      have k1 : isK 20 5 476 := k1
      show Ok g mX9_failedOf (rmd 0) (FQ g (pIP (fun z => (z = -1 ∧ ∀ t, 0 ≤ t → t < (M 476 ((M 482 (r)))) → (M 488 (6 * r + t)) = 111) ∨ (0 ≤ z ∧ z < (M 476 ((M 482 (r)))) ∧ (M 488 (6 * r + z)) ≠ 111 ∧ ∀ t, 0 ≤ t → t < z → (M 488 (6 * r + t)) = 111)) M)) 7 [(0, rv g 468), (1, iv r), (2, iv t)] [rv g 476, iv t] M
      refine x_aload_n 0 dX9_failedOf_7 rfl rfl ?_
      refine x_getr (k := 20) (d := 14) dX9_failedOf_8 fl9_50 k_468 rfl (fun k2 => ?_)
      have k2 : isK 20 40 482 := k2
      show Ok g mX9_failedOf (rmd 0) (FQ g (pIP (fun z => (z = -1 ∧ ∀ t, 0 ≤ t → t < (M 476 ((M 482 (r)))) → (M 488 (6 * r + t)) = 111) ∨ (0 ≤ z ∧ z < (M 476 ((M 482 (r)))) ∧ (M 488 (6 * r + z)) ≠ 111 ∧ ∀ t, 0 ≤ t → t < z → (M 488 (6 * r + t)) = 111)) M)) 11 [(0, rv g 468), (1, iv r), (2, iv t)] [rv g 482, rv g 476, iv t] M
      refine x_iload_n 1 dX9_failedOf_11 rfl rfl ?_
      refine x_iald dX9_failedOf_12 k2 (by omega) (by omega) (by decide) (fun ⟨a3, a3'⟩ => ?_)
      refine x_iald dX9_failedOf_13 k1 (by omega) (by omega) (by decide) (fun ⟨a4, a4'⟩ => ?_)
      refine x_icmp_ge (tgt := 41) dX9_failedOf_14 (by decide) ⟨by omega, by omega⟩ ⟨by omega, by omega⟩ (fun c5 => ?_) (fun c5 => ?_)
      · refine x_iconst (-1) dX9_failedOf_41 rfl ?_
        refine x_iret dX9_failedOf_42 rfl rfl ?_
        exact ⟨_, rfl, rfl, Or.inl ⟨by omega, fun q q0 q1 => i2 q q0 (by omega)⟩⟩
      · refine x_aload_n 0 dX9_failedOf_17 rfl rfl ?_
        refine x_getr (k := 26) (d := 20) dX9_failedOf_18 fl9_68 k_468 rfl (fun k6 => ?_)
        have k6 : isK 21 240 488 := k6
        show Ok g mX9_failedOf (rmd 0) (FQ g (pIP (fun z => (z = -1 ∧ ∀ t, 0 ≤ t → t < (M 476 ((M 482 (r)))) → (M 488 (6 * r + t)) = 111) ∨ (0 ≤ z ∧ z < (M 476 ((M 482 (r)))) ∧ (M 488 (6 * r + z)) ≠ 111 ∧ ∀ t, 0 ≤ t → t < z → (M 488 (6 * r + t)) = 111)) M)) 21 [(0, rv g 468), (1, iv r), (2, iv t)] [rv g 488] M
        refine x_bipush (6) dX9_failedOf_21 rfl ?_
        refine x_iload_n 1 dX9_failedOf_23 rfl rfl ?_
        refine x_imul dX9_failedOf_24 ?_
        refine x_iload_n 2 dX9_failedOf_25 rfl rfl ?_
        refine x_iadd dX9_failedOf_26 ?_
        refine x_cald dX9_failedOf_27 k6 (by omega) (by omega) (by decide) (fun ⟨a7, a7'⟩ => ?_)
        refine x_bipush (111) dX9_failedOf_28 rfl ?_
        refine x_icmp_eq (tgt := 35) dX9_failedOf_30 (by decide) ⟨by omega, by omega⟩ ⟨by decide, by decide⟩ (fun c8 => ?_) (fun c8 => ?_)
        · refine x_iinc (z := t) (lv' := [(2, iv (t + 1)), (0, rv g 468), (1, iv r)]) 2 dX9_failedOf_35 rfl (Nat.le_of_ble_eq_true rfl) rfl ?_
          refine x_goto (tgt := 2) dX9_failedOf_38 (by decide) ?_
          refine x_sub [1, 2, 0] rfl ?_
          exact ih _ (by omega) (by omega) (by exact ext_lt i2 (by assumption)) (by omega)
        · refine x_iload_n 2 dX9_failedOf_33 rfl rfl ?_
          refine x_iret dX9_failedOf_34 rfl rfl ?_
          exact ⟨_, rfl, rfl, Or.inr ⟨by omega, by omega, by assumption, i2⟩⟩
  refine x_iconst (0) dX9_failedOf_0 rfl ?_
  refine x_istore_n (lv' := [(2, iv 0), (0, rv g 468), (1, iv r)]) dX9_failedOf_1 rfl (Nat.le_of_ble_eq_true rfl) rfl ?_
  refine x_sub [1, 2, 0] rfl ?_
  exact h_2 _ _ (by omega) (by omega) (by intro q _ _; omega) (Nat.lt_succ_self _)
end
section
theorem zz_last : True := trivial
end

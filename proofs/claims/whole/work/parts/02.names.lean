-- ===== PART A: goes FIRST, ahead of the names: the tables' words, and 'selects' of the private methods out of them =====
/-- a private method of a class that the tables say can be made, by its rows of tables_1 -/
def lw_okq (q : MethodName × Nat) : Prop := (q.1.cls ≠ "java/lang/invoke/MethodHandle" ∧ q.1.cls ≠ "java/lang/invoke/VarHandle") ∧ Cond.instantiable q.1.cls q.2 ∈ tables_1 ∧ Cond.privateMethod q.1 ∈ tables_1 ∧ Cond.instanceMethod q.1 ∈ tables_1
theorem lw_p0 : lw_okq (⟨"OptionBlockPlanner$History", "planIn", "(I)LOptionBlockPlanner$Plan;"⟩, 3) := ⟨⟨by decide +kernel, by decide +kernel⟩, List.mem_of_getElem? (i := 196) (by decide +kernel), List.mem_of_getElem? (i := 338) (by decide +kernel), List.mem_of_getElem? (i := 339) (by decide +kernel)⟩
theorem lw_p1 : lw_okq (⟨"OptionBlockPlanner$Placements", "collectRoomy", "(I)V"⟩, 6) := ⟨⟨by decide +kernel, by decide +kernel⟩, List.mem_of_getElem? (i := 104) (by decide +kernel), List.mem_of_getElem? (i := 387) (by decide +kernel), List.mem_of_getElem? (i := 388) (by decide +kernel)⟩
theorem lw_p2 : lw_okq (⟨"OptionBlockPlanner$Placements", "findBest", "()I"⟩, 6) := ⟨⟨by decide +kernel, by decide +kernel⟩, List.mem_of_getElem? (i := 104) (by decide +kernel), List.mem_of_getElem? (i := 420) (by decide +kernel), List.mem_of_getElem? (i := 421) (by decide +kernel)⟩
theorem lw_p3 : lw_okq (⟨"OptionBlockPlanner$Placements", "keepIfBetter", "(I)V"⟩, 6) := ⟨⟨by decide +kernel, by decide +kernel⟩, List.mem_of_getElem? (i := 104) (by decide +kernel), List.mem_of_getElem? (i := 427) (by decide +kernel), List.mem_of_getElem? (i := 428) (by decide +kernel)⟩
theorem lw_p4 : lw_okq (⟨"OptionBlockPlanner$Arrangements", "collectCommon", "()V"⟩, 6) := ⟨⟨by decide +kernel, by decide +kernel⟩, List.mem_of_getElem? (i := 148) (by decide +kernel), List.mem_of_getElem? (i := 483) (by decide +kernel), List.mem_of_getElem? (i := 484) (by decide +kernel)⟩
theorem lw_p5 : lw_okq (⟨"OptionBlockPlanner$Arrangements", "countPairs", "(I)V"⟩, 6) := ⟨⟨by decide +kernel, by decide +kernel⟩, List.mem_of_getElem? (i := 148) (by decide +kernel), List.mem_of_getElem? (i := 489) (by decide +kernel), List.mem_of_getElem? (i := 490) (by decide +kernel)⟩
theorem lw_p6 : lw_okq (⟨"OptionBlockPlanner$Arrangements", "weigh", "(I)V"⟩, 6) := ⟨⟨by decide +kernel, by decide +kernel⟩, List.mem_of_getElem? (i := 148) (by decide +kernel), List.mem_of_getElem? (i := 499) (by decide +kernel), List.mem_of_getElem? (i := 500) (by decide +kernel)⟩
theorem lw_p7 : lw_okq (⟨"OptionBlockPlanner", "make", "(IIII)I"⟩, 14) := ⟨⟨by decide +kernel, by decide +kernel⟩, List.mem_of_getElem? (i := 34) (by decide +kernel), List.mem_of_getElem? (i := 529) (by decide +kernel), List.mem_of_getElem? (i := 530) (by decide +kernel)⟩
theorem lw_p8 : lw_okq (⟨"OptionBlockPlanner$Changes", "faultOfNewSubject", "(I)I"⟩, 5) := ⟨⟨by decide +kernel, by decide +kernel⟩, List.mem_of_getElem? (i := 173) (by decide +kernel), List.mem_of_getElem? (i := 537) (by decide +kernel), List.mem_of_getElem? (i := 538) (by decide +kernel)⟩
theorem lw_p9 : lw_okq (⟨"OptionBlockPlanner$Changes", "faultOfBlocks", "(I)I"⟩, 5) := ⟨⟨by decide +kernel, by decide +kernel⟩, List.mem_of_getElem? (i := 173) (by decide +kernel), List.mem_of_getElem? (i := 541) (by decide +kernel), List.mem_of_getElem? (i := 542) (by decide +kernel)⟩
theorem lw_p10 : lw_okq (⟨"OptionBlockPlanner$Changes", "faultOfOpening", "(II)I"⟩, 5) := ⟨⟨by decide +kernel, by decide +kernel⟩, List.mem_of_getElem? (i := 173) (by decide +kernel), List.mem_of_getElem? (i := 546) (by decide +kernel), List.mem_of_getElem? (i := 547) (by decide +kernel)⟩
theorem lw_p11 : lw_okq (⟨"OptionBlockPlanner$Changes", "faultOfClosing", "(II)I"⟩, 5) := ⟨⟨by decide +kernel, by decide +kernel⟩, List.mem_of_getElem? (i := 173) (by decide +kernel), List.mem_of_getElem? (i := 552) (by decide +kernel), List.mem_of_getElem? (i := 553) (by decide +kernel)⟩
theorem lw_p12 : lw_okq (⟨"OptionBlockPlanner$Changes", "faultOfWish", "(II)I"⟩, 5) := ⟨⟨by decide +kernel, by decide +kernel⟩, List.mem_of_getElem? (i := 173) (by decide +kernel), List.mem_of_getElem? (i := 557) (by decide +kernel), List.mem_of_getElem? (i := 558) (by decide +kernel)⟩
theorem lw_p13 : lw_okq (⟨"OptionBlockPlanner$Changes", "faultOfReserve", "(II)I"⟩, 5) := ⟨⟨by decide +kernel, by decide +kernel⟩, List.mem_of_getElem? (i := 173) (by decide +kernel), List.mem_of_getElem? (i := 561) (by decide +kernel), List.mem_of_getElem? (i := 562) (by decide +kernel)⟩
theorem lw_p14 : lw_okq (⟨"OptionBlockPlanner$Changes", "faultOfJoining", "(II)I"⟩, 5) := ⟨⟨by decide +kernel, by decide +kernel⟩, List.mem_of_getElem? (i := 173) (by decide +kernel), List.mem_of_getElem? (i := 568) (by decide +kernel), List.mem_of_getElem? (i := 569) (by decide +kernel)⟩
theorem lw_p15 : lw_okq (⟨"OptionBlockPlanner$Chains", "measure", "(I)V"⟩, 4) := ⟨⟨by decide +kernel, by decide +kernel⟩, List.mem_of_getElem? (i := 129) (by decide +kernel), List.mem_of_getElem? (i := 590) (by decide +kernel), List.mem_of_getElem? (i := 591) (by decide +kernel)⟩
def lw_privs_1 : List (MethodName × Nat) := [(⟨"OptionBlockPlanner$History", "planIn", "(I)LOptionBlockPlanner$Plan;"⟩, 3), (⟨"OptionBlockPlanner$Placements", "collectRoomy", "(I)V"⟩, 6), (⟨"OptionBlockPlanner$Placements", "findBest", "()I"⟩, 6), (⟨"OptionBlockPlanner$Placements", "keepIfBetter", "(I)V"⟩, 6), (⟨"OptionBlockPlanner$Arrangements", "collectCommon", "()V"⟩, 6), (⟨"OptionBlockPlanner$Arrangements", "countPairs", "(I)V"⟩, 6), (⟨"OptionBlockPlanner$Arrangements", "weigh", "(I)V"⟩, 6), (⟨"OptionBlockPlanner", "make", "(IIII)I"⟩, 14), (⟨"OptionBlockPlanner$Changes", "faultOfNewSubject", "(I)I"⟩, 5), (⟨"OptionBlockPlanner$Changes", "faultOfBlocks", "(I)I"⟩, 5), (⟨"OptionBlockPlanner$Changes", "faultOfOpening", "(II)I"⟩, 5), (⟨"OptionBlockPlanner$Changes", "faultOfClosing", "(II)I"⟩, 5), (⟨"OptionBlockPlanner$Changes", "faultOfWish", "(II)I"⟩, 5), (⟨"OptionBlockPlanner$Changes", "faultOfReserve", "(II)I"⟩, 5), (⟨"OptionBlockPlanner$Changes", "faultOfJoining", "(II)I"⟩, 5), (⟨"OptionBlockPlanner$Chains", "measure", "(I)V"⟩, 4)]
theorem lw_r1 : ∀ q ∈ lw_privs_1, lw_okq q := List.forall_mem_cons.mpr ⟨lw_p0, List.forall_mem_cons.mpr ⟨lw_p1, List.forall_mem_cons.mpr ⟨lw_p2, List.forall_mem_cons.mpr ⟨lw_p3, List.forall_mem_cons.mpr ⟨lw_p4, List.forall_mem_cons.mpr ⟨lw_p5, List.forall_mem_cons.mpr ⟨lw_p6, List.forall_mem_cons.mpr ⟨lw_p7, List.forall_mem_cons.mpr ⟨lw_p8, List.forall_mem_cons.mpr ⟨lw_p9, List.forall_mem_cons.mpr ⟨lw_p10, List.forall_mem_cons.mpr ⟨lw_p11, List.forall_mem_cons.mpr ⟨lw_p12, List.forall_mem_cons.mpr ⟨lw_p13, List.forall_mem_cons.mpr ⟨lw_p14, List.forall_mem_cons.mpr ⟨lw_p15, fun _ h => absurd h List.not_mem_nil⟩⟩⟩⟩⟩⟩⟩⟩⟩⟩⟩⟩⟩⟩⟩⟩
theorem lw_p16 : lw_okq (⟨"OptionBlockPlanner$Chains", "nextBlock", "(II)I"⟩, 4) := ⟨⟨by decide +kernel, by decide +kernel⟩, List.mem_of_getElem? (i := 129) (by decide +kernel), List.mem_of_getElem? (i := 595) (by decide +kernel), List.mem_of_getElem? (i := 596) (by decide +kernel)⟩
theorem lw_p17 : lw_okq (⟨"OptionBlockPlanner$Chains", "nearest", "(I)I"⟩, 4) := ⟨⟨by decide +kernel, by decide +kernel⟩, List.mem_of_getElem? (i := 129) (by decide +kernel), List.mem_of_getElem? (i := 599) (by decide +kernel), List.mem_of_getElem? (i := 600) (by decide +kernel)⟩
theorem lw_p18 : lw_okq (⟨"OptionBlockPlanner$Changes", "refusal", "(II)I"⟩, 5) := ⟨⟨by decide +kernel, by decide +kernel⟩, List.mem_of_getElem? (i := 173) (by decide +kernel), List.mem_of_getElem? (i := 603) (by decide +kernel), List.mem_of_getElem? (i := 604) (by decide +kernel)⟩
theorem lw_p19 : lw_okq (⟨"OptionBlockPlanner$Changes", "faultOfQuitting", "(II)I"⟩, 5) := ⟨⟨by decide +kernel, by decide +kernel⟩, List.mem_of_getElem? (i := 173) (by decide +kernel), List.mem_of_getElem? (i := 612) (by decide +kernel), List.mem_of_getElem? (i := 613) (by decide +kernel)⟩
theorem lw_p20 : lw_okq (⟨"OptionBlockPlanner$Changes", "faultOfChanging", "(III)I"⟩, 5) := ⟨⟨by decide +kernel, by decide +kernel⟩, List.mem_of_getElem? (i := 173) (by decide +kernel), List.mem_of_getElem? (i := 616) (by decide +kernel), List.mem_of_getElem? (i := 617) (by decide +kernel)⟩
theorem lw_p21 : lw_okq (⟨"java/lang/Throwable", "fillInStackTrace", "(I)Ljava/lang/Throwable;"⟩, 6) := ⟨⟨by decide +kernel, by decide +kernel⟩, List.mem_of_getElem? (i := 670) (by decide +kernel), List.mem_of_getElem? (i := 668) (by decide +kernel), List.mem_of_getElem? (i := 669) (by decide +kernel)⟩
theorem lw_p22 : lw_okq (⟨"OptionBlockPlanner$Placements", "setsUsedFor", "(I)I"⟩, 6) := ⟨⟨by decide +kernel, by decide +kernel⟩, List.mem_of_getElem? (i := 104) (by decide +kernel), List.mem_of_getElem? (i := 1042) (by decide +kernel), List.mem_of_getElem? (i := 1043) (by decide +kernel)⟩
theorem lw_p23 : lw_okq (⟨"OptionBlockPlanner$Placements", "collectOpen", "(I)V"⟩, 6) := ⟨⟨by decide +kernel, by decide +kernel⟩, List.mem_of_getElem? (i := 104) (by decide +kernel), List.mem_of_getElem? (i := 1060) (by decide +kernel), List.mem_of_getElem? (i := 1061) (by decide +kernel)⟩
theorem lw_p24 : lw_okq (⟨"OptionBlockPlanner", "needPair", "(II)V"⟩, 14) := ⟨⟨by decide +kernel, by decide +kernel⟩, List.mem_of_getElem? (i := 34) (by decide +kernel), List.mem_of_getElem? (i := 1191) (by decide +kernel), List.mem_of_getElem? (i := 1192) (by decide +kernel)⟩
theorem lw_p25 : lw_okq (⟨"OptionBlockPlanner", "writeLesson", "(II)V"⟩, 14) := ⟨⟨by decide +kernel, by decide +kernel⟩, List.mem_of_getElem? (i := 34) (by decide +kernel), List.mem_of_getElem? (i := 1491) (by decide +kernel), List.mem_of_getElem? (i := 1492) (by decide +kernel)⟩
theorem lw_p26 : lw_okq (⟨"OptionBlockPlanner$Program", "readCommand", "(I)Z"⟩, 5) := ⟨⟨by decide +kernel, by decide +kernel⟩, List.mem_of_getElem? (i := 216) (by decide +kernel), List.mem_of_getElem? (i := 1533) (by decide +kernel), List.mem_of_getElem? (i := 1534) (by decide +kernel)⟩
theorem lw_p27 : lw_okq (⟨"OptionBlockPlanner$Program", "matches", "(Ljava/lang/String;I)Z"⟩, 5) := ⟨⟨by decide +kernel, by decide +kernel⟩, List.mem_of_getElem? (i := 216) (by decide +kernel), List.mem_of_getElem? (i := 1552) (by decide +kernel), List.mem_of_getElem? (i := 1553) (by decide +kernel)⟩
theorem lw_p28 : lw_okq (⟨"OptionBlockPlanner$Program", "readNumber", "(IZ)Z"⟩, 5) := ⟨⟨by decide +kernel, by decide +kernel⟩, List.mem_of_getElem? (i := 216) (by decide +kernel), List.mem_of_getElem? (i := 1572) (by decide +kernel), List.mem_of_getElem? (i := 1573) (by decide +kernel)⟩
theorem lw_p29 : lw_okq (⟨"OptionBlockPlanner$Program", "digitHere", "()I"⟩, 5) := ⟨⟨by decide +kernel, by decide +kernel⟩, List.mem_of_getElem? (i := 216) (by decide +kernel), List.mem_of_getElem? (i := 1576) (by decide +kernel), List.mem_of_getElem? (i := 1577) (by decide +kernel)⟩
theorem lw_p30 : lw_okq (⟨"OptionBlockPlanner$Program", "skip", "(C)Z"⟩, 5) := ⟨⟨by decide +kernel, by decide +kernel⟩, List.mem_of_getElem? (i := 216) (by decide +kernel), List.mem_of_getElem? (i := 1583) (by decide +kernel), List.mem_of_getElem? (i := 1584) (by decide +kernel)⟩
theorem lw_p31 : lw_okq (⟨"OptionBlockPlannerModel", "fails", "(I)I"⟩, 31) := ⟨⟨by decide +kernel, by decide +kernel⟩, List.mem_of_getElem? (i := 1644) (by decide +kernel), List.mem_of_getElem? (i := 1767) (by decide +kernel), List.mem_of_getElem? (i := 1768) (by decide +kernel)⟩
def lw_privs_2 : List (MethodName × Nat) := [(⟨"OptionBlockPlanner$Chains", "nextBlock", "(II)I"⟩, 4), (⟨"OptionBlockPlanner$Chains", "nearest", "(I)I"⟩, 4), (⟨"OptionBlockPlanner$Changes", "refusal", "(II)I"⟩, 5), (⟨"OptionBlockPlanner$Changes", "faultOfQuitting", "(II)I"⟩, 5), (⟨"OptionBlockPlanner$Changes", "faultOfChanging", "(III)I"⟩, 5), (⟨"java/lang/Throwable", "fillInStackTrace", "(I)Ljava/lang/Throwable;"⟩, 6), (⟨"OptionBlockPlanner$Placements", "setsUsedFor", "(I)I"⟩, 6), (⟨"OptionBlockPlanner$Placements", "collectOpen", "(I)V"⟩, 6), (⟨"OptionBlockPlanner", "needPair", "(II)V"⟩, 14), (⟨"OptionBlockPlanner", "writeLesson", "(II)V"⟩, 14), (⟨"OptionBlockPlanner$Program", "readCommand", "(I)Z"⟩, 5), (⟨"OptionBlockPlanner$Program", "matches", "(Ljava/lang/String;I)Z"⟩, 5), (⟨"OptionBlockPlanner$Program", "readNumber", "(IZ)Z"⟩, 5), (⟨"OptionBlockPlanner$Program", "digitHere", "()I"⟩, 5), (⟨"OptionBlockPlanner$Program", "skip", "(C)Z"⟩, 5), (⟨"OptionBlockPlannerModel", "fails", "(I)I"⟩, 31)]
theorem lw_r2 : ∀ q ∈ lw_privs_2, lw_okq q := List.forall_mem_cons.mpr ⟨lw_p16, List.forall_mem_cons.mpr ⟨lw_p17, List.forall_mem_cons.mpr ⟨lw_p18, List.forall_mem_cons.mpr ⟨lw_p19, List.forall_mem_cons.mpr ⟨lw_p20, List.forall_mem_cons.mpr ⟨lw_p21, List.forall_mem_cons.mpr ⟨lw_p22, List.forall_mem_cons.mpr ⟨lw_p23, List.forall_mem_cons.mpr ⟨lw_p24, List.forall_mem_cons.mpr ⟨lw_p25, List.forall_mem_cons.mpr ⟨lw_p26, List.forall_mem_cons.mpr ⟨lw_p27, List.forall_mem_cons.mpr ⟨lw_p28, List.forall_mem_cons.mpr ⟨lw_p29, List.forall_mem_cons.mpr ⟨lw_p30, List.forall_mem_cons.mpr ⟨lw_p31, fun _ h => absurd h List.not_mem_nil⟩⟩⟩⟩⟩⟩⟩⟩⟩⟩⟩⟩⟩⟩⟩⟩
theorem lw_p32 : lw_okq (⟨"OptionBlockPlannerModel", "tells", "(I)I"⟩, 31) := ⟨⟨by decide +kernel, by decide +kernel⟩, List.mem_of_getElem? (i := 1644) (by decide +kernel), List.mem_of_getElem? (i := 1771) (by decide +kernel), List.mem_of_getElem? (i := 1772) (by decide +kernel)⟩
theorem lw_p33 : lw_okq (⟨"OptionBlockPlannerModel", "begins", "()V"⟩, 31) := ⟨⟨by decide +kernel, by decide +kernel⟩, List.mem_of_getElem? (i := 1644) (by decide +kernel), List.mem_of_getElem? (i := 1790) (by decide +kernel), List.mem_of_getElem? (i := 1791) (by decide +kernel)⟩
theorem lw_p34 : lw_okq (⟨"OptionBlockPlannerModel", "addSubjectNow", "(I)I"⟩, 31) := ⟨⟨by decide +kernel, by decide +kernel⟩, List.mem_of_getElem? (i := 1644) (by decide +kernel), List.mem_of_getElem? (i := 1794) (by decide +kernel), List.mem_of_getElem? (i := 1795) (by decide +kernel)⟩
theorem lw_p35 : lw_okq (⟨"OptionBlockPlannerModel", "bad", "(I)I"⟩, 31) := ⟨⟨by decide +kernel, by decide +kernel⟩, List.mem_of_getElem? (i := 1644) (by decide +kernel), List.mem_of_getElem? (i := 1801) (by decide +kernel), List.mem_of_getElem? (i := 1802) (by decide +kernel)⟩
theorem lw_p36 : lw_okq (⟨"OptionBlockPlannerModel", "ends", "(III)I"⟩, 31) := ⟨⟨by decide +kernel, by decide +kernel⟩, List.mem_of_getElem? (i := 1644) (by decide +kernel), List.mem_of_getElem? (i := 1805) (by decide +kernel), List.mem_of_getElem? (i := 1806) (by decide +kernel)⟩
theorem lw_p37 : lw_okq (⟨"OptionBlockPlannerModel", "setSizeNow", "(II)I"⟩, 31) := ⟨⟨by decide +kernel, by decide +kernel⟩, List.mem_of_getElem? (i := 1644) (by decide +kernel), List.mem_of_getElem? (i := 1813) (by decide +kernel), List.mem_of_getElem? (i := 1814) (by decide +kernel)⟩
theorem lw_p38 : lw_okq (⟨"OptionBlockPlannerModel", "isSubject", "(I)Z"⟩, 31) := ⟨⟨by decide +kernel, by decide +kernel⟩, List.mem_of_getElem? (i := 1644) (by decide +kernel), List.mem_of_getElem? (i := 1817) (by decide +kernel), List.mem_of_getElem? (i := 1818) (by decide +kernel)⟩
theorem lw_p39 : lw_okq (⟨"OptionBlockPlannerModel", "inClass", "(II)I"⟩, 31) := ⟨⟨by decide +kernel, by decide +kernel⟩, List.mem_of_getElem? (i := 1644) (by decide +kernel), List.mem_of_getElem? (i := 1821) (by decide +kernel), List.mem_of_getElem? (i := 1822) (by decide +kernel)⟩
theorem lw_p40 : lw_okq (⟨"OptionBlockPlannerModel", "subjectOf", "(II)I"⟩, 31) := ⟨⟨by decide +kernel, by decide +kernel⟩, List.mem_of_getElem? (i := 1644) (by decide +kernel), List.mem_of_getElem? (i := 1825) (by decide +kernel), List.mem_of_getElem? (i := 1826) (by decide +kernel)⟩
theorem lw_p41 : lw_okq (⟨"OptionBlockPlannerModel", "setBlockCountNow", "(I)I"⟩, 31) := ⟨⟨by decide +kernel, by decide +kernel⟩, List.mem_of_getElem? (i := 1644) (by decide +kernel), List.mem_of_getElem? (i := 1841) (by decide +kernel), List.mem_of_getElem? (i := 1842) (by decide +kernel)⟩
theorem lw_p42 : lw_okq (⟨"OptionBlockPlannerModel", "hasOpen", "(II)Z"⟩, 31) := ⟨⟨by decide +kernel, by decide +kernel⟩, List.mem_of_getElem? (i := 1644) (by decide +kernel), List.mem_of_getElem? (i := 1845) (by decide +kernel), List.mem_of_getElem? (i := 1846) (by decide +kernel)⟩
theorem lw_p43 : lw_okq (⟨"OptionBlockPlannerModel", "openClassNow", "(II)I"⟩, 31) := ⟨⟨by decide +kernel, by decide +kernel⟩, List.mem_of_getElem? (i := 1644) (by decide +kernel), List.mem_of_getElem? (i := 1857) (by decide +kernel), List.mem_of_getElem? (i := 1858) (by decide +kernel)⟩
theorem lw_p44 : lw_okq (⟨"OptionBlockPlannerModel", "isBlock", "(I)Z"⟩, 31) := ⟨⟨by decide +kernel, by decide +kernel⟩, List.mem_of_getElem? (i := 1644) (by decide +kernel), List.mem_of_getElem? (i := 1861) (by decide +kernel), List.mem_of_getElem? (i := 1862) (by decide +kernel)⟩
theorem lw_p45 : lw_okq (⟨"OptionBlockPlannerModel", "openOf", "(I)I"⟩, 31) := ⟨⟨by decide +kernel, by decide +kernel⟩, List.mem_of_getElem? (i := 1644) (by decide +kernel), List.mem_of_getElem? (i := 1865) (by decide +kernel), List.mem_of_getElem? (i := 1866) (by decide +kernel)⟩
theorem lw_p46 : lw_okq (⟨"OptionBlockPlannerModel", "closeClassNow", "(II)I"⟩, 31) := ⟨⟨by decide +kernel, by decide +kernel⟩, List.mem_of_getElem? (i := 1644) (by decide +kernel), List.mem_of_getElem? (i := 1873) (by decide +kernel), List.mem_of_getElem? (i := 1874) (by decide +kernel)⟩
theorem lw_p47 : lw_okq (⟨"OptionBlockPlannerModel", "addPupilNow", "()I"⟩, 31) := ⟨⟨by decide +kernel, by decide +kernel⟩, List.mem_of_getElem? (i := 1644) (by decide +kernel), List.mem_of_getElem? (i := 1893) (by decide +kernel), List.mem_of_getElem? (i := 1894) (by decide +kernel)⟩
def lw_privs_3 : List (MethodName × Nat) := [(⟨"OptionBlockPlannerModel", "tells", "(I)I"⟩, 31), (⟨"OptionBlockPlannerModel", "begins", "()V"⟩, 31), (⟨"OptionBlockPlannerModel", "addSubjectNow", "(I)I"⟩, 31), (⟨"OptionBlockPlannerModel", "bad", "(I)I"⟩, 31), (⟨"OptionBlockPlannerModel", "ends", "(III)I"⟩, 31), (⟨"OptionBlockPlannerModel", "setSizeNow", "(II)I"⟩, 31), (⟨"OptionBlockPlannerModel", "isSubject", "(I)Z"⟩, 31), (⟨"OptionBlockPlannerModel", "inClass", "(II)I"⟩, 31), (⟨"OptionBlockPlannerModel", "subjectOf", "(II)I"⟩, 31), (⟨"OptionBlockPlannerModel", "setBlockCountNow", "(I)I"⟩, 31), (⟨"OptionBlockPlannerModel", "hasOpen", "(II)Z"⟩, 31), (⟨"OptionBlockPlannerModel", "openClassNow", "(II)I"⟩, 31), (⟨"OptionBlockPlannerModel", "isBlock", "(I)Z"⟩, 31), (⟨"OptionBlockPlannerModel", "openOf", "(I)I"⟩, 31), (⟨"OptionBlockPlannerModel", "closeClassNow", "(II)I"⟩, 31), (⟨"OptionBlockPlannerModel", "addPupilNow", "()I"⟩, 31)]
theorem lw_r3 : ∀ q ∈ lw_privs_3, lw_okq q := List.forall_mem_cons.mpr ⟨lw_p32, List.forall_mem_cons.mpr ⟨lw_p33, List.forall_mem_cons.mpr ⟨lw_p34, List.forall_mem_cons.mpr ⟨lw_p35, List.forall_mem_cons.mpr ⟨lw_p36, List.forall_mem_cons.mpr ⟨lw_p37, List.forall_mem_cons.mpr ⟨lw_p38, List.forall_mem_cons.mpr ⟨lw_p39, List.forall_mem_cons.mpr ⟨lw_p40, List.forall_mem_cons.mpr ⟨lw_p41, List.forall_mem_cons.mpr ⟨lw_p42, List.forall_mem_cons.mpr ⟨lw_p43, List.forall_mem_cons.mpr ⟨lw_p44, List.forall_mem_cons.mpr ⟨lw_p45, List.forall_mem_cons.mpr ⟨lw_p46, List.forall_mem_cons.mpr ⟨lw_p47, fun _ h => absurd h List.not_mem_nil⟩⟩⟩⟩⟩⟩⟩⟩⟩⟩⟩⟩⟩⟩⟩⟩
theorem lw_p48 : lw_okq (⟨"OptionBlockPlannerModel", "addWishNow", "(II)I"⟩, 31) := ⟨⟨by decide +kernel, by decide +kernel⟩, List.mem_of_getElem? (i := 1644) (by decide +kernel), List.mem_of_getElem? (i := 1905) (by decide +kernel), List.mem_of_getElem? (i := 1906) (by decide +kernel)⟩
theorem lw_p49 : lw_okq (⟨"OptionBlockPlannerModel", "isPupil", "(I)Z"⟩, 31) := ⟨⟨by decide +kernel, by decide +kernel⟩, List.mem_of_getElem? (i := 1644) (by decide +kernel), List.mem_of_getElem? (i := 1909) (by decide +kernel), List.mem_of_getElem? (i := 1910) (by decide +kernel)⟩
theorem lw_p50 : lw_okq (⟨"OptionBlockPlannerModel", "isWish", "(II)Z"⟩, 31) := ⟨⟨by decide +kernel, by decide +kernel⟩, List.mem_of_getElem? (i := 1644) (by decide +kernel), List.mem_of_getElem? (i := 1913) (by decide +kernel), List.mem_of_getElem? (i := 1914) (by decide +kernel)⟩
theorem lw_p51 : lw_okq (⟨"OptionBlockPlannerModel", "wish", "(II)I"⟩, 31) := ⟨⟨by decide +kernel, by decide +kernel⟩, List.mem_of_getElem? (i := 1644) (by decide +kernel), List.mem_of_getElem? (i := 1917) (by decide +kernel), List.mem_of_getElem? (i := 1918) (by decide +kernel)⟩
theorem lw_p52 : lw_okq (⟨"OptionBlockPlannerModel", "setReserveNow", "(II)I"⟩, 31) := ⟨⟨by decide +kernel, by decide +kernel⟩, List.mem_of_getElem? (i := 1644) (by decide +kernel), List.mem_of_getElem? (i := 1925) (by decide +kernel), List.mem_of_getElem? (i := 1926) (by decide +kernel)⟩
theorem lw_p53 : lw_okq (⟨"OptionBlockPlannerModel", "blockOfSubject", "(II)I"⟩, 31) := ⟨⟨by decide +kernel, by decide +kernel⟩, List.mem_of_getElem? (i := 1644) (by decide +kernel), List.mem_of_getElem? (i := 1949) (by decide +kernel), List.mem_of_getElem? (i := 1950) (by decide +kernel)⟩
theorem lw_p54 : lw_okq (⟨"OptionBlockPlannerModel", "enrolNow", "(I)I"⟩, 31) := ⟨⟨by decide +kernel, by decide +kernel⟩, List.mem_of_getElem? (i := 1644) (by decide +kernel), List.mem_of_getElem? (i := 1957) (by decide +kernel), List.mem_of_getElem? (i := 1958) (by decide +kernel)⟩
theorem lw_p55 : lw_okq (⟨"OptionBlockPlannerModel", "classesOf", "(I)I"⟩, 31) := ⟨⟨by decide +kernel, by decide +kernel⟩, List.mem_of_getElem? (i := 1644) (by decide +kernel), List.mem_of_getElem? (i := 1961) (by decide +kernel), List.mem_of_getElem? (i := 1962) (by decide +kernel)⟩
theorem lw_p56 : lw_okq (⟨"OptionBlockPlannerModel", "findsPlacement", "(I)V"⟩, 31) := ⟨⟨by decide +kernel, by decide +kernel⟩, List.mem_of_getElem? (i := 1644) (by decide +kernel), List.mem_of_getElem? (i := 1965) (by decide +kernel), List.mem_of_getElem? (i := 1966) (by decide +kernel)⟩
theorem lw_p57 : lw_okq (⟨"OptionBlockPlannerModel", "worth", "(I)I"⟩, 31) := ⟨⟨by decide +kernel, by decide +kernel⟩, List.mem_of_getElem? (i := 1644) (by decide +kernel), List.mem_of_getElem? (i := 1969) (by decide +kernel), List.mem_of_getElem? (i := 1970) (by decide +kernel)⟩
theorem lw_p58 : lw_okq (⟨"OptionBlockPlannerModel", "hasRoom", "(III)Z"⟩, 31) := ⟨⟨by decide +kernel, by decide +kernel⟩, List.mem_of_getElem? (i := 1644) (by decide +kernel), List.mem_of_getElem? (i := 1973) (by decide +kernel), List.mem_of_getElem? (i := 1974) (by decide +kernel)⟩
theorem lw_p59 : lw_okq (⟨"OptionBlockPlannerModel", "lacksWish", "(I)Z"⟩, 31) := ⟨⟨by decide +kernel, by decide +kernel⟩, List.mem_of_getElem? (i := 1644) (by decide +kernel), List.mem_of_getElem? (i := 1977) (by decide +kernel), List.mem_of_getElem? (i := 1978) (by decide +kernel)⟩
theorem lw_p60 : lw_okq (⟨"OptionBlockPlannerModel", "isServed", "(I)Z"⟩, 31) := ⟨⟨by decide +kernel, by decide +kernel⟩, List.mem_of_getElem? (i := 1644) (by decide +kernel), List.mem_of_getElem? (i := 1985) (by decide +kernel), List.mem_of_getElem? (i := 1986) (by decide +kernel)⟩
theorem lw_p61 : lw_okq (⟨"OptionBlockPlannerModel", "withdrawNow", "(I)I"⟩, 31) := ⟨⟨by decide +kernel, by decide +kernel⟩, List.mem_of_getElem? (i := 1644) (by decide +kernel), List.mem_of_getElem? (i := 1993) (by decide +kernel), List.mem_of_getElem? (i := 1994) (by decide +kernel)⟩
theorem lw_p62 : lw_okq (⟨"OptionBlockPlannerModel", "canPlace", "(IIZ)Z"⟩, 31) := ⟨⟨by decide +kernel, by decide +kernel⟩, List.mem_of_getElem? (i := 1644) (by decide +kernel), List.mem_of_getElem? (i := 2005) (by decide +kernel), List.mem_of_getElem? (i := 2006) (by decide +kernel)⟩
theorem lw_p63 : lw_okq (⟨"OptionBlockPlannerModel", "more", "(IIIZ)I"⟩, 31) := ⟨⟨by decide +kernel, by decide +kernel⟩, List.mem_of_getElem? (i := 1644) (by decide +kernel), List.mem_of_getElem? (i := 2009) (by decide +kernel), List.mem_of_getElem? (i := 2010) (by decide +kernel)⟩
def lw_privs_4 : List (MethodName × Nat) := [(⟨"OptionBlockPlannerModel", "addWishNow", "(II)I"⟩, 31), (⟨"OptionBlockPlannerModel", "isPupil", "(I)Z"⟩, 31), (⟨"OptionBlockPlannerModel", "isWish", "(II)Z"⟩, 31), (⟨"OptionBlockPlannerModel", "wish", "(II)I"⟩, 31), (⟨"OptionBlockPlannerModel", "setReserveNow", "(II)I"⟩, 31), (⟨"OptionBlockPlannerModel", "blockOfSubject", "(II)I"⟩, 31), (⟨"OptionBlockPlannerModel", "enrolNow", "(I)I"⟩, 31), (⟨"OptionBlockPlannerModel", "classesOf", "(I)I"⟩, 31), (⟨"OptionBlockPlannerModel", "findsPlacement", "(I)V"⟩, 31), (⟨"OptionBlockPlannerModel", "worth", "(I)I"⟩, 31), (⟨"OptionBlockPlannerModel", "hasRoom", "(III)Z"⟩, 31), (⟨"OptionBlockPlannerModel", "lacksWish", "(I)Z"⟩, 31), (⟨"OptionBlockPlannerModel", "isServed", "(I)Z"⟩, 31), (⟨"OptionBlockPlannerModel", "withdrawNow", "(I)I"⟩, 31), (⟨"OptionBlockPlannerModel", "canPlace", "(IIZ)Z"⟩, 31), (⟨"OptionBlockPlannerModel", "more", "(IIIZ)I"⟩, 31)]
theorem lw_r4 : ∀ q ∈ lw_privs_4, lw_okq q := List.forall_mem_cons.mpr ⟨lw_p48, List.forall_mem_cons.mpr ⟨lw_p49, List.forall_mem_cons.mpr ⟨lw_p50, List.forall_mem_cons.mpr ⟨lw_p51, List.forall_mem_cons.mpr ⟨lw_p52, List.forall_mem_cons.mpr ⟨lw_p53, List.forall_mem_cons.mpr ⟨lw_p54, List.forall_mem_cons.mpr ⟨lw_p55, List.forall_mem_cons.mpr ⟨lw_p56, List.forall_mem_cons.mpr ⟨lw_p57, List.forall_mem_cons.mpr ⟨lw_p58, List.forall_mem_cons.mpr ⟨lw_p59, List.forall_mem_cons.mpr ⟨lw_p60, List.forall_mem_cons.mpr ⟨lw_p61, List.forall_mem_cons.mpr ⟨lw_p62, List.forall_mem_cons.mpr ⟨lw_p63, fun _ h => absurd h List.not_mem_nil⟩⟩⟩⟩⟩⟩⟩⟩⟩⟩⟩⟩⟩⟩⟩⟩
theorem lw_p64 : lw_okq (⟨"OptionBlockPlannerModel", "isServable", "(I)Z"⟩, 31) := ⟨⟨by decide +kernel, by decide +kernel⟩, List.mem_of_getElem? (i := 1644) (by decide +kernel), List.mem_of_getElem? (i := 2017) (by decide +kernel), List.mem_of_getElem? (i := 2018) (by decide +kernel)⟩
theorem lw_p65 : lw_okq (⟨"OptionBlockPlannerModel", "asksMoves", "(II)I"⟩, 31) := ⟨⟨by decide +kernel, by decide +kernel⟩, List.mem_of_getElem? (i := 1644) (by decide +kernel), List.mem_of_getElem? (i := 2037) (by decide +kernel), List.mem_of_getElem? (i := 2038) (by decide +kernel)⟩
theorem lw_p66 : lw_okq (⟨"OptionBlockPlannerModel", "findsChain", "(II)I"⟩, 31) := ⟨⟨by decide +kernel, by decide +kernel⟩, List.mem_of_getElem? (i := 1644) (by decide +kernel), List.mem_of_getElem? (i := 2041) (by decide +kernel), List.mem_of_getElem? (i := 2042) (by decide +kernel)⟩
theorem lw_p67 : lw_okq (⟨"OptionBlockPlannerModel", "isChain", "(III)Z"⟩, 31) := ⟨⟨by decide +kernel, by decide +kernel⟩, List.mem_of_getElem? (i := 1644) (by decide +kernel), List.mem_of_getElem? (i := 2045) (by decide +kernel), List.mem_of_getElem? (i := 2046) (by decide +kernel)⟩
theorem lw_p68 : lw_okq (⟨"OptionBlockPlannerModel", "isEntry", "(III)Z"⟩, 31) := ⟨⟨by decide +kernel, by decide +kernel⟩, List.mem_of_getElem? (i := 1644) (by decide +kernel), List.mem_of_getElem? (i := 2049) (by decide +kernel), List.mem_of_getElem? (i := 2050) (by decide +kernel)⟩
theorem lw_p69 : lw_okq (⟨"OptionBlockPlannerModel", "mover", "(III)I"⟩, 31) := ⟨⟨by decide +kernel, by decide +kernel⟩, List.mem_of_getElem? (i := 1644) (by decide +kernel), List.mem_of_getElem? (i := 2053) (by decide +kernel), List.mem_of_getElem? (i := 2054) (by decide +kernel)⟩
theorem lw_p70 : lw_okq (⟨"OptionBlockPlannerModel", "joinNow", "(II)I"⟩, 31) := ⟨⟨by decide +kernel, by decide +kernel⟩, List.mem_of_getElem? (i := 1644) (by decide +kernel), List.mem_of_getElem? (i := 2065) (by decide +kernel), List.mem_of_getElem? (i := 2066) (by decide +kernel)⟩
theorem lw_p71 : lw_okq (⟨"OptionBlockPlannerModel", "whyRefused", "(II)I"⟩, 31) := ⟨⟨by decide +kernel, by decide +kernel⟩, List.mem_of_getElem? (i := 1644) (by decide +kernel), List.mem_of_getElem? (i := 2069) (by decide +kernel), List.mem_of_getElem? (i := 2070) (by decide +kernel)⟩
theorem lw_p72 : lw_okq (⟨"OptionBlockPlannerModel", "quitNow", "(II)I"⟩, 31) := ⟨⟨by decide +kernel, by decide +kernel⟩, List.mem_of_getElem? (i := 1644) (by decide +kernel), List.mem_of_getElem? (i := 2077) (by decide +kernel), List.mem_of_getElem? (i := 2078) (by decide +kernel)⟩
theorem lw_p73 : lw_okq (⟨"OptionBlockPlannerModel", "changeNow", "(III)I"⟩, 31) := ⟨⟨by decide +kernel, by decide +kernel⟩, List.mem_of_getElem? (i := 1644) (by decide +kernel), List.mem_of_getElem? (i := 2085) (by decide +kernel), List.mem_of_getElem? (i := 2086) (by decide +kernel)⟩
theorem lw_p74 : lw_okq (⟨"OptionBlockPlannerModel", "wrongPair", "(II)I"⟩, 31) := ⟨⟨by decide +kernel, by decide +kernel⟩, List.mem_of_getElem? (i := 1644) (by decide +kernel), List.mem_of_getElem? (i := 2109) (by decide +kernel), List.mem_of_getElem? (i := 2110) (by decide +kernel)⟩
theorem lw_p75 : lw_okq (⟨"OptionBlockPlannerModel", "common", "(II)I"⟩, 31) := ⟨⟨by decide +kernel, by decide +kernel⟩, List.mem_of_getElem? (i := 1644) (by decide +kernel), List.mem_of_getElem? (i := 2113) (by decide +kernel), List.mem_of_getElem? (i := 2114) (by decide +kernel)⟩
theorem lw_p76 : lw_okq (⟨"OptionBlockPlannerModel", "clash", "(II)Z"⟩, 31) := ⟨⟨by decide +kernel, by decide +kernel⟩, List.mem_of_getElem? (i := 1644) (by decide +kernel), List.mem_of_getElem? (i := 2121) (by decide +kernel), List.mem_of_getElem? (i := 2122) (by decide +kernel)⟩
theorem lw_p77 : lw_okq (⟨"OptionBlockPlannerModel", "findsArrangement", "()I"⟩, 31) := ⟨⟨by decide +kernel, by decide +kernel⟩, List.mem_of_getElem? (i := 1644) (by decide +kernel), List.mem_of_getElem? (i := 2133) (by decide +kernel), List.mem_of_getElem? (i := 2134) (by decide +kernel)⟩
theorem lw_p78 : lw_okq (⟨"OptionBlockPlannerModel", "arrangeNow", "()I"⟩, 31) := ⟨⟨by decide +kernel, by decide +kernel⟩, List.mem_of_getElem? (i := 1644) (by decide +kernel), List.mem_of_getElem? (i := 2145) (by decide +kernel), List.mem_of_getElem? (i := 2146) (by decide +kernel)⟩
theorem lw_p79 : lw_okq (⟨"OptionBlockPlannerModel", "writes", "(C)V"⟩, 31) := ⟨⟨by decide +kernel, by decide +kernel⟩, List.mem_of_getElem? (i := 1644) (by decide +kernel), List.mem_of_getElem? (i := 2153) (by decide +kernel), List.mem_of_getElem? (i := 2154) (by decide +kernel)⟩
def lw_privs_5 : List (MethodName × Nat) := [(⟨"OptionBlockPlannerModel", "isServable", "(I)Z"⟩, 31), (⟨"OptionBlockPlannerModel", "asksMoves", "(II)I"⟩, 31), (⟨"OptionBlockPlannerModel", "findsChain", "(II)I"⟩, 31), (⟨"OptionBlockPlannerModel", "isChain", "(III)Z"⟩, 31), (⟨"OptionBlockPlannerModel", "isEntry", "(III)Z"⟩, 31), (⟨"OptionBlockPlannerModel", "mover", "(III)I"⟩, 31), (⟨"OptionBlockPlannerModel", "joinNow", "(II)I"⟩, 31), (⟨"OptionBlockPlannerModel", "whyRefused", "(II)I"⟩, 31), (⟨"OptionBlockPlannerModel", "quitNow", "(II)I"⟩, 31), (⟨"OptionBlockPlannerModel", "changeNow", "(III)I"⟩, 31), (⟨"OptionBlockPlannerModel", "wrongPair", "(II)I"⟩, 31), (⟨"OptionBlockPlannerModel", "common", "(II)I"⟩, 31), (⟨"OptionBlockPlannerModel", "clash", "(II)Z"⟩, 31), (⟨"OptionBlockPlannerModel", "findsArrangement", "()I"⟩, 31), (⟨"OptionBlockPlannerModel", "arrangeNow", "()I"⟩, 31), (⟨"OptionBlockPlannerModel", "writes", "(C)V"⟩, 31)]
theorem lw_r5 : ∀ q ∈ lw_privs_5, lw_okq q := List.forall_mem_cons.mpr ⟨lw_p64, List.forall_mem_cons.mpr ⟨lw_p65, List.forall_mem_cons.mpr ⟨lw_p66, List.forall_mem_cons.mpr ⟨lw_p67, List.forall_mem_cons.mpr ⟨lw_p68, List.forall_mem_cons.mpr ⟨lw_p69, List.forall_mem_cons.mpr ⟨lw_p70, List.forall_mem_cons.mpr ⟨lw_p71, List.forall_mem_cons.mpr ⟨lw_p72, List.forall_mem_cons.mpr ⟨lw_p73, List.forall_mem_cons.mpr ⟨lw_p74, List.forall_mem_cons.mpr ⟨lw_p75, List.forall_mem_cons.mpr ⟨lw_p76, List.forall_mem_cons.mpr ⟨lw_p77, List.forall_mem_cons.mpr ⟨lw_p78, List.forall_mem_cons.mpr ⟨lw_p79, fun _ h => absurd h List.not_mem_nil⟩⟩⟩⟩⟩⟩⟩⟩⟩⟩⟩⟩⟩⟩⟩⟩
theorem lw_p80 : lw_okq (⟨"OptionBlockPlannerModel", "parses", "()I"⟩, 31) := ⟨⟨by decide +kernel, by decide +kernel⟩, List.mem_of_getElem? (i := 1644) (by decide +kernel), List.mem_of_getElem? (i := 2169) (by decide +kernel), List.mem_of_getElem? (i := 2170) (by decide +kernel)⟩
theorem lw_p81 : lw_okq (⟨"OptionBlockPlannerModel", "reads", "(Ljava/lang/String;I)Z"⟩, 31) := ⟨⟨by decide +kernel, by decide +kernel⟩, List.mem_of_getElem? (i := 1644) (by decide +kernel), List.mem_of_getElem? (i := 2173) (by decide +kernel), List.mem_of_getElem? (i := 2174) (by decide +kernel)⟩
theorem lw_p82 : lw_okq (⟨"OptionBlockPlannerModel", "isDigit", "(I)Z"⟩, 31) := ⟨⟨by decide +kernel, by decide +kernel⟩, List.mem_of_getElem? (i := 1644) (by decide +kernel), List.mem_of_getElem? (i := 2179) (by decide +kernel), List.mem_of_getElem? (i := 2180) (by decide +kernel)⟩
theorem lw_p83 : lw_okq (⟨"OptionBlockPlannerModel", "acts", "(IIII)I"⟩, 31) := ⟨⟨by decide +kernel, by decide +kernel⟩, List.mem_of_getElem? (i := 1644) (by decide +kernel), List.mem_of_getElem? (i := 2183) (by decide +kernel), List.mem_of_getElem? (i := 2184) (by decide +kernel)⟩
def lw_privs_6 : List (MethodName × Nat) := [(⟨"OptionBlockPlannerModel", "parses", "()I"⟩, 31), (⟨"OptionBlockPlannerModel", "reads", "(Ljava/lang/String;I)Z"⟩, 31), (⟨"OptionBlockPlannerModel", "isDigit", "(I)Z"⟩, 31), (⟨"OptionBlockPlannerModel", "acts", "(IIII)I"⟩, 31)]
theorem lw_r6 : ∀ q ∈ lw_privs_6, lw_okq q := List.forall_mem_cons.mpr ⟨lw_p80, List.forall_mem_cons.mpr ⟨lw_p81, List.forall_mem_cons.mpr ⟨lw_p82, List.forall_mem_cons.mpr ⟨lw_p83, fun _ h => absurd h List.not_mem_nil⟩⟩⟩⟩
def lw_privs : List (MethodName × Nat) := lw_privs_1 ++ (lw_privs_2 ++ (lw_privs_3 ++ (lw_privs_4 ++ (lw_privs_5 ++ (lw_privs_6)))))
def lw_tbl : List Cond := k2_sels lw_privs ++ tables_1
theorem lw_privs_ok : ∀ q ∈ lw_privs, lw_okq q := by
  show ∀ q ∈ lw_privs_1 ++ (lw_privs_2 ++ (lw_privs_3 ++ (lw_privs_4 ++ (lw_privs_5 ++ (lw_privs_6))))), lw_okq q
  exact List.forall_mem_append.mpr ⟨lw_r1, List.forall_mem_append.mpr ⟨lw_r2, List.forall_mem_append.mpr ⟨lw_r3, List.forall_mem_append.mpr ⟨lw_r4, List.forall_mem_append.mpr ⟨lw_r5, lw_r6⟩⟩⟩⟩⟩
/-- the streams that the claim lets the run draw from -/
abbrev lw_cs : List Choice := [Jvm.Choice.named "NaN.bits"]
theorem lw_bits : nanBits ∈ lw_cs := by first | decide | exact List.mem_cons_self | simp [lw_cs, nanBits]
-- ===== end of PART A; then your names; then what follows =====
def RX0 : String := "OptionBlockPlanner$Arrangements"
def TX0 : u_T := fun k => match k with
  | 0 => ("OptionBlockPlanner$Arrangements", "plan", "LOptionBlockPlanner$Plan;", true)
  | 1 => ("OptionBlockPlanner$Arrangements", "common", "[I", true)
  | 2 => ("OptionBlockPlanner$Arrangements", "tried", "[I", true)
  | 3 => ("OptionBlockPlanner$Arrangements", "best", "[I", true)
  | 4 => ("OptionBlockPlanner$Arrangements", "added", "[I", true)
  | _ => ("OptionBlockPlanner$Arrangements", "fewest", "I", false)
def tyX0 : Nat → FieldType := fun k => match k with
  | 0 => .object "OptionBlockPlanner$Plan"
  | 1 => .array .int
  | 2 => .array .int
  | 3 => .array .int
  | 4 => .array .int
  | _ => .int
abbrev wsX00 : List Cond := u_ws RX0 TX0 6
theorem nmX0 : ∀ a, a < 6 → ∀ b, b < 6 → a ≠ b → (TX0 a).2.1 ≠ (TX0 b).2.1 := by decide +kernel
theorem tyX0_ok : ∀ k, k < 6 → parseFieldDescriptor (TX0 k).2.2.1 = some (tyX0 k) := by decide +kernel
abbrev cX0_init : ByteArray := prog_2_method_1_code
def yX0_init : MethodName := ⟨RX0, "<init>", "(LOptionBlockPlanner$Plan;)V"⟩
abbrev cX0_findBest : ByteArray := prog_2_method_2_code
def yX0_findBest : MethodName := ⟨RX0, "findBest", "()I"⟩
abbrev cX0_fewestByTrial : ByteArray := prog_2_method_3_code
def yX0_fewestByTrial : MethodName := ⟨RX0, "fewestByTrial", "()I"⟩
abbrev cX0_carryOut : ByteArray := prog_2_method_4_code
def yX0_carryOut : MethodName := ⟨RX0, "carryOut", "()I"⟩
abbrev cX0_collectCommon : ByteArray := prog_2_method_5_code
def yX0_collectCommon : MethodName := ⟨RX0, "collectCommon", "()V"⟩
abbrev cX0_countPairs : ByteArray := prog_2_method_6_code
def yX0_countPairs : MethodName := ⟨RX0, "countPairs", "(I)V"⟩
abbrev cX0_settle : ByteArray := prog_2_method_7_code
def yX0_settle : MethodName := ⟨RX0, "settle", "(LOptionBlockPlanner$Arrangements;II)V"⟩
abbrev cX0_tryAll : ByteArray := prog_2_method_8_code
def yX0_tryAll : MethodName := ⟨RX0, "tryAll", "(LOptionBlockPlanner$Arrangements;II)I"⟩
abbrev cX0_weigh : ByteArray := prog_2_method_9_code
def yX0_weigh : MethodName := ⟨RX0, "weigh", "(I)V"⟩
def RX1 : String := "OptionBlockPlanner$Chains"
def TX1 : u_T := fun k => match k with
  | 0 => ("OptionBlockPlanner$Chains", "plan", "LOptionBlockPlanner$Plan;", true)
  | 1 => ("OptionBlockPlanner$Chains", "rosters", "[I", true)
  | 2 => ("OptionBlockPlanner$Chains", "busy", "[I", true)
  | _ => ("OptionBlockPlanner$Chains", "distances", "[I", true)
def tyX1 : Nat → FieldType := fun k => match k with
  | 0 => .object "OptionBlockPlanner$Plan"
  | 1 => .array .int
  | 2 => .array .int
  | _ => .array .int
abbrev wsX10 : List Cond := u_ws RX1 TX1 4
theorem nmX1 : ∀ a, a < 4 → ∀ b, b < 4 → a ≠ b → (TX1 a).2.1 ≠ (TX1 b).2.1 := by decide +kernel
theorem tyX1_ok : ∀ k, k < 4 → parseFieldDescriptor (TX1 k).2.2.1 = some (tyX1 k) := by decide +kernel
abbrev cX1_init : ByteArray := prog_3_method_1_code
def yX1_init : MethodName := ⟨RX1, "<init>", "(LOptionBlockPlanner$Plan;)V"⟩
abbrev cX1_fewestMoves : ByteArray := prog_3_method_2_code
def yX1_fewestMoves : MethodName := ⟨RX1, "fewestMoves", "(II)I"⟩
abbrev cX1_fewestMovesByTrial : ByteArray := prog_3_method_3_code
def yX1_fewestMovesByTrial : MethodName := ⟨RX1, "fewestMovesByTrial", "(II)I"⟩
abbrev cX1_reasonAgainst : ByteArray := prog_3_method_4_code
def yX1_reasonAgainst : MethodName := ⟨RX1, "reasonAgainst", "(II)I"⟩
abbrev cX1_carryOut : ByteArray := prog_3_method_5_code
def yX1_carryOut : MethodName := ⟨RX1, "carryOut", "(II)I"⟩
abbrev cX1_measure : ByteArray := prog_3_method_6_code
def yX1_measure : MethodName := ⟨RX1, "measure", "(I)V"⟩
abbrev cX1_nextBlock : ByteArray := prog_3_method_7_code
def yX1_nextBlock : MethodName := ⟨RX1, "nextBlock", "(II)I"⟩
abbrev cX1_nearest : ByteArray := prog_3_method_8_code
def yX1_nearest : MethodName := ⟨RX1, "nearest", "(I)I"⟩
abbrev cX1_leadsToRoom : ByteArray := prog_3_method_9_code
def yX1_leadsToRoom : MethodName := ⟨RX1, "leadsToRoom", "(LOptionBlockPlanner$Plan;IIII)Z"⟩
def RX2 : String := "OptionBlockPlanner$Changes"
def TX2 : u_T := fun k => match k with
  | 0 => ("OptionBlockPlanner$Changes", "plan", "LOptionBlockPlanner$Plan;", true)
  | 1 => ("OptionBlockPlanner$Changes", "placements", "LOptionBlockPlanner$Placements;", true)
  | 2 => ("OptionBlockPlanner$Changes", "chains", "LOptionBlockPlanner$Chains;", true)
  | 3 => ("OptionBlockPlanner$Changes", "arrangements", "LOptionBlockPlanner$Arrangements;", true)
  | _ => ("OptionBlockPlanner$Changes", "lastRefusal", "I", false)
def tyX2 : Nat → FieldType := fun k => match k with
  | 0 => .object "OptionBlockPlanner$Plan"
  | 1 => .object "OptionBlockPlanner$Placements"
  | 2 => .object "OptionBlockPlanner$Chains"
  | 3 => .object "OptionBlockPlanner$Arrangements"
  | _ => .int
abbrev wsX20 : List Cond := u_ws RX2 TX2 5
theorem nmX2 : ∀ a, a < 5 → ∀ b, b < 5 → a ≠ b → (TX2 a).2.1 ≠ (TX2 b).2.1 := by decide +kernel
theorem tyX2_ok : ∀ k, k < 5 → parseFieldDescriptor (TX2 k).2.2.1 = some (tyX2 k) := by decide +kernel
abbrev cX2_init : ByteArray := prog_4_method_1_code
def yX2_init : MethodName := ⟨RX2, "<init>", "(LOptionBlockPlanner$Plan;LOptionBlockPlanner$Placements;LOptionBlockPlanner$Chains;LOptionBlockPlanner$Arrangements;)V"⟩
abbrev cX2_faultOf : ByteArray := prog_4_method_2_code
def yX2_faultOf : MethodName := ⟨RX2, "faultOf", "(IIII)I"⟩
abbrev cX2_perform : ByteArray := prog_4_method_3_code
def yX2_perform : MethodName := ⟨RX2, "perform", "(IIII)I"⟩
abbrev cX2_faultOfJoiner : ByteArray := prog_4_method_4_code
def yX2_faultOfJoiner : MethodName := ⟨RX2, "faultOfJoiner", "(II)I"⟩
abbrev cX2_faultOfNewSubject : ByteArray := prog_4_method_5_code
def yX2_faultOfNewSubject : MethodName := ⟨RX2, "faultOfNewSubject", "(I)I"⟩
abbrev cX2_faultOfResizing : ByteArray := prog_4_method_6_code
def yX2_faultOfResizing : MethodName := ⟨RX2, "faultOfResizing", "(II)I"⟩
abbrev cX2_faultOfBlocks : ByteArray := prog_4_method_7_code
def yX2_faultOfBlocks : MethodName := ⟨RX2, "faultOfBlocks", "(I)I"⟩
abbrev cX2_faultOfOpening : ByteArray := prog_4_method_8_code
def yX2_faultOfOpening : MethodName := ⟨RX2, "faultOfOpening", "(II)I"⟩
abbrev cX2_faultOfClosing : ByteArray := prog_4_method_9_code
def yX2_faultOfClosing : MethodName := ⟨RX2, "faultOfClosing", "(II)I"⟩
abbrev cX2_faultOfWish : ByteArray := prog_4_method_10_code
def yX2_faultOfWish : MethodName := ⟨RX2, "faultOfWish", "(II)I"⟩
abbrev cX2_faultOfReserve : ByteArray := prog_4_method_11_code
def yX2_faultOfReserve : MethodName := ⟨RX2, "faultOfReserve", "(II)I"⟩
abbrev cX2_faultOfEnrolling : ByteArray := prog_4_method_12_code
def yX2_faultOfEnrolling : MethodName := ⟨RX2, "faultOfEnrolling", "(I)I"⟩
abbrev cX2_faultOfWithdrawing : ByteArray := prog_4_method_13_code
def yX2_faultOfWithdrawing : MethodName := ⟨RX2, "faultOfWithdrawing", "(I)I"⟩
abbrev cX2_faultOfJoining : ByteArray := prog_4_method_14_code
def yX2_faultOfJoining : MethodName := ⟨RX2, "faultOfJoining", "(II)I"⟩
abbrev cX2_faultOfQuitting : ByteArray := prog_4_method_15_code
def yX2_faultOfQuitting : MethodName := ⟨RX2, "faultOfQuitting", "(II)I"⟩
abbrev cX2_faultOfChanging : ByteArray := prog_4_method_16_code
def yX2_faultOfChanging : MethodName := ⟨RX2, "faultOfChanging", "(III)I"⟩
abbrev cX2_refusal : ByteArray := prog_4_method_17_code
def yX2_refusal : MethodName := ⟨RX2, "refusal", "(II)I"⟩
def RX3 : String := "OptionBlockPlanner$History"
def TX3 : u_T := fun k => match k with
  | 0 => ("OptionBlockPlanner$History", "kept", "[LOptionBlockPlanner$Plan;", true)
  | 1 => ("OptionBlockPlanner$History", "next", "I", false)
  | _ => ("OptionBlockPlanner$History", "count", "I", false)
def tyX3 : Nat → FieldType := fun k => match k with
  | 0 => .array (.object "OptionBlockPlanner$Plan")
  | 1 => .int
  | _ => .int
abbrev wsX30 : List Cond := u_ws RX3 TX3 3
theorem nmX3 : ∀ a, a < 3 → ∀ b, b < 3 → a ≠ b → (TX3 a).2.1 ≠ (TX3 b).2.1 := by decide +kernel
theorem tyX3_ok : ∀ k, k < 3 → parseFieldDescriptor (TX3 k).2.2.1 = some (tyX3 k) := by decide +kernel
abbrev cX3_init : ByteArray := prog_5_method_1_code
def yX3_init : MethodName := ⟨RX3, "<init>", "()V"⟩
abbrev cX3_keep : ByteArray := prog_5_method_2_code
def yX3_keep : MethodName := ⟨RX3, "keep", "(LOptionBlockPlanner$Plan;)V"⟩
abbrev cX3_bringBack : ByteArray := prog_5_method_3_code
def yX3_bringBack : MethodName := ⟨RX3, "bringBack", "(LOptionBlockPlanner$Plan;)V"⟩
abbrev cX3_forget : ByteArray := prog_5_method_4_code
def yX3_forget : MethodName := ⟨RX3, "forget", "()V"⟩
abbrev cX3_planIn : ByteArray := prog_5_method_5_code
def yX3_planIn : MethodName := ⟨RX3, "planIn", "(I)LOptionBlockPlanner$Plan;"⟩
def RX4 : String := "OptionBlockPlanner$Placements"
def TX4 : u_T := fun k => match k with
  | 0 => ("OptionBlockPlanner$Placements", "plan", "LOptionBlockPlanner$Plan;", true)
  | 1 => ("OptionBlockPlanner$Placements", "usable", "[I", true)
  | 2 => ("OptionBlockPlanner$Placements", "tried", "[I", true)
  | 3 => ("OptionBlockPlanner$Placements", "best", "[I", true)
  | 4 => ("OptionBlockPlanner$Placements", "fullScore", "I", false)
  | _ => ("OptionBlockPlanner$Placements", "bestScore", "I", false)
def tyX4 : Nat → FieldType := fun k => match k with
  | 0 => .object "OptionBlockPlanner$Plan"
  | 1 => .array .int
  | 2 => .array .int
  | 3 => .array .int
  | 4 => .int
  | _ => .int
abbrev wsX40 : List Cond := u_ws RX4 TX4 6
theorem nmX4 : ∀ a, a < 6 → ∀ b, b < 6 → a ≠ b → (TX4 a).2.1 ≠ (TX4 b).2.1 := by decide +kernel
theorem tyX4_ok : ∀ k, k < 6 → parseFieldDescriptor (TX4 k).2.2.1 = some (tyX4 k) := by decide +kernel
abbrev cX4_init : ByteArray := prog_6_method_1_code
def yX4_init : MethodName := ⟨RX4, "<init>", "(LOptionBlockPlanner$Plan;)V"⟩
abbrev cX4_valueBySearch : ByteArray := prog_6_method_2_code
def yX4_valueBySearch : MethodName := ⟨RX4, "valueBySearch", "(I)I"⟩
abbrev cX4_giveBest : ByteArray := prog_6_method_3_code
def yX4_giveBest : MethodName := ⟨RX4, "giveBest", "(I)I"⟩
abbrev cX4_valueBySets : ByteArray := prog_6_method_4_code
def yX4_valueBySets : MethodName := ⟨RX4, "valueBySets", "(I)I"⟩
abbrev cX4_servesBySearch : ByteArray := prog_6_method_5_code
def yX4_servesBySearch : MethodName := ⟨RX4, "servesBySearch", "(I)Z"⟩
abbrev cX4_servesByCounting : ByteArray := prog_6_method_6_code
def yX4_servesByCounting : MethodName := ⟨RX4, "servesByCounting", "(I)Z"⟩
abbrev cX4_collectRoomy : ByteArray := prog_6_method_7_code
def yX4_collectRoomy : MethodName := ⟨RX4, "collectRoomy", "(I)V"⟩
abbrev cX4_collectOpen : ByteArray := prog_6_method_8_code
def yX4_collectOpen : MethodName := ⟨RX4, "collectOpen", "(I)V"⟩
abbrev cX4_findBest : ByteArray := prog_6_method_9_code
def yX4_findBest : MethodName := ⟨RX4, "findBest", "()I"⟩
abbrev cX4_scoreOf : ByteArray := prog_6_method_10_code
def yX4_scoreOf : MethodName := ⟨RX4, "scoreOf", "(I)I"⟩
abbrev cX4_extend : ByteArray := prog_6_method_11_code
def yX4_extend : MethodName := ⟨RX4, "extend", "(LOptionBlockPlanner$Placements;III)V"⟩
abbrev cX4_keepIfBetter : ByteArray := prog_6_method_12_code
def yX4_keepIfBetter : MethodName := ⟨RX4, "keepIfBetter", "(I)V"⟩
abbrev cX4_setsUsedFor : ByteArray := prog_6_method_13_code
def yX4_setsUsedFor : MethodName := ⟨RX4, "setsUsedFor", "(I)I"⟩
abbrev cX4_setsWithOneOf : ByteArray := prog_6_method_14_code
def yX4_setsWithOneOf : MethodName := ⟨RX4, "setsWithOneOf", "(II)I"⟩
abbrev cX4_serve : ByteArray := prog_6_method_15_code
def yX4_serve : MethodName := ⟨RX4, "serve", "([IIII)Z"⟩
def RX5 : String := "OptionBlockPlanner$Plan"
def TX5 : u_T := fun k => match k with
  | 0 => ("OptionBlockPlanner$Plan", "subjects", "I", false)
  | 1 => ("OptionBlockPlanner$Plan", "blocks", "I", false)
  | 2 => ("OptionBlockPlanner$Plan", "pupils", "I", false)
  | 3 => ("OptionBlockPlanner$Plan", "sizes", "[I", true)
  | 4 => ("OptionBlockPlanner$Plan", "openSets", "[I", true)
  | 5 => ("OptionBlockPlanner$Plan", "rosters", "[I", true)
  | 6 => ("OptionBlockPlanner$Plan", "wishCounts", "[I", true)
  | 7 => ("OptionBlockPlanner$Plan", "wishes", "[I", true)
  | 8 => ("OptionBlockPlanner$Plan", "reserves", "[I", true)
  | 9 => ("OptionBlockPlanner$Plan", "chainLength", "I", false)
  | 10 => ("OptionBlockPlanner$Plan", "chainPupils", "[I", true)
  | _ => ("OptionBlockPlanner$Plan", "chainBlocks", "[I", true)
def tyX5 : Nat → FieldType := fun k => match k with
  | 0 => .int
  | 1 => .int
  | 2 => .int
  | 3 => .array .int
  | 4 => .array .int
  | 5 => .array .int
  | 6 => .array .int
  | 7 => .array .int
  | 8 => .array .int
  | 9 => .int
  | 10 => .array .int
  | _ => .array .int
abbrev wsX50 : List Cond := u_ws RX5 TX5 12
theorem nmX5 : ∀ a, a < 12 → ∀ b, b < 12 → a ≠ b → (TX5 a).2.1 ≠ (TX5 b).2.1 := by decide +kernel
theorem tyX5_ok : ∀ k, k < 12 → parseFieldDescriptor (TX5 k).2.2.1 = some (tyX5 k) := by decide +kernel
abbrev cX5_init : ByteArray := prog_7_method_1_code
def yX5_init : MethodName := ⟨RX5, "<init>", "()V"⟩
abbrev cX5_copyFrom : ByteArray := prog_7_method_2_code
def yX5_copyFrom : MethodName := ⟨RX5, "copyFrom", "(LOptionBlockPlanner$Plan;)V"⟩
abbrev cX5_hasSubject : ByteArray := prog_7_method_3_code
def yX5_hasSubject : MethodName := ⟨RX5, "hasSubject", "(I)Z"⟩
abbrev cX5_hasBlock : ByteArray := prog_7_method_4_code
def yX5_hasBlock : MethodName := ⟨RX5, "hasBlock", "(I)Z"⟩
abbrev cX5_hasClass : ByteArray := prog_7_method_5_code
def yX5_hasClass : MethodName := ⟨RX5, "hasClass", "(II)Z"⟩
abbrev cX5_openBlocks : ByteArray := prog_7_method_6_code
def yX5_openBlocks : MethodName := ⟨RX5, "openBlocks", "(I)I"⟩
abbrev cX5_openClasses : ByteArray := prog_7_method_7_code
def yX5_openClasses : MethodName := ⟨RX5, "openClasses", "()I"⟩
abbrev cX5_roster : ByteArray := prog_7_method_8_code
def yX5_roster : MethodName := ⟨RX5, "roster", "(II)I"⟩
abbrev cX5_largestClass : ByteArray := prog_7_method_9_code
def yX5_largestClass : MethodName := ⟨RX5, "largestClass", "(I)I"⟩
abbrev cX5_roomyBlocks : ByteArray := prog_7_method_10_code
def yX5_roomyBlocks : MethodName := ⟨RX5, "roomyBlocks", "(II)I"⟩
abbrev cX5_clash : ByteArray := prog_7_method_11_code
def yX5_clash : MethodName := ⟨RX5, "clash", "(II)Z"⟩
abbrev cX5_newSubject : ByteArray := prog_7_method_12_code
def yX5_newSubject : MethodName := ⟨RX5, "newSubject", "(I)I"⟩
abbrev cX5_resize : ByteArray := prog_7_method_13_code
def yX5_resize : MethodName := ⟨RX5, "resize", "(II)I"⟩
abbrev cX5_setBlocks : ByteArray := prog_7_method_14_code
def yX5_setBlocks : MethodName := ⟨RX5, "setBlocks", "(I)I"⟩
abbrev cX5_setOpenBlocks : ByteArray := prog_7_method_15_code
def yX5_setOpenBlocks : MethodName := ⟨RX5, "setOpenBlocks", "(II)I"⟩
abbrev cX5_hasPupil : ByteArray := prog_7_method_16_code
def yX5_hasPupil : MethodName := ⟨RX5, "hasPupil", "(I)Z"⟩
abbrev cX5_wish : ByteArray := prog_7_method_17_code
def yX5_wish : MethodName := ⟨RX5, "wish", "(II)I"⟩
abbrev cX5_wishSet : ByteArray := prog_7_method_18_code
def yX5_wishSet : MethodName := ⟨RX5, "wishSet", "(I)I"⟩
abbrev cX5_wishersOfBoth : ByteArray := prog_7_method_19_code
def yX5_wishersOfBoth : MethodName := ⟨RX5, "wishersOfBoth", "(II)I"⟩
abbrev cX5_newPupil : ByteArray := prog_7_method_20_code
def yX5_newPupil : MethodName := ⟨RX5, "newPupil", "()I"⟩
abbrev cX5_newWish : ByteArray := prog_7_method_21_code
def yX5_newWish : MethodName := ⟨RX5, "newWish", "(II)I"⟩
abbrev cX5_newReserve : ByteArray := prog_7_method_22_code
def yX5_newReserve : MethodName := ⟨RX5, "newReserve", "(II)I"⟩
abbrev cX5_enter : ByteArray := prog_7_method_23_code
def yX5_enter : MethodName := ⟨RX5, "enter", "(III)V"⟩
abbrev cX5_leave : ByteArray := prog_7_method_24_code
def yX5_leave : MethodName := ⟨RX5, "leave", "(III)V"⟩
abbrev cX5_lesson : ByteArray := prog_7_method_25_code
def yX5_lesson : MethodName := ⟨RX5, "lesson", "(II)I"⟩
abbrev cX5_blockTaken : ByteArray := prog_7_method_26_code
def yX5_blockTaken : MethodName := ⟨RX5, "blockTaken", "(II)I"⟩
abbrev cX5_busyPupils : ByteArray := prog_7_method_27_code
def yX5_busyPupils : MethodName := ⟨RX5, "busyPupils", "(I)I"⟩
abbrev cX5_freeBlocks : ByteArray := prog_7_method_28_code
def yX5_freeBlocks : MethodName := ⟨RX5, "freeBlocks", "(I)I"⟩
abbrev cX5_lessonsOf : ByteArray := prog_7_method_29_code
def yX5_lessonsOf : MethodName := ⟨RX5, "lessonsOf", "(I)I"⟩
abbrev cX5_lessonsOfAll : ByteArray := prog_7_method_30_code
def yX5_lessonsOfAll : MethodName := ⟨RX5, "lessonsOfAll", "()I"⟩
abbrev cX5_attendsWishes : ByteArray := prog_7_method_31_code
def yX5_attendsWishes : MethodName := ⟨RX5, "attendsWishes", "(I)Z"⟩
abbrev cX5_dropLesson : ByteArray := prog_7_method_32_code
def yX5_dropLesson : MethodName := ⟨RX5, "dropLesson", "(II)I"⟩
abbrev cX5_dropLessons : ByteArray := prog_7_method_33_code
def yX5_dropLessons : MethodName := ⟨RX5, "dropLessons", "(I)I"⟩
abbrev cX5_noteMove : ByteArray := prog_7_method_34_code
def yX5_noteMove : MethodName := ⟨RX5, "noteMove", "(III)V"⟩
abbrev cX5_makeMoves : ByteArray := prog_7_method_35_code
def yX5_makeMoves : MethodName := ⟨RX5, "makeMoves", "(III)V"⟩
def RX6 : String := "OptionBlockPlanner$Program"
def TX6 : u_T := fun k => match k with
  | 0 => ("OptionBlockPlanner$Program", "text", "Ljava/lang/StringBuilder;", true)
  | 1 => ("OptionBlockPlanner$Program", "modifications", "[I", true)
  | 2 => ("OptionBlockPlanner$Program", "numbers", "[I", true)
  | 3 => ("OptionBlockPlanner$Program", "count", "I", false)
  | _ => ("OptionBlockPlanner$Program", "at", "I", false)
def tyX6 : Nat → FieldType := fun k => match k with
  | 0 => .object "java/lang/StringBuilder"
  | 1 => .array .int
  | 2 => .array .int
  | 3 => .int
  | _ => .int
abbrev wsX60 : List Cond := u_ws RX6 TX6 5
theorem nmX6 : ∀ a, a < 5 → ∀ b, b < 5 → a ≠ b → (TX6 a).2.1 ≠ (TX6 b).2.1 := by decide +kernel
theorem tyX6_ok : ∀ k, k < 5 → parseFieldDescriptor (TX6 k).2.2.1 = some (tyX6 k) := by decide +kernel
abbrev cX6_init : ByteArray := prog_8_method_1_code
def yX6_init : MethodName := ⟨RX6, "<init>", "()V"⟩
abbrev cX6_modification : ByteArray := prog_8_method_2_code
def yX6_modification : MethodName := ⟨RX6, "modification", "(I)I"⟩
abbrev cX6_number : ByteArray := prog_8_method_3_code
def yX6_number : MethodName := ⟨RX6, "number", "(II)I"⟩
abbrev cX6_parse : ByteArray := prog_8_method_4_code
def yX6_parse : MethodName := ⟨RX6, "parse", "()I"⟩
abbrev cX6_readCommand : ByteArray := prog_8_method_5_code
def yX6_readCommand : MethodName := ⟨RX6, "readCommand", "(I)Z"⟩
abbrev cX6_matches : ByteArray := prog_8_method_6_code
def yX6_matches : MethodName := ⟨RX6, "matches", "(Ljava/lang/String;I)Z"⟩
abbrev cX6_readNumber : ByteArray := prog_8_method_7_code
def yX6_readNumber : MethodName := ⟨RX6, "readNumber", "(IZ)Z"⟩
abbrev cX6_digitHere : ByteArray := prog_8_method_8_code
def yX6_digitHere : MethodName := ⟨RX6, "digitHere", "()I"⟩
abbrev cX6_skip : ByteArray := prog_8_method_9_code
def yX6_skip : MethodName := ⟨RX6, "skip", "(C)Z"⟩
abbrev cX6_formOf : ByteArray := prog_8_method_10_code
def yX6_formOf : MethodName := ⟨RX6, "formOf", "(I)Ljava/lang/String;"⟩
def RX7 : String := "OptionBlockPlanner"
def TX7 : u_T := fun k => match k with
  | 0 => ("OptionBlockPlanner", "plan", "LOptionBlockPlanner$Plan;", true)
  | 1 => ("OptionBlockPlanner", "placements", "LOptionBlockPlanner$Placements;", true)
  | 2 => ("OptionBlockPlanner", "chains", "LOptionBlockPlanner$Chains;", true)
  | 3 => ("OptionBlockPlanner", "arrangements", "LOptionBlockPlanner$Arrangements;", true)
  | 4 => ("OptionBlockPlanner", "changes", "LOptionBlockPlanner$Changes;", true)
  | 5 => ("OptionBlockPlanner", "history", "LOptionBlockPlanner$History;", true)
  | 6 => ("OptionBlockPlanner", "snapshot", "LOptionBlockPlanner$Plan;", true)
  | 7 => ("OptionBlockPlanner", "beforeProgram", "LOptionBlockPlanner$Plan;", true)
  | 8 => ("OptionBlockPlanner", "program", "LOptionBlockPlanner$Program;", true)
  | 9 => ("OptionBlockPlanner", "line", "Ljava/lang/StringBuilder;", true)
  | 10 => ("OptionBlockPlanner", "saved", "Z", false)
  | 11 => ("OptionBlockPlanner", "errorAt", "I", false)
  | 12 => ("OptionBlockPlanner", "failedAt", "I", false)
  | _ => ("OptionBlockPlanner", "failure", "I", false)
def tyX7 : Nat → FieldType := fun k => match k with
  | 0 => .object "OptionBlockPlanner$Plan"
  | 1 => .object "OptionBlockPlanner$Placements"
  | 2 => .object "OptionBlockPlanner$Chains"
  | 3 => .object "OptionBlockPlanner$Arrangements"
  | 4 => .object "OptionBlockPlanner$Changes"
  | 5 => .object "OptionBlockPlanner$History"
  | 6 => .object "OptionBlockPlanner$Plan"
  | 7 => .object "OptionBlockPlanner$Plan"
  | 8 => .object "OptionBlockPlanner$Program"
  | 9 => .object "java/lang/StringBuilder"
  | 10 => .boolean
  | 11 => .int
  | 12 => .int
  | _ => .int
abbrev wsX70 : List Cond := u_ws RX7 TX7 14
theorem nmX7 : ∀ a, a < 14 → ∀ b, b < 14 → a ≠ b → (TX7 a).2.1 ≠ (TX7 b).2.1 := by decide +kernel
theorem tyX7_ok : ∀ k, k < 14 → parseFieldDescriptor (TX7 k).2.2.1 = some (tyX7 k) := by decide +kernel
abbrev cX7_init : ByteArray := prog_1_method_1_code
def yX7_init : MethodName := ⟨RX7, "<init>", "()V"⟩
abbrev cX7_addSubject : ByteArray := prog_1_method_2_code
def yX7_addSubject : MethodName := ⟨RX7, "addSubject", "(I)I"⟩
abbrev cX7_setSize : ByteArray := prog_1_method_3_code
def yX7_setSize : MethodName := ⟨RX7, "setSize", "(II)I"⟩
abbrev cX7_subjectCount : ByteArray := prog_1_method_4_code
def yX7_subjectCount : MethodName := ⟨RX7, "subjectCount", "()I"⟩
abbrev cX7_sizeOf : ByteArray := prog_1_method_5_code
def yX7_sizeOf : MethodName := ⟨RX7, "sizeOf", "(I)I"⟩
abbrev cX7_setBlockCount : ByteArray := prog_1_method_6_code
def yX7_setBlockCount : MethodName := ⟨RX7, "setBlockCount", "(I)I"⟩
abbrev cX7_blockCount : ByteArray := prog_1_method_7_code
def yX7_blockCount : MethodName := ⟨RX7, "blockCount", "()I"⟩
abbrev cX7_openClass : ByteArray := prog_1_method_8_code
def yX7_openClass : MethodName := ⟨RX7, "openClass", "(II)I"⟩
abbrev cX7_closeClass : ByteArray := prog_1_method_9_code
def yX7_closeClass : MethodName := ⟨RX7, "closeClass", "(II)I"⟩
abbrev cX7_isOpen : ByteArray := prog_1_method_10_code
def yX7_isOpen : MethodName := ⟨RX7, "isOpen", "(II)Z"⟩
abbrev cX7_pupilsInClass : ByteArray := prog_1_method_11_code
def yX7_pupilsInClass : MethodName := ⟨RX7, "pupilsInClass", "(II)I"⟩
abbrev cX7_pupilInClass : ByteArray := prog_1_method_12_code
def yX7_pupilInClass : MethodName := ⟨RX7, "pupilInClass", "(III)I"⟩
abbrev cX7_addPupil : ByteArray := prog_1_method_13_code
def yX7_addPupil : MethodName := ⟨RX7, "addPupil", "()I"⟩
abbrev cX7_pupilCount : ByteArray := prog_1_method_14_code
def yX7_pupilCount : MethodName := ⟨RX7, "pupilCount", "()I"⟩
abbrev cX7_addWish : ByteArray := prog_1_method_15_code
def yX7_addWish : MethodName := ⟨RX7, "addWish", "(II)I"⟩
abbrev cX7_setReserve : ByteArray := prog_1_method_16_code
def yX7_setReserve : MethodName := ⟨RX7, "setReserve", "(II)I"⟩
abbrev cX7_wishCount : ByteArray := prog_1_method_17_code
def yX7_wishCount : MethodName := ⟨RX7, "wishCount", "(I)I"⟩
abbrev cX7_wishAt : ByteArray := prog_1_method_18_code
def yX7_wishAt : MethodName := ⟨RX7, "wishAt", "(II)I"⟩
abbrev cX7_reserveOf : ByteArray := prog_1_method_19_code
def yX7_reserveOf : MethodName := ⟨RX7, "reserveOf", "(I)I"⟩
abbrev cX7_subjectIn : ByteArray := prog_1_method_20_code
def yX7_subjectIn : MethodName := ⟨RX7, "subjectIn", "(II)I"⟩
abbrev cX7_blockOf : ByteArray := prog_1_method_21_code
def yX7_blockOf : MethodName := ⟨RX7, "blockOf", "(II)I"⟩
abbrev cX7_enrol : ByteArray := prog_1_method_22_code
def yX7_enrol : MethodName := ⟨RX7, "enrol", "(I)I"⟩
abbrev cX7_enrolAll : ByteArray := prog_1_method_23_code
def yX7_enrolAll : MethodName := ⟨RX7, "enrolAll", "()I"⟩
abbrev cX7_withdraw : ByteArray := prog_1_method_24_code
def yX7_withdraw : MethodName := ⟨RX7, "withdraw", "(I)I"⟩
abbrev cX7_bestValue : ByteArray := prog_1_method_25_code
def yX7_bestValue : MethodName := ⟨RX7, "bestValue", "(I)I"⟩
abbrev cX7_bestValueBySets : ByteArray := prog_1_method_26_code
def yX7_bestValueBySets : MethodName := ⟨RX7, "bestValueBySets", "(I)I"⟩
abbrev cX7_canServe : ByteArray := prog_1_method_27_code
def yX7_canServe : MethodName := ⟨RX7, "canServe", "(I)Z"⟩
abbrev cX7_canServeByCounting : ByteArray := prog_1_method_28_code
def yX7_canServeByCounting : MethodName := ⟨RX7, "canServeByCounting", "(I)Z"⟩
abbrev cX7_servedCount : ByteArray := prog_1_method_29_code
def yX7_servedCount : MethodName := ⟨RX7, "servedCount", "()I"⟩
abbrev cX7_meanClassSize : ByteArray := prog_1_method_30_code
def yX7_meanClassSize : MethodName := ⟨RX7, "meanClassSize", "()D"⟩
abbrev cX7_movesFor : ByteArray := prog_1_method_31_code
def yX7_movesFor : MethodName := ⟨RX7, "movesFor", "(II)I"⟩
abbrev cX7_movesByTrial : ByteArray := prog_1_method_32_code
def yX7_movesByTrial : MethodName := ⟨RX7, "movesByTrial", "(II)I"⟩
abbrev cX7_join : ByteArray := prog_1_method_33_code
def yX7_join : MethodName := ⟨RX7, "join", "(II)I"⟩
abbrev cX7_quit : ByteArray := prog_1_method_34_code
def yX7_quit : MethodName := ⟨RX7, "quit", "(II)I"⟩
abbrev cX7_change : ByteArray := prog_1_method_35_code
def yX7_change : MethodName := ⟨RX7, "change", "(III)I"⟩
abbrev cX7_refusalReason : ByteArray := prog_1_method_36_code
def yX7_refusalReason : MethodName := ⟨RX7, "refusalReason", "()I"⟩
abbrev cX7_chainMoves : ByteArray := prog_1_method_37_code
def yX7_chainMoves : MethodName := ⟨RX7, "chainMoves", "()I"⟩
abbrev cX7_chainPupil : ByteArray := prog_1_method_38_code
def yX7_chainPupil : MethodName := ⟨RX7, "chainPupil", "(I)I"⟩
abbrev cX7_chainBlock : ByteArray := prog_1_method_39_code
def yX7_chainBlock : MethodName := ⟨RX7, "chainBlock", "(I)I"⟩
abbrev cX7_commonWishes : ByteArray := prog_1_method_40_code
def yX7_commonWishes : MethodName := ⟨RX7, "commonWishes", "(II)I"⟩
abbrev cX7_doClash : ByteArray := prog_1_method_41_code
def yX7_doClash : MethodName := ⟨RX7, "doClash", "(II)Z"⟩
abbrev cX7_clashCount : ByteArray := prog_1_method_42_code
def yX7_clashCount : MethodName := ⟨RX7, "clashCount", "()I"⟩
abbrev cX7_leastClashes : ByteArray := prog_1_method_43_code
def yX7_leastClashes : MethodName := ⟨RX7, "leastClashes", "()I"⟩
abbrev cX7_leastClashesByTrial : ByteArray := prog_1_method_44_code
def yX7_leastClashesByTrial : MethodName := ⟨RX7, "leastClashesByTrial", "()I"⟩
abbrev cX7_arrange : ByteArray := prog_1_method_45_code
def yX7_arrange : MethodName := ⟨RX7, "arrange", "()I"⟩
abbrev cX7_writeTimetable : ByteArray := prog_1_method_46_code
def yX7_writeTimetable : MethodName := ⟨RX7, "writeTimetable", "(I)I"⟩
abbrev cX7_lineAt : ByteArray := prog_1_method_47_code
def yX7_lineAt : MethodName := ⟨RX7, "lineAt", "(I)C"⟩
abbrev cX7_type : ByteArray := prog_1_method_48_code
def yX7_type : MethodName := ⟨RX7, "type", "(C)I"⟩
abbrev cX7_execute : ByteArray := prog_1_method_49_code
def yX7_execute : MethodName := ⟨RX7, "execute", "()I"⟩
abbrev cX7_errorPosition : ByteArray := prog_1_method_50_code
def yX7_errorPosition : MethodName := ⟨RX7, "errorPosition", "()I"⟩
abbrev cX7_failedCommand : ByteArray := prog_1_method_51_code
def yX7_failedCommand : MethodName := ⟨RX7, "failedCommand", "()I"⟩
abbrev cX7_failureKind : ByteArray := prog_1_method_52_code
def yX7_failureKind : MethodName := ⟨RX7, "failureKind", "()I"⟩
abbrev cX7_undo : ByteArray := prog_1_method_53_code
def yX7_undo : MethodName := ⟨RX7, "undo", "()I"⟩
abbrev cX7_save : ByteArray := prog_1_method_54_code
def yX7_save : MethodName := ⟨RX7, "save", "()I"⟩
abbrev cX7_restore : ByteArray := prog_1_method_55_code
def yX7_restore : MethodName := ⟨RX7, "restore", "()I"⟩
abbrev cX7_make : ByteArray := prog_1_method_56_code
def yX7_make : MethodName := ⟨RX7, "make", "(IIII)I"⟩
abbrev cX7_writeLesson : ByteArray := prog_1_method_57_code
def yX7_writeLesson : MethodName := ⟨RX7, "writeLesson", "(II)V"⟩
abbrev cX7_needPair : ByteArray := prog_1_method_58_code
def yX7_needPair : MethodName := ⟨RX7, "needPair", "(II)V"⟩
abbrev cX7_needIndex : ByteArray := prog_1_method_59_code
def yX7_needIndex : MethodName := ⟨RX7, "needIndex", "(Z)V"⟩
abbrev cX7_needElement : ByteArray := prog_1_method_60_code
def yX7_needElement : MethodName := ⟨RX7, "needElement", "(Z)V"⟩
abbrev cX7_throwFault : ByteArray := prog_1_method_61_code
def yX7_throwFault : MethodName := ⟨RX7, "throwFault", "(I)V"⟩
abbrev cX7_read : ByteArray := prog_1_method_62_code
def yX7_read : MethodName := ⟨RX7, "read", "([II)I"⟩
abbrev cX7_write : ByteArray := prog_1_method_63_code
def yX7_write : MethodName := ⟨RX7, "write", "([III)V"⟩
abbrev cX7_copyRow : ByteArray := prog_1_method_64_code
def yX7_copyRow : MethodName := ⟨RX7, "copyRow", "([I[I)V"⟩
abbrev cX7_holds : ByteArray := prog_1_method_65_code
def yX7_holds : MethodName := ⟨RX7, "holds", "(II)Z"⟩
abbrev cX7_memberAt : ByteArray := prog_1_method_66_code
def yX7_memberAt : MethodName := ⟨RX7, "memberAt", "(II)I"⟩
def RX8 : String := "OptionBlockPlannerModel"
def TX8 : u_T := fun k => match k with
  | 0 => ("OptionBlockPlannerModel", "row", "[I", true)
  | 1 => ("OptionBlockPlannerModel", "ahead", "[I", true)
  | 2 => ("OptionBlockPlannerModel", "saved", "[I", true)
  | 3 => ("OptionBlockPlannerModel", "program", "[I", true)
  | 4 => ("OptionBlockPlannerModel", "undone", "[I", true)
  | 5 => ("OptionBlockPlannerModel", "undos", "I", false)
  | 6 => ("OptionBlockPlannerModel", "isSaved", "Z", false)
  | 7 => ("OptionBlockPlannerModel", "thrown", "I", false)
  | 8 => ("OptionBlockPlannerModel", "kind", "I", false)
  | 9 => ("OptionBlockPlannerModel", "reason", "I", false)
  | 10 => ("OptionBlockPlannerModel", "position", "I", false)
  | 11 => ("OptionBlockPlannerModel", "command", "I", false)
  | 12 => ("OptionBlockPlannerModel", "failure", "I", false)
  | 13 => ("OptionBlockPlannerModel", "line", "[C", true)
  | 14 => ("OptionBlockPlannerModel", "buffer", "[C", true)
  | 15 => ("OptionBlockPlannerModel", "lineLong", "I", false)
  | 16 => ("OptionBlockPlannerModel", "typed", "I", false)
  | 17 => ("OptionBlockPlannerModel", "at", "[I", true)
  | 18 => ("OptionBlockPlannerModel", "best", "[I", true)
  | 19 => ("OptionBlockPlannerModel", "bestWorth", "I", false)
  | 20 => ("OptionBlockPlannerModel", "stop", "[I", true)
  | 21 => ("OptionBlockPlannerModel", "shared", "[I", true)
  | 22 => ("OptionBlockPlannerModel", "block", "[I", true)
  | 23 => ("OptionBlockPlannerModel", "arranged", "[I", true)
  | 24 => ("OptionBlockPlannerModel", "forms", "[Ljava/lang/String;", true)
  | 25 => ("OptionBlockPlannerModel", "act", "[I", true)
  | 26 => ("OptionBlockPlannerModel", "number", "[I", true)
  | 27 => ("OptionBlockPlannerModel", "read", "[I", true)
  | 28 => ("OptionBlockPlannerModel", "textLong", "I", false)
  | 29 => ("OptionBlockPlannerModel", "acts", "I", false)
  | _ => ("OptionBlockPlannerModel", "stopped", "I", false)
def tyX8 : Nat → FieldType := fun k => match k with
  | 0 => .array .int
  | 1 => .array .int
  | 2 => .array .int
  | 3 => .array .int
  | 4 => .array .int
  | 5 => .int
  | 6 => .boolean
  | 7 => .int
  | 8 => .int
  | 9 => .int
  | 10 => .int
  | 11 => .int
  | 12 => .int
  | 13 => .array .char
  | 14 => .array .char
  | 15 => .int
  | 16 => .int
  | 17 => .array .int
  | 18 => .array .int
  | 19 => .int
  | 20 => .array .int
  | 21 => .array .int
  | 22 => .array .int
  | 23 => .array .int
  | 24 => .array (.object "java/lang/String")
  | 25 => .array .int
  | 26 => .array .int
  | 27 => .array .int
  | 28 => .int
  | 29 => .int
  | _ => .int
abbrev wsX80 : List Cond := u_ws RX8 TX8 31
theorem nmX8 : ∀ a, a < 31 → ∀ b, b < 31 → a ≠ b → (TX8 a).2.1 ≠ (TX8 b).2.1 := by decide +kernel
theorem tyX8_ok : ∀ k, k < 31 → parseFieldDescriptor (TX8 k).2.2.1 = some (tyX8 k) := by decide +kernel
abbrev cX8_init : ByteArray := prog_10_method_1_code
def yX8_init : MethodName := ⟨RX8, "<init>", "()V"⟩
abbrev cX8_thrown : ByteArray := prog_10_method_2_code
def yX8_thrown : MethodName := ⟨RX8, "thrown", "()I"⟩
abbrev cX8_in : ByteArray := prog_10_method_3_code
def yX8_in : MethodName := ⟨RX8, "in", "(III)Z"⟩
abbrev cX8_copies : ByteArray := prog_10_method_4_code
def yX8_copies : MethodName := ⟨RX8, "copies", "([I[I)V"⟩
abbrev cX8_fails : ByteArray := prog_10_method_5_code
def yX8_fails : MethodName := ⟨RX8, "fails", "(I)I"⟩
abbrev cX8_tells : ByteArray := prog_10_method_6_code
def yX8_tells : MethodName := ⟨RX8, "tells", "(I)I"⟩
abbrev cX8_begins : ByteArray := prog_10_method_7_code
def yX8_begins : MethodName := ⟨RX8, "begins", "()V"⟩
abbrev cX8_bad : ByteArray := prog_10_method_8_code
def yX8_bad : MethodName := ⟨RX8, "bad", "(I)I"⟩
abbrev cX8_ends : ByteArray := prog_10_method_9_code
def yX8_ends : MethodName := ⟨RX8, "ends", "(III)I"⟩
abbrev cX8_undo : ByteArray := prog_10_method_10_code
def yX8_undo : MethodName := ⟨RX8, "undo", "()I"⟩
abbrev cX8_save : ByteArray := prog_10_method_11_code
def yX8_save : MethodName := ⟨RX8, "save", "()I"⟩
abbrev cX8_restore : ByteArray := prog_10_method_12_code
def yX8_restore : MethodName := ⟨RX8, "restore", "()I"⟩
abbrev cX8_isSubject : ByteArray := prog_10_method_13_code
def yX8_isSubject : MethodName := ⟨RX8, "isSubject", "(I)Z"⟩
abbrev cX8_isBlock : ByteArray := prog_10_method_14_code
def yX8_isBlock : MethodName := ⟨RX8, "isBlock", "(I)Z"⟩
abbrev cX8_isPupil : ByteArray := prog_10_method_15_code
def yX8_isPupil : MethodName := ⟨RX8, "isPupil", "(I)Z"⟩
abbrev cX8_hasOpen : ByteArray := prog_10_method_16_code
def yX8_hasOpen : MethodName := ⟨RX8, "hasOpen", "(II)Z"⟩
abbrev cX8_subjectOf : ByteArray := prog_10_method_17_code
def yX8_subjectOf : MethodName := ⟨RX8, "subjectOf", "(II)I"⟩
abbrev cX8_blockOfSubject : ByteArray := prog_10_method_18_code
def yX8_blockOfSubject : MethodName := ⟨RX8, "blockOfSubject", "(II)I"⟩
abbrev cX8_inClass : ByteArray := prog_10_method_19_code
def yX8_inClass : MethodName := ⟨RX8, "inClass", "(II)I"⟩
abbrev cX8_openOf : ByteArray := prog_10_method_20_code
def yX8_openOf : MethodName := ⟨RX8, "openOf", "(I)I"⟩
abbrev cX8_classesOf : ByteArray := prog_10_method_21_code
def yX8_classesOf : MethodName := ⟨RX8, "classesOf", "(I)I"⟩
abbrev cX8_wish : ByteArray := prog_10_method_22_code
def yX8_wish : MethodName := ⟨RX8, "wish", "(II)I"⟩
abbrev cX8_isWish : ByteArray := prog_10_method_23_code
def yX8_isWish : MethodName := ⟨RX8, "isWish", "(II)Z"⟩
abbrev cX8_addSubjectNow : ByteArray := prog_10_method_24_code
def yX8_addSubjectNow : MethodName := ⟨RX8, "addSubjectNow", "(I)I"⟩
abbrev cX8_addSubject : ByteArray := prog_10_method_25_code
def yX8_addSubject : MethodName := ⟨RX8, "addSubject", "(I)I"⟩
abbrev cX8_setSizeNow : ByteArray := prog_10_method_26_code
def yX8_setSizeNow : MethodName := ⟨RX8, "setSizeNow", "(II)I"⟩
abbrev cX8_setSize : ByteArray := prog_10_method_27_code
def yX8_setSize : MethodName := ⟨RX8, "setSize", "(II)I"⟩
abbrev cX8_subjectCount : ByteArray := prog_10_method_28_code
def yX8_subjectCount : MethodName := ⟨RX8, "subjectCount", "()I"⟩
abbrev cX8_sizeOf : ByteArray := prog_10_method_29_code
def yX8_sizeOf : MethodName := ⟨RX8, "sizeOf", "(I)I"⟩
abbrev cX8_setBlockCountNow : ByteArray := prog_10_method_30_code
def yX8_setBlockCountNow : MethodName := ⟨RX8, "setBlockCountNow", "(I)I"⟩
abbrev cX8_setBlockCount : ByteArray := prog_10_method_31_code
def yX8_setBlockCount : MethodName := ⟨RX8, "setBlockCount", "(I)I"⟩
abbrev cX8_blockCount : ByteArray := prog_10_method_32_code
def yX8_blockCount : MethodName := ⟨RX8, "blockCount", "()I"⟩
abbrev cX8_openClassNow : ByteArray := prog_10_method_33_code
def yX8_openClassNow : MethodName := ⟨RX8, "openClassNow", "(II)I"⟩
abbrev cX8_openClass : ByteArray := prog_10_method_34_code
def yX8_openClass : MethodName := ⟨RX8, "openClass", "(II)I"⟩
abbrev cX8_closeClassNow : ByteArray := prog_10_method_35_code
def yX8_closeClassNow : MethodName := ⟨RX8, "closeClassNow", "(II)I"⟩
abbrev cX8_closeClass : ByteArray := prog_10_method_36_code
def yX8_closeClass : MethodName := ⟨RX8, "closeClass", "(II)I"⟩
abbrev cX8_isOpen : ByteArray := prog_10_method_37_code
def yX8_isOpen : MethodName := ⟨RX8, "isOpen", "(II)Z"⟩
abbrev cX8_pupilsInClass : ByteArray := prog_10_method_38_code
def yX8_pupilsInClass : MethodName := ⟨RX8, "pupilsInClass", "(II)I"⟩
abbrev cX8_pupilInClass : ByteArray := prog_10_method_39_code
def yX8_pupilInClass : MethodName := ⟨RX8, "pupilInClass", "(III)I"⟩
abbrev cX8_addPupilNow : ByteArray := prog_10_method_40_code
def yX8_addPupilNow : MethodName := ⟨RX8, "addPupilNow", "()I"⟩
abbrev cX8_addPupil : ByteArray := prog_10_method_41_code
def yX8_addPupil : MethodName := ⟨RX8, "addPupil", "()I"⟩
abbrev cX8_pupilCount : ByteArray := prog_10_method_42_code
def yX8_pupilCount : MethodName := ⟨RX8, "pupilCount", "()I"⟩
abbrev cX8_addWishNow : ByteArray := prog_10_method_43_code
def yX8_addWishNow : MethodName := ⟨RX8, "addWishNow", "(II)I"⟩
abbrev cX8_addWish : ByteArray := prog_10_method_44_code
def yX8_addWish : MethodName := ⟨RX8, "addWish", "(II)I"⟩
abbrev cX8_setReserveNow : ByteArray := prog_10_method_45_code
def yX8_setReserveNow : MethodName := ⟨RX8, "setReserveNow", "(II)I"⟩
abbrev cX8_setReserve : ByteArray := prog_10_method_46_code
def yX8_setReserve : MethodName := ⟨RX8, "setReserve", "(II)I"⟩
abbrev cX8_wishCount : ByteArray := prog_10_method_47_code
def yX8_wishCount : MethodName := ⟨RX8, "wishCount", "(I)I"⟩
abbrev cX8_wishAt : ByteArray := prog_10_method_48_code
def yX8_wishAt : MethodName := ⟨RX8, "wishAt", "(II)I"⟩
abbrev cX8_reserveOf : ByteArray := prog_10_method_49_code
def yX8_reserveOf : MethodName := ⟨RX8, "reserveOf", "(I)I"⟩
abbrev cX8_subjectIn : ByteArray := prog_10_method_50_code
def yX8_subjectIn : MethodName := ⟨RX8, "subjectIn", "(II)I"⟩
abbrev cX8_blockOf : ByteArray := prog_10_method_51_code
def yX8_blockOf : MethodName := ⟨RX8, "blockOf", "(II)I"⟩
abbrev cX8_hasRoom : ByteArray := prog_10_method_52_code
def yX8_hasRoom : MethodName := ⟨RX8, "hasRoom", "(III)Z"⟩
abbrev cX8_worth : ByteArray := prog_10_method_53_code
def yX8_worth : MethodName := ⟨RX8, "worth", "(I)I"⟩
abbrev cX8_lacksWish : ByteArray := prog_10_method_54_code
def yX8_lacksWish : MethodName := ⟨RX8, "lacksWish", "(I)Z"⟩
abbrev cX8_findsPlacement : ByteArray := prog_10_method_55_code
def yX8_findsPlacement : MethodName := ⟨RX8, "findsPlacement", "(I)V"⟩
abbrev cX8_enrolNow : ByteArray := prog_10_method_56_code
def yX8_enrolNow : MethodName := ⟨RX8, "enrolNow", "(I)I"⟩
abbrev cX8_enrol : ByteArray := prog_10_method_57_code
def yX8_enrol : MethodName := ⟨RX8, "enrol", "(I)I"⟩
abbrev cX8_isServed : ByteArray := prog_10_method_58_code
def yX8_isServed : MethodName := ⟨RX8, "isServed", "(I)Z"⟩
abbrev cX8_enrolAll : ByteArray := prog_10_method_59_code
def yX8_enrolAll : MethodName := ⟨RX8, "enrolAll", "()I"⟩
abbrev cX8_withdrawNow : ByteArray := prog_10_method_60_code
def yX8_withdrawNow : MethodName := ⟨RX8, "withdrawNow", "(I)I"⟩
abbrev cX8_withdraw : ByteArray := prog_10_method_61_code
def yX8_withdraw : MethodName := ⟨RX8, "withdraw", "(I)I"⟩
abbrev cX8_bestValue : ByteArray := prog_10_method_62_code
def yX8_bestValue : MethodName := ⟨RX8, "bestValue", "(I)I"⟩
abbrev cX8_canPlace : ByteArray := prog_10_method_63_code
def yX8_canPlace : MethodName := ⟨RX8, "canPlace", "(IIZ)Z"⟩
abbrev cX8_more : ByteArray := prog_10_method_64_code
def yX8_more : MethodName := ⟨RX8, "more", "(IIIZ)I"⟩
abbrev cX8_bestValueBySets : ByteArray := prog_10_method_65_code
def yX8_bestValueBySets : MethodName := ⟨RX8, "bestValueBySets", "(I)I"⟩
abbrev cX8_isServable : ByteArray := prog_10_method_66_code
def yX8_isServable : MethodName := ⟨RX8, "isServable", "(I)Z"⟩
abbrev cX8_canServe : ByteArray := prog_10_method_67_code
def yX8_canServe : MethodName := ⟨RX8, "canServe", "(I)Z"⟩
abbrev cX8_canServeByCounting : ByteArray := prog_10_method_68_code
def yX8_canServeByCounting : MethodName := ⟨RX8, "canServeByCounting", "(I)Z"⟩
abbrev cX8_servedCount : ByteArray := prog_10_method_69_code
def yX8_servedCount : MethodName := ⟨RX8, "servedCount", "()I"⟩
abbrev cX8_meanClassSize : ByteArray := prog_10_method_70_code
def yX8_meanClassSize : MethodName := ⟨RX8, "meanClassSize", "()D"⟩
abbrev cX8_mover : ByteArray := prog_10_method_71_code
def yX8_mover : MethodName := ⟨RX8, "mover", "(III)I"⟩
abbrev cX8_isEntry : ByteArray := prog_10_method_72_code
def yX8_isEntry : MethodName := ⟨RX8, "isEntry", "(III)Z"⟩
abbrev cX8_isChain : ByteArray := prog_10_method_73_code
def yX8_isChain : MethodName := ⟨RX8, "isChain", "(III)Z"⟩
abbrev cX8_findsChain : ByteArray := prog_10_method_74_code
def yX8_findsChain : MethodName := ⟨RX8, "findsChain", "(II)I"⟩
abbrev cX8_asksMoves : ByteArray := prog_10_method_75_code
def yX8_asksMoves : MethodName := ⟨RX8, "asksMoves", "(II)I"⟩
abbrev cX8_movesFor : ByteArray := prog_10_method_76_code
def yX8_movesFor : MethodName := ⟨RX8, "movesFor", "(II)I"⟩
abbrev cX8_movesByTrial : ByteArray := prog_10_method_77_code
def yX8_movesByTrial : MethodName := ⟨RX8, "movesByTrial", "(II)I"⟩
abbrev cX8_whyRefused : ByteArray := prog_10_method_78_code
def yX8_whyRefused : MethodName := ⟨RX8, "whyRefused", "(II)I"⟩
abbrev cX8_joinNow : ByteArray := prog_10_method_79_code
def yX8_joinNow : MethodName := ⟨RX8, "joinNow", "(II)I"⟩
abbrev cX8_join : ByteArray := prog_10_method_80_code
def yX8_join : MethodName := ⟨RX8, "join", "(II)I"⟩
abbrev cX8_quitNow : ByteArray := prog_10_method_81_code
def yX8_quitNow : MethodName := ⟨RX8, "quitNow", "(II)I"⟩
abbrev cX8_quit : ByteArray := prog_10_method_82_code
def yX8_quit : MethodName := ⟨RX8, "quit", "(II)I"⟩
abbrev cX8_changeNow : ByteArray := prog_10_method_83_code
def yX8_changeNow : MethodName := ⟨RX8, "changeNow", "(III)I"⟩
abbrev cX8_change : ByteArray := prog_10_method_84_code
def yX8_change : MethodName := ⟨RX8, "change", "(III)I"⟩
abbrev cX8_refusalReason : ByteArray := prog_10_method_85_code
def yX8_refusalReason : MethodName := ⟨RX8, "refusalReason", "()I"⟩
abbrev cX8_chainMoves : ByteArray := prog_10_method_86_code
def yX8_chainMoves : MethodName := ⟨RX8, "chainMoves", "()I"⟩
abbrev cX8_chainPupil : ByteArray := prog_10_method_87_code
def yX8_chainPupil : MethodName := ⟨RX8, "chainPupil", "(I)I"⟩
abbrev cX8_chainBlock : ByteArray := prog_10_method_88_code
def yX8_chainBlock : MethodName := ⟨RX8, "chainBlock", "(I)I"⟩
abbrev cX8_common : ByteArray := prog_10_method_89_code
def yX8_common : MethodName := ⟨RX8, "common", "(II)I"⟩
abbrev cX8_wrongPair : ByteArray := prog_10_method_90_code
def yX8_wrongPair : MethodName := ⟨RX8, "wrongPair", "(II)I"⟩
abbrev cX8_commonWishes : ByteArray := prog_10_method_91_code
def yX8_commonWishes : MethodName := ⟨RX8, "commonWishes", "(II)I"⟩
abbrev cX8_clash : ByteArray := prog_10_method_92_code
def yX8_clash : MethodName := ⟨RX8, "clash", "(II)Z"⟩
abbrev cX8_doClash : ByteArray := prog_10_method_93_code
def yX8_doClash : MethodName := ⟨RX8, "doClash", "(II)Z"⟩
abbrev cX8_clashCount : ByteArray := prog_10_method_94_code
def yX8_clashCount : MethodName := ⟨RX8, "clashCount", "()I"⟩
abbrev cX8_findsArrangement : ByteArray := prog_10_method_95_code
def yX8_findsArrangement : MethodName := ⟨RX8, "findsArrangement", "()I"⟩
abbrev cX8_leastClashes : ByteArray := prog_10_method_96_code
def yX8_leastClashes : MethodName := ⟨RX8, "leastClashes", "()I"⟩
abbrev cX8_leastClashesByTrial : ByteArray := prog_10_method_97_code
def yX8_leastClashesByTrial : MethodName := ⟨RX8, "leastClashesByTrial", "()I"⟩
abbrev cX8_arrangeNow : ByteArray := prog_10_method_98_code
def yX8_arrangeNow : MethodName := ⟨RX8, "arrangeNow", "()I"⟩
abbrev cX8_arrange : ByteArray := prog_10_method_99_code
def yX8_arrange : MethodName := ⟨RX8, "arrange", "()I"⟩
abbrev cX8_writes : ByteArray := prog_10_method_100_code
def yX8_writes : MethodName := ⟨RX8, "writes", "(C)V"⟩
abbrev cX8_writeTimetable : ByteArray := prog_10_method_101_code
def yX8_writeTimetable : MethodName := ⟨RX8, "writeTimetable", "(I)I"⟩
abbrev cX8_lineAt : ByteArray := prog_10_method_102_code
def yX8_lineAt : MethodName := ⟨RX8, "lineAt", "(I)C"⟩
abbrev cX8_type : ByteArray := prog_10_method_103_code
def yX8_type : MethodName := ⟨RX8, "type", "(C)I"⟩
abbrev cX8_isDigit : ByteArray := prog_10_method_104_code
def yX8_isDigit : MethodName := ⟨RX8, "isDigit", "(I)Z"⟩
abbrev cX8_reads : ByteArray := prog_10_method_105_code
def yX8_reads : MethodName := ⟨RX8, "reads", "(Ljava/lang/String;I)Z"⟩
abbrev cX8_parses : ByteArray := prog_10_method_106_code
def yX8_parses : MethodName := ⟨RX8, "parses", "()I"⟩
abbrev cX8_acts : ByteArray := prog_10_method_107_code
def yX8_acts : MethodName := ⟨RX8, "acts", "(IIII)I"⟩
abbrev cX8_execute : ByteArray := prog_10_method_108_code
def yX8_execute : MethodName := ⟨RX8, "execute", "()I"⟩
abbrev cX8_errorPosition : ByteArray := prog_10_method_109_code
def yX8_errorPosition : MethodName := ⟨RX8, "errorPosition", "()I"⟩
abbrev cX8_failedCommand : ByteArray := prog_10_method_110_code
def yX8_failedCommand : MethodName := ⟨RX8, "failedCommand", "()I"⟩
abbrev cX8_failureKind : ByteArray := prog_10_method_111_code
def yX8_failureKind : MethodName := ⟨RX8, "failureKind", "()I"⟩
def RJx145de : String := "java/io/Serializable"
def TJx145de : u_T := fun k => match k with
  | _ => ("", "", "", false)
def tyJx145de : Nat → FieldType := fun k => match k with
  | _ => .int
abbrev wsJx145de0 : List Cond := u_ws RJx145de TJx145de 0
theorem nmJx145de : ∀ a, a < 0 → ∀ b, b < 0 → a ≠ b → (TJx145de a).2.1 ≠ (TJx145de b).2.1 := by decide +kernel
theorem tyJx145de_ok : ∀ k, k < 0 → parseFieldDescriptor (TJx145de k).2.2.1 = some (tyJx145de k) := by decide +kernel
def RJ5 : String := "java/lang/AbstractStringBuilder"
def TJ5 : u_T := fun k => match k with
  | _ => ("", "", "", false)
def tyJ5 : Nat → FieldType := fun k => match k with
  | _ => .int
abbrev wsJ50 : List Cond := u_ws RJ5 TJ5 0
theorem nmJ5 : ∀ a, a < 0 → ∀ b, b < 0 → a ≠ b → (TJ5 a).2.1 ≠ (TJ5 b).2.1 := by decide +kernel
theorem tyJ5_ok : ∀ k, k < 0 → parseFieldDescriptor (TJ5 k).2.2.1 = some (tyJ5 k) := by decide +kernel
abbrev cJ5_init_d00df : ByteArray := prog_12_method_2_code
def yJ5_init_d00df : MethodName := ⟨RJ5, "<init>", "(I)V"⟩
abbrev cJ5_length_8abf5 : ByteArray := prog_12_method_6_code
def yJ5_length_8abf5 : MethodName := ⟨RJ5, "length", "()I"⟩
abbrev cJ5_ensureCapacityInternal_d00df : ByteArray := prog_12_method_9_code
def yJ5_ensureCapacityInternal_d00df : MethodName := ⟨RJ5, "ensureCapacityInternal", "(I)V"⟩
abbrev cJ5_newCapacity_0f7a4 : ByteArray := prog_12_method_10_code
def yJ5_newCapacity_0f7a4 : MethodName := ⟨RJ5, "newCapacity", "(I)I"⟩
abbrev cJ5_inflate_da8c8 : ByteArray := prog_12_method_11_code
def yJ5_inflate_da8c8 : MethodName := ⟨RJ5, "inflate", "()V"⟩
abbrev cJ5_setLength_d00df : ByteArray := prog_12_method_13_code
def yJ5_setLength_d00df : MethodName := ⟨RJ5, "setLength", "(I)V"⟩
abbrev cJ5_charAt_5068e : ByteArray := prog_12_method_14_code
def yJ5_charAt_5068e : MethodName := ⟨RJ5, "charAt", "(I)C"⟩
abbrev cJ5_append_cf1ce : ByteArray := prog_12_method_22_code
def yJ5_append_cf1ce : MethodName := ⟨RJ5, "append", "(Ljava/lang/String;)Ljava/lang/AbstractStringBuilder;"⟩
abbrev cJ5_appendNull_278bc : ByteArray := prog_12_method_26_code
def yJ5_appendNull_278bc : MethodName := ⟨RJ5, "appendNull", "()Ljava/lang/AbstractStringBuilder;"⟩
abbrev cJ5_append_3fe6f : ByteArray := prog_12_method_31_code
def yJ5_append_3fe6f : MethodName := ⟨RJ5, "append", "(C)Ljava/lang/AbstractStringBuilder;"⟩
abbrev cJ5_append_c97b9 : ByteArray := prog_12_method_32_code
def yJ5_append_c97b9 : MethodName := ⟨RJ5, "append", "(I)Ljava/lang/AbstractStringBuilder;"⟩
abbrev cJ5_getValue_6d5f1 : ByteArray := prog_12_method_64_code
def yJ5_getValue_6d5f1 : MethodName := ⟨RJ5, "getValue", "()[B"⟩
abbrev cJ5_isLatin1_aae02 : ByteArray := prog_12_method_68_code
def yJ5_isLatin1_aae02 : MethodName := ⟨RJ5, "isLatin1", "()Z"⟩
abbrev cJ5_inflateIfNeededFor_a7421 : ByteArray := prog_12_method_71_code
def yJ5_inflateIfNeededFor_a7421 : MethodName := ⟨RJ5, "inflateIfNeededFor", "(Ljava/lang/String;)V"⟩
abbrev cJ5_putStringAt_47b60 : ByteArray := prog_12_method_73_code
def yJ5_putStringAt_47b60 : MethodName := ⟨RJ5, "putStringAt", "(ILjava/lang/String;)V"⟩
def RJx2cfe8 : String := "java/lang/Appendable"
def TJx2cfe8 : u_T := fun k => match k with
  | _ => ("", "", "", false)
def tyJx2cfe8 : Nat → FieldType := fun k => match k with
  | _ => .int
abbrev wsJx2cfe80 : List Cond := u_ws RJx2cfe8 TJx2cfe8 0
theorem nmJx2cfe8 : ∀ a, a < 0 → ∀ b, b < 0 → a ≠ b → (TJx2cfe8 a).2.1 ≠ (TJx2cfe8 b).2.1 := by decide +kernel
theorem tyJx2cfe8_ok : ∀ k, k < 0 → parseFieldDescriptor (TJx2cfe8 k).2.2.1 = some (tyJx2cfe8 k) := by decide +kernel
def RJx00060 : String := "java/lang/ArrayIndexOutOfBoundsException"
def TJx00060 : u_T := fun k => match k with
  | 0 => ("java/lang/Throwable", "backtrace", "Ljava/lang/Object;", false)
  | 1 => ("java/lang/Throwable", "detailMessage", "Ljava/lang/String;", false)
  | 2 => ("java/lang/Throwable", "cause", "Ljava/lang/Throwable;", false)
  | 3 => ("java/lang/Throwable", "stackTrace", "[Ljava/lang/StackTraceElement;", false)
  | 4 => ("java/lang/Throwable", "depth", "I", false)
  | _ => ("java/lang/Throwable", "suppressedExceptions", "Ljava/util/List;", false)
def tyJx00060 : Nat → FieldType := fun k => match k with
  | 0 => .object "java/lang/Object"
  | 1 => .object "java/lang/String"
  | 2 => .object "java/lang/Throwable"
  | 3 => .array (.object "java/lang/StackTraceElement")
  | 4 => .int
  | _ => .object "java/util/List"
abbrev wsJx000600 : List Cond := u_ws RJx00060 TJx00060 6
theorem nmJx00060 : ∀ a, a < 6 → ∀ b, b < 6 → a ≠ b → (TJx00060 a).2.1 ≠ (TJx00060 b).2.1 := by decide +kernel
theorem tyJx00060_ok : ∀ k, k < 6 → parseFieldDescriptor (TJx00060 k).2.2.1 = some (tyJx00060 k) := by decide +kernel
abbrev cJx00060_init_a7421 : ByteArray := prog_15_method_2_code
def yJx00060_init_a7421 : MethodName := ⟨RJx00060, "<init>", "(Ljava/lang/String;)V"⟩
abbrev cJx00060_init_d00df : ByteArray := prog_15_method_3_code
def yJx00060_init_d00df : MethodName := ⟨RJx00060, "<init>", "(I)V"⟩
def RJx9f9b0 : String := "java/lang/CharSequence"
def TJx9f9b0 : u_T := fun k => match k with
  | _ => ("", "", "", false)
def tyJx9f9b0 : Nat → FieldType := fun k => match k with
  | _ => .int
abbrev wsJx9f9b00 : List Cond := u_ws RJx9f9b0 TJx9f9b0 0
theorem nmJx9f9b0 : ∀ a, a < 0 → ∀ b, b < 0 → a ≠ b → (TJx9f9b0 a).2.1 ≠ (TJx9f9b0 b).2.1 := by decide +kernel
theorem tyJx9f9b0_ok : ∀ k, k < 0 → parseFieldDescriptor (TJx9f9b0 k).2.2.1 = some (tyJx9f9b0 k) := by decide +kernel
def RJx8e188 : String := "java/lang/Cloneable"
def TJx8e188 : u_T := fun k => match k with
  | _ => ("", "", "", false)
def tyJx8e188 : Nat → FieldType := fun k => match k with
  | _ => .int
abbrev wsJx8e1880 : List Cond := u_ws RJx8e188 TJx8e188 0
theorem nmJx8e188 : ∀ a, a < 0 → ∀ b, b < 0 → a ≠ b → (TJx8e188 a).2.1 ≠ (TJx8e188 b).2.1 := by decide +kernel
theorem tyJx8e188_ok : ∀ k, k < 0 → parseFieldDescriptor (TJx8e188 k).2.2.1 = some (tyJx8e188 k) := by decide +kernel
def RJxb160c : String := "java/lang/Comparable"
def TJxb160c : u_T := fun k => match k with
  | _ => ("", "", "", false)
def tyJxb160c : Nat → FieldType := fun k => match k with
  | _ => .int
abbrev wsJxb160c0 : List Cond := u_ws RJxb160c TJxb160c 0
theorem nmJxb160c : ∀ a, a < 0 → ∀ b, b < 0 → a ≠ b → (TJxb160c a).2.1 ≠ (TJxb160c b).2.1 := by decide +kernel
theorem tyJxb160c_ok : ∀ k, k < 0 → parseFieldDescriptor (TJxb160c k).2.2.1 = some (tyJxb160c k) := by decide +kernel
def RJ6 : String := "java/lang/Integer"
def TJ6 : u_T := fun k => match k with
  | _ => ("", "", "", false)
def tyJ6 : Nat → FieldType := fun k => match k with
  | _ => .int
abbrev wsJ60 : List Cond := u_ws RJ6 TJ6 0
theorem nmJ6 : ∀ a, a < 0 → ∀ b, b < 0 → a ≠ b → (TJ6 a).2.1 ≠ (TJ6 b).2.1 := by decide +kernel
theorem tyJ6_ok : ∀ k, k < 0 → parseFieldDescriptor (TJ6 k).2.2.1 = some (tyJ6 k) := by decide +kernel
abbrev cJ6_getChars_ba4f3 : ByteArray := prog_23_method_12_code
def yJ6_getChars_ba4f3 : MethodName := ⟨RJ6, "getChars", "(II[B)I"⟩
abbrev cJ6_stringSize_0f7a4 : ByteArray := prog_23_method_13_code
def yJ6_stringSize_0f7a4 : MethodName := ⟨RJ6, "stringSize", "(I)I"⟩
abbrev cJ6_bitCount_0f7a4 : ByteArray := prog_23_method_49_code
def yJ6_bitCount_0f7a4 : MethodName := ⟨RJ6, "bitCount", "(I)I"⟩
def RJ9 : String := "java/lang/Math"
def TJ9 : u_T := fun k => match k with
  | _ => ("", "", "", false)
def tyJ9 : Nat → FieldType := fun k => match k with
  | _ => .int
abbrev wsJ90 : List Cond := u_ws RJ9 TJ9 0
theorem nmJ9 : ∀ a, a < 0 → ∀ b, b < 0 → a ≠ b → (TJ9 a).2.1 ≠ (TJ9 b).2.1 := by decide +kernel
theorem tyJ9_ok : ∀ k, k < 0 → parseFieldDescriptor (TJ9 k).2.2.1 = some (tyJ9 k) := by decide +kernel
abbrev cJ9_max_7cf53 : ByteArray := prog_24_method_65_code
def yJ9_max_7cf53 : MethodName := ⟨RJ9, "max", "(II)I"⟩
abbrev cJ9_min_7cf53 : ByteArray := prog_24_method_69_code
def yJ9_min_7cf53 : MethodName := ⟨RJ9, "min", "(II)I"⟩
def RJxd2413 : String := "java/lang/Number"
def TJxd2413 : u_T := fun k => match k with
  | _ => ("", "", "", false)
def tyJxd2413 : Nat → FieldType := fun k => match k with
  | _ => .int
abbrev wsJxd24130 : List Cond := u_ws RJxd2413 TJxd2413 0
theorem nmJxd2413 : ∀ a, a < 0 → ∀ b, b < 0 → a ≠ b → (TJxd2413 a).2.1 ≠ (TJxd2413 b).2.1 := by decide +kernel
theorem tyJxd2413_ok : ∀ k, k < 0 → parseFieldDescriptor (TJxd2413 k).2.2.1 = some (tyJxd2413 k) := by decide +kernel
def RJ0 : String := "java/lang/String"
def TJ0 : u_T := fun k => match k with
  | 0 => ("java/lang/String", "value", "[B", true)
  | 1 => ("java/lang/String", "coder", "B", true)
  | 2 => ("java/lang/String", "hash", "I", false)
  | _ => ("java/lang/String", "hashIsZero", "Z", false)
def tyJ0 : Nat → FieldType := fun k => match k with
  | 0 => .array .byte
  | 1 => .byte
  | 2 => .int
  | _ => .boolean
abbrev wsJ00 : List Cond := u_ws RJ0 TJ0 4
theorem nmJ0 : ∀ a, a < 4 → ∀ b, b < 4 → a ≠ b → (TJ0 a).2.1 ≠ (TJ0 b).2.1 := by decide +kernel
theorem tyJ0_ok : ∀ k, k < 4 → parseFieldDescriptor (TJ0 k).2.2.1 = some (tyJ0 k) := by decide +kernel
abbrev cJ0_init_81219 : ByteArray := prog_27_method_53_code
def yJ0_init_81219 : MethodName := ⟨RJ0, "<init>", "(Ljava/lang/StringBuilder;)V"⟩
abbrev cJ0_length_8abf5 : ByteArray := prog_27_method_54_code
def yJ0_length_8abf5 : MethodName := ⟨RJ0, "length", "()I"⟩
abbrev cJ0_charAt_5068e : ByteArray := prog_27_method_56_code
def yJ0_charAt_5068e : MethodName := ⟨RJ0, "charAt", "(I)C"⟩
abbrev cJ0_getBytes_840e7 : ByteArray := prog_27_method_147_code
def yJ0_getBytes_840e7 : MethodName := ⟨RJ0, "getBytes", "([BIB)V"⟩
abbrev cJ0_init_db425 : ByteArray := prog_27_method_150_code
def yJ0_init_db425 : MethodName := ⟨RJ0, "<init>", "(Ljava/lang/AbstractStringBuilder;Ljava/lang/Void;)V"⟩
abbrev cJ0_coder_7d493 : ByteArray := prog_27_method_152_code
def yJ0_coder_7d493 : MethodName := ⟨RJ0, "coder", "()B"⟩
abbrev cJ0_isLatin1_aae02 : ByteArray := prog_27_method_154_code
def yJ0_isLatin1_aae02 : MethodName := ⟨RJ0, "isLatin1", "()Z"⟩
abbrev cJ0_checkIndex_df160 : ByteArray := prog_27_method_155_code
def yJ0_checkIndex_df160 : MethodName := ⟨RJ0, "checkIndex", "(II)V"⟩
abbrev cJ0_checkBoundsOffCount_cabcc : ByteArray := prog_27_method_157_code
def yJ0_checkBoundsOffCount_cabcc : MethodName := ⟨RJ0, "checkBoundsOffCount", "(III)I"⟩
abbrev cJ0_checkBoundsBeginEnd_23922 : ByteArray := prog_27_method_158_code
def yJ0_checkBoundsBeginEnd_23922 : MethodName := ⟨RJ0, "checkBoundsBeginEnd", "(III)V"⟩
def RJ4 : String := "java/lang/StringBuilder"
def TJ4 : u_T := fun k => match k with
  | 0 => ("java/lang/AbstractStringBuilder", "value", "[B", false)
  | 1 => ("java/lang/AbstractStringBuilder", "coder", "B", false)
  | 2 => ("java/lang/AbstractStringBuilder", "maybeLatin1", "Z", false)
  | _ => ("java/lang/AbstractStringBuilder", "count", "I", false)
def tyJ4 : Nat → FieldType := fun k => match k with
  | 0 => .array .byte
  | 1 => .byte
  | 2 => .boolean
  | _ => .int
abbrev wsJ40 : List Cond := u_ws RJ4 TJ4 4
theorem nmJ4 : ∀ a, a < 4 → ∀ b, b < 4 → a ≠ b → (TJ4 a).2.1 ≠ (TJ4 b).2.1 := by decide +kernel
theorem tyJ4_ok : ∀ k, k < 4 → parseFieldDescriptor (TJ4 k).2.2.1 = some (tyJ4 k) := by decide +kernel
abbrev cJ4_init_da8c8 : ByteArray := prog_28_method_1_code
def yJ4_init_da8c8 : MethodName := ⟨RJ4, "<init>", "()V"⟩
abbrev cJ4_append_15ec4 : ByteArray := prog_28_method_7_code
def yJ4_append_15ec4 : MethodName := ⟨RJ4, "append", "(Ljava/lang/String;)Ljava/lang/StringBuilder;"⟩
abbrev cJ4_append_cf468 : ByteArray := prog_28_method_14_code
def yJ4_append_cf468 : MethodName := ⟨RJ4, "append", "(C)Ljava/lang/StringBuilder;"⟩
abbrev cJ4_append_bf812 : ByteArray := prog_28_method_15_code
def yJ4_append_bf812 : MethodName := ⟨RJ4, "append", "(I)Ljava/lang/StringBuilder;"⟩
abbrev cJ4_toString_0e30d : ByteArray := prog_28_method_42_code
def yJ4_toString_0e30d : MethodName := ⟨RJ4, "toString", "()Ljava/lang/String;"⟩
abbrev cJ4_charAt_5068e : ByteArray := prog_28_method_88_code
def yJ4_charAt_5068e : MethodName := ⟨RJ4, "charAt", "(I)C"⟩
abbrev cJ4_setLength_d00df : ByteArray := prog_28_method_89_code
def yJ4_setLength_d00df : MethodName := ⟨RJ4, "setLength", "(I)V"⟩
abbrev cJ4_length_8abf5 : ByteArray := prog_28_method_93_code
def yJ4_length_8abf5 : MethodName := ⟨RJ4, "length", "()I"⟩
def RJx7c733 : String := "java/lang/StringIndexOutOfBoundsException"
def TJx7c733 : u_T := fun k => match k with
  | 0 => ("java/lang/Throwable", "backtrace", "Ljava/lang/Object;", false)
  | 1 => ("java/lang/Throwable", "detailMessage", "Ljava/lang/String;", false)
  | 2 => ("java/lang/Throwable", "cause", "Ljava/lang/Throwable;", false)
  | 3 => ("java/lang/Throwable", "stackTrace", "[Ljava/lang/StackTraceElement;", false)
  | 4 => ("java/lang/Throwable", "depth", "I", false)
  | _ => ("java/lang/Throwable", "suppressedExceptions", "Ljava/util/List;", false)
def tyJx7c733 : Nat → FieldType := fun k => match k with
  | 0 => .object "java/lang/Object"
  | 1 => .object "java/lang/String"
  | 2 => .object "java/lang/Throwable"
  | 3 => .array (.object "java/lang/StackTraceElement")
  | 4 => .int
  | _ => .object "java/util/List"
abbrev wsJx7c7330 : List Cond := u_ws RJx7c733 TJx7c733 6
theorem nmJx7c733 : ∀ a, a < 6 → ∀ b, b < 6 → a ≠ b → (TJx7c733 a).2.1 ≠ (TJx7c733 b).2.1 := by decide +kernel
theorem tyJx7c733_ok : ∀ k, k < 6 → parseFieldDescriptor (TJx7c733 k).2.2.1 = some (tyJx7c733 k) := by decide +kernel
abbrev cJx7c733_init_d00df : ByteArray := prog_29_method_3_code
def yJx7c733_init_d00df : MethodName := ⟨RJx7c733, "<init>", "(I)V"⟩
def RJ1 : String := "java/lang/StringLatin1"
def TJ1 : u_T := fun k => match k with
  | _ => ("", "", "", false)
def tyJ1 : Nat → FieldType := fun k => match k with
  | _ => .int
abbrev wsJ10 : List Cond := u_ws RJ1 TJ1 0
theorem nmJ1 : ∀ a, a < 0 → ∀ b, b < 0 → a ≠ b → (TJ1 a).2.1 ≠ (TJ1 b).2.1 := by decide +kernel
theorem tyJ1_ok : ∀ k, k < 0 → parseFieldDescriptor (TJ1 k).2.2.1 = some (tyJ1 k) := by decide +kernel
abbrev cJ1_charAt_3b067 : ByteArray := prog_30_method_2_code
def yJ1_charAt_3b067 : MethodName := ⟨RJ1, "charAt", "([BI)C"⟩
abbrev cJ1_canEncode_fc78d : ByteArray := prog_30_method_3_code
def yJ1_canEncode_fc78d : MethodName := ⟨RJ1, "canEncode", "(C)Z"⟩
abbrev cJ1_fillNull_b72d1 : ByteArray := prog_30_method_48_code
def yJ1_fillNull_b72d1 : MethodName := ⟨RJ1, "fillNull", "([BII)V"⟩
abbrev cJ1_inflate_0e8fd : ByteArray := prog_30_method_50_code
def yJ1_inflate_0e8fd : MethodName := ⟨RJ1, "inflate", "([BI[BII)V"⟩
def RJ2 : String := "java/lang/StringUTF16"
def TJ2 : u_T := fun k => match k with
  | _ => ("", "", "", false)
def tyJ2 : Nat → FieldType := fun k => match k with
  | _ => .int
abbrev wsJ20 : List Cond := u_ws RJ2 TJ2 0
theorem nmJ2 : ∀ a, a < 0 → ∀ b, b < 0 → a ≠ b → (TJ2 a).2.1 ≠ (TJ2 b).2.1 := by decide +kernel
theorem tyJ2_ok : ∀ k, k < 0 → parseFieldDescriptor (TJ2 k).2.2.1 = some (tyJ2 k) := by decide +kernel
abbrev cJ2_newBytesFor_77867 : ByteArray := prog_31_method_2_code
def yJ2_newBytesFor_77867 : MethodName := ⟨RJ2, "newBytesFor", "(I)[B"⟩
abbrev cJ2_newBytesLength_0f7a4 : ByteArray := prog_31_method_3_code
def yJ2_newBytesLength_0f7a4 : MethodName := ⟨RJ2, "newBytesLength", "(I)I"⟩
abbrev cJ2_putChar_b72d1 : ByteArray := prog_31_method_4_code
def yJ2_putChar_b72d1 : MethodName := ⟨RJ2, "putChar", "([BII)V"⟩
abbrev cJ2_getChar_3b067 : ByteArray := prog_31_method_5_code
def yJ2_getChar_3b067 : MethodName := ⟨RJ2, "getChar", "([BI)C"⟩
abbrev cJ2_length_9d52b : ByteArray := prog_31_method_6_code
def yJ2_length_9d52b : MethodName := ⟨RJ2, "length", "([B)I"⟩
abbrev cJ2_coderFromArrayLen_85cad : ByteArray := prog_31_method_15_code
def yJ2_coderFromArrayLen_85cad : MethodName := ⟨RJ2, "coderFromArrayLen", "([BI)B"⟩
abbrev cJ2_compress_39247 : ByteArray := prog_31_method_17_code
def yJ2_compress_39247 : MethodName := ⟨RJ2, "compress", "([BII)[B"⟩
abbrev cJ2_compress_5af95 : ByteArray := prog_31_method_22_code
def yJ2_compress_5af95 : MethodName := ⟨RJ2, "compress", "([BI[BII)I"⟩
abbrev cJ2_fillNull_b72d1 : ByteArray := prog_31_method_70_code
def yJ2_fillNull_b72d1 : MethodName := ⟨RJ2, "fillNull", "([BII)V"⟩
abbrev cJ2_putCharSB_b72d1 : ByteArray := prog_31_method_71_code
def yJ2_putCharSB_b72d1 : MethodName := ⟨RJ2, "putCharSB", "([BII)V"⟩
abbrev cJ2_getChars_46870 : ByteArray := prog_31_method_77_code
def yJ2_getChars_46870 : MethodName := ⟨RJ2, "getChars", "(III[B)I"⟩
abbrev cJ2_putCharsAt_cd4e5 : ByteArray := prog_31_method_81_code
def yJ2_putCharsAt_cd4e5 : MethodName := ⟨RJ2, "putCharsAt", "([BICCCC)I"⟩
abbrev cJ2_charAt_3b067 : ByteArray := prog_31_method_83_code
def yJ2_charAt_3b067 : MethodName := ⟨RJ2, "charAt", "([BI)C"⟩
abbrev cJ2_inflate_0e8fd : ByteArray := prog_31_method_86_code
def yJ2_inflate_0e8fd : MethodName := ⟨RJ2, "inflate", "([BI[BII)V"⟩
abbrev cJ2_getChars_ba4f3 : ByteArray := prog_31_method_89_code
def yJ2_getChars_ba4f3 : MethodName := ⟨RJ2, "getChars", "(II[B)I"⟩
abbrev cJ2_checkIndex_2214a : ByteArray := prog_31_method_91_code
def yJ2_checkIndex_2214a : MethodName := ⟨RJ2, "checkIndex", "(I[B)V"⟩
abbrev cJ2_checkBoundsBeginEnd_d044e : ByteArray := prog_31_method_93_code
def yJ2_checkBoundsBeginEnd_d044e : MethodName := ⟨RJ2, "checkBoundsBeginEnd", "(II[B)V"⟩
abbrev cJ2_checkBoundsOffCount_d044e : ByteArray := prog_31_method_94_code
def yJ2_checkBoundsOffCount_d044e : MethodName := ⟨RJ2, "checkBoundsOffCount", "(II[B)V"⟩
def RJ10 : String := "java/lang/System"
def TJ10 : u_T := fun k => match k with
  | _ => ("", "", "", false)
def tyJ10 : Nat → FieldType := fun k => match k with
  | _ => .int
abbrev wsJ100 : List Cond := u_ws RJ10 TJ10 0
theorem nmJ10 : ∀ a, a < 0 → ∀ b, b < 0 → a ≠ b → (TJ10 a).2.1 ≠ (TJ10 b).2.1 := by decide +kernel
theorem tyJ10_ok : ∀ k, k < 0 → parseFieldDescriptor (TJ10 k).2.2.1 = some (tyJ10 k) := by decide +kernel
def RJxfd54e : String := "java/lang/constant/Constable"
def TJxfd54e : u_T := fun k => match k with
  | _ => ("", "", "", false)
def tyJxfd54e : Nat → FieldType := fun k => match k with
  | _ => .int
abbrev wsJxfd54e0 : List Cond := u_ws RJxfd54e TJxfd54e 0
theorem nmJxfd54e : ∀ a, a < 0 → ∀ b, b < 0 → a ≠ b → (TJxfd54e a).2.1 ≠ (TJxfd54e b).2.1 := by decide +kernel
theorem tyJxfd54e_ok : ∀ k, k < 0 → parseFieldDescriptor (TJxfd54e k).2.2.1 = some (tyJxfd54e k) := by decide +kernel
def RJx3cf43 : String := "java/lang/constant/ConstantDesc"
def TJx3cf43 : u_T := fun k => match k with
  | _ => ("", "", "", false)
def tyJx3cf43 : Nat → FieldType := fun k => match k with
  | _ => .int
abbrev wsJx3cf430 : List Cond := u_ws RJx3cf43 TJx3cf43 0
theorem nmJx3cf43 : ∀ a, a < 0 → ∀ b, b < 0 → a ≠ b → (TJx3cf43 a).2.1 ≠ (TJx3cf43 b).2.1 := by decide +kernel
theorem tyJx3cf43_ok : ∀ k, k < 0 → parseFieldDescriptor (TJx3cf43 k).2.2.1 = some (tyJx3cf43 k) := by decide +kernel
def RJ7 : String := "java/util/Arrays"
def TJ7 : u_T := fun k => match k with
  | _ => ("", "", "", false)
def tyJ7 : Nat → FieldType := fun k => match k with
  | _ => .int
abbrev wsJ70 : List Cond := u_ws RJ7 TJ7 0
theorem nmJ7 : ∀ a, a < 0 → ∀ b, b < 0 → a ≠ b → (TJ7 a).2.1 ≠ (TJ7 b).2.1 := by decide +kernel
theorem tyJ7_ok : ∀ k, k < 0 → parseFieldDescriptor (TJ7 k).2.2.1 = some (tyJ7 k) := by decide +kernel
abbrev cJ7_rangeCheck_23922 : ByteArray := prog_37_method_30_code
def yJ7_rangeCheck_23922 : MethodName := ⟨RJ7, "rangeCheck", "(III)V"⟩
abbrev cJ7_fill_eb02e : ByteArray := prog_37_method_110_code
def yJ7_fill_eb02e : MethodName := ⟨RJ7, "fill", "([BIIB)V"⟩
abbrev cJ7_copyOf_9075b : ByteArray := prog_37_method_121_code
def yJ7_copyOf_9075b : MethodName := ⟨RJ7, "copyOf", "([BI)[B"⟩
abbrev cJ7_checkLength_df160 : ByteArray := prog_37_method_131_code
def yJ7_checkLength_df160 : MethodName := ⟨RJ7, "checkLength", "(II)V"⟩
abbrev cJ7_copyOfRange_39247 : ByteArray := prog_37_method_132_code
def yJ7_copyOfRange_39247 : MethodName := ⟨RJ7, "copyOfRange", "([BII)[B"⟩
abbrev cJ7_copyOfRangeByte_39247 : ByteArray := prog_37_method_133_code
def yJ7_copyOfRangeByte_39247 : MethodName := ⟨RJ7, "copyOfRangeByte", "([BII)[B"⟩
def RJ8 : String := "jdk/internal/util/ArraysSupport"
def TJ8 : u_T := fun k => match k with
  | _ => ("", "", "", false)
def tyJ8 : Nat → FieldType := fun k => match k with
  | _ => .int
abbrev wsJ80 : List Cond := u_ws RJ8 TJ8 0
theorem nmJ8 : ∀ a, a < 0 → ∀ b, b < 0 → a ≠ b → (TJ8 a).2.1 ≠ (TJ8 b).2.1 := by decide +kernel
theorem tyJ8_ok : ∀ k, k < 0 → parseFieldDescriptor (TJ8 k).2.2.1 = some (tyJ8 k) := by decide +kernel
abbrev cJ8_newLength_cabcc : ByteArray := prog_39_method_27_code
def yJ8_newLength_cabcc : MethodName := ⟨RJ8, "newLength", "(III)I"⟩
abbrev cJ8_hugeLength_7cf53 : ByteArray := prog_39_method_28_code
def yJ8_hugeLength_7cf53 : MethodName := ⟨RJ8, "hugeLength", "(II)I"⟩
def RJ3 : String := "jdk/internal/util/Preconditions"
def TJ3 : u_T := fun k => match k with
  | _ => ("", "", "", false)
def tyJ3 : Nat → FieldType := fun k => match k with
  | _ => .int
abbrev wsJ30 : List Cond := u_ws RJ3 TJ3 0
theorem nmJ3 : ∀ a, a < 0 → ∀ b, b < 0 → a ≠ b → (TJ3 a).2.1 ≠ (TJ3 b).2.1 := by decide +kernel
theorem tyJ3_ok : ∀ k, k < 0 → parseFieldDescriptor (TJ3 k).2.2.1 = some (tyJ3 k) := by decide +kernel
abbrev cJ3_checkIndex_8e157 : ByteArray := prog_40_method_11_code
def yJ3_checkIndex_8e157 : MethodName := ⟨RJ3, "checkIndex", "(IILjava/util/function/BiFunction;)I"⟩
abbrev cJ3_checkFromToIndex_8c36e : ByteArray := prog_40_method_12_code
def yJ3_checkFromToIndex_8c36e : MethodName := ⟨RJ3, "checkFromToIndex", "(IIILjava/util/function/BiFunction;)I"⟩
abbrev cJ3_checkFromIndexSize_8c36e : ByteArray := prog_40_method_13_code
def yJ3_checkFromIndexSize_8c36e : MethodName := ⟨RJ3, "checkFromIndexSize", "(IIILjava/util/function/BiFunction;)I"⟩
def RL : String := "OptionBlockPlannerLaw"
abbrev cL_addSubject : ByteArray := method_3_code
def yL_addSubject : MethodName := ⟨RL, "addSubject", "(LOptionBlockPlanner;I[J)I"⟩
abbrev cL_setSize : ByteArray := method_4_code
def yL_setSize : MethodName := ⟨RL, "setSize", "(LOptionBlockPlanner;II[J)I"⟩
abbrev cL_sizeOf : ByteArray := method_5_code
def yL_sizeOf : MethodName := ⟨RL, "sizeOf", "(LOptionBlockPlanner;I[J)I"⟩
abbrev cL_setBlockCount : ByteArray := method_6_code
def yL_setBlockCount : MethodName := ⟨RL, "setBlockCount", "(LOptionBlockPlanner;I[J)I"⟩
abbrev cL_openClass : ByteArray := method_7_code
def yL_openClass : MethodName := ⟨RL, "openClass", "(LOptionBlockPlanner;II[J)I"⟩
abbrev cL_closeClass : ByteArray := method_8_code
def yL_closeClass : MethodName := ⟨RL, "closeClass", "(LOptionBlockPlanner;II[J)I"⟩
abbrev cL_isOpen : ByteArray := method_9_code
def yL_isOpen : MethodName := ⟨RL, "isOpen", "(LOptionBlockPlanner;II[J)I"⟩
abbrev cL_pupilsInClass : ByteArray := method_10_code
def yL_pupilsInClass : MethodName := ⟨RL, "pupilsInClass", "(LOptionBlockPlanner;II[J)I"⟩
abbrev cL_pupilInClass : ByteArray := method_11_code
def yL_pupilInClass : MethodName := ⟨RL, "pupilInClass", "(LOptionBlockPlanner;III[J)I"⟩
abbrev cL_addPupil : ByteArray := method_12_code
def yL_addPupil : MethodName := ⟨RL, "addPupil", "(LOptionBlockPlanner;[J)I"⟩
abbrev cL_addWish : ByteArray := method_13_code
def yL_addWish : MethodName := ⟨RL, "addWish", "(LOptionBlockPlanner;II[J)I"⟩
abbrev cL_setReserve : ByteArray := method_14_code
def yL_setReserve : MethodName := ⟨RL, "setReserve", "(LOptionBlockPlanner;II[J)I"⟩
abbrev cL_wishCount : ByteArray := method_15_code
def yL_wishCount : MethodName := ⟨RL, "wishCount", "(LOptionBlockPlanner;I[J)I"⟩
abbrev cL_wishAt : ByteArray := method_16_code
def yL_wishAt : MethodName := ⟨RL, "wishAt", "(LOptionBlockPlanner;II[J)I"⟩
abbrev cL_reserveOf : ByteArray := method_17_code
def yL_reserveOf : MethodName := ⟨RL, "reserveOf", "(LOptionBlockPlanner;I[J)I"⟩
abbrev cL_subjectIn : ByteArray := method_18_code
def yL_subjectIn : MethodName := ⟨RL, "subjectIn", "(LOptionBlockPlanner;II[J)I"⟩
abbrev cL_blockOf : ByteArray := method_19_code
def yL_blockOf : MethodName := ⟨RL, "blockOf", "(LOptionBlockPlanner;II[J)I"⟩
abbrev cL_enrol : ByteArray := method_20_code
def yL_enrol : MethodName := ⟨RL, "enrol", "(LOptionBlockPlanner;I[J)I"⟩
abbrev cL_withdraw : ByteArray := method_21_code
def yL_withdraw : MethodName := ⟨RL, "withdraw", "(LOptionBlockPlanner;I[J)I"⟩
abbrev cL_bestValue : ByteArray := method_22_code
def yL_bestValue : MethodName := ⟨RL, "bestValue", "(LOptionBlockPlanner;I[J)I"⟩
abbrev cL_bestValueBySets : ByteArray := method_23_code
def yL_bestValueBySets : MethodName := ⟨RL, "bestValueBySets", "(LOptionBlockPlanner;I[J)I"⟩
abbrev cL_canServe : ByteArray := method_24_code
def yL_canServe : MethodName := ⟨RL, "canServe", "(LOptionBlockPlanner;I[J)I"⟩
abbrev cL_canServeByCounting : ByteArray := method_25_code
def yL_canServeByCounting : MethodName := ⟨RL, "canServeByCounting", "(LOptionBlockPlanner;I[J)I"⟩
abbrev cL_meanClassSize : ByteArray := method_26_code
def yL_meanClassSize : MethodName := ⟨RL, "meanClassSize", "(LOptionBlockPlanner;[D)I"⟩
abbrev cL_movesFor : ByteArray := method_27_code
def yL_movesFor : MethodName := ⟨RL, "movesFor", "(LOptionBlockPlanner;II[J)I"⟩
abbrev cL_movesByTrial : ByteArray := method_28_code
def yL_movesByTrial : MethodName := ⟨RL, "movesByTrial", "(LOptionBlockPlanner;II[J)I"⟩
abbrev cL_join : ByteArray := method_29_code
def yL_join : MethodName := ⟨RL, "join", "(LOptionBlockPlanner;II[J)I"⟩
abbrev cL_quit : ByteArray := method_30_code
def yL_quit : MethodName := ⟨RL, "quit", "(LOptionBlockPlanner;II[J)I"⟩
abbrev cL_change : ByteArray := method_31_code
def yL_change : MethodName := ⟨RL, "change", "(LOptionBlockPlanner;III[J)I"⟩
abbrev cL_refusalReason : ByteArray := method_32_code
def yL_refusalReason : MethodName := ⟨RL, "refusalReason", "(LOptionBlockPlanner;[J)I"⟩
abbrev cL_chainMoves : ByteArray := method_33_code
def yL_chainMoves : MethodName := ⟨RL, "chainMoves", "(LOptionBlockPlanner;[J)I"⟩
abbrev cL_chainPupil : ByteArray := method_34_code
def yL_chainPupil : MethodName := ⟨RL, "chainPupil", "(LOptionBlockPlanner;I[J)I"⟩
abbrev cL_chainBlock : ByteArray := method_35_code
def yL_chainBlock : MethodName := ⟨RL, "chainBlock", "(LOptionBlockPlanner;I[J)I"⟩
abbrev cL_commonWishes : ByteArray := method_36_code
def yL_commonWishes : MethodName := ⟨RL, "commonWishes", "(LOptionBlockPlanner;II[J)I"⟩
abbrev cL_doClash : ByteArray := method_37_code
def yL_doClash : MethodName := ⟨RL, "doClash", "(LOptionBlockPlanner;II[J)I"⟩
abbrev cL_arrange : ByteArray := method_38_code
def yL_arrange : MethodName := ⟨RL, "arrange", "(LOptionBlockPlanner;[J)I"⟩
abbrev cL_writeTimetable : ByteArray := method_39_code
def yL_writeTimetable : MethodName := ⟨RL, "writeTimetable", "(LOptionBlockPlanner;I[J)I"⟩
abbrev cL_lineAt : ByteArray := method_40_code
def yL_lineAt : MethodName := ⟨RL, "lineAt", "(LOptionBlockPlanner;I[J)I"⟩
abbrev cL_type : ByteArray := method_41_code
def yL_type : MethodName := ⟨RL, "type", "(LOptionBlockPlanner;C[J)I"⟩
abbrev cL_execute : ByteArray := method_42_code
def yL_execute : MethodName := ⟨RL, "execute", "(LOptionBlockPlanner;[J)I"⟩
abbrev cL_errorPosition : ByteArray := method_43_code
def yL_errorPosition : MethodName := ⟨RL, "errorPosition", "(LOptionBlockPlanner;[J)I"⟩
abbrev cL_failedCommand : ByteArray := method_44_code
def yL_failedCommand : MethodName := ⟨RL, "failedCommand", "(LOptionBlockPlanner;[J)I"⟩
abbrev cL_failureKind : ByteArray := method_45_code
def yL_failureKind : MethodName := ⟨RL, "failureKind", "(LOptionBlockPlanner;[J)I"⟩
abbrev cL_undo : ByteArray := method_46_code
def yL_undo : MethodName := ⟨RL, "undo", "(LOptionBlockPlanner;[J)I"⟩
abbrev cL_restore : ByteArray := method_47_code
def yL_restore : MethodName := ⟨RL, "restore", "(LOptionBlockPlanner;[J)I"⟩
abbrev cL_law : ByteArray := code
def yL_law : MethodName := ⟨RL, "law", "([I)Z"⟩
abbrev vwCl : List vw_C := [(RJ0, TJ0, 4), (RJ4, TJ4, 4), (RJx00060, TJx00060, 6), (RJx7c733, TJx7c733, 6), (RX0, TX0, 6), (RX1, TX1, 4), (RX2, TX2, 5), (RX3, TX3, 3), (RX4, TX4, 6), (RX5, TX5, 12), (RX6, TX6, 5), (RX7, TX7, 14), (RX8, TX8, 31)]

/-! ===== the methods, and the words by their places ===== -/
theorem w_0 : Cond.selects "OptionBlockPlanner$History" yX3_planIn yX3_planIn ∈ k_TBL := List.mem_filter.mpr ⟨List.mem_of_getElem? (i := 0) (by decide +kernel), rfl⟩
theorem w_1 : Cond.selects "OptionBlockPlanner$Placements" yX4_collectRoomy yX4_collectRoomy ∈ k_TBL := List.mem_filter.mpr ⟨List.mem_of_getElem? (i := 1) (by decide +kernel), rfl⟩
theorem w_2 : Cond.selects "OptionBlockPlanner$Placements" yX4_findBest yX4_findBest ∈ k_TBL := List.mem_filter.mpr ⟨List.mem_of_getElem? (i := 2) (by decide +kernel), rfl⟩
theorem w_3 : Cond.selects "OptionBlockPlanner$Placements" yX4_keepIfBetter yX4_keepIfBetter ∈ k_TBL := List.mem_filter.mpr ⟨List.mem_of_getElem? (i := 3) (by decide +kernel), rfl⟩
theorem w_4 : Cond.selects "OptionBlockPlanner$Arrangements" yX0_collectCommon yX0_collectCommon ∈ k_TBL := List.mem_filter.mpr ⟨List.mem_of_getElem? (i := 4) (by decide +kernel), rfl⟩
theorem w_5 : Cond.selects "OptionBlockPlanner$Arrangements" yX0_countPairs yX0_countPairs ∈ k_TBL := List.mem_filter.mpr ⟨List.mem_of_getElem? (i := 5) (by decide +kernel), rfl⟩
theorem w_6 : Cond.selects "OptionBlockPlanner$Arrangements" yX0_weigh yX0_weigh ∈ k_TBL := List.mem_filter.mpr ⟨List.mem_of_getElem? (i := 6) (by decide +kernel), rfl⟩
theorem w_7 : Cond.selects "OptionBlockPlanner" yX7_make yX7_make ∈ k_TBL := List.mem_filter.mpr ⟨List.mem_of_getElem? (i := 7) (by decide +kernel), rfl⟩
theorem w_8 : Cond.selects "OptionBlockPlanner$Changes" yX2_faultOfNewSubject yX2_faultOfNewSubject ∈ k_TBL := List.mem_filter.mpr ⟨List.mem_of_getElem? (i := 8) (by decide +kernel), rfl⟩
theorem w_9 : Cond.selects "OptionBlockPlanner$Changes" yX2_faultOfBlocks yX2_faultOfBlocks ∈ k_TBL := List.mem_filter.mpr ⟨List.mem_of_getElem? (i := 9) (by decide +kernel), rfl⟩
theorem w_10 : Cond.selects "OptionBlockPlanner$Changes" yX2_faultOfOpening yX2_faultOfOpening ∈ k_TBL := List.mem_filter.mpr ⟨List.mem_of_getElem? (i := 10) (by decide +kernel), rfl⟩
theorem w_11 : Cond.selects "OptionBlockPlanner$Changes" yX2_faultOfClosing yX2_faultOfClosing ∈ k_TBL := List.mem_filter.mpr ⟨List.mem_of_getElem? (i := 11) (by decide +kernel), rfl⟩
theorem w_12 : Cond.selects "OptionBlockPlanner$Changes" yX2_faultOfWish yX2_faultOfWish ∈ k_TBL := List.mem_filter.mpr ⟨List.mem_of_getElem? (i := 12) (by decide +kernel), rfl⟩
theorem w_13 : Cond.selects "OptionBlockPlanner$Changes" yX2_faultOfReserve yX2_faultOfReserve ∈ k_TBL := List.mem_filter.mpr ⟨List.mem_of_getElem? (i := 13) (by decide +kernel), rfl⟩
theorem w_14 : Cond.selects "OptionBlockPlanner$Changes" yX2_faultOfJoining yX2_faultOfJoining ∈ k_TBL := List.mem_filter.mpr ⟨List.mem_of_getElem? (i := 14) (by decide +kernel), rfl⟩
theorem w_15 : Cond.selects "OptionBlockPlanner$Chains" yX1_measure yX1_measure ∈ k_TBL := List.mem_filter.mpr ⟨List.mem_of_getElem? (i := 15) (by decide +kernel), rfl⟩
theorem w_16 : Cond.selects "OptionBlockPlanner$Chains" yX1_nextBlock yX1_nextBlock ∈ k_TBL := List.mem_filter.mpr ⟨List.mem_of_getElem? (i := 16) (by decide +kernel), rfl⟩
theorem w_17 : Cond.selects "OptionBlockPlanner$Chains" yX1_nearest yX1_nearest ∈ k_TBL := List.mem_filter.mpr ⟨List.mem_of_getElem? (i := 17) (by decide +kernel), rfl⟩
theorem w_18 : Cond.selects "OptionBlockPlanner$Changes" yX2_refusal yX2_refusal ∈ k_TBL := List.mem_filter.mpr ⟨List.mem_of_getElem? (i := 18) (by decide +kernel), rfl⟩
theorem w_19 : Cond.selects "OptionBlockPlanner$Changes" yX2_faultOfQuitting yX2_faultOfQuitting ∈ k_TBL := List.mem_filter.mpr ⟨List.mem_of_getElem? (i := 19) (by decide +kernel), rfl⟩
theorem w_20 : Cond.selects "OptionBlockPlanner$Changes" yX2_faultOfChanging yX2_faultOfChanging ∈ k_TBL := List.mem_filter.mpr ⟨List.mem_of_getElem? (i := 20) (by decide +kernel), rfl⟩
theorem w_21 : Cond.selects "java/lang/Throwable" ⟨"java/lang/Throwable", "fillInStackTrace", "(I)Ljava/lang/Throwable;"⟩ ⟨"java/lang/Throwable", "fillInStackTrace", "(I)Ljava/lang/Throwable;"⟩ ∈ k_TBL := List.mem_filter.mpr ⟨List.mem_of_getElem? (i := 21) (by decide +kernel), rfl⟩
theorem w_22 : Cond.selects "OptionBlockPlanner$Placements" yX4_setsUsedFor yX4_setsUsedFor ∈ k_TBL := List.mem_filter.mpr ⟨List.mem_of_getElem? (i := 22) (by decide +kernel), rfl⟩
theorem w_23 : Cond.selects "OptionBlockPlanner$Placements" yX4_collectOpen yX4_collectOpen ∈ k_TBL := List.mem_filter.mpr ⟨List.mem_of_getElem? (i := 23) (by decide +kernel), rfl⟩
theorem w_24 : Cond.selects "OptionBlockPlanner" yX7_needPair yX7_needPair ∈ k_TBL := List.mem_filter.mpr ⟨List.mem_of_getElem? (i := 24) (by decide +kernel), rfl⟩
theorem w_25 : Cond.selects "OptionBlockPlanner" yX7_writeLesson yX7_writeLesson ∈ k_TBL := List.mem_filter.mpr ⟨List.mem_of_getElem? (i := 25) (by decide +kernel), rfl⟩
theorem w_26 : Cond.selects "OptionBlockPlanner$Program" yX6_readCommand yX6_readCommand ∈ k_TBL := List.mem_filter.mpr ⟨List.mem_of_getElem? (i := 26) (by decide +kernel), rfl⟩
theorem w_27 : Cond.selects "OptionBlockPlanner$Program" yX6_matches yX6_matches ∈ k_TBL := List.mem_filter.mpr ⟨List.mem_of_getElem? (i := 27) (by decide +kernel), rfl⟩
theorem w_28 : Cond.selects "OptionBlockPlanner$Program" yX6_readNumber yX6_readNumber ∈ k_TBL := List.mem_filter.mpr ⟨List.mem_of_getElem? (i := 28) (by decide +kernel), rfl⟩
theorem w_29 : Cond.selects "OptionBlockPlanner$Program" yX6_digitHere yX6_digitHere ∈ k_TBL := List.mem_filter.mpr ⟨List.mem_of_getElem? (i := 29) (by decide +kernel), rfl⟩
theorem w_30 : Cond.selects "OptionBlockPlanner$Program" yX6_skip yX6_skip ∈ k_TBL := List.mem_filter.mpr ⟨List.mem_of_getElem? (i := 30) (by decide +kernel), rfl⟩
theorem w_31 : Cond.selects "OptionBlockPlannerModel" yX8_fails yX8_fails ∈ k_TBL := List.mem_filter.mpr ⟨List.mem_of_getElem? (i := 31) (by decide +kernel), rfl⟩
theorem w_32 : Cond.selects "OptionBlockPlannerModel" yX8_tells yX8_tells ∈ k_TBL := List.mem_filter.mpr ⟨List.mem_of_getElem? (i := 32) (by decide +kernel), rfl⟩
theorem w_33 : Cond.selects "OptionBlockPlannerModel" yX8_begins yX8_begins ∈ k_TBL := List.mem_filter.mpr ⟨List.mem_of_getElem? (i := 33) (by decide +kernel), rfl⟩
theorem w_34 : Cond.selects "OptionBlockPlannerModel" yX8_addSubjectNow yX8_addSubjectNow ∈ k_TBL := List.mem_filter.mpr ⟨List.mem_of_getElem? (i := 34) (by decide +kernel), rfl⟩
theorem w_35 : Cond.selects "OptionBlockPlannerModel" yX8_bad yX8_bad ∈ k_TBL := List.mem_filter.mpr ⟨List.mem_of_getElem? (i := 35) (by decide +kernel), rfl⟩
theorem w_36 : Cond.selects "OptionBlockPlannerModel" yX8_ends yX8_ends ∈ k_TBL := List.mem_filter.mpr ⟨List.mem_of_getElem? (i := 36) (by decide +kernel), rfl⟩
theorem w_37 : Cond.selects "OptionBlockPlannerModel" yX8_setSizeNow yX8_setSizeNow ∈ k_TBL := List.mem_filter.mpr ⟨List.mem_of_getElem? (i := 37) (by decide +kernel), rfl⟩
theorem w_38 : Cond.selects "OptionBlockPlannerModel" yX8_isSubject yX8_isSubject ∈ k_TBL := List.mem_filter.mpr ⟨List.mem_of_getElem? (i := 38) (by decide +kernel), rfl⟩
theorem w_39 : Cond.selects "OptionBlockPlannerModel" yX8_inClass yX8_inClass ∈ k_TBL := List.mem_filter.mpr ⟨List.mem_of_getElem? (i := 39) (by decide +kernel), rfl⟩
theorem w_40 : Cond.selects "OptionBlockPlannerModel" yX8_subjectOf yX8_subjectOf ∈ k_TBL := List.mem_filter.mpr ⟨List.mem_of_getElem? (i := 40) (by decide +kernel), rfl⟩
theorem w_41 : Cond.selects "OptionBlockPlannerModel" yX8_setBlockCountNow yX8_setBlockCountNow ∈ k_TBL := List.mem_filter.mpr ⟨List.mem_of_getElem? (i := 41) (by decide +kernel), rfl⟩
theorem w_42 : Cond.selects "OptionBlockPlannerModel" yX8_hasOpen yX8_hasOpen ∈ k_TBL := List.mem_filter.mpr ⟨List.mem_of_getElem? (i := 42) (by decide +kernel), rfl⟩
theorem w_43 : Cond.selects "OptionBlockPlannerModel" yX8_openClassNow yX8_openClassNow ∈ k_TBL := List.mem_filter.mpr ⟨List.mem_of_getElem? (i := 43) (by decide +kernel), rfl⟩
theorem w_44 : Cond.selects "OptionBlockPlannerModel" yX8_isBlock yX8_isBlock ∈ k_TBL := List.mem_filter.mpr ⟨List.mem_of_getElem? (i := 44) (by decide +kernel), rfl⟩
theorem w_45 : Cond.selects "OptionBlockPlannerModel" yX8_openOf yX8_openOf ∈ k_TBL := List.mem_filter.mpr ⟨List.mem_of_getElem? (i := 45) (by decide +kernel), rfl⟩
theorem w_46 : Cond.selects "OptionBlockPlannerModel" yX8_closeClassNow yX8_closeClassNow ∈ k_TBL := List.mem_filter.mpr ⟨List.mem_of_getElem? (i := 46) (by decide +kernel), rfl⟩
theorem w_47 : Cond.selects "OptionBlockPlannerModel" yX8_addPupilNow yX8_addPupilNow ∈ k_TBL := List.mem_filter.mpr ⟨List.mem_of_getElem? (i := 47) (by decide +kernel), rfl⟩
theorem w_48 : Cond.selects "OptionBlockPlannerModel" yX8_addWishNow yX8_addWishNow ∈ k_TBL := List.mem_filter.mpr ⟨List.mem_of_getElem? (i := 48) (by decide +kernel), rfl⟩
theorem w_49 : Cond.selects "OptionBlockPlannerModel" yX8_isPupil yX8_isPupil ∈ k_TBL := List.mem_filter.mpr ⟨List.mem_of_getElem? (i := 49) (by decide +kernel), rfl⟩
theorem w_50 : Cond.selects "OptionBlockPlannerModel" yX8_isWish yX8_isWish ∈ k_TBL := List.mem_filter.mpr ⟨List.mem_of_getElem? (i := 50) (by decide +kernel), rfl⟩
theorem w_51 : Cond.selects "OptionBlockPlannerModel" yX8_wish yX8_wish ∈ k_TBL := List.mem_filter.mpr ⟨List.mem_of_getElem? (i := 51) (by decide +kernel), rfl⟩
theorem w_52 : Cond.selects "OptionBlockPlannerModel" yX8_setReserveNow yX8_setReserveNow ∈ k_TBL := List.mem_filter.mpr ⟨List.mem_of_getElem? (i := 52) (by decide +kernel), rfl⟩
theorem w_53 : Cond.selects "OptionBlockPlannerModel" yX8_blockOfSubject yX8_blockOfSubject ∈ k_TBL := List.mem_filter.mpr ⟨List.mem_of_getElem? (i := 53) (by decide +kernel), rfl⟩
theorem w_54 : Cond.selects "OptionBlockPlannerModel" yX8_enrolNow yX8_enrolNow ∈ k_TBL := List.mem_filter.mpr ⟨List.mem_of_getElem? (i := 54) (by decide +kernel), rfl⟩
theorem w_55 : Cond.selects "OptionBlockPlannerModel" yX8_classesOf yX8_classesOf ∈ k_TBL := List.mem_filter.mpr ⟨List.mem_of_getElem? (i := 55) (by decide +kernel), rfl⟩
theorem w_56 : Cond.selects "OptionBlockPlannerModel" yX8_findsPlacement yX8_findsPlacement ∈ k_TBL := List.mem_filter.mpr ⟨List.mem_of_getElem? (i := 56) (by decide +kernel), rfl⟩
theorem w_57 : Cond.selects "OptionBlockPlannerModel" yX8_worth yX8_worth ∈ k_TBL := List.mem_filter.mpr ⟨List.mem_of_getElem? (i := 57) (by decide +kernel), rfl⟩
theorem w_58 : Cond.selects "OptionBlockPlannerModel" yX8_hasRoom yX8_hasRoom ∈ k_TBL := List.mem_filter.mpr ⟨List.mem_of_getElem? (i := 58) (by decide +kernel), rfl⟩
theorem w_59 : Cond.selects "OptionBlockPlannerModel" yX8_lacksWish yX8_lacksWish ∈ k_TBL := List.mem_filter.mpr ⟨List.mem_of_getElem? (i := 59) (by decide +kernel), rfl⟩
theorem w_60 : Cond.selects "OptionBlockPlannerModel" yX8_isServed yX8_isServed ∈ k_TBL := List.mem_filter.mpr ⟨List.mem_of_getElem? (i := 60) (by decide +kernel), rfl⟩
theorem w_61 : Cond.selects "OptionBlockPlannerModel" yX8_withdrawNow yX8_withdrawNow ∈ k_TBL := List.mem_filter.mpr ⟨List.mem_of_getElem? (i := 61) (by decide +kernel), rfl⟩
theorem w_62 : Cond.selects "OptionBlockPlannerModel" yX8_canPlace yX8_canPlace ∈ k_TBL := List.mem_filter.mpr ⟨List.mem_of_getElem? (i := 62) (by decide +kernel), rfl⟩
theorem w_63 : Cond.selects "OptionBlockPlannerModel" yX8_more yX8_more ∈ k_TBL := List.mem_filter.mpr ⟨List.mem_of_getElem? (i := 63) (by decide +kernel), rfl⟩
theorem w_64 : Cond.selects "OptionBlockPlannerModel" yX8_isServable yX8_isServable ∈ k_TBL := List.mem_filter.mpr ⟨List.mem_of_getElem? (i := 64) (by decide +kernel), rfl⟩
theorem w_65 : Cond.selects "OptionBlockPlannerModel" yX8_asksMoves yX8_asksMoves ∈ k_TBL := List.mem_filter.mpr ⟨List.mem_of_getElem? (i := 65) (by decide +kernel), rfl⟩
theorem w_66 : Cond.selects "OptionBlockPlannerModel" yX8_findsChain yX8_findsChain ∈ k_TBL := List.mem_filter.mpr ⟨List.mem_of_getElem? (i := 66) (by decide +kernel), rfl⟩
theorem w_67 : Cond.selects "OptionBlockPlannerModel" yX8_isChain yX8_isChain ∈ k_TBL := List.mem_filter.mpr ⟨List.mem_of_getElem? (i := 67) (by decide +kernel), rfl⟩
theorem w_68 : Cond.selects "OptionBlockPlannerModel" yX8_isEntry yX8_isEntry ∈ k_TBL := List.mem_filter.mpr ⟨List.mem_of_getElem? (i := 68) (by decide +kernel), rfl⟩
theorem w_69 : Cond.selects "OptionBlockPlannerModel" yX8_mover yX8_mover ∈ k_TBL := List.mem_filter.mpr ⟨List.mem_of_getElem? (i := 69) (by decide +kernel), rfl⟩
theorem w_70 : Cond.selects "OptionBlockPlannerModel" yX8_joinNow yX8_joinNow ∈ k_TBL := List.mem_filter.mpr ⟨List.mem_of_getElem? (i := 70) (by decide +kernel), rfl⟩
theorem w_71 : Cond.selects "OptionBlockPlannerModel" yX8_whyRefused yX8_whyRefused ∈ k_TBL := List.mem_filter.mpr ⟨List.mem_of_getElem? (i := 71) (by decide +kernel), rfl⟩
theorem w_72 : Cond.selects "OptionBlockPlannerModel" yX8_quitNow yX8_quitNow ∈ k_TBL := List.mem_filter.mpr ⟨List.mem_of_getElem? (i := 72) (by decide +kernel), rfl⟩
theorem w_73 : Cond.selects "OptionBlockPlannerModel" yX8_changeNow yX8_changeNow ∈ k_TBL := List.mem_filter.mpr ⟨List.mem_of_getElem? (i := 73) (by decide +kernel), rfl⟩
theorem w_74 : Cond.selects "OptionBlockPlannerModel" yX8_wrongPair yX8_wrongPair ∈ k_TBL := List.mem_filter.mpr ⟨List.mem_of_getElem? (i := 74) (by decide +kernel), rfl⟩
theorem w_75 : Cond.selects "OptionBlockPlannerModel" yX8_common yX8_common ∈ k_TBL := List.mem_filter.mpr ⟨List.mem_of_getElem? (i := 75) (by decide +kernel), rfl⟩
theorem w_76 : Cond.selects "OptionBlockPlannerModel" yX8_clash yX8_clash ∈ k_TBL := List.mem_filter.mpr ⟨List.mem_of_getElem? (i := 76) (by decide +kernel), rfl⟩
theorem w_77 : Cond.selects "OptionBlockPlannerModel" yX8_findsArrangement yX8_findsArrangement ∈ k_TBL := List.mem_filter.mpr ⟨List.mem_of_getElem? (i := 77) (by decide +kernel), rfl⟩
theorem w_78 : Cond.selects "OptionBlockPlannerModel" yX8_arrangeNow yX8_arrangeNow ∈ k_TBL := List.mem_filter.mpr ⟨List.mem_of_getElem? (i := 78) (by decide +kernel), rfl⟩
theorem w_79 : Cond.selects "OptionBlockPlannerModel" yX8_writes yX8_writes ∈ k_TBL := List.mem_filter.mpr ⟨List.mem_of_getElem? (i := 79) (by decide +kernel), rfl⟩
theorem w_80 : Cond.selects "OptionBlockPlannerModel" yX8_parses yX8_parses ∈ k_TBL := List.mem_filter.mpr ⟨List.mem_of_getElem? (i := 80) (by decide +kernel), rfl⟩
theorem w_81 : Cond.selects "OptionBlockPlannerModel" yX8_reads yX8_reads ∈ k_TBL := List.mem_filter.mpr ⟨List.mem_of_getElem? (i := 81) (by decide +kernel), rfl⟩
theorem w_82 : Cond.selects "OptionBlockPlannerModel" yX8_isDigit yX8_isDigit ∈ k_TBL := List.mem_filter.mpr ⟨List.mem_of_getElem? (i := 82) (by decide +kernel), rfl⟩
theorem w_83 : Cond.selects "OptionBlockPlannerModel" yX8_acts yX8_acts ∈ k_TBL := List.mem_filter.mpr ⟨List.mem_of_getElem? (i := 83) (by decide +kernel), rfl⟩
theorem w_84 : Cond.initialized "OptionBlockPlannerLaw" ∈ k_TBL := List.mem_filter.mpr ⟨List.mem_of_getElem? (i := 84) (by decide +kernel), rfl⟩
theorem w_85 : Cond.initialized "OptionBlockPlanner" ∈ k_TBL := List.mem_filter.mpr ⟨List.mem_of_getElem? (i := 85) (by decide +kernel), rfl⟩
theorem w_86 : Cond.initialized "OptionBlockPlanner$Plan" ∈ k_TBL := List.mem_filter.mpr ⟨List.mem_of_getElem? (i := 86) (by decide +kernel), rfl⟩
theorem w_87 : Cond.initialized "OptionBlockPlanner$Placements" ∈ k_TBL := List.mem_filter.mpr ⟨List.mem_of_getElem? (i := 87) (by decide +kernel), rfl⟩
theorem w_88 : Cond.initialized "OptionBlockPlanner$Chains" ∈ k_TBL := List.mem_filter.mpr ⟨List.mem_of_getElem? (i := 88) (by decide +kernel), rfl⟩
theorem w_89 : Cond.initialized "OptionBlockPlanner$Arrangements" ∈ k_TBL := List.mem_filter.mpr ⟨List.mem_of_getElem? (i := 89) (by decide +kernel), rfl⟩
theorem w_90 : Cond.initialized "OptionBlockPlanner$Changes" ∈ k_TBL := List.mem_filter.mpr ⟨List.mem_of_getElem? (i := 90) (by decide +kernel), rfl⟩
theorem w_91 : Cond.initialized "OptionBlockPlanner$History" ∈ k_TBL := List.mem_filter.mpr ⟨List.mem_of_getElem? (i := 91) (by decide +kernel), rfl⟩
theorem w_92 : Cond.initialized "OptionBlockPlanner$Program" ∈ k_TBL := List.mem_filter.mpr ⟨List.mem_of_getElem? (i := 92) (by decide +kernel), rfl⟩
theorem w_93 : Cond.initialized "java/lang/AbstractStringBuilder" ∈ k_TBL := List.mem_filter.mpr ⟨List.mem_of_getElem? (i := 93) (by decide +kernel), rfl⟩
theorem w_94 : Cond.initialized "java/lang/StringBuilder" ∈ k_TBL := List.mem_filter.mpr ⟨List.mem_of_getElem? (i := 94) (by decide +kernel), rfl⟩
theorem w_95 : Cond.initialized "java/lang/String" ∈ k_TBL := List.mem_filter.mpr ⟨List.mem_of_getElem? (i := 95) (by decide +kernel), rfl⟩
theorem w_96 : Cond.initialized "java/lang/StringUTF16" ∈ k_TBL := List.mem_filter.mpr ⟨List.mem_of_getElem? (i := 96) (by decide +kernel), rfl⟩
theorem w_97 : Cond.initialized "OptionBlockPlannerModel" ∈ k_TBL := List.mem_filter.mpr ⟨List.mem_of_getElem? (i := 97) (by decide +kernel), rfl⟩
theorem w_98 : Cond.initialized "java/lang/Number" ∈ k_TBL := List.mem_filter.mpr ⟨List.mem_of_getElem? (i := 98) (by decide +kernel), rfl⟩
theorem w_99 : Cond.initialized "java/lang/Integer" ∈ k_TBL := List.mem_filter.mpr ⟨List.mem_of_getElem? (i := 99) (by decide +kernel), rfl⟩
theorem w_100 : Cond.initialized "java/lang/Throwable" ∈ k_TBL := List.mem_filter.mpr ⟨List.mem_of_getElem? (i := 100) (by decide +kernel), rfl⟩
theorem w_101 : Cond.initialized "java/lang/Exception" ∈ k_TBL := List.mem_filter.mpr ⟨List.mem_of_getElem? (i := 101) (by decide +kernel), rfl⟩
theorem w_102 : Cond.initialized "java/lang/RuntimeException" ∈ k_TBL := List.mem_filter.mpr ⟨List.mem_of_getElem? (i := 102) (by decide +kernel), rfl⟩
theorem w_103 : Cond.initialized "java/lang/IndexOutOfBoundsException" ∈ k_TBL := List.mem_filter.mpr ⟨List.mem_of_getElem? (i := 103) (by decide +kernel), rfl⟩
theorem w_104 : Cond.initialized "java/lang/IllegalArgumentException" ∈ k_TBL := List.mem_filter.mpr ⟨List.mem_of_getElem? (i := 104) (by decide +kernel), rfl⟩
theorem w_105 : Cond.initialized "java/lang/IllegalStateException" ∈ k_TBL := List.mem_filter.mpr ⟨List.mem_of_getElem? (i := 105) (by decide +kernel), rfl⟩
theorem w_106 : Cond.initialized "java/lang/UnsupportedOperationException" ∈ k_TBL := List.mem_filter.mpr ⟨List.mem_of_getElem? (i := 106) (by decide +kernel), rfl⟩
theorem w_107 : Cond.initialized "java/lang/Math" ∈ k_TBL := List.mem_filter.mpr ⟨List.mem_of_getElem? (i := 107) (by decide +kernel), rfl⟩
theorem w_108 : Cond.initialized "java/lang/System" ∈ k_TBL := List.mem_filter.mpr ⟨List.mem_of_getElem? (i := 108) (by decide +kernel), rfl⟩
theorem w_109 : Cond.initialized "java/lang/ArrayIndexOutOfBoundsException" ∈ k_TBL := List.mem_filter.mpr ⟨List.mem_of_getElem? (i := 109) (by decide +kernel), rfl⟩
theorem w_110 : Cond.initialized "java/util/NoSuchElementException" ∈ k_TBL := List.mem_filter.mpr ⟨List.mem_of_getElem? (i := 110) (by decide +kernel), rfl⟩
theorem w_111 : Cond.initialized "java/lang/ArithmeticException" ∈ k_TBL := List.mem_filter.mpr ⟨List.mem_of_getElem? (i := 111) (by decide +kernel), rfl⟩
theorem w_112 : Cond.initialized "java/lang/StringIndexOutOfBoundsException" ∈ k_TBL := List.mem_filter.mpr ⟨List.mem_of_getElem? (i := 112) (by decide +kernel), rfl⟩
theorem w_113 : Cond.initialized "jdk/internal/util/ArraysSupport" ∈ k_TBL := List.mem_filter.mpr ⟨List.mem_of_getElem? (i := 113) (by decide +kernel), rfl⟩
theorem w_114 : Cond.initialized "java/util/Arrays" ∈ k_TBL := List.mem_filter.mpr ⟨List.mem_of_getElem? (i := 114) (by decide +kernel), rfl⟩
theorem w_115 : Cond.initialized "jdk/internal/util/Preconditions" ∈ k_TBL := List.mem_filter.mpr ⟨List.mem_of_getElem? (i := 115) (by decide +kernel), rfl⟩
theorem w_116 : Cond.initialized "java/lang/StringLatin1" ∈ k_TBL := List.mem_filter.mpr ⟨List.mem_of_getElem? (i := 116) (by decide +kernel), rfl⟩
theorem w_117 : Cond.classLink "OptionBlockPlannerLaw" 8 "OptionBlockPlanner" ∈ k_TBL := List.mem_filter.mpr ⟨List.mem_of_getElem? (i := 117) (by decide +kernel), rfl⟩
theorem w_118 : Cond.instantiable "OptionBlockPlanner" 14 ∈ k_TBL := List.mem_filter.mpr ⟨List.mem_of_getElem? (i := 118) (by decide +kernel), rfl⟩
theorem w_119 : Cond.methodLink "OptionBlockPlannerLaw" 165 yX7_init ∈ k_TBL := List.mem_filter.mpr ⟨List.mem_of_getElem? (i := 119) (by decide +kernel), rfl⟩
theorem w_120 : Cond.instanceMethod yX7_init ∈ k_TBL := List.mem_filter.mpr ⟨List.mem_of_getElem? (i := 120) (by decide +kernel), rfl⟩
theorem w_122 : Cond.methodLink "OptionBlockPlanner" 3 ⟨"java/lang/Object", "<init>", "()V"⟩ ∈ k_TBL := List.mem_filter.mpr ⟨List.mem_of_getElem? (i := 122) (by decide +kernel), rfl⟩
theorem w_123 : Cond.instanceMethod ⟨"java/lang/Object", "<init>", "()V"⟩ ∈ k_TBL := List.mem_filter.mpr ⟨List.mem_of_getElem? (i := 123) (by decide +kernel), rfl⟩
theorem w_125 : Cond.classLink "OptionBlockPlanner" 9 "OptionBlockPlanner$Plan" ∈ k_TBL := List.mem_filter.mpr ⟨List.mem_of_getElem? (i := 125) (by decide +kernel), rfl⟩
theorem w_126 : Cond.instantiable "OptionBlockPlanner$Plan" 12 ∈ k_TBL := List.mem_filter.mpr ⟨List.mem_of_getElem? (i := 126) (by decide +kernel), rfl⟩
theorem w_127 : Cond.methodLink "OptionBlockPlanner" 11 yX5_init ∈ k_TBL := List.mem_filter.mpr ⟨List.mem_of_getElem? (i := 127) (by decide +kernel), rfl⟩
theorem w_128 : Cond.instanceMethod yX5_init ∈ k_TBL := List.mem_filter.mpr ⟨List.mem_of_getElem? (i := 128) (by decide +kernel), rfl⟩
theorem w_130 : Cond.methodLink "OptionBlockPlanner$Plan" 3 ⟨"java/lang/Object", "<init>", "()V"⟩ ∈ k_TBL := List.mem_filter.mpr ⟨List.mem_of_getElem? (i := 130) (by decide +kernel), rfl⟩
theorem w_131 : Cond.fieldLink "OptionBlockPlanner$Plan" 43 "OptionBlockPlanner$Plan" "subjects" "I" ∈ k_TBL := List.mem_filter.mpr ⟨List.mem_of_getElem? (i := 131) (by decide +kernel), rfl⟩
theorem w_132 : Cond.fieldLinkNest "OptionBlockPlanner" 103 "OptionBlockPlanner$Plan" "subjects" "I" "OptionBlockPlanner" ∈ k_NW := List.mem_filter.mpr ⟨List.mem_of_getElem? (i := 132) (by decide +kernel), rfl⟩
theorem w_133 : Cond.fieldLinkNest "OptionBlockPlanner$Arrangements" 50 "OptionBlockPlanner$Plan" "subjects" "I" "OptionBlockPlanner" ∈ k_NW := List.mem_filter.mpr ⟨List.mem_of_getElem? (i := 133) (by decide +kernel), rfl⟩
theorem w_134 : Cond.fieldLinkNest "OptionBlockPlanner$Changes" 121 "OptionBlockPlanner$Plan" "subjects" "I" "OptionBlockPlanner" ∈ k_NW := List.mem_filter.mpr ⟨List.mem_of_getElem? (i := 134) (by decide +kernel), rfl⟩
theorem w_135 : Cond.fieldLink "OptionBlockPlanner$Plan" 9 "OptionBlockPlanner$Plan" "blocks" "I" ∈ k_TBL := List.mem_filter.mpr ⟨List.mem_of_getElem? (i := 135) (by decide +kernel), rfl⟩
theorem w_136 : Cond.fieldLinkNest "OptionBlockPlanner" 122 "OptionBlockPlanner$Plan" "blocks" "I" "OptionBlockPlanner" ∈ k_NW := List.mem_filter.mpr ⟨List.mem_of_getElem? (i := 136) (by decide +kernel), rfl⟩
theorem w_137 : Cond.fieldLinkNest "OptionBlockPlanner$Arrangements" 89 "OptionBlockPlanner$Plan" "blocks" "I" "OptionBlockPlanner" ∈ k_NW := List.mem_filter.mpr ⟨List.mem_of_getElem? (i := 137) (by decide +kernel), rfl⟩
theorem w_138 : Cond.fieldLink "OptionBlockPlanner$Plan" 46 "OptionBlockPlanner$Plan" "pupils" "I" ∈ k_TBL := List.mem_filter.mpr ⟨List.mem_of_getElem? (i := 138) (by decide +kernel), rfl⟩
theorem w_139 : Cond.fieldLinkNest "OptionBlockPlanner$Changes" 45 "OptionBlockPlanner$Plan" "pupils" "I" "OptionBlockPlanner" ∈ k_NW := List.mem_filter.mpr ⟨List.mem_of_getElem? (i := 139) (by decide +kernel), rfl⟩
theorem w_140 : Cond.fieldLinkNest "OptionBlockPlanner$Arrangements" 67 "OptionBlockPlanner$Plan" "pupils" "I" "OptionBlockPlanner" ∈ k_NW := List.mem_filter.mpr ⟨List.mem_of_getElem? (i := 140) (by decide +kernel), rfl⟩
theorem w_141 : Cond.fieldLinkNest "OptionBlockPlanner" 150 "OptionBlockPlanner$Plan" "pupils" "I" "OptionBlockPlanner" ∈ k_NW := List.mem_filter.mpr ⟨List.mem_of_getElem? (i := 141) (by decide +kernel), rfl⟩
theorem w_142 : Cond.fieldLink "OptionBlockPlanner$Plan" 15 "OptionBlockPlanner$Plan" "sizes" "[I" ∈ k_TBL := List.mem_filter.mpr ⟨List.mem_of_getElem? (i := 142) (by decide +kernel), rfl⟩
theorem w_143 : Cond.fieldLinkNest "OptionBlockPlanner" 114 "OptionBlockPlanner$Plan" "sizes" "[I" "OptionBlockPlanner" ∈ k_NW := List.mem_filter.mpr ⟨List.mem_of_getElem? (i := 143) (by decide +kernel), rfl⟩
theorem w_144 : Cond.fieldLink "OptionBlockPlanner$Plan" 19 "OptionBlockPlanner$Plan" "openSets" "[I" ∈ k_TBL := List.mem_filter.mpr ⟨List.mem_of_getElem? (i := 144) (by decide +kernel), rfl⟩
theorem w_145 : Cond.fieldLink "OptionBlockPlanner$Plan" 22 "OptionBlockPlanner$Plan" "rosters" "[I" ∈ k_TBL := List.mem_filter.mpr ⟨List.mem_of_getElem? (i := 145) (by decide +kernel), rfl⟩
theorem w_146 : Cond.fieldLink "OptionBlockPlanner$Plan" 25 "OptionBlockPlanner$Plan" "wishCounts" "[I" ∈ k_TBL := List.mem_filter.mpr ⟨List.mem_of_getElem? (i := 146) (by decide +kernel), rfl⟩
theorem w_147 : Cond.fieldLinkNest "OptionBlockPlanner$Placements" 33 "OptionBlockPlanner$Plan" "wishCounts" "[I" "OptionBlockPlanner" ∈ k_NW := List.mem_filter.mpr ⟨List.mem_of_getElem? (i := 147) (by decide +kernel), rfl⟩
theorem w_148 : Cond.fieldLinkNest "OptionBlockPlanner$Changes" 137 "OptionBlockPlanner$Plan" "wishCounts" "[I" "OptionBlockPlanner" ∈ k_NW := List.mem_filter.mpr ⟨List.mem_of_getElem? (i := 148) (by decide +kernel), rfl⟩
theorem w_149 : Cond.fieldLinkNest "OptionBlockPlanner" 156 "OptionBlockPlanner$Plan" "wishCounts" "[I" "OptionBlockPlanner" ∈ k_NW := List.mem_filter.mpr ⟨List.mem_of_getElem? (i := 149) (by decide +kernel), rfl⟩
theorem w_150 : Cond.fieldLink "OptionBlockPlanner$Plan" 28 "OptionBlockPlanner$Plan" "wishes" "[I" ∈ k_TBL := List.mem_filter.mpr ⟨List.mem_of_getElem? (i := 150) (by decide +kernel), rfl⟩
theorem w_151 : Cond.fieldLink "OptionBlockPlanner$Plan" 31 "OptionBlockPlanner$Plan" "reserves" "[I" ∈ k_TBL := List.mem_filter.mpr ⟨List.mem_of_getElem? (i := 151) (by decide +kernel), rfl⟩
theorem w_152 : Cond.fieldLinkNest "OptionBlockPlanner$Placements" 50 "OptionBlockPlanner$Plan" "reserves" "[I" "OptionBlockPlanner" ∈ k_NW := List.mem_filter.mpr ⟨List.mem_of_getElem? (i := 152) (by decide +kernel), rfl⟩
theorem w_153 : Cond.fieldLinkNest "OptionBlockPlanner$Changes" 148 "OptionBlockPlanner$Plan" "reserves" "[I" "OptionBlockPlanner" ∈ k_NW := List.mem_filter.mpr ⟨List.mem_of_getElem? (i := 153) (by decide +kernel), rfl⟩
theorem w_154 : Cond.fieldLinkNest "OptionBlockPlanner" 162 "OptionBlockPlanner$Plan" "reserves" "[I" "OptionBlockPlanner" ∈ k_NW := List.mem_filter.mpr ⟨List.mem_of_getElem? (i := 154) (by decide +kernel), rfl⟩
theorem w_155 : Cond.fieldLink "OptionBlockPlanner$Plan" 34 "OptionBlockPlanner$Plan" "chainLength" "I" ∈ k_TBL := List.mem_filter.mpr ⟨List.mem_of_getElem? (i := 155) (by decide +kernel), rfl⟩
theorem w_156 : Cond.fieldLinkNest "OptionBlockPlanner" 230 "OptionBlockPlanner$Plan" "chainLength" "I" "OptionBlockPlanner" ∈ k_NW := List.mem_filter.mpr ⟨List.mem_of_getElem? (i := 156) (by decide +kernel), rfl⟩
theorem w_157 : Cond.fieldLink "OptionBlockPlanner$Plan" 37 "OptionBlockPlanner$Plan" "chainPupils" "[I" ∈ k_TBL := List.mem_filter.mpr ⟨List.mem_of_getElem? (i := 157) (by decide +kernel), rfl⟩
theorem w_158 : Cond.fieldLinkNest "OptionBlockPlanner" 233 "OptionBlockPlanner$Plan" "chainPupils" "[I" "OptionBlockPlanner" ∈ k_NW := List.mem_filter.mpr ⟨List.mem_of_getElem? (i := 158) (by decide +kernel), rfl⟩
theorem w_159 : Cond.fieldLink "OptionBlockPlanner$Plan" 40 "OptionBlockPlanner$Plan" "chainBlocks" "[I" ∈ k_TBL := List.mem_filter.mpr ⟨List.mem_of_getElem? (i := 159) (by decide +kernel), rfl⟩
theorem w_160 : Cond.fieldLinkNest "OptionBlockPlanner" 236 "OptionBlockPlanner$Plan" "chainBlocks" "[I" "OptionBlockPlanner" ∈ k_NW := List.mem_filter.mpr ⟨List.mem_of_getElem? (i := 160) (by decide +kernel), rfl⟩
theorem w_186 : Cond.arrayClass .int ∈ k_TBL := List.mem_filter.mpr ⟨List.mem_of_getElem? (i := 186) (by decide +kernel), rfl⟩
theorem w_187 : Cond.classLink "OptionBlockPlanner" 16 "OptionBlockPlanner$Placements" ∈ k_TBL := List.mem_filter.mpr ⟨List.mem_of_getElem? (i := 187) (by decide +kernel), rfl⟩
theorem w_188 : Cond.instantiable "OptionBlockPlanner$Placements" 6 ∈ k_TBL := List.mem_filter.mpr ⟨List.mem_of_getElem? (i := 188) (by decide +kernel), rfl⟩
theorem w_189 : Cond.methodLink "OptionBlockPlanner" 18 yX4_init ∈ k_TBL := List.mem_filter.mpr ⟨List.mem_of_getElem? (i := 189) (by decide +kernel), rfl⟩
theorem w_190 : Cond.instanceMethod yX4_init ∈ k_TBL := List.mem_filter.mpr ⟨List.mem_of_getElem? (i := 190) (by decide +kernel), rfl⟩
theorem w_192 : Cond.methodLink "OptionBlockPlanner$Placements" 3 ⟨"java/lang/Object", "<init>", "()V"⟩ ∈ k_TBL := List.mem_filter.mpr ⟨List.mem_of_getElem? (i := 192) (by decide +kernel), rfl⟩
theorem w_193 : Cond.fieldLink "OptionBlockPlanner$Placements" 9 "OptionBlockPlanner$Placements" "plan" "LOptionBlockPlanner$Plan;" ∈ k_TBL := List.mem_filter.mpr ⟨List.mem_of_getElem? (i := 193) (by decide +kernel), rfl⟩
theorem w_194 : Cond.fieldLink "OptionBlockPlanner$Placements" 15 "OptionBlockPlanner$Placements" "usable" "[I" ∈ k_TBL := List.mem_filter.mpr ⟨List.mem_of_getElem? (i := 194) (by decide +kernel), rfl⟩
theorem w_195 : Cond.fieldLink "OptionBlockPlanner$Placements" 19 "OptionBlockPlanner$Placements" "tried" "[I" ∈ k_TBL := List.mem_filter.mpr ⟨List.mem_of_getElem? (i := 195) (by decide +kernel), rfl⟩
theorem w_196 : Cond.fieldLink "OptionBlockPlanner$Placements" 22 "OptionBlockPlanner$Placements" "best" "[I" ∈ k_TBL := List.mem_filter.mpr ⟨List.mem_of_getElem? (i := 196) (by decide +kernel), rfl⟩
theorem w_197 : Cond.fieldLink "OptionBlockPlanner$Placements" 78 "OptionBlockPlanner$Placements" "fullScore" "I" ∈ k_TBL := List.mem_filter.mpr ⟨List.mem_of_getElem? (i := 197) (by decide +kernel), rfl⟩
theorem w_198 : Cond.fieldLink "OptionBlockPlanner$Placements" 95 "OptionBlockPlanner$Placements" "bestScore" "I" ∈ k_TBL := List.mem_filter.mpr ⟨List.mem_of_getElem? (i := 198) (by decide +kernel), rfl⟩
theorem w_212 : Cond.classLink "OptionBlockPlanner" 25 "OptionBlockPlanner$Chains" ∈ k_TBL := List.mem_filter.mpr ⟨List.mem_of_getElem? (i := 212) (by decide +kernel), rfl⟩
theorem w_213 : Cond.instantiable "OptionBlockPlanner$Chains" 4 ∈ k_TBL := List.mem_filter.mpr ⟨List.mem_of_getElem? (i := 213) (by decide +kernel), rfl⟩
theorem w_214 : Cond.methodLink "OptionBlockPlanner" 27 yX1_init ∈ k_TBL := List.mem_filter.mpr ⟨List.mem_of_getElem? (i := 214) (by decide +kernel), rfl⟩
theorem w_215 : Cond.instanceMethod yX1_init ∈ k_TBL := List.mem_filter.mpr ⟨List.mem_of_getElem? (i := 215) (by decide +kernel), rfl⟩
theorem w_217 : Cond.methodLink "OptionBlockPlanner$Chains" 3 ⟨"java/lang/Object", "<init>", "()V"⟩ ∈ k_TBL := List.mem_filter.mpr ⟨List.mem_of_getElem? (i := 217) (by decide +kernel), rfl⟩
theorem w_218 : Cond.fieldLink "OptionBlockPlanner$Chains" 9 "OptionBlockPlanner$Chains" "plan" "LOptionBlockPlanner$Plan;" ∈ k_TBL := List.mem_filter.mpr ⟨List.mem_of_getElem? (i := 218) (by decide +kernel), rfl⟩
theorem w_219 : Cond.fieldLink "OptionBlockPlanner$Chains" 15 "OptionBlockPlanner$Chains" "rosters" "[I" ∈ k_TBL := List.mem_filter.mpr ⟨List.mem_of_getElem? (i := 219) (by decide +kernel), rfl⟩
theorem w_220 : Cond.fieldLink "OptionBlockPlanner$Chains" 19 "OptionBlockPlanner$Chains" "busy" "[I" ∈ k_TBL := List.mem_filter.mpr ⟨List.mem_of_getElem? (i := 220) (by decide +kernel), rfl⟩
theorem w_221 : Cond.fieldLink "OptionBlockPlanner$Chains" 22 "OptionBlockPlanner$Chains" "distances" "[I" ∈ k_TBL := List.mem_filter.mpr ⟨List.mem_of_getElem? (i := 221) (by decide +kernel), rfl⟩
theorem w_231 : Cond.classLink "OptionBlockPlanner" 32 "OptionBlockPlanner$Arrangements" ∈ k_TBL := List.mem_filter.mpr ⟨List.mem_of_getElem? (i := 231) (by decide +kernel), rfl⟩
theorem w_232 : Cond.instantiable "OptionBlockPlanner$Arrangements" 6 ∈ k_TBL := List.mem_filter.mpr ⟨List.mem_of_getElem? (i := 232) (by decide +kernel), rfl⟩
theorem w_233 : Cond.methodLink "OptionBlockPlanner" 34 yX0_init ∈ k_TBL := List.mem_filter.mpr ⟨List.mem_of_getElem? (i := 233) (by decide +kernel), rfl⟩
theorem w_234 : Cond.instanceMethod yX0_init ∈ k_TBL := List.mem_filter.mpr ⟨List.mem_of_getElem? (i := 234) (by decide +kernel), rfl⟩
theorem w_236 : Cond.methodLink "OptionBlockPlanner$Arrangements" 3 ⟨"java/lang/Object", "<init>", "()V"⟩ ∈ k_TBL := List.mem_filter.mpr ⟨List.mem_of_getElem? (i := 236) (by decide +kernel), rfl⟩
theorem w_237 : Cond.fieldLink "OptionBlockPlanner$Arrangements" 9 "OptionBlockPlanner$Arrangements" "plan" "LOptionBlockPlanner$Plan;" ∈ k_TBL := List.mem_filter.mpr ⟨List.mem_of_getElem? (i := 237) (by decide +kernel), rfl⟩
theorem w_238 : Cond.fieldLink "OptionBlockPlanner$Arrangements" 15 "OptionBlockPlanner$Arrangements" "common" "[I" ∈ k_TBL := List.mem_filter.mpr ⟨List.mem_of_getElem? (i := 238) (by decide +kernel), rfl⟩
theorem w_239 : Cond.fieldLink "OptionBlockPlanner$Arrangements" 19 "OptionBlockPlanner$Arrangements" "tried" "[I" ∈ k_TBL := List.mem_filter.mpr ⟨List.mem_of_getElem? (i := 239) (by decide +kernel), rfl⟩
theorem w_240 : Cond.fieldLink "OptionBlockPlanner$Arrangements" 22 "OptionBlockPlanner$Arrangements" "best" "[I" ∈ k_TBL := List.mem_filter.mpr ⟨List.mem_of_getElem? (i := 240) (by decide +kernel), rfl⟩
theorem w_241 : Cond.fieldLink "OptionBlockPlanner$Arrangements" 25 "OptionBlockPlanner$Arrangements" "added" "[I" ∈ k_TBL := List.mem_filter.mpr ⟨List.mem_of_getElem? (i := 241) (by decide +kernel), rfl⟩
theorem w_242 : Cond.fieldLink "OptionBlockPlanner$Arrangements" 34 "OptionBlockPlanner$Arrangements" "fewest" "I" ∈ k_TBL := List.mem_filter.mpr ⟨List.mem_of_getElem? (i := 242) (by decide +kernel), rfl⟩
theorem w_256 : Cond.classLink "OptionBlockPlanner" 39 "OptionBlockPlanner$Changes" ∈ k_TBL := List.mem_filter.mpr ⟨List.mem_of_getElem? (i := 256) (by decide +kernel), rfl⟩
theorem w_257 : Cond.instantiable "OptionBlockPlanner$Changes" 5 ∈ k_TBL := List.mem_filter.mpr ⟨List.mem_of_getElem? (i := 257) (by decide +kernel), rfl⟩
theorem w_258 : Cond.methodLink "OptionBlockPlanner" 41 yX2_init ∈ k_TBL := List.mem_filter.mpr ⟨List.mem_of_getElem? (i := 258) (by decide +kernel), rfl⟩
theorem w_259 : Cond.instanceMethod yX2_init ∈ k_TBL := List.mem_filter.mpr ⟨List.mem_of_getElem? (i := 259) (by decide +kernel), rfl⟩
theorem w_261 : Cond.methodLink "OptionBlockPlanner$Changes" 3 ⟨"java/lang/Object", "<init>", "()V"⟩ ∈ k_TBL := List.mem_filter.mpr ⟨List.mem_of_getElem? (i := 261) (by decide +kernel), rfl⟩
theorem w_262 : Cond.fieldLink "OptionBlockPlanner$Changes" 9 "OptionBlockPlanner$Changes" "plan" "LOptionBlockPlanner$Plan;" ∈ k_TBL := List.mem_filter.mpr ⟨List.mem_of_getElem? (i := 262) (by decide +kernel), rfl⟩
theorem w_263 : Cond.fieldLink "OptionBlockPlanner$Changes" 15 "OptionBlockPlanner$Changes" "placements" "LOptionBlockPlanner$Placements;" ∈ k_TBL := List.mem_filter.mpr ⟨List.mem_of_getElem? (i := 263) (by decide +kernel), rfl⟩
theorem w_264 : Cond.fieldLink "OptionBlockPlanner$Changes" 19 "OptionBlockPlanner$Changes" "chains" "LOptionBlockPlanner$Chains;" ∈ k_TBL := List.mem_filter.mpr ⟨List.mem_of_getElem? (i := 264) (by decide +kernel), rfl⟩
theorem w_265 : Cond.fieldLink "OptionBlockPlanner$Changes" 23 "OptionBlockPlanner$Changes" "arrangements" "LOptionBlockPlanner$Arrangements;" ∈ k_TBL := List.mem_filter.mpr ⟨List.mem_of_getElem? (i := 265) (by decide +kernel), rfl⟩
theorem w_266 : Cond.fieldLink "OptionBlockPlanner$Changes" 27 "OptionBlockPlanner$Changes" "lastRefusal" "I" ∈ k_TBL := List.mem_filter.mpr ⟨List.mem_of_getElem? (i := 266) (by decide +kernel), rfl⟩
theorem w_267 : Cond.fieldLinkNest "OptionBlockPlanner" 227 "OptionBlockPlanner$Changes" "lastRefusal" "I" "OptionBlockPlanner" ∈ k_NW := List.mem_filter.mpr ⟨List.mem_of_getElem? (i := 267) (by decide +kernel), rfl⟩
theorem w_279 : Cond.classLink "OptionBlockPlanner" 48 "OptionBlockPlanner$History" ∈ k_TBL := List.mem_filter.mpr ⟨List.mem_of_getElem? (i := 279) (by decide +kernel), rfl⟩
theorem w_280 : Cond.instantiable "OptionBlockPlanner$History" 3 ∈ k_TBL := List.mem_filter.mpr ⟨List.mem_of_getElem? (i := 280) (by decide +kernel), rfl⟩
theorem w_281 : Cond.methodLink "OptionBlockPlanner" 50 yX3_init ∈ k_TBL := List.mem_filter.mpr ⟨List.mem_of_getElem? (i := 281) (by decide +kernel), rfl⟩
theorem w_282 : Cond.instanceMethod yX3_init ∈ k_TBL := List.mem_filter.mpr ⟨List.mem_of_getElem? (i := 282) (by decide +kernel), rfl⟩
theorem w_284 : Cond.methodLink "OptionBlockPlanner$History" 3 ⟨"java/lang/Object", "<init>", "()V"⟩ ∈ k_TBL := List.mem_filter.mpr ⟨List.mem_of_getElem? (i := 284) (by decide +kernel), rfl⟩
theorem w_285 : Cond.classLink "OptionBlockPlanner$History" 9 "OptionBlockPlanner$Plan" ∈ k_TBL := List.mem_filter.mpr ⟨List.mem_of_getElem? (i := 285) (by decide +kernel), rfl⟩
theorem w_287 : Cond.methodLink "OptionBlockPlanner$History" 17 yX5_init ∈ k_TBL := List.mem_filter.mpr ⟨List.mem_of_getElem? (i := 287) (by decide +kernel), rfl⟩
theorem w_288 : Cond.fieldLink "OptionBlockPlanner$History" 11 "OptionBlockPlanner$History" "kept" "[LOptionBlockPlanner$Plan;" ∈ k_TBL := List.mem_filter.mpr ⟨List.mem_of_getElem? (i := 288) (by decide +kernel), rfl⟩
theorem w_289 : Cond.fieldLink "OptionBlockPlanner$History" 18 "OptionBlockPlanner$History" "next" "I" ∈ k_TBL := List.mem_filter.mpr ⟨List.mem_of_getElem? (i := 289) (by decide +kernel), rfl⟩
theorem w_290 : Cond.fieldLink "OptionBlockPlanner$History" 30 "OptionBlockPlanner$History" "count" "I" ∈ k_TBL := List.mem_filter.mpr ⟨List.mem_of_getElem? (i := 290) (by decide +kernel), rfl⟩
theorem w_291 : Cond.fieldLinkNest "OptionBlockPlanner" 313 "OptionBlockPlanner$History" "count" "I" "OptionBlockPlanner" ∈ k_NW := List.mem_filter.mpr ⟨List.mem_of_getElem? (i := 291) (by decide +kernel), rfl⟩
theorem w_299 : Cond.classLink "OptionBlockPlanner" 61 "OptionBlockPlanner$Program" ∈ k_TBL := List.mem_filter.mpr ⟨List.mem_of_getElem? (i := 299) (by decide +kernel), rfl⟩
theorem w_300 : Cond.instantiable "OptionBlockPlanner$Program" 5 ∈ k_TBL := List.mem_filter.mpr ⟨List.mem_of_getElem? (i := 300) (by decide +kernel), rfl⟩
theorem w_301 : Cond.methodLink "OptionBlockPlanner" 63 yX6_init ∈ k_TBL := List.mem_filter.mpr ⟨List.mem_of_getElem? (i := 301) (by decide +kernel), rfl⟩
theorem w_302 : Cond.instanceMethod yX6_init ∈ k_TBL := List.mem_filter.mpr ⟨List.mem_of_getElem? (i := 302) (by decide +kernel), rfl⟩
theorem w_304 : Cond.methodLink "OptionBlockPlanner$Program" 3 ⟨"java/lang/Object", "<init>", "()V"⟩ ∈ k_TBL := List.mem_filter.mpr ⟨List.mem_of_getElem? (i := 304) (by decide +kernel), rfl⟩
theorem w_305 : Cond.classLink "OptionBlockPlanner$Program" 9 "java/lang/StringBuilder" ∈ k_TBL := List.mem_filter.mpr ⟨List.mem_of_getElem? (i := 305) (by decide +kernel), rfl⟩
theorem w_306 : Cond.instantiable "java/lang/StringBuilder" 4 ∈ k_TBL := List.mem_filter.mpr ⟨List.mem_of_getElem? (i := 306) (by decide +kernel), rfl⟩
theorem w_307 : Cond.methodLink "OptionBlockPlanner$Program" 11 yJ4_init_da8c8 ∈ k_TBL := List.mem_filter.mpr ⟨List.mem_of_getElem? (i := 307) (by decide +kernel), rfl⟩
theorem w_308 : Cond.instanceMethod yJ4_init_da8c8 ∈ k_TBL := List.mem_filter.mpr ⟨List.mem_of_getElem? (i := 308) (by decide +kernel), rfl⟩
theorem w_310 : Cond.methodLink "java/lang/StringBuilder" 1 yJ5_init_d00df ∈ k_TBL := List.mem_filter.mpr ⟨List.mem_of_getElem? (i := 310) (by decide +kernel), rfl⟩
theorem w_311 : Cond.instanceMethod yJ5_init_d00df ∈ k_TBL := List.mem_filter.mpr ⟨List.mem_of_getElem? (i := 311) (by decide +kernel), rfl⟩
theorem w_313 : Cond.methodLink "java/lang/AbstractStringBuilder" 3 ⟨"java/lang/Object", "<init>", "()V"⟩ ∈ k_TBL := List.mem_filter.mpr ⟨List.mem_of_getElem? (i := 313) (by decide +kernel), rfl⟩
theorem w_314 : Cond.fieldLink "java/lang/AbstractStringBuilder" 18 "java/lang/String" "COMPACT_STRINGS" "Z" ∈ k_TBL := List.mem_filter.mpr ⟨List.mem_of_getElem? (i := 314) (by decide +kernel), rfl⟩
theorem w_316 : Cond.methodLink "java/lang/AbstractStringBuilder" 26 yJ2_newBytesFor_77867 ∈ k_TBL := List.mem_filter.mpr ⟨List.mem_of_getElem? (i := 316) (by decide +kernel), rfl⟩
theorem w_317 : Cond.static yJ2_newBytesFor_77867 ∈ k_TBL := List.mem_filter.mpr ⟨List.mem_of_getElem? (i := 317) (by decide +kernel), rfl⟩
theorem w_319 : Cond.methodLink "java/lang/StringUTF16" 11 yJ2_newBytesLength_0f7a4 ∈ k_TBL := List.mem_filter.mpr ⟨List.mem_of_getElem? (i := 319) (by decide +kernel), rfl⟩
theorem w_320 : Cond.static yJ2_newBytesLength_0f7a4 ∈ k_TBL := List.mem_filter.mpr ⟨List.mem_of_getElem? (i := 320) (by decide +kernel), rfl⟩
theorem w_323 : Cond.fieldLink "java/lang/AbstractStringBuilder" 15 "java/lang/AbstractStringBuilder" "value" "[B" ∈ k_TBL := List.mem_filter.mpr ⟨List.mem_of_getElem? (i := 323) (by decide +kernel), rfl⟩
theorem w_324 : Cond.fieldLink "java/lang/AbstractStringBuilder" 22 "java/lang/AbstractStringBuilder" "coder" "B" ∈ k_TBL := List.mem_filter.mpr ⟨List.mem_of_getElem? (i := 324) (by decide +kernel), rfl⟩
theorem w_325 : Cond.fieldLink "java/lang/AbstractStringBuilder" 73 "java/lang/AbstractStringBuilder" "maybeLatin1" "Z" ∈ k_TBL := List.mem_filter.mpr ⟨List.mem_of_getElem? (i := 325) (by decide +kernel), rfl⟩
theorem w_326 : Cond.fieldLink "java/lang/String" 1048 "java/lang/AbstractStringBuilder" "maybeLatin1" "Z" ∈ k_TBL := List.mem_filter.mpr ⟨List.mem_of_getElem? (i := 326) (by decide +kernel), rfl⟩
theorem w_327 : Cond.fieldLink "java/lang/AbstractStringBuilder" 79 "java/lang/AbstractStringBuilder" "count" "I" ∈ k_TBL := List.mem_filter.mpr ⟨List.mem_of_getElem? (i := 327) (by decide +kernel), rfl⟩
theorem w_337 : Cond.arrayClass .byte ∈ k_TBL := List.mem_filter.mpr ⟨List.mem_of_getElem? (i := 337) (by decide +kernel), rfl⟩
theorem w_338 : Cond.fieldLink "OptionBlockPlanner$Program" 12 "OptionBlockPlanner$Program" "text" "Ljava/lang/StringBuilder;" ∈ k_TBL := List.mem_filter.mpr ⟨List.mem_of_getElem? (i := 338) (by decide +kernel), rfl⟩
theorem w_339 : Cond.fieldLinkNest "OptionBlockPlanner" 280 "OptionBlockPlanner$Program" "text" "Ljava/lang/StringBuilder;" "OptionBlockPlanner" ∈ k_NW := List.mem_filter.mpr ⟨List.mem_of_getElem? (i := 339) (by decide +kernel), rfl⟩
theorem w_340 : Cond.fieldLink "OptionBlockPlanner$Program" 18 "OptionBlockPlanner$Program" "modifications" "[I" ∈ k_TBL := List.mem_filter.mpr ⟨List.mem_of_getElem? (i := 340) (by decide +kernel), rfl⟩
theorem w_341 : Cond.fieldLink "OptionBlockPlanner$Program" 22 "OptionBlockPlanner$Program" "numbers" "[I" ∈ k_TBL := List.mem_filter.mpr ⟨List.mem_of_getElem? (i := 341) (by decide +kernel), rfl⟩
theorem w_342 : Cond.fieldLink "OptionBlockPlanner$Program" 33 "OptionBlockPlanner$Program" "count" "I" ∈ k_TBL := List.mem_filter.mpr ⟨List.mem_of_getElem? (i := 342) (by decide +kernel), rfl⟩
theorem w_343 : Cond.fieldLinkNest "OptionBlockPlanner" 296 "OptionBlockPlanner$Program" "count" "I" "OptionBlockPlanner" ∈ k_NW := List.mem_filter.mpr ⟨List.mem_of_getElem? (i := 343) (by decide +kernel), rfl⟩
theorem w_344 : Cond.fieldLink "OptionBlockPlanner$Program" 29 "OptionBlockPlanner$Program" "at" "I" ∈ k_TBL := List.mem_filter.mpr ⟨List.mem_of_getElem? (i := 344) (by decide +kernel), rfl⟩
theorem w_356 : Cond.classLink "OptionBlockPlanner" 68 "java/lang/StringBuilder" ∈ k_TBL := List.mem_filter.mpr ⟨List.mem_of_getElem? (i := 356) (by decide +kernel), rfl⟩
theorem w_357 : Cond.methodLink "OptionBlockPlanner" 70 yJ4_init_da8c8 ∈ k_TBL := List.mem_filter.mpr ⟨List.mem_of_getElem? (i := 357) (by decide +kernel), rfl⟩
theorem w_358 : Cond.fieldLink "OptionBlockPlanner" 12 "OptionBlockPlanner" "plan" "LOptionBlockPlanner$Plan;" ∈ k_TBL := List.mem_filter.mpr ⟨List.mem_of_getElem? (i := 358) (by decide +kernel), rfl⟩
theorem w_359 : Cond.fieldLink "OptionBlockPlanner" 21 "OptionBlockPlanner" "placements" "LOptionBlockPlanner$Placements;" ∈ k_TBL := List.mem_filter.mpr ⟨List.mem_of_getElem? (i := 359) (by decide +kernel), rfl⟩
theorem w_360 : Cond.fieldLink "OptionBlockPlanner" 28 "OptionBlockPlanner" "chains" "LOptionBlockPlanner$Chains;" ∈ k_TBL := List.mem_filter.mpr ⟨List.mem_of_getElem? (i := 360) (by decide +kernel), rfl⟩
theorem w_361 : Cond.fieldLink "OptionBlockPlanner" 35 "OptionBlockPlanner" "arrangements" "LOptionBlockPlanner$Arrangements;" ∈ k_TBL := List.mem_filter.mpr ⟨List.mem_of_getElem? (i := 361) (by decide +kernel), rfl⟩
theorem w_362 : Cond.fieldLink "OptionBlockPlanner" 44 "OptionBlockPlanner" "changes" "LOptionBlockPlanner$Changes;" ∈ k_TBL := List.mem_filter.mpr ⟨List.mem_of_getElem? (i := 362) (by decide +kernel), rfl⟩
theorem w_363 : Cond.fieldLink "OptionBlockPlanner" 51 "OptionBlockPlanner" "history" "LOptionBlockPlanner$History;" ∈ k_TBL := List.mem_filter.mpr ⟨List.mem_of_getElem? (i := 363) (by decide +kernel), rfl⟩
theorem w_364 : Cond.fieldLink "OptionBlockPlanner" 55 "OptionBlockPlanner" "snapshot" "LOptionBlockPlanner$Plan;" ∈ k_TBL := List.mem_filter.mpr ⟨List.mem_of_getElem? (i := 364) (by decide +kernel), rfl⟩
theorem w_365 : Cond.fieldLink "OptionBlockPlanner" 58 "OptionBlockPlanner" "beforeProgram" "LOptionBlockPlanner$Plan;" ∈ k_TBL := List.mem_filter.mpr ⟨List.mem_of_getElem? (i := 365) (by decide +kernel), rfl⟩
theorem w_366 : Cond.fieldLink "OptionBlockPlanner" 64 "OptionBlockPlanner" "program" "LOptionBlockPlanner$Program;" ∈ k_TBL := List.mem_filter.mpr ⟨List.mem_of_getElem? (i := 366) (by decide +kernel), rfl⟩
theorem w_367 : Cond.fieldLink "OptionBlockPlanner" 71 "OptionBlockPlanner" "line" "Ljava/lang/StringBuilder;" ∈ k_TBL := List.mem_filter.mpr ⟨List.mem_of_getElem? (i := 367) (by decide +kernel), rfl⟩
theorem w_368 : Cond.fieldLink "OptionBlockPlanner" 319 "OptionBlockPlanner" "saved" "Z" ∈ k_TBL := List.mem_filter.mpr ⟨List.mem_of_getElem? (i := 368) (by decide +kernel), rfl⟩
theorem w_369 : Cond.fieldLink "OptionBlockPlanner" 75 "OptionBlockPlanner" "errorAt" "I" ∈ k_TBL := List.mem_filter.mpr ⟨List.mem_of_getElem? (i := 369) (by decide +kernel), rfl⟩
theorem w_370 : Cond.fieldLink "OptionBlockPlanner" 79 "OptionBlockPlanner" "failedAt" "I" ∈ k_TBL := List.mem_filter.mpr ⟨List.mem_of_getElem? (i := 370) (by decide +kernel), rfl⟩
theorem w_371 : Cond.fieldLink "OptionBlockPlanner" 82 "OptionBlockPlanner" "failure" "I" ∈ k_TBL := List.mem_filter.mpr ⟨List.mem_of_getElem? (i := 371) (by decide +kernel), rfl⟩
theorem w_401 : Cond.methodLink "OptionBlockPlannerLaw" 182 yX7_subjectCount ∈ k_TBL := List.mem_filter.mpr ⟨List.mem_of_getElem? (i := 401) (by decide +kernel), rfl⟩
theorem w_402 : Cond.instanceMethod yX7_subjectCount ∈ k_TBL := List.mem_filter.mpr ⟨List.mem_of_getElem? (i := 402) (by decide +kernel), rfl⟩
theorem w_403 : Cond.selects "OptionBlockPlanner" yX7_subjectCount yX7_subjectCount ∈ k_TBL := List.mem_filter.mpr ⟨List.mem_of_getElem? (i := 403) (by decide +kernel), rfl⟩
theorem w_405 : Cond.methodLink "OptionBlockPlannerLaw" 192 yX7_blockCount ∈ k_TBL := List.mem_filter.mpr ⟨List.mem_of_getElem? (i := 405) (by decide +kernel), rfl⟩
theorem w_406 : Cond.instanceMethod yX7_blockCount ∈ k_TBL := List.mem_filter.mpr ⟨List.mem_of_getElem? (i := 406) (by decide +kernel), rfl⟩
theorem w_407 : Cond.selects "OptionBlockPlanner" yX7_blockCount yX7_blockCount ∈ k_TBL := List.mem_filter.mpr ⟨List.mem_of_getElem? (i := 407) (by decide +kernel), rfl⟩
theorem w_409 : Cond.methodLink "OptionBlockPlannerLaw" 216 yX7_pupilCount ∈ k_TBL := List.mem_filter.mpr ⟨List.mem_of_getElem? (i := 409) (by decide +kernel), rfl⟩
theorem w_410 : Cond.instanceMethod yX7_pupilCount ∈ k_TBL := List.mem_filter.mpr ⟨List.mem_of_getElem? (i := 410) (by decide +kernel), rfl⟩
theorem w_411 : Cond.selects "OptionBlockPlanner" yX7_pupilCount yX7_pupilCount ∈ k_TBL := List.mem_filter.mpr ⟨List.mem_of_getElem? (i := 411) (by decide +kernel), rfl⟩
theorem w_413 : Cond.methodLink "OptionBlockPlannerLaw" 244 yX7_enrolAll ∈ k_TBL := List.mem_filter.mpr ⟨List.mem_of_getElem? (i := 413) (by decide +kernel), rfl⟩
theorem w_414 : Cond.instanceMethod yX7_enrolAll ∈ k_TBL := List.mem_filter.mpr ⟨List.mem_of_getElem? (i := 414) (by decide +kernel), rfl⟩
theorem w_415 : Cond.selects "OptionBlockPlanner" yX7_enrolAll yX7_enrolAll ∈ k_TBL := List.mem_filter.mpr ⟨List.mem_of_getElem? (i := 415) (by decide +kernel), rfl⟩
theorem w_417 : Cond.methodLink "OptionBlockPlanner" 97 yX3_keep ∈ k_TBL := List.mem_filter.mpr ⟨List.mem_of_getElem? (i := 417) (by decide +kernel), rfl⟩
theorem w_418 : Cond.instanceMethod yX3_keep ∈ k_TBL := List.mem_filter.mpr ⟨List.mem_of_getElem? (i := 418) (by decide +kernel), rfl⟩
theorem w_419 : Cond.selects "OptionBlockPlanner$History" yX3_keep yX3_keep ∈ k_TBL := List.mem_filter.mpr ⟨List.mem_of_getElem? (i := 419) (by decide +kernel), rfl⟩
theorem w_421 : Cond.methodLink "OptionBlockPlanner$History" 22 yX3_planIn ∈ k_TBL := List.mem_filter.mpr ⟨List.mem_of_getElem? (i := 421) (by decide +kernel), rfl⟩
theorem w_423 : Cond.instanceMethod yX3_planIn ∈ k_TBL := List.mem_filter.mpr ⟨List.mem_of_getElem? (i := 423) (by decide +kernel), rfl⟩
theorem w_425 : Cond.methodLink "OptionBlockPlanner$History" 26 yX5_copyFrom ∈ k_TBL := List.mem_filter.mpr ⟨List.mem_of_getElem? (i := 425) (by decide +kernel), rfl⟩
theorem w_426 : Cond.instanceMethod yX5_copyFrom ∈ k_TBL := List.mem_filter.mpr ⟨List.mem_of_getElem? (i := 426) (by decide +kernel), rfl⟩
theorem w_427 : Cond.selects "OptionBlockPlanner$Plan" yX5_copyFrom yX5_copyFrom ∈ k_TBL := List.mem_filter.mpr ⟨List.mem_of_getElem? (i := 427) (by decide +kernel), rfl⟩
theorem w_429 : Cond.methodLinkNest "OptionBlockPlanner$Plan" 49 yX7_copyRow "OptionBlockPlanner" ∈ k_NW := List.mem_filter.mpr ⟨List.mem_of_getElem? (i := 429) (by decide +kernel), rfl⟩
theorem w_430 : Cond.static yX7_copyRow ∈ k_TBL := List.mem_filter.mpr ⟨List.mem_of_getElem? (i := 430) (by decide +kernel), rfl⟩
theorem w_432 : Cond.methodLink "OptionBlockPlanner" 349 yJ9_min_7cf53 ∈ k_TBL := List.mem_filter.mpr ⟨List.mem_of_getElem? (i := 432) (by decide +kernel), rfl⟩
theorem w_433 : Cond.static yJ9_min_7cf53 ∈ k_TBL := List.mem_filter.mpr ⟨List.mem_of_getElem? (i := 433) (by decide +kernel), rfl⟩
theorem w_435 : Cond.methodLink "OptionBlockPlanner" 354 ⟨"java/lang/System", "arraycopy", "(Ljava/lang/Object;ILjava/lang/Object;II)V"⟩ ∈ k_TBL := List.mem_filter.mpr ⟨List.mem_of_getElem? (i := 435) (by decide +kernel), rfl⟩
theorem w_436 : Cond.static ⟨"java/lang/System", "arraycopy", "(Ljava/lang/Object;ILjava/lang/Object;II)V"⟩ ∈ k_TBL := List.mem_filter.mpr ⟨List.mem_of_getElem? (i := 436) (by decide +kernel), rfl⟩
theorem w_438 : Cond.methodLink "OptionBlockPlanner$History" 33 yJ9_min_7cf53 ∈ k_TBL := List.mem_filter.mpr ⟨List.mem_of_getElem? (i := 438) (by decide +kernel), rfl⟩
theorem w_439 : Cond.methodLink "OptionBlockPlanner" 174 yX2_faultOfEnrolling ∈ k_TBL := List.mem_filter.mpr ⟨List.mem_of_getElem? (i := 439) (by decide +kernel), rfl⟩
theorem w_440 : Cond.instanceMethod yX2_faultOfEnrolling ∈ k_TBL := List.mem_filter.mpr ⟨List.mem_of_getElem? (i := 440) (by decide +kernel), rfl⟩
theorem w_441 : Cond.selects "OptionBlockPlanner$Changes" yX2_faultOfEnrolling yX2_faultOfEnrolling ∈ k_TBL := List.mem_filter.mpr ⟨List.mem_of_getElem? (i := 441) (by decide +kernel), rfl⟩
theorem w_443 : Cond.methodLink "OptionBlockPlanner$Changes" 111 yX5_hasPupil ∈ k_TBL := List.mem_filter.mpr ⟨List.mem_of_getElem? (i := 443) (by decide +kernel), rfl⟩
theorem w_444 : Cond.instanceMethod yX5_hasPupil ∈ k_TBL := List.mem_filter.mpr ⟨List.mem_of_getElem? (i := 444) (by decide +kernel), rfl⟩
theorem w_445 : Cond.selects "OptionBlockPlanner$Plan" yX5_hasPupil yX5_hasPupil ∈ k_TBL := List.mem_filter.mpr ⟨List.mem_of_getElem? (i := 445) (by decide +kernel), rfl⟩
theorem w_447 : Cond.methodLink "OptionBlockPlanner$Changes" 151 yX5_lessonsOf ∈ k_TBL := List.mem_filter.mpr ⟨List.mem_of_getElem? (i := 447) (by decide +kernel), rfl⟩
theorem w_448 : Cond.instanceMethod yX5_lessonsOf ∈ k_TBL := List.mem_filter.mpr ⟨List.mem_of_getElem? (i := 448) (by decide +kernel), rfl⟩
theorem w_449 : Cond.selects "OptionBlockPlanner$Plan" yX5_lessonsOf yX5_lessonsOf ∈ k_TBL := List.mem_filter.mpr ⟨List.mem_of_getElem? (i := 449) (by decide +kernel), rfl⟩
theorem w_451 : Cond.methodLink "OptionBlockPlanner$Plan" 96 yX5_busyPupils ∈ k_TBL := List.mem_filter.mpr ⟨List.mem_of_getElem? (i := 451) (by decide +kernel), rfl⟩
theorem w_452 : Cond.instanceMethod yX5_busyPupils ∈ k_TBL := List.mem_filter.mpr ⟨List.mem_of_getElem? (i := 452) (by decide +kernel), rfl⟩
theorem w_453 : Cond.selects "OptionBlockPlanner$Plan" yX5_busyPupils yX5_busyPupils ∈ k_TBL := List.mem_filter.mpr ⟨List.mem_of_getElem? (i := 453) (by decide +kernel), rfl⟩
theorem w_455 : Cond.methodLink "OptionBlockPlanner$Plan" 73 yX5_roster ∈ k_TBL := List.mem_filter.mpr ⟨List.mem_of_getElem? (i := 455) (by decide +kernel), rfl⟩
theorem w_456 : Cond.instanceMethod yX5_roster ∈ k_TBL := List.mem_filter.mpr ⟨List.mem_of_getElem? (i := 456) (by decide +kernel), rfl⟩
theorem w_457 : Cond.selects "OptionBlockPlanner$Plan" yX5_roster yX5_roster ∈ k_TBL := List.mem_filter.mpr ⟨List.mem_of_getElem? (i := 457) (by decide +kernel), rfl⟩
theorem w_459 : Cond.methodLinkNest "OptionBlockPlanner$Plan" 60 yX7_read "OptionBlockPlanner" ∈ k_NW := List.mem_filter.mpr ⟨List.mem_of_getElem? (i := 459) (by decide +kernel), rfl⟩
theorem w_460 : Cond.static yX7_read ∈ k_TBL := List.mem_filter.mpr ⟨List.mem_of_getElem? (i := 460) (by decide +kernel), rfl⟩
theorem w_462 : Cond.methodLinkNest "OptionBlockPlanner$Plan" 82 yX7_holds "OptionBlockPlanner" ∈ k_NW := List.mem_filter.mpr ⟨List.mem_of_getElem? (i := 462) (by decide +kernel), rfl⟩
theorem w_463 : Cond.static yX7_holds ∈ k_TBL := List.mem_filter.mpr ⟨List.mem_of_getElem? (i := 463) (by decide +kernel), rfl⟩
theorem w_465 : Cond.methodLinkNest "OptionBlockPlanner$Changes" 141 yX7_read "OptionBlockPlanner" ∈ k_NW := List.mem_filter.mpr ⟨List.mem_of_getElem? (i := 465) (by decide +kernel), rfl⟩
theorem w_466 : Cond.methodLink "OptionBlockPlanner" 177 yX4_giveBest ∈ k_TBL := List.mem_filter.mpr ⟨List.mem_of_getElem? (i := 466) (by decide +kernel), rfl⟩
theorem w_467 : Cond.instanceMethod yX4_giveBest ∈ k_TBL := List.mem_filter.mpr ⟨List.mem_of_getElem? (i := 467) (by decide +kernel), rfl⟩
theorem w_468 : Cond.selects "OptionBlockPlanner$Placements" yX4_giveBest yX4_giveBest ∈ k_TBL := List.mem_filter.mpr ⟨List.mem_of_getElem? (i := 468) (by decide +kernel), rfl⟩
theorem w_470 : Cond.methodLink "OptionBlockPlanner$Placements" 25 yX4_collectRoomy ∈ k_TBL := List.mem_filter.mpr ⟨List.mem_of_getElem? (i := 470) (by decide +kernel), rfl⟩
theorem w_472 : Cond.instanceMethod yX4_collectRoomy ∈ k_TBL := List.mem_filter.mpr ⟨List.mem_of_getElem? (i := 472) (by decide +kernel), rfl⟩
theorem w_474 : Cond.methodLinkNest "OptionBlockPlanner$Placements" 38 yX7_read "OptionBlockPlanner" ∈ k_NW := List.mem_filter.mpr ⟨List.mem_of_getElem? (i := 474) (by decide +kernel), rfl⟩
theorem w_475 : Cond.methodLink "OptionBlockPlanner$Placements" 42 yX5_wish ∈ k_TBL := List.mem_filter.mpr ⟨List.mem_of_getElem? (i := 475) (by decide +kernel), rfl⟩
theorem w_476 : Cond.instanceMethod yX5_wish ∈ k_TBL := List.mem_filter.mpr ⟨List.mem_of_getElem? (i := 476) (by decide +kernel), rfl⟩
theorem w_477 : Cond.selects "OptionBlockPlanner$Plan" yX5_wish yX5_wish ∈ k_TBL := List.mem_filter.mpr ⟨List.mem_of_getElem? (i := 477) (by decide +kernel), rfl⟩
theorem w_479 : Cond.methodLink "OptionBlockPlanner$Placements" 82 yX5_roomyBlocks ∈ k_TBL := List.mem_filter.mpr ⟨List.mem_of_getElem? (i := 479) (by decide +kernel), rfl⟩
theorem w_480 : Cond.instanceMethod yX5_roomyBlocks ∈ k_TBL := List.mem_filter.mpr ⟨List.mem_of_getElem? (i := 480) (by decide +kernel), rfl⟩
theorem w_481 : Cond.selects "OptionBlockPlanner$Plan" yX5_roomyBlocks yX5_roomyBlocks ∈ k_TBL := List.mem_filter.mpr ⟨List.mem_of_getElem? (i := 481) (by decide +kernel), rfl⟩
theorem w_483 : Cond.methodLink "OptionBlockPlanner$Plan" 64 yX5_openBlocks ∈ k_TBL := List.mem_filter.mpr ⟨List.mem_of_getElem? (i := 483) (by decide +kernel), rfl⟩
theorem w_484 : Cond.instanceMethod yX5_openBlocks ∈ k_TBL := List.mem_filter.mpr ⟨List.mem_of_getElem? (i := 484) (by decide +kernel), rfl⟩
theorem w_485 : Cond.selects "OptionBlockPlanner$Plan" yX5_openBlocks yX5_openBlocks ∈ k_TBL := List.mem_filter.mpr ⟨List.mem_of_getElem? (i := 485) (by decide +kernel), rfl⟩
theorem w_487 : Cond.methodLink "OptionBlockPlanner$Plan" 53 yX5_hasSubject ∈ k_TBL := List.mem_filter.mpr ⟨List.mem_of_getElem? (i := 487) (by decide +kernel), rfl⟩
theorem w_488 : Cond.instanceMethod yX5_hasSubject ∈ k_TBL := List.mem_filter.mpr ⟨List.mem_of_getElem? (i := 488) (by decide +kernel), rfl⟩
theorem w_489 : Cond.selects "OptionBlockPlanner$Plan" yX5_hasSubject yX5_hasSubject ∈ k_TBL := List.mem_filter.mpr ⟨List.mem_of_getElem? (i := 489) (by decide +kernel), rfl⟩
theorem w_491 : Cond.methodLink "OptionBlockPlanner$Plan" 68 yJ6_bitCount_0f7a4 ∈ k_TBL := List.mem_filter.mpr ⟨List.mem_of_getElem? (i := 491) (by decide +kernel), rfl⟩
theorem w_492 : Cond.static yJ6_bitCount_0f7a4 ∈ k_TBL := List.mem_filter.mpr ⟨List.mem_of_getElem? (i := 492) (by decide +kernel), rfl⟩
theorem w_497 : Cond.methodLinkNest "OptionBlockPlanner$Placements" 85 yX7_write "OptionBlockPlanner" ∈ k_NW := List.mem_filter.mpr ⟨List.mem_of_getElem? (i := 497) (by decide +kernel), rfl⟩
theorem w_498 : Cond.static yX7_write ∈ k_TBL := List.mem_filter.mpr ⟨List.mem_of_getElem? (i := 498) (by decide +kernel), rfl⟩
theorem w_500 : Cond.methodLink "OptionBlockPlanner$Placements" 89 yX4_scoreOf ∈ k_TBL := List.mem_filter.mpr ⟨List.mem_of_getElem? (i := 500) (by decide +kernel), rfl⟩
theorem w_501 : Cond.static yX4_scoreOf ∈ k_TBL := List.mem_filter.mpr ⟨List.mem_of_getElem? (i := 501) (by decide +kernel), rfl⟩
theorem w_503 : Cond.methodLink "OptionBlockPlanner$Placements" 29 yX4_findBest ∈ k_TBL := List.mem_filter.mpr ⟨List.mem_of_getElem? (i := 503) (by decide +kernel), rfl⟩
theorem w_505 : Cond.instanceMethod yX4_findBest ∈ k_TBL := List.mem_filter.mpr ⟨List.mem_of_getElem? (i := 505) (by decide +kernel), rfl⟩
theorem w_507 : Cond.methodLink "OptionBlockPlanner$Placements" 98 yX4_extend ∈ k_TBL := List.mem_filter.mpr ⟨List.mem_of_getElem? (i := 507) (by decide +kernel), rfl⟩
theorem w_508 : Cond.static yX4_extend ∈ k_TBL := List.mem_filter.mpr ⟨List.mem_of_getElem? (i := 508) (by decide +kernel), rfl⟩
theorem w_510 : Cond.methodLink "OptionBlockPlanner$Placements" 102 yX4_keepIfBetter ∈ k_TBL := List.mem_filter.mpr ⟨List.mem_of_getElem? (i := 510) (by decide +kernel), rfl⟩
theorem w_512 : Cond.instanceMethod yX4_keepIfBetter ∈ k_TBL := List.mem_filter.mpr ⟨List.mem_of_getElem? (i := 512) (by decide +kernel), rfl⟩
theorem w_514 : Cond.methodLinkNest "OptionBlockPlanner$Placements" 105 yX7_copyRow "OptionBlockPlanner" ∈ k_NW := List.mem_filter.mpr ⟨List.mem_of_getElem? (i := 514) (by decide +kernel), rfl⟩
theorem w_515 : Cond.methodLinkNest "OptionBlockPlanner$Placements" 69 yX7_holds "OptionBlockPlanner" ∈ k_NW := List.mem_filter.mpr ⟨List.mem_of_getElem? (i := 515) (by decide +kernel), rfl⟩
theorem w_516 : Cond.methodLink "OptionBlockPlanner$Placements" 46 yX5_enter ∈ k_TBL := List.mem_filter.mpr ⟨List.mem_of_getElem? (i := 516) (by decide +kernel), rfl⟩
theorem w_517 : Cond.instanceMethod yX5_enter ∈ k_TBL := List.mem_filter.mpr ⟨List.mem_of_getElem? (i := 517) (by decide +kernel), rfl⟩
theorem w_518 : Cond.selects "OptionBlockPlanner$Plan" yX5_enter yX5_enter ∈ k_TBL := List.mem_filter.mpr ⟨List.mem_of_getElem? (i := 518) (by decide +kernel), rfl⟩
theorem w_520 : Cond.methodLink "OptionBlockPlanner$Plan" 93 yX5_hasClass ∈ k_TBL := List.mem_filter.mpr ⟨List.mem_of_getElem? (i := 520) (by decide +kernel), rfl⟩
theorem w_521 : Cond.instanceMethod yX5_hasClass ∈ k_TBL := List.mem_filter.mpr ⟨List.mem_of_getElem? (i := 521) (by decide +kernel), rfl⟩
theorem w_522 : Cond.selects "OptionBlockPlanner$Plan" yX5_hasClass yX5_hasClass ∈ k_TBL := List.mem_filter.mpr ⟨List.mem_of_getElem? (i := 522) (by decide +kernel), rfl⟩
theorem w_524 : Cond.methodLink "OptionBlockPlanner$Plan" 57 yX5_hasBlock ∈ k_TBL := List.mem_filter.mpr ⟨List.mem_of_getElem? (i := 524) (by decide +kernel), rfl⟩
theorem w_525 : Cond.instanceMethod yX5_hasBlock ∈ k_TBL := List.mem_filter.mpr ⟨List.mem_of_getElem? (i := 525) (by decide +kernel), rfl⟩
theorem w_526 : Cond.selects "OptionBlockPlanner$Plan" yX5_hasBlock yX5_hasBlock ∈ k_TBL := List.mem_filter.mpr ⟨List.mem_of_getElem? (i := 526) (by decide +kernel), rfl⟩
theorem w_528 : Cond.methodLinkNest "OptionBlockPlanner$Plan" 86 yX7_write "OptionBlockPlanner" ∈ k_NW := List.mem_filter.mpr ⟨List.mem_of_getElem? (i := 528) (by decide +kernel), rfl⟩
theorem w_529 : Cond.methodLink "OptionBlockPlanner" 180 yX5_attendsWishes ∈ k_TBL := List.mem_filter.mpr ⟨List.mem_of_getElem? (i := 529) (by decide +kernel), rfl⟩
theorem w_530 : Cond.instanceMethod yX5_attendsWishes ∈ k_TBL := List.mem_filter.mpr ⟨List.mem_of_getElem? (i := 530) (by decide +kernel), rfl⟩
theorem w_531 : Cond.selects "OptionBlockPlanner$Plan" yX5_attendsWishes yX5_attendsWishes ∈ k_TBL := List.mem_filter.mpr ⟨List.mem_of_getElem? (i := 531) (by decide +kernel), rfl⟩
theorem w_533 : Cond.methodLink "OptionBlockPlanner$Plan" 99 yX5_wish ∈ k_TBL := List.mem_filter.mpr ⟨List.mem_of_getElem? (i := 533) (by decide +kernel), rfl⟩
theorem w_534 : Cond.methodLink "OptionBlockPlanner$Plan" 102 yX5_blockTaken ∈ k_TBL := List.mem_filter.mpr ⟨List.mem_of_getElem? (i := 534) (by decide +kernel), rfl⟩
theorem w_535 : Cond.instanceMethod yX5_blockTaken ∈ k_TBL := List.mem_filter.mpr ⟨List.mem_of_getElem? (i := 535) (by decide +kernel), rfl⟩
theorem w_536 : Cond.selects "OptionBlockPlanner$Plan" yX5_blockTaken yX5_blockTaken ∈ k_TBL := List.mem_filter.mpr ⟨List.mem_of_getElem? (i := 536) (by decide +kernel), rfl⟩
theorem w_538 : Cond.methodLink "OptionBlockPlannerLaw" 263 yX7_servedCount ∈ k_TBL := List.mem_filter.mpr ⟨List.mem_of_getElem? (i := 538) (by decide +kernel), rfl⟩
theorem w_539 : Cond.instanceMethod yX7_servedCount ∈ k_TBL := List.mem_filter.mpr ⟨List.mem_of_getElem? (i := 539) (by decide +kernel), rfl⟩
theorem w_540 : Cond.selects "OptionBlockPlanner" yX7_servedCount yX7_servedCount ∈ k_TBL := List.mem_filter.mpr ⟨List.mem_of_getElem? (i := 540) (by decide +kernel), rfl⟩
theorem w_542 : Cond.methodLink "OptionBlockPlannerLaw" 304 yX7_clashCount ∈ k_TBL := List.mem_filter.mpr ⟨List.mem_of_getElem? (i := 542) (by decide +kernel), rfl⟩
theorem w_543 : Cond.instanceMethod yX7_clashCount ∈ k_TBL := List.mem_filter.mpr ⟨List.mem_of_getElem? (i := 543) (by decide +kernel), rfl⟩
theorem w_544 : Cond.selects "OptionBlockPlanner" yX7_clashCount yX7_clashCount ∈ k_TBL := List.mem_filter.mpr ⟨List.mem_of_getElem? (i := 544) (by decide +kernel), rfl⟩
theorem w_546 : Cond.methodLink "OptionBlockPlanner" 246 yX5_clash ∈ k_TBL := List.mem_filter.mpr ⟨List.mem_of_getElem? (i := 546) (by decide +kernel), rfl⟩
theorem w_547 : Cond.instanceMethod yX5_clash ∈ k_TBL := List.mem_filter.mpr ⟨List.mem_of_getElem? (i := 547) (by decide +kernel), rfl⟩
theorem w_548 : Cond.selects "OptionBlockPlanner$Plan" yX5_clash yX5_clash ∈ k_TBL := List.mem_filter.mpr ⟨List.mem_of_getElem? (i := 548) (by decide +kernel), rfl⟩
theorem w_550 : Cond.methodLink "OptionBlockPlanner" 243 yX5_wishersOfBoth ∈ k_TBL := List.mem_filter.mpr ⟨List.mem_of_getElem? (i := 550) (by decide +kernel), rfl⟩
theorem w_551 : Cond.instanceMethod yX5_wishersOfBoth ∈ k_TBL := List.mem_filter.mpr ⟨List.mem_of_getElem? (i := 551) (by decide +kernel), rfl⟩
theorem w_552 : Cond.selects "OptionBlockPlanner$Plan" yX5_wishersOfBoth yX5_wishersOfBoth ∈ k_TBL := List.mem_filter.mpr ⟨List.mem_of_getElem? (i := 552) (by decide +kernel), rfl⟩
theorem w_554 : Cond.methodLink "OptionBlockPlanner$Plan" 90 yX5_wishSet ∈ k_TBL := List.mem_filter.mpr ⟨List.mem_of_getElem? (i := 554) (by decide +kernel), rfl⟩
theorem w_555 : Cond.instanceMethod yX5_wishSet ∈ k_TBL := List.mem_filter.mpr ⟨List.mem_of_getElem? (i := 555) (by decide +kernel), rfl⟩
theorem w_556 : Cond.selects "OptionBlockPlanner$Plan" yX5_wishSet yX5_wishSet ∈ k_TBL := List.mem_filter.mpr ⟨List.mem_of_getElem? (i := 556) (by decide +kernel), rfl⟩
theorem w_558 : Cond.methodLink "OptionBlockPlannerLaw" 308 yX7_leastClashes ∈ k_TBL := List.mem_filter.mpr ⟨List.mem_of_getElem? (i := 558) (by decide +kernel), rfl⟩
theorem w_559 : Cond.instanceMethod yX7_leastClashes ∈ k_TBL := List.mem_filter.mpr ⟨List.mem_of_getElem? (i := 559) (by decide +kernel), rfl⟩
theorem w_560 : Cond.selects "OptionBlockPlanner" yX7_leastClashes yX7_leastClashes ∈ k_TBL := List.mem_filter.mpr ⟨List.mem_of_getElem? (i := 560) (by decide +kernel), rfl⟩
theorem w_562 : Cond.methodLink "OptionBlockPlanner" 249 yX0_findBest ∈ k_TBL := List.mem_filter.mpr ⟨List.mem_of_getElem? (i := 562) (by decide +kernel), rfl⟩
theorem w_563 : Cond.instanceMethod yX0_findBest ∈ k_TBL := List.mem_filter.mpr ⟨List.mem_of_getElem? (i := 563) (by decide +kernel), rfl⟩
theorem w_564 : Cond.selects "OptionBlockPlanner$Arrangements" yX0_findBest yX0_findBest ∈ k_TBL := List.mem_filter.mpr ⟨List.mem_of_getElem? (i := 564) (by decide +kernel), rfl⟩
theorem w_566 : Cond.methodLink "OptionBlockPlanner$Arrangements" 28 yX0_collectCommon ∈ k_TBL := List.mem_filter.mpr ⟨List.mem_of_getElem? (i := 566) (by decide +kernel), rfl⟩
theorem w_568 : Cond.instanceMethod yX0_collectCommon ∈ k_TBL := List.mem_filter.mpr ⟨List.mem_of_getElem? (i := 568) (by decide +kernel), rfl⟩
theorem w_570 : Cond.methodLinkNest "OptionBlockPlanner$Arrangements" 63 yX7_write "OptionBlockPlanner" ∈ k_NW := List.mem_filter.mpr ⟨List.mem_of_getElem? (i := 570) (by decide +kernel), rfl⟩
theorem w_571 : Cond.methodLink "OptionBlockPlanner$Arrangements" 70 yX5_wishSet ∈ k_TBL := List.mem_filter.mpr ⟨List.mem_of_getElem? (i := 571) (by decide +kernel), rfl⟩
theorem w_572 : Cond.methodLink "OptionBlockPlanner$Arrangements" 74 yX0_countPairs ∈ k_TBL := List.mem_filter.mpr ⟨List.mem_of_getElem? (i := 572) (by decide +kernel), rfl⟩
theorem w_574 : Cond.instanceMethod yX0_countPairs ∈ k_TBL := List.mem_filter.mpr ⟨List.mem_of_getElem? (i := 574) (by decide +kernel), rfl⟩
theorem w_576 : Cond.methodLinkNest "OptionBlockPlanner$Arrangements" 78 yX7_holds "OptionBlockPlanner" ∈ k_NW := List.mem_filter.mpr ⟨List.mem_of_getElem? (i := 576) (by decide +kernel), rfl⟩
theorem w_577 : Cond.methodLinkNest "OptionBlockPlanner$Arrangements" 55 yX7_read "OptionBlockPlanner" ∈ k_NW := List.mem_filter.mpr ⟨List.mem_of_getElem? (i := 577) (by decide +kernel), rfl⟩
theorem w_579 : Cond.methodLink "OptionBlockPlanner$Arrangements" 38 yX0_settle ∈ k_TBL := List.mem_filter.mpr ⟨List.mem_of_getElem? (i := 579) (by decide +kernel), rfl⟩
theorem w_580 : Cond.static yX0_settle ∈ k_TBL := List.mem_filter.mpr ⟨List.mem_of_getElem? (i := 580) (by decide +kernel), rfl⟩
theorem w_582 : Cond.methodLinkNest "OptionBlockPlanner$Arrangements" 82 yX7_copyRow "OptionBlockPlanner" ∈ k_NW := List.mem_filter.mpr ⟨List.mem_of_getElem? (i := 582) (by decide +kernel), rfl⟩
theorem w_583 : Cond.methodLink "OptionBlockPlanner$Arrangements" 86 yX0_weigh ∈ k_TBL := List.mem_filter.mpr ⟨List.mem_of_getElem? (i := 583) (by decide +kernel), rfl⟩
theorem w_585 : Cond.instanceMethod yX0_weigh ∈ k_TBL := List.mem_filter.mpr ⟨List.mem_of_getElem? (i := 585) (by decide +kernel), rfl⟩
theorem w_587 : Cond.methodLink "OptionBlockPlannerLaw" 312 yX7_leastClashesByTrial ∈ k_TBL := List.mem_filter.mpr ⟨List.mem_of_getElem? (i := 587) (by decide +kernel), rfl⟩
theorem w_588 : Cond.instanceMethod yX7_leastClashesByTrial ∈ k_TBL := List.mem_filter.mpr ⟨List.mem_of_getElem? (i := 588) (by decide +kernel), rfl⟩
theorem w_589 : Cond.selects "OptionBlockPlanner" yX7_leastClashesByTrial yX7_leastClashesByTrial ∈ k_TBL := List.mem_filter.mpr ⟨List.mem_of_getElem? (i := 589) (by decide +kernel), rfl⟩
theorem w_591 : Cond.methodLink "OptionBlockPlanner" 252 yX0_fewestByTrial ∈ k_TBL := List.mem_filter.mpr ⟨List.mem_of_getElem? (i := 591) (by decide +kernel), rfl⟩
theorem w_592 : Cond.instanceMethod yX0_fewestByTrial ∈ k_TBL := List.mem_filter.mpr ⟨List.mem_of_getElem? (i := 592) (by decide +kernel), rfl⟩
theorem w_593 : Cond.selects "OptionBlockPlanner$Arrangements" yX0_fewestByTrial yX0_fewestByTrial ∈ k_TBL := List.mem_filter.mpr ⟨List.mem_of_getElem? (i := 593) (by decide +kernel), rfl⟩
theorem w_595 : Cond.methodLink "OptionBlockPlanner$Arrangements" 42 yX0_tryAll ∈ k_TBL := List.mem_filter.mpr ⟨List.mem_of_getElem? (i := 595) (by decide +kernel), rfl⟩
theorem w_596 : Cond.static yX0_tryAll ∈ k_TBL := List.mem_filter.mpr ⟨List.mem_of_getElem? (i := 596) (by decide +kernel), rfl⟩
theorem w_598 : Cond.methodLink "OptionBlockPlanner$Arrangements" 92 yJ9_min_7cf53 ∈ k_TBL := List.mem_filter.mpr ⟨List.mem_of_getElem? (i := 598) (by decide +kernel), rfl⟩
theorem w_599 : Cond.methodLink "OptionBlockPlannerLaw" 344 yX7_save ∈ k_TBL := List.mem_filter.mpr ⟨List.mem_of_getElem? (i := 599) (by decide +kernel), rfl⟩
theorem w_600 : Cond.instanceMethod yX7_save ∈ k_TBL := List.mem_filter.mpr ⟨List.mem_of_getElem? (i := 600) (by decide +kernel), rfl⟩
theorem w_601 : Cond.selects "OptionBlockPlanner" yX7_save yX7_save ∈ k_TBL := List.mem_filter.mpr ⟨List.mem_of_getElem? (i := 601) (by decide +kernel), rfl⟩
theorem w_603 : Cond.methodLink "OptionBlockPlanner" 293 yX5_copyFrom ∈ k_TBL := List.mem_filter.mpr ⟨List.mem_of_getElem? (i := 603) (by decide +kernel), rfl⟩
theorem w_604 : Cond.methodLink "OptionBlockPlannerLaw" 169 yL_addSubject ∈ k_TBL := List.mem_filter.mpr ⟨List.mem_of_getElem? (i := 604) (by decide +kernel), rfl⟩
theorem w_605 : Cond.static yL_addSubject ∈ k_TBL := List.mem_filter.mpr ⟨List.mem_of_getElem? (i := 605) (by decide +kernel), rfl⟩
theorem w_607 : Cond.classLink "OptionBlockPlannerLaw" 13 "java/lang/IllegalArgumentException" ∈ k_TBL := List.mem_filter.mpr ⟨List.mem_of_getElem? (i := 607) (by decide +kernel), rfl⟩
theorem w_608 : Cond.classLink "OptionBlockPlannerLaw" 15 "java/lang/IllegalStateException" ∈ k_TBL := List.mem_filter.mpr ⟨List.mem_of_getElem? (i := 608) (by decide +kernel), rfl⟩
theorem w_609 : Cond.methodLink "OptionBlockPlannerLaw" 7 yX7_addSubject ∈ k_TBL := List.mem_filter.mpr ⟨List.mem_of_getElem? (i := 609) (by decide +kernel), rfl⟩
theorem w_610 : Cond.instanceMethod yX7_addSubject ∈ k_TBL := List.mem_filter.mpr ⟨List.mem_of_getElem? (i := 610) (by decide +kernel), rfl⟩
theorem w_611 : Cond.selects "OptionBlockPlanner" yX7_addSubject yX7_addSubject ∈ k_TBL := List.mem_filter.mpr ⟨List.mem_of_getElem? (i := 611) (by decide +kernel), rfl⟩
theorem w_613 : Cond.methodLink "OptionBlockPlanner" 85 yX7_make ∈ k_TBL := List.mem_filter.mpr ⟨List.mem_of_getElem? (i := 613) (by decide +kernel), rfl⟩
theorem w_615 : Cond.instanceMethod yX7_make ∈ k_TBL := List.mem_filter.mpr ⟨List.mem_of_getElem? (i := 615) (by decide +kernel), rfl⟩
theorem w_617 : Cond.methodLink "OptionBlockPlanner" 305 yX2_faultOf ∈ k_TBL := List.mem_filter.mpr ⟨List.mem_of_getElem? (i := 617) (by decide +kernel), rfl⟩
theorem w_618 : Cond.instanceMethod yX2_faultOf ∈ k_TBL := List.mem_filter.mpr ⟨List.mem_of_getElem? (i := 618) (by decide +kernel), rfl⟩
theorem w_619 : Cond.selects "OptionBlockPlanner$Changes" yX2_faultOf yX2_faultOf ∈ k_TBL := List.mem_filter.mpr ⟨List.mem_of_getElem? (i := 619) (by decide +kernel), rfl⟩
theorem w_621 : Cond.methodLink "OptionBlockPlanner$Changes" 31 yX2_faultOfNewSubject ∈ k_TBL := List.mem_filter.mpr ⟨List.mem_of_getElem? (i := 621) (by decide +kernel), rfl⟩
theorem w_623 : Cond.instanceMethod yX2_faultOfNewSubject ∈ k_TBL := List.mem_filter.mpr ⟨List.mem_of_getElem? (i := 623) (by decide +kernel), rfl⟩
theorem w_625 : Cond.methodLink "OptionBlockPlanner$Changes" 35 yX2_faultOfBlocks ∈ k_TBL := List.mem_filter.mpr ⟨List.mem_of_getElem? (i := 625) (by decide +kernel), rfl⟩
theorem w_627 : Cond.instanceMethod yX2_faultOfBlocks ∈ k_TBL := List.mem_filter.mpr ⟨List.mem_of_getElem? (i := 627) (by decide +kernel), rfl⟩
theorem w_629 : Cond.methodLink "OptionBlockPlanner$Changes" 79 yX5_openBlocks ∈ k_TBL := List.mem_filter.mpr ⟨List.mem_of_getElem? (i := 629) (by decide +kernel), rfl⟩
theorem w_630 : Cond.methodLink "OptionBlockPlanner$Changes" 38 yX2_faultOfOpening ∈ k_TBL := List.mem_filter.mpr ⟨List.mem_of_getElem? (i := 630) (by decide +kernel), rfl⟩
theorem w_632 : Cond.instanceMethod yX2_faultOfOpening ∈ k_TBL := List.mem_filter.mpr ⟨List.mem_of_getElem? (i := 632) (by decide +kernel), rfl⟩
theorem w_634 : Cond.methodLink "OptionBlockPlanner$Changes" 127 yX5_hasClass ∈ k_TBL := List.mem_filter.mpr ⟨List.mem_of_getElem? (i := 634) (by decide +kernel), rfl⟩
theorem w_635 : Cond.methodLinkNest "OptionBlockPlanner$Changes" 131 yX7_holds "OptionBlockPlanner" ∈ k_NW := List.mem_filter.mpr ⟨List.mem_of_getElem? (i := 635) (by decide +kernel), rfl⟩
theorem w_636 : Cond.methodLink "OptionBlockPlanner$Changes" 42 yX2_faultOfClosing ∈ k_TBL := List.mem_filter.mpr ⟨List.mem_of_getElem? (i := 636) (by decide +kernel), rfl⟩
theorem w_638 : Cond.instanceMethod yX2_faultOfClosing ∈ k_TBL := List.mem_filter.mpr ⟨List.mem_of_getElem? (i := 638) (by decide +kernel), rfl⟩
theorem w_640 : Cond.methodLink "OptionBlockPlanner$Changes" 134 yX5_roster ∈ k_TBL := List.mem_filter.mpr ⟨List.mem_of_getElem? (i := 640) (by decide +kernel), rfl⟩
theorem w_641 : Cond.methodLink "OptionBlockPlanner$Changes" 50 yX2_faultOfWish ∈ k_TBL := List.mem_filter.mpr ⟨List.mem_of_getElem? (i := 641) (by decide +kernel), rfl⟩
theorem w_643 : Cond.instanceMethod yX2_faultOfWish ∈ k_TBL := List.mem_filter.mpr ⟨List.mem_of_getElem? (i := 643) (by decide +kernel), rfl⟩
theorem w_645 : Cond.methodLink "OptionBlockPlanner$Changes" 53 yX2_faultOfReserve ∈ k_TBL := List.mem_filter.mpr ⟨List.mem_of_getElem? (i := 645) (by decide +kernel), rfl⟩
theorem w_647 : Cond.instanceMethod yX2_faultOfReserve ∈ k_TBL := List.mem_filter.mpr ⟨List.mem_of_getElem? (i := 647) (by decide +kernel), rfl⟩
theorem w_649 : Cond.methodLink "OptionBlockPlanner$Changes" 115 yX5_hasSubject ∈ k_TBL := List.mem_filter.mpr ⟨List.mem_of_getElem? (i := 649) (by decide +kernel), rfl⟩
theorem w_650 : Cond.methodLink "OptionBlockPlanner$Changes" 145 yX5_wishSet ∈ k_TBL := List.mem_filter.mpr ⟨List.mem_of_getElem? (i := 650) (by decide +kernel), rfl⟩
theorem w_651 : Cond.methodLink "OptionBlockPlanner$Changes" 56 yX2_faultOfEnrolling ∈ k_TBL := List.mem_filter.mpr ⟨List.mem_of_getElem? (i := 651) (by decide +kernel), rfl⟩
theorem w_652 : Cond.methodLink "OptionBlockPlanner$Changes" 59 yX2_faultOfJoining ∈ k_TBL := List.mem_filter.mpr ⟨List.mem_of_getElem? (i := 652) (by decide +kernel), rfl⟩
theorem w_654 : Cond.instanceMethod yX2_faultOfJoining ∈ k_TBL := List.mem_filter.mpr ⟨List.mem_of_getElem? (i := 654) (by decide +kernel), rfl⟩
theorem w_656 : Cond.methodLink "OptionBlockPlanner$Changes" 154 yX2_faultOfJoiner ∈ k_TBL := List.mem_filter.mpr ⟨List.mem_of_getElem? (i := 656) (by decide +kernel), rfl⟩
theorem w_657 : Cond.instanceMethod yX2_faultOfJoiner ∈ k_TBL := List.mem_filter.mpr ⟨List.mem_of_getElem? (i := 657) (by decide +kernel), rfl⟩
theorem w_658 : Cond.selects "OptionBlockPlanner$Changes" yX2_faultOfJoiner yX2_faultOfJoiner ∈ k_TBL := List.mem_filter.mpr ⟨List.mem_of_getElem? (i := 658) (by decide +kernel), rfl⟩
theorem w_660 : Cond.methodLink "OptionBlockPlanner$Changes" 118 yX5_blockTaken ∈ k_TBL := List.mem_filter.mpr ⟨List.mem_of_getElem? (i := 660) (by decide +kernel), rfl⟩
theorem w_661 : Cond.methodLink "OptionBlockPlanner$Changes" 157 yX5_freeBlocks ∈ k_TBL := List.mem_filter.mpr ⟨List.mem_of_getElem? (i := 661) (by decide +kernel), rfl⟩
theorem w_662 : Cond.instanceMethod yX5_freeBlocks ∈ k_TBL := List.mem_filter.mpr ⟨List.mem_of_getElem? (i := 662) (by decide +kernel), rfl⟩
theorem w_663 : Cond.selects "OptionBlockPlanner$Plan" yX5_freeBlocks yX5_freeBlocks ∈ k_TBL := List.mem_filter.mpr ⟨List.mem_of_getElem? (i := 663) (by decide +kernel), rfl⟩
theorem w_665 : Cond.methodLink "OptionBlockPlanner$Changes" 160 yX1_fewestMoves ∈ k_TBL := List.mem_filter.mpr ⟨List.mem_of_getElem? (i := 665) (by decide +kernel), rfl⟩
theorem w_666 : Cond.instanceMethod yX1_fewestMoves ∈ k_TBL := List.mem_filter.mpr ⟨List.mem_of_getElem? (i := 666) (by decide +kernel), rfl⟩
theorem w_667 : Cond.selects "OptionBlockPlanner$Chains" yX1_fewestMoves yX1_fewestMoves ∈ k_TBL := List.mem_filter.mpr ⟨List.mem_of_getElem? (i := 667) (by decide +kernel), rfl⟩
theorem w_669 : Cond.methodLink "OptionBlockPlanner$Chains" 25 yX5_roomyBlocks ∈ k_TBL := List.mem_filter.mpr ⟨List.mem_of_getElem? (i := 669) (by decide +kernel), rfl⟩
theorem w_670 : Cond.methodLink "OptionBlockPlanner$Chains" 31 yX5_roster ∈ k_TBL := List.mem_filter.mpr ⟨List.mem_of_getElem? (i := 670) (by decide +kernel), rfl⟩
theorem w_671 : Cond.methodLinkNest "OptionBlockPlanner$Chains" 34 yX7_write "OptionBlockPlanner" ∈ k_NW := List.mem_filter.mpr ⟨List.mem_of_getElem? (i := 671) (by decide +kernel), rfl⟩
theorem w_672 : Cond.methodLink "OptionBlockPlanner$Chains" 38 yX5_busyPupils ∈ k_TBL := List.mem_filter.mpr ⟨List.mem_of_getElem? (i := 672) (by decide +kernel), rfl⟩
theorem w_673 : Cond.methodLinkNest "OptionBlockPlanner$Chains" 42 yX7_holds "OptionBlockPlanner" ∈ k_NW := List.mem_filter.mpr ⟨List.mem_of_getElem? (i := 673) (by decide +kernel), rfl⟩
theorem w_674 : Cond.methodLink "OptionBlockPlanner$Chains" 46 yX1_measure ∈ k_TBL := List.mem_filter.mpr ⟨List.mem_of_getElem? (i := 674) (by decide +kernel), rfl⟩
theorem w_676 : Cond.instanceMethod yX1_measure ∈ k_TBL := List.mem_filter.mpr ⟨List.mem_of_getElem? (i := 676) (by decide +kernel), rfl⟩
theorem w_678 : Cond.methodLinkNest "OptionBlockPlanner$Chains" 53 yX7_read "OptionBlockPlanner" ∈ k_NW := List.mem_filter.mpr ⟨List.mem_of_getElem? (i := 678) (by decide +kernel), rfl⟩
theorem w_679 : Cond.methodLink "OptionBlockPlanner$Chains" 70 yX1_nextBlock ∈ k_TBL := List.mem_filter.mpr ⟨List.mem_of_getElem? (i := 679) (by decide +kernel), rfl⟩
theorem w_681 : Cond.instanceMethod yX1_nextBlock ∈ k_TBL := List.mem_filter.mpr ⟨List.mem_of_getElem? (i := 681) (by decide +kernel), rfl⟩
theorem w_683 : Cond.methodLink "OptionBlockPlanner$Chains" 50 yX1_nearest ∈ k_TBL := List.mem_filter.mpr ⟨List.mem_of_getElem? (i := 683) (by decide +kernel), rfl⟩
theorem w_685 : Cond.instanceMethod yX1_nearest ∈ k_TBL := List.mem_filter.mpr ⟨List.mem_of_getElem? (i := 685) (by decide +kernel), rfl⟩
theorem w_687 : Cond.methodLink "OptionBlockPlanner$Changes" 163 yX2_refusal ∈ k_TBL := List.mem_filter.mpr ⟨List.mem_of_getElem? (i := 687) (by decide +kernel), rfl⟩
theorem w_689 : Cond.instanceMethod yX2_refusal ∈ k_TBL := List.mem_filter.mpr ⟨List.mem_of_getElem? (i := 689) (by decide +kernel), rfl⟩
theorem w_691 : Cond.methodLink "OptionBlockPlanner$Changes" 166 yX1_reasonAgainst ∈ k_TBL := List.mem_filter.mpr ⟨List.mem_of_getElem? (i := 691) (by decide +kernel), rfl⟩
theorem w_692 : Cond.instanceMethod yX1_reasonAgainst ∈ k_TBL := List.mem_filter.mpr ⟨List.mem_of_getElem? (i := 692) (by decide +kernel), rfl⟩
theorem w_693 : Cond.selects "OptionBlockPlanner$Chains" yX1_reasonAgainst yX1_reasonAgainst ∈ k_TBL := List.mem_filter.mpr ⟨List.mem_of_getElem? (i := 693) (by decide +kernel), rfl⟩
theorem w_695 : Cond.methodLink "OptionBlockPlanner$Chains" 57 yX5_openBlocks ∈ k_TBL := List.mem_filter.mpr ⟨List.mem_of_getElem? (i := 695) (by decide +kernel), rfl⟩
theorem w_696 : Cond.methodLink "OptionBlockPlanner$Changes" 62 yX2_faultOfQuitting ∈ k_TBL := List.mem_filter.mpr ⟨List.mem_of_getElem? (i := 696) (by decide +kernel), rfl⟩
theorem w_698 : Cond.instanceMethod yX2_faultOfQuitting ∈ k_TBL := List.mem_filter.mpr ⟨List.mem_of_getElem? (i := 698) (by decide +kernel), rfl⟩
theorem w_700 : Cond.methodLink "OptionBlockPlanner$Changes" 65 yX2_faultOfChanging ∈ k_TBL := List.mem_filter.mpr ⟨List.mem_of_getElem? (i := 700) (by decide +kernel), rfl⟩
theorem w_702 : Cond.instanceMethod yX2_faultOfChanging ∈ k_TBL := List.mem_filter.mpr ⟨List.mem_of_getElem? (i := 702) (by decide +kernel), rfl⟩
theorem w_704 : Cond.methodLink "OptionBlockPlanner$Changes" 69 yX5_lessonsOfAll ∈ k_TBL := List.mem_filter.mpr ⟨List.mem_of_getElem? (i := 704) (by decide +kernel), rfl⟩
theorem w_705 : Cond.instanceMethod yX5_lessonsOfAll ∈ k_TBL := List.mem_filter.mpr ⟨List.mem_of_getElem? (i := 705) (by decide +kernel), rfl⟩
theorem w_706 : Cond.selects "OptionBlockPlanner$Plan" yX5_lessonsOfAll yX5_lessonsOfAll ∈ k_TBL := List.mem_filter.mpr ⟨List.mem_of_getElem? (i := 706) (by decide +kernel), rfl⟩
theorem w_708 : Cond.methodLink "OptionBlockPlanner" 93 yX7_throwFault ∈ k_TBL := List.mem_filter.mpr ⟨List.mem_of_getElem? (i := 708) (by decide +kernel), rfl⟩
theorem w_709 : Cond.static yX7_throwFault ∈ k_TBL := List.mem_filter.mpr ⟨List.mem_of_getElem? (i := 709) (by decide +kernel), rfl⟩
theorem w_711 : Cond.classLink "OptionBlockPlanner" 330 "java/lang/IndexOutOfBoundsException" ∈ k_TBL := List.mem_filter.mpr ⟨List.mem_of_getElem? (i := 711) (by decide +kernel), rfl⟩
theorem w_712 : Cond.instantiable "java/lang/IndexOutOfBoundsException" 6 ∈ k_TBL := List.mem_filter.mpr ⟨List.mem_of_getElem? (i := 712) (by decide +kernel), rfl⟩
theorem w_713 : Cond.castable "java/lang/IndexOutOfBoundsException" "java/lang/IndexOutOfBoundsException" ∈ k_NW := List.mem_filter.mpr ⟨List.mem_of_getElem? (i := 713) (by decide +kernel), rfl⟩
theorem w_720 : Cond.selects "java/lang/IndexOutOfBoundsException" ⟨"java/lang/Throwable", "fillInStackTrace", "(I)Ljava/lang/Throwable;"⟩ ⟨"java/lang/Throwable", "fillInStackTrace", "(I)Ljava/lang/Throwable;"⟩ ∈ k_TBL := List.mem_filter.mpr ⟨List.mem_of_getElem? (i := 720) (by decide +kernel), rfl⟩
theorem w_721 : Cond.selects "java/lang/IndexOutOfBoundsException" ⟨"java/lang/Throwable", "fillInStackTrace", "()Ljava/lang/Throwable;"⟩ ⟨"java/lang/Throwable", "fillInStackTrace", "()Ljava/lang/Throwable;"⟩ ∈ k_TBL := List.mem_filter.mpr ⟨List.mem_of_getElem? (i := 721) (by decide +kernel), rfl⟩
theorem w_732 : Cond.fieldLink "java/lang/Throwable" 198 "java/lang/Throwable" "backtrace" "Ljava/lang/Object;" ∈ k_TBL := List.mem_filter.mpr ⟨List.mem_of_getElem? (i := 732) (by decide +kernel), rfl⟩
theorem w_734 : Cond.instanceMethod ⟨"java/lang/Throwable", "<init>", "()V"⟩ ∈ k_TBL := List.mem_filter.mpr ⟨List.mem_of_getElem? (i := 734) (by decide +kernel), rfl⟩
theorem w_736 : Cond.methodLink "java/lang/Throwable" 1 ⟨"java/lang/Object", "<init>", "()V"⟩ ∈ k_TBL := List.mem_filter.mpr ⟨List.mem_of_getElem? (i := 736) (by decide +kernel), rfl⟩
theorem w_737 : Cond.fieldLink "java/lang/Throwable" 13 "java/lang/Throwable" "UNASSIGNED_STACK" "[Ljava/lang/StackTraceElement;" ∈ k_TBL := List.mem_filter.mpr ⟨List.mem_of_getElem? (i := 737) (by decide +kernel), rfl⟩
theorem w_739 : Cond.fieldLink "java/lang/Throwable" 20 "java/lang/Throwable" "SUPPRESSED_SENTINEL" "Ljava/util/List;" ∈ k_TBL := List.mem_filter.mpr ⟨List.mem_of_getElem? (i := 739) (by decide +kernel), rfl⟩
theorem w_741 : Cond.methodLink "java/lang/Throwable" 27 ⟨"java/lang/Throwable", "fillInStackTrace", "()Ljava/lang/Throwable;"⟩ ∈ k_TBL := List.mem_filter.mpr ⟨List.mem_of_getElem? (i := 741) (by decide +kernel), rfl⟩
theorem w_742 : Cond.instanceMethod ⟨"java/lang/Throwable", "fillInStackTrace", "()Ljava/lang/Throwable;"⟩ ∈ k_TBL := List.mem_filter.mpr ⟨List.mem_of_getElem? (i := 742) (by decide +kernel), rfl⟩
theorem w_744 : Cond.selects "java/lang/ArithmeticException" ⟨"java/lang/Throwable", "fillInStackTrace", "()Ljava/lang/Throwable;"⟩ ⟨"java/lang/Throwable", "fillInStackTrace", "()Ljava/lang/Throwable;"⟩ ∈ k_TBL := List.mem_filter.mpr ⟨List.mem_of_getElem? (i := 744) (by decide +kernel), rfl⟩
theorem w_745 : Cond.selects "java/lang/ArrayIndexOutOfBoundsException" ⟨"java/lang/Throwable", "fillInStackTrace", "()Ljava/lang/Throwable;"⟩ ⟨"java/lang/Throwable", "fillInStackTrace", "()Ljava/lang/Throwable;"⟩ ∈ k_TBL := List.mem_filter.mpr ⟨List.mem_of_getElem? (i := 745) (by decide +kernel), rfl⟩
theorem w_746 : Cond.selects "java/lang/IllegalArgumentException" ⟨"java/lang/Throwable", "fillInStackTrace", "()Ljava/lang/Throwable;"⟩ ⟨"java/lang/Throwable", "fillInStackTrace", "()Ljava/lang/Throwable;"⟩ ∈ k_TBL := List.mem_filter.mpr ⟨List.mem_of_getElem? (i := 746) (by decide +kernel), rfl⟩
theorem w_747 : Cond.selects "java/lang/IllegalStateException" ⟨"java/lang/Throwable", "fillInStackTrace", "()Ljava/lang/Throwable;"⟩ ⟨"java/lang/Throwable", "fillInStackTrace", "()Ljava/lang/Throwable;"⟩ ∈ k_TBL := List.mem_filter.mpr ⟨List.mem_of_getElem? (i := 747) (by decide +kernel), rfl⟩
theorem w_748 : Cond.selects "java/lang/StringIndexOutOfBoundsException" ⟨"java/lang/Throwable", "fillInStackTrace", "()Ljava/lang/Throwable;"⟩ ⟨"java/lang/Throwable", "fillInStackTrace", "()Ljava/lang/Throwable;"⟩ ∈ k_TBL := List.mem_filter.mpr ⟨List.mem_of_getElem? (i := 748) (by decide +kernel), rfl⟩
theorem w_749 : Cond.selects "java/lang/UnsupportedOperationException" ⟨"java/lang/Throwable", "fillInStackTrace", "()Ljava/lang/Throwable;"⟩ ⟨"java/lang/Throwable", "fillInStackTrace", "()Ljava/lang/Throwable;"⟩ ∈ k_TBL := List.mem_filter.mpr ⟨List.mem_of_getElem? (i := 749) (by decide +kernel), rfl⟩
theorem w_750 : Cond.selects "java/util/NoSuchElementException" ⟨"java/lang/Throwable", "fillInStackTrace", "()Ljava/lang/Throwable;"⟩ ⟨"java/lang/Throwable", "fillInStackTrace", "()Ljava/lang/Throwable;"⟩ ∈ k_TBL := List.mem_filter.mpr ⟨List.mem_of_getElem? (i := 750) (by decide +kernel), rfl⟩
theorem w_752 : Cond.methodLink "java/lang/Throwable" 202 ⟨"java/lang/Throwable", "fillInStackTrace", "(I)Ljava/lang/Throwable;"⟩ ∈ k_TBL := List.mem_filter.mpr ⟨List.mem_of_getElem? (i := 752) (by decide +kernel), rfl⟩
theorem w_754 : Cond.instanceMethod ⟨"java/lang/Throwable", "fillInStackTrace", "(I)Ljava/lang/Throwable;"⟩ ∈ k_TBL := List.mem_filter.mpr ⟨List.mem_of_getElem? (i := 754) (by decide +kernel), rfl⟩
theorem w_755 : Cond.instantiable "java/lang/Throwable" 6 ∈ k_TBL := List.mem_filter.mpr ⟨List.mem_of_getElem? (i := 755) (by decide +kernel), rfl⟩
theorem w_757 : Cond.stringRef "OptionBlockPlanner" 332 "no such number" ∈ lw_tbl := List.mem_of_getElem? (i := 757) (by decide +kernel)
theorem w_758 : Cond.methodLink "OptionBlockPlanner" 334 ⟨"java/lang/IndexOutOfBoundsException", "<init>", "(Ljava/lang/String;)V"⟩ ∈ k_TBL := List.mem_filter.mpr ⟨List.mem_of_getElem? (i := 758) (by decide +kernel), rfl⟩
theorem w_759 : Cond.instanceMethod ⟨"java/lang/IndexOutOfBoundsException", "<init>", "(Ljava/lang/String;)V"⟩ ∈ k_TBL := List.mem_filter.mpr ⟨List.mem_of_getElem? (i := 759) (by decide +kernel), rfl⟩
theorem w_761 : Cond.methodLink "java/lang/IndexOutOfBoundsException" 7 ⟨"java/lang/RuntimeException", "<init>", "(Ljava/lang/String;)V"⟩ ∈ k_TBL := List.mem_filter.mpr ⟨List.mem_of_getElem? (i := 761) (by decide +kernel), rfl⟩
theorem w_762 : Cond.instanceMethod ⟨"java/lang/RuntimeException", "<init>", "(Ljava/lang/String;)V"⟩ ∈ k_TBL := List.mem_filter.mpr ⟨List.mem_of_getElem? (i := 762) (by decide +kernel), rfl⟩
theorem w_764 : Cond.methodLink "java/lang/RuntimeException" 7 ⟨"java/lang/Exception", "<init>", "(Ljava/lang/String;)V"⟩ ∈ k_TBL := List.mem_filter.mpr ⟨List.mem_of_getElem? (i := 764) (by decide +kernel), rfl⟩
theorem w_765 : Cond.instanceMethod ⟨"java/lang/Exception", "<init>", "(Ljava/lang/String;)V"⟩ ∈ k_TBL := List.mem_filter.mpr ⟨List.mem_of_getElem? (i := 765) (by decide +kernel), rfl⟩
theorem w_767 : Cond.methodLink "java/lang/Exception" 7 ⟨"java/lang/Throwable", "<init>", "(Ljava/lang/String;)V"⟩ ∈ k_TBL := List.mem_filter.mpr ⟨List.mem_of_getElem? (i := 767) (by decide +kernel), rfl⟩
theorem w_768 : Cond.instanceMethod ⟨"java/lang/Throwable", "<init>", "(Ljava/lang/String;)V"⟩ ∈ k_TBL := List.mem_filter.mpr ⟨List.mem_of_getElem? (i := 768) (by decide +kernel), rfl⟩
theorem w_771 : Cond.fieldLink "java/lang/Throwable" 31 "java/lang/Throwable" "detailMessage" "Ljava/lang/String;" ∈ k_TBL := List.mem_filter.mpr ⟨List.mem_of_getElem? (i := 771) (by decide +kernel), rfl⟩
theorem w_772 : Cond.fieldLink "java/lang/Throwable" 7 "java/lang/Throwable" "cause" "Ljava/lang/Throwable;" ∈ k_TBL := List.mem_filter.mpr ⟨List.mem_of_getElem? (i := 772) (by decide +kernel), rfl⟩
theorem w_773 : Cond.fieldLink "java/lang/Throwable" 17 "java/lang/Throwable" "stackTrace" "[Ljava/lang/StackTraceElement;" ∈ k_TBL := List.mem_filter.mpr ⟨List.mem_of_getElem? (i := 773) (by decide +kernel), rfl⟩
theorem w_774 : Cond.fieldLink "java/lang/Throwable" 24 "java/lang/Throwable" "suppressedExceptions" "Ljava/util/List;" ∈ k_TBL := List.mem_filter.mpr ⟨List.mem_of_getElem? (i := 774) (by decide +kernel), rfl⟩
theorem w_783 : Cond.classLink "OptionBlockPlanner" 275 "java/lang/IllegalArgumentException" ∈ k_TBL := List.mem_filter.mpr ⟨List.mem_of_getElem? (i := 783) (by decide +kernel), rfl⟩
theorem w_784 : Cond.instantiable "java/lang/IllegalArgumentException" 6 ∈ k_TBL := List.mem_filter.mpr ⟨List.mem_of_getElem? (i := 784) (by decide +kernel), rfl⟩
theorem w_785 : Cond.castable "java/lang/IllegalArgumentException" "java/lang/IllegalArgumentException" ∈ k_NW := List.mem_filter.mpr ⟨List.mem_of_getElem? (i := 785) (by decide +kernel), rfl⟩
theorem w_786 : Cond.selects "java/lang/IllegalArgumentException" ⟨"java/lang/Throwable", "fillInStackTrace", "(I)Ljava/lang/Throwable;"⟩ ⟨"java/lang/Throwable", "fillInStackTrace", "(I)Ljava/lang/Throwable;"⟩ ∈ k_TBL := List.mem_filter.mpr ⟨List.mem_of_getElem? (i := 786) (by decide +kernel), rfl⟩
theorem w_792 : Cond.stringRef "OptionBlockPlanner" 340 "out of range" ∈ lw_tbl := List.mem_of_getElem? (i := 792) (by decide +kernel)
theorem w_793 : Cond.methodLink "OptionBlockPlanner" 279 ⟨"java/lang/IllegalArgumentException", "<init>", "(Ljava/lang/String;)V"⟩ ∈ k_TBL := List.mem_filter.mpr ⟨List.mem_of_getElem? (i := 793) (by decide +kernel), rfl⟩
theorem w_794 : Cond.instanceMethod ⟨"java/lang/IllegalArgumentException", "<init>", "(Ljava/lang/String;)V"⟩ ∈ k_TBL := List.mem_filter.mpr ⟨List.mem_of_getElem? (i := 794) (by decide +kernel), rfl⟩
theorem w_796 : Cond.methodLink "java/lang/IllegalArgumentException" 7 ⟨"java/lang/RuntimeException", "<init>", "(Ljava/lang/String;)V"⟩ ∈ k_TBL := List.mem_filter.mpr ⟨List.mem_of_getElem? (i := 796) (by decide +kernel), rfl⟩
theorem w_799 : Cond.classLink "OptionBlockPlanner" 283 "java/lang/IllegalStateException" ∈ k_TBL := List.mem_filter.mpr ⟨List.mem_of_getElem? (i := 799) (by decide +kernel), rfl⟩
theorem w_800 : Cond.instantiable "java/lang/IllegalStateException" 6 ∈ k_TBL := List.mem_filter.mpr ⟨List.mem_of_getElem? (i := 800) (by decide +kernel), rfl⟩
theorem w_801 : Cond.castable "java/lang/IllegalStateException" "java/lang/IllegalStateException" ∈ k_NW := List.mem_filter.mpr ⟨List.mem_of_getElem? (i := 801) (by decide +kernel), rfl⟩
theorem w_802 : Cond.selects "java/lang/IllegalStateException" ⟨"java/lang/Throwable", "fillInStackTrace", "(I)Ljava/lang/Throwable;"⟩ ⟨"java/lang/Throwable", "fillInStackTrace", "(I)Ljava/lang/Throwable;"⟩ ∈ k_TBL := List.mem_filter.mpr ⟨List.mem_of_getElem? (i := 802) (by decide +kernel), rfl⟩
theorem w_808 : Cond.stringRef "OptionBlockPlanner" 342 "not in this state" ∈ lw_tbl := List.mem_of_getElem? (i := 808) (by decide +kernel)
theorem w_809 : Cond.methodLink "OptionBlockPlanner" 287 ⟨"java/lang/IllegalStateException", "<init>", "(Ljava/lang/String;)V"⟩ ∈ k_TBL := List.mem_filter.mpr ⟨List.mem_of_getElem? (i := 809) (by decide +kernel), rfl⟩
theorem w_810 : Cond.instanceMethod ⟨"java/lang/IllegalStateException", "<init>", "(Ljava/lang/String;)V"⟩ ∈ k_TBL := List.mem_filter.mpr ⟨List.mem_of_getElem? (i := 810) (by decide +kernel), rfl⟩
theorem w_812 : Cond.methodLink "java/lang/IllegalStateException" 7 ⟨"java/lang/RuntimeException", "<init>", "(Ljava/lang/String;)V"⟩ ∈ k_TBL := List.mem_filter.mpr ⟨List.mem_of_getElem? (i := 812) (by decide +kernel), rfl⟩
theorem w_815 : Cond.classLink "OptionBlockPlanner" 344 "java/lang/UnsupportedOperationException" ∈ k_TBL := List.mem_filter.mpr ⟨List.mem_of_getElem? (i := 815) (by decide +kernel), rfl⟩
theorem w_816 : Cond.instantiable "java/lang/UnsupportedOperationException" 6 ∈ k_TBL := List.mem_filter.mpr ⟨List.mem_of_getElem? (i := 816) (by decide +kernel), rfl⟩
theorem w_817 : Cond.castable "java/lang/UnsupportedOperationException" "java/lang/UnsupportedOperationException" ∈ k_NW := List.mem_filter.mpr ⟨List.mem_of_getElem? (i := 817) (by decide +kernel), rfl⟩
theorem w_818 : Cond.selects "java/lang/UnsupportedOperationException" ⟨"java/lang/Throwable", "fillInStackTrace", "(I)Ljava/lang/Throwable;"⟩ ⟨"java/lang/Throwable", "fillInStackTrace", "(I)Ljava/lang/Throwable;"⟩ ∈ k_TBL := List.mem_filter.mpr ⟨List.mem_of_getElem? (i := 818) (by decide +kernel), rfl⟩
theorem w_824 : Cond.stringRef "OptionBlockPlanner" 346 "refused" ∈ lw_tbl := List.mem_of_getElem? (i := 824) (by decide +kernel)
theorem w_825 : Cond.methodLink "OptionBlockPlanner" 348 ⟨"java/lang/UnsupportedOperationException", "<init>", "(Ljava/lang/String;)V"⟩ ∈ k_TBL := List.mem_filter.mpr ⟨List.mem_of_getElem? (i := 825) (by decide +kernel), rfl⟩
theorem w_826 : Cond.instanceMethod ⟨"java/lang/UnsupportedOperationException", "<init>", "(Ljava/lang/String;)V"⟩ ∈ k_TBL := List.mem_filter.mpr ⟨List.mem_of_getElem? (i := 826) (by decide +kernel), rfl⟩
theorem w_828 : Cond.methodLink "java/lang/UnsupportedOperationException" 7 ⟨"java/lang/RuntimeException", "<init>", "(Ljava/lang/String;)V"⟩ ∈ k_TBL := List.mem_filter.mpr ⟨List.mem_of_getElem? (i := 828) (by decide +kernel), rfl⟩
theorem w_831 : Cond.methodLink "OptionBlockPlanner" 310 yX2_perform ∈ k_TBL := List.mem_filter.mpr ⟨List.mem_of_getElem? (i := 831) (by decide +kernel), rfl⟩
theorem w_832 : Cond.instanceMethod yX2_perform ∈ k_TBL := List.mem_filter.mpr ⟨List.mem_of_getElem? (i := 832) (by decide +kernel), rfl⟩
theorem w_833 : Cond.selects "OptionBlockPlanner$Changes" yX2_perform yX2_perform ∈ k_TBL := List.mem_filter.mpr ⟨List.mem_of_getElem? (i := 833) (by decide +kernel), rfl⟩
theorem w_835 : Cond.methodLink "OptionBlockPlanner$Changes" 73 yX5_newSubject ∈ k_TBL := List.mem_filter.mpr ⟨List.mem_of_getElem? (i := 835) (by decide +kernel), rfl⟩
theorem w_836 : Cond.instanceMethod yX5_newSubject ∈ k_TBL := List.mem_filter.mpr ⟨List.mem_of_getElem? (i := 836) (by decide +kernel), rfl⟩
theorem w_837 : Cond.selects "OptionBlockPlanner$Plan" yX5_newSubject yX5_newSubject ∈ k_TBL := List.mem_filter.mpr ⟨List.mem_of_getElem? (i := 837) (by decide +kernel), rfl⟩
theorem w_839 : Cond.methodLink "OptionBlockPlanner$Changes" 76 yX5_setBlocks ∈ k_TBL := List.mem_filter.mpr ⟨List.mem_of_getElem? (i := 839) (by decide +kernel), rfl⟩
theorem w_840 : Cond.instanceMethod yX5_setBlocks ∈ k_TBL := List.mem_filter.mpr ⟨List.mem_of_getElem? (i := 840) (by decide +kernel), rfl⟩
theorem w_841 : Cond.selects "OptionBlockPlanner$Plan" yX5_setBlocks yX5_setBlocks ∈ k_TBL := List.mem_filter.mpr ⟨List.mem_of_getElem? (i := 841) (by decide +kernel), rfl⟩
theorem w_843 : Cond.methodLink "OptionBlockPlanner$Changes" 82 yX5_setOpenBlocks ∈ k_TBL := List.mem_filter.mpr ⟨List.mem_of_getElem? (i := 843) (by decide +kernel), rfl⟩
theorem w_844 : Cond.instanceMethod yX5_setOpenBlocks ∈ k_TBL := List.mem_filter.mpr ⟨List.mem_of_getElem? (i := 844) (by decide +kernel), rfl⟩
theorem w_845 : Cond.selects "OptionBlockPlanner$Plan" yX5_setOpenBlocks yX5_setOpenBlocks ∈ k_TBL := List.mem_filter.mpr ⟨List.mem_of_getElem? (i := 845) (by decide +kernel), rfl⟩
theorem w_847 : Cond.methodLink "OptionBlockPlanner$Changes" 85 yX5_newPupil ∈ k_TBL := List.mem_filter.mpr ⟨List.mem_of_getElem? (i := 847) (by decide +kernel), rfl⟩
theorem w_848 : Cond.instanceMethod yX5_newPupil ∈ k_TBL := List.mem_filter.mpr ⟨List.mem_of_getElem? (i := 848) (by decide +kernel), rfl⟩
theorem w_849 : Cond.selects "OptionBlockPlanner$Plan" yX5_newPupil yX5_newPupil ∈ k_TBL := List.mem_filter.mpr ⟨List.mem_of_getElem? (i := 849) (by decide +kernel), rfl⟩
theorem w_851 : Cond.methodLink "OptionBlockPlanner$Changes" 88 yX5_newWish ∈ k_TBL := List.mem_filter.mpr ⟨List.mem_of_getElem? (i := 851) (by decide +kernel), rfl⟩
theorem w_852 : Cond.instanceMethod yX5_newWish ∈ k_TBL := List.mem_filter.mpr ⟨List.mem_of_getElem? (i := 852) (by decide +kernel), rfl⟩
theorem w_853 : Cond.selects "OptionBlockPlanner$Plan" yX5_newWish yX5_newWish ∈ k_TBL := List.mem_filter.mpr ⟨List.mem_of_getElem? (i := 853) (by decide +kernel), rfl⟩
theorem w_855 : Cond.methodLink "OptionBlockPlanner$Changes" 91 yX5_newReserve ∈ k_TBL := List.mem_filter.mpr ⟨List.mem_of_getElem? (i := 855) (by decide +kernel), rfl⟩
theorem w_856 : Cond.instanceMethod yX5_newReserve ∈ k_TBL := List.mem_filter.mpr ⟨List.mem_of_getElem? (i := 856) (by decide +kernel), rfl⟩
theorem w_857 : Cond.selects "OptionBlockPlanner$Plan" yX5_newReserve yX5_newReserve ∈ k_TBL := List.mem_filter.mpr ⟨List.mem_of_getElem? (i := 857) (by decide +kernel), rfl⟩
theorem w_859 : Cond.methodLink "OptionBlockPlanner$Changes" 94 yX4_giveBest ∈ k_TBL := List.mem_filter.mpr ⟨List.mem_of_getElem? (i := 859) (by decide +kernel), rfl⟩
theorem w_860 : Cond.methodLink "OptionBlockPlanner$Changes" 99 yX1_carryOut ∈ k_TBL := List.mem_filter.mpr ⟨List.mem_of_getElem? (i := 860) (by decide +kernel), rfl⟩
theorem w_861 : Cond.instanceMethod yX1_carryOut ∈ k_TBL := List.mem_filter.mpr ⟨List.mem_of_getElem? (i := 861) (by decide +kernel), rfl⟩
theorem w_862 : Cond.selects "OptionBlockPlanner$Chains" yX1_carryOut yX1_carryOut ∈ k_TBL := List.mem_filter.mpr ⟨List.mem_of_getElem? (i := 862) (by decide +kernel), rfl⟩
theorem w_864 : Cond.methodLink "OptionBlockPlanner$Chains" 64 yX5_freeBlocks ∈ k_TBL := List.mem_filter.mpr ⟨List.mem_of_getElem? (i := 864) (by decide +kernel), rfl⟩
theorem w_865 : Cond.methodLink "OptionBlockPlanner$Chains" 67 yX1_fewestMoves ∈ k_TBL := List.mem_filter.mpr ⟨List.mem_of_getElem? (i := 865) (by decide +kernel), rfl⟩
theorem w_866 : Cond.methodLinkNest "OptionBlockPlanner$Chains" 73 yX7_memberAt "OptionBlockPlanner" ∈ k_NW := List.mem_filter.mpr ⟨List.mem_of_getElem? (i := 866) (by decide +kernel), rfl⟩
theorem w_867 : Cond.static yX7_memberAt ∈ k_TBL := List.mem_filter.mpr ⟨List.mem_of_getElem? (i := 867) (by decide +kernel), rfl⟩
theorem w_869 : Cond.methodLink "OptionBlockPlanner" 133 yX7_holds ∈ k_TBL := List.mem_filter.mpr ⟨List.mem_of_getElem? (i := 869) (by decide +kernel), rfl⟩
theorem w_870 : Cond.methodLink "OptionBlockPlanner$Chains" 76 yX5_noteMove ∈ k_TBL := List.mem_filter.mpr ⟨List.mem_of_getElem? (i := 870) (by decide +kernel), rfl⟩
theorem w_871 : Cond.instanceMethod yX5_noteMove ∈ k_TBL := List.mem_filter.mpr ⟨List.mem_of_getElem? (i := 871) (by decide +kernel), rfl⟩
theorem w_872 : Cond.selects "OptionBlockPlanner$Plan" yX5_noteMove yX5_noteMove ∈ k_TBL := List.mem_filter.mpr ⟨List.mem_of_getElem? (i := 872) (by decide +kernel), rfl⟩
theorem w_874 : Cond.methodLink "OptionBlockPlanner$Chains" 80 yX5_makeMoves ∈ k_TBL := List.mem_filter.mpr ⟨List.mem_of_getElem? (i := 874) (by decide +kernel), rfl⟩
theorem w_875 : Cond.instanceMethod yX5_makeMoves ∈ k_TBL := List.mem_filter.mpr ⟨List.mem_of_getElem? (i := 875) (by decide +kernel), rfl⟩
theorem w_876 : Cond.selects "OptionBlockPlanner$Plan" yX5_makeMoves yX5_makeMoves ∈ k_TBL := List.mem_filter.mpr ⟨List.mem_of_getElem? (i := 876) (by decide +kernel), rfl⟩
theorem w_878 : Cond.methodLink "OptionBlockPlanner$Plan" 105 yX5_leave ∈ k_TBL := List.mem_filter.mpr ⟨List.mem_of_getElem? (i := 878) (by decide +kernel), rfl⟩
theorem w_879 : Cond.instanceMethod yX5_leave ∈ k_TBL := List.mem_filter.mpr ⟨List.mem_of_getElem? (i := 879) (by decide +kernel), rfl⟩
theorem w_880 : Cond.selects "OptionBlockPlanner$Plan" yX5_leave yX5_leave ∈ k_TBL := List.mem_filter.mpr ⟨List.mem_of_getElem? (i := 880) (by decide +kernel), rfl⟩
theorem w_882 : Cond.methodLink "OptionBlockPlanner$Plan" 115 yX5_enter ∈ k_TBL := List.mem_filter.mpr ⟨List.mem_of_getElem? (i := 882) (by decide +kernel), rfl⟩
theorem w_883 : Cond.methodLink "OptionBlockPlanner$Chains" 83 yX5_enter ∈ k_TBL := List.mem_filter.mpr ⟨List.mem_of_getElem? (i := 883) (by decide +kernel), rfl⟩
theorem w_884 : Cond.methodLink "OptionBlockPlanner$Changes" 104 yX5_dropLesson ∈ k_TBL := List.mem_filter.mpr ⟨List.mem_of_getElem? (i := 884) (by decide +kernel), rfl⟩
theorem w_885 : Cond.instanceMethod yX5_dropLesson ∈ k_TBL := List.mem_filter.mpr ⟨List.mem_of_getElem? (i := 885) (by decide +kernel), rfl⟩
theorem w_886 : Cond.selects "OptionBlockPlanner$Plan" yX5_dropLesson yX5_dropLesson ∈ k_TBL := List.mem_filter.mpr ⟨List.mem_of_getElem? (i := 886) (by decide +kernel), rfl⟩
theorem w_888 : Cond.methodLink "OptionBlockPlanner$Changes" 107 yX0_carryOut ∈ k_TBL := List.mem_filter.mpr ⟨List.mem_of_getElem? (i := 888) (by decide +kernel), rfl⟩
theorem w_889 : Cond.instanceMethod yX0_carryOut ∈ k_TBL := List.mem_filter.mpr ⟨List.mem_of_getElem? (i := 889) (by decide +kernel), rfl⟩
theorem w_890 : Cond.selects "OptionBlockPlanner$Arrangements" yX0_carryOut yX0_carryOut ∈ k_TBL := List.mem_filter.mpr ⟨List.mem_of_getElem? (i := 890) (by decide +kernel), rfl⟩
theorem w_892 : Cond.methodLink "OptionBlockPlanner$Arrangements" 46 yX0_findBest ∈ k_TBL := List.mem_filter.mpr ⟨List.mem_of_getElem? (i := 892) (by decide +kernel), rfl⟩
theorem w_893 : Cond.methodLink "OptionBlockPlanner$Arrangements" 59 yX5_setOpenBlocks ∈ k_TBL := List.mem_filter.mpr ⟨List.mem_of_getElem? (i := 893) (by decide +kernel), rfl⟩
theorem w_894 : Cond.methodLink "OptionBlockPlannerLaw" 178 yL_setSize ∈ k_TBL := List.mem_filter.mpr ⟨List.mem_of_getElem? (i := 894) (by decide +kernel), rfl⟩
theorem w_895 : Cond.static yL_setSize ∈ k_TBL := List.mem_filter.mpr ⟨List.mem_of_getElem? (i := 895) (by decide +kernel), rfl⟩
theorem w_897 : Cond.classLink "OptionBlockPlannerLaw" 21 "java/lang/IndexOutOfBoundsException" ∈ k_TBL := List.mem_filter.mpr ⟨List.mem_of_getElem? (i := 897) (by decide +kernel), rfl⟩
theorem w_898 : Cond.instantiable "java/lang/ArrayIndexOutOfBoundsException" 6 ∈ k_TBL := List.mem_filter.mpr ⟨List.mem_of_getElem? (i := 898) (by decide +kernel), rfl⟩
theorem w_899 : Cond.instanceMethod yJx00060_init_a7421 ∈ k_TBL := List.mem_filter.mpr ⟨List.mem_of_getElem? (i := 899) (by decide +kernel), rfl⟩
theorem w_901 : Cond.methodLink "java/lang/ArrayIndexOutOfBoundsException" 7 ⟨"java/lang/IndexOutOfBoundsException", "<init>", "(Ljava/lang/String;)V"⟩ ∈ k_TBL := List.mem_filter.mpr ⟨List.mem_of_getElem? (i := 901) (by decide +kernel), rfl⟩
theorem w_909 : Cond.castable "java/lang/ArrayIndexOutOfBoundsException" "java/lang/ArrayIndexOutOfBoundsException" ∈ k_NW := List.mem_filter.mpr ⟨List.mem_of_getElem? (i := 909) (by decide +kernel), rfl⟩
theorem w_912 : Cond.selects "java/lang/ArrayIndexOutOfBoundsException" ⟨"java/lang/Throwable", "fillInStackTrace", "(I)Ljava/lang/Throwable;"⟩ ⟨"java/lang/Throwable", "fillInStackTrace", "(I)Ljava/lang/Throwable;"⟩ ∈ k_TBL := List.mem_filter.mpr ⟨List.mem_of_getElem? (i := 912) (by decide +kernel), rfl⟩
theorem w_913 : Cond.instantiable "java/lang/String" 4 ∈ k_TBL := List.mem_filter.mpr ⟨List.mem_of_getElem? (i := 913) (by decide +kernel), rfl⟩
theorem w_918 : Cond.methodLink "OptionBlockPlannerLaw" 17 yX7_setSize ∈ k_TBL := List.mem_filter.mpr ⟨List.mem_of_getElem? (i := 918) (by decide +kernel), rfl⟩
theorem w_919 : Cond.instanceMethod yX7_setSize ∈ k_TBL := List.mem_filter.mpr ⟨List.mem_of_getElem? (i := 919) (by decide +kernel), rfl⟩
theorem w_920 : Cond.selects "OptionBlockPlanner" yX7_setSize yX7_setSize ∈ k_TBL := List.mem_filter.mpr ⟨List.mem_of_getElem? (i := 920) (by decide +kernel), rfl⟩
theorem w_922 : Cond.methodLink "OptionBlockPlanner" 89 yX2_faultOfResizing ∈ k_TBL := List.mem_filter.mpr ⟨List.mem_of_getElem? (i := 922) (by decide +kernel), rfl⟩
theorem w_923 : Cond.instanceMethod yX2_faultOfResizing ∈ k_TBL := List.mem_filter.mpr ⟨List.mem_of_getElem? (i := 923) (by decide +kernel), rfl⟩
theorem w_924 : Cond.selects "OptionBlockPlanner$Changes" yX2_faultOfResizing yX2_faultOfResizing ∈ k_TBL := List.mem_filter.mpr ⟨List.mem_of_getElem? (i := 924) (by decide +kernel), rfl⟩
theorem w_926 : Cond.methodLink "OptionBlockPlanner$Changes" 124 yX5_largestClass ∈ k_TBL := List.mem_filter.mpr ⟨List.mem_of_getElem? (i := 926) (by decide +kernel), rfl⟩
theorem w_927 : Cond.instanceMethod yX5_largestClass ∈ k_TBL := List.mem_filter.mpr ⟨List.mem_of_getElem? (i := 927) (by decide +kernel), rfl⟩
theorem w_928 : Cond.selects "OptionBlockPlanner$Plan" yX5_largestClass yX5_largestClass ∈ k_TBL := List.mem_filter.mpr ⟨List.mem_of_getElem? (i := 928) (by decide +kernel), rfl⟩
theorem w_930 : Cond.methodLink "OptionBlockPlanner$Plan" 77 yJ9_max_7cf53 ∈ k_TBL := List.mem_filter.mpr ⟨List.mem_of_getElem? (i := 930) (by decide +kernel), rfl⟩
theorem w_931 : Cond.static yJ9_max_7cf53 ∈ k_TBL := List.mem_filter.mpr ⟨List.mem_of_getElem? (i := 931) (by decide +kernel), rfl⟩
theorem w_933 : Cond.methodLink "OptionBlockPlanner" 100 yX5_resize ∈ k_TBL := List.mem_filter.mpr ⟨List.mem_of_getElem? (i := 933) (by decide +kernel), rfl⟩
theorem w_934 : Cond.instanceMethod yX5_resize ∈ k_TBL := List.mem_filter.mpr ⟨List.mem_of_getElem? (i := 934) (by decide +kernel), rfl⟩
theorem w_935 : Cond.selects "OptionBlockPlanner$Plan" yX5_resize yX5_resize ∈ k_TBL := List.mem_filter.mpr ⟨List.mem_of_getElem? (i := 935) (by decide +kernel), rfl⟩
theorem w_937 : Cond.methodLink "OptionBlockPlannerLaw" 186 yL_sizeOf ∈ k_TBL := List.mem_filter.mpr ⟨List.mem_of_getElem? (i := 937) (by decide +kernel), rfl⟩
theorem w_938 : Cond.static yL_sizeOf ∈ k_TBL := List.mem_filter.mpr ⟨List.mem_of_getElem? (i := 938) (by decide +kernel), rfl⟩
theorem w_940 : Cond.methodLink "OptionBlockPlannerLaw" 23 yX7_sizeOf ∈ k_TBL := List.mem_filter.mpr ⟨List.mem_of_getElem? (i := 940) (by decide +kernel), rfl⟩
theorem w_941 : Cond.instanceMethod yX7_sizeOf ∈ k_TBL := List.mem_filter.mpr ⟨List.mem_of_getElem? (i := 941) (by decide +kernel), rfl⟩
theorem w_942 : Cond.selects "OptionBlockPlanner" yX7_sizeOf yX7_sizeOf ∈ k_TBL := List.mem_filter.mpr ⟨List.mem_of_getElem? (i := 942) (by decide +kernel), rfl⟩
theorem w_944 : Cond.methodLink "OptionBlockPlanner" 106 yX5_hasSubject ∈ k_TBL := List.mem_filter.mpr ⟨List.mem_of_getElem? (i := 944) (by decide +kernel), rfl⟩
theorem w_945 : Cond.methodLink "OptionBlockPlanner" 110 yX7_needIndex ∈ k_TBL := List.mem_filter.mpr ⟨List.mem_of_getElem? (i := 945) (by decide +kernel), rfl⟩
theorem w_946 : Cond.static yX7_needIndex ∈ k_TBL := List.mem_filter.mpr ⟨List.mem_of_getElem? (i := 946) (by decide +kernel), rfl⟩
theorem w_948 : Cond.methodLink "OptionBlockPlanner" 118 yX7_read ∈ k_TBL := List.mem_filter.mpr ⟨List.mem_of_getElem? (i := 948) (by decide +kernel), rfl⟩
theorem w_949 : Cond.methodLink "OptionBlockPlannerLaw" 189 yL_setBlockCount ∈ k_TBL := List.mem_filter.mpr ⟨List.mem_of_getElem? (i := 949) (by decide +kernel), rfl⟩
theorem w_950 : Cond.static yL_setBlockCount ∈ k_TBL := List.mem_filter.mpr ⟨List.mem_of_getElem? (i := 950) (by decide +kernel), rfl⟩
theorem w_952 : Cond.methodLink "OptionBlockPlannerLaw" 26 yX7_setBlockCount ∈ k_TBL := List.mem_filter.mpr ⟨List.mem_of_getElem? (i := 952) (by decide +kernel), rfl⟩
theorem w_953 : Cond.instanceMethod yX7_setBlockCount ∈ k_TBL := List.mem_filter.mpr ⟨List.mem_of_getElem? (i := 953) (by decide +kernel), rfl⟩
theorem w_954 : Cond.selects "OptionBlockPlanner" yX7_setBlockCount yX7_setBlockCount ∈ k_TBL := List.mem_filter.mpr ⟨List.mem_of_getElem? (i := 954) (by decide +kernel), rfl⟩
theorem w_956 : Cond.methodLink "OptionBlockPlannerLaw" 196 yL_openClass ∈ k_TBL := List.mem_filter.mpr ⟨List.mem_of_getElem? (i := 956) (by decide +kernel), rfl⟩
theorem w_957 : Cond.static yL_openClass ∈ k_TBL := List.mem_filter.mpr ⟨List.mem_of_getElem? (i := 957) (by decide +kernel), rfl⟩
theorem w_959 : Cond.methodLink "OptionBlockPlannerLaw" 29 yX7_openClass ∈ k_TBL := List.mem_filter.mpr ⟨List.mem_of_getElem? (i := 959) (by decide +kernel), rfl⟩
theorem w_960 : Cond.instanceMethod yX7_openClass ∈ k_TBL := List.mem_filter.mpr ⟨List.mem_of_getElem? (i := 960) (by decide +kernel), rfl⟩
theorem w_961 : Cond.selects "OptionBlockPlanner" yX7_openClass yX7_openClass ∈ k_TBL := List.mem_filter.mpr ⟨List.mem_of_getElem? (i := 961) (by decide +kernel), rfl⟩
theorem w_963 : Cond.methodLink "OptionBlockPlannerLaw" 199 yL_closeClass ∈ k_TBL := List.mem_filter.mpr ⟨List.mem_of_getElem? (i := 963) (by decide +kernel), rfl⟩
theorem w_964 : Cond.static yL_closeClass ∈ k_TBL := List.mem_filter.mpr ⟨List.mem_of_getElem? (i := 964) (by decide +kernel), rfl⟩
theorem w_966 : Cond.methodLink "OptionBlockPlannerLaw" 32 yX7_closeClass ∈ k_TBL := List.mem_filter.mpr ⟨List.mem_of_getElem? (i := 966) (by decide +kernel), rfl⟩
theorem w_967 : Cond.instanceMethod yX7_closeClass ∈ k_TBL := List.mem_filter.mpr ⟨List.mem_of_getElem? (i := 967) (by decide +kernel), rfl⟩
theorem w_968 : Cond.selects "OptionBlockPlanner" yX7_closeClass yX7_closeClass ∈ k_TBL := List.mem_filter.mpr ⟨List.mem_of_getElem? (i := 968) (by decide +kernel), rfl⟩
theorem w_970 : Cond.methodLink "OptionBlockPlannerLaw" 202 yL_isOpen ∈ k_TBL := List.mem_filter.mpr ⟨List.mem_of_getElem? (i := 970) (by decide +kernel), rfl⟩
theorem w_971 : Cond.static yL_isOpen ∈ k_TBL := List.mem_filter.mpr ⟨List.mem_of_getElem? (i := 971) (by decide +kernel), rfl⟩
theorem w_973 : Cond.methodLink "OptionBlockPlannerLaw" 35 yX7_isOpen ∈ k_TBL := List.mem_filter.mpr ⟨List.mem_of_getElem? (i := 973) (by decide +kernel), rfl⟩
theorem w_974 : Cond.instanceMethod yX7_isOpen ∈ k_TBL := List.mem_filter.mpr ⟨List.mem_of_getElem? (i := 974) (by decide +kernel), rfl⟩
theorem w_975 : Cond.selects "OptionBlockPlanner" yX7_isOpen yX7_isOpen ∈ k_TBL := List.mem_filter.mpr ⟨List.mem_of_getElem? (i := 975) (by decide +kernel), rfl⟩
theorem w_977 : Cond.methodLink "OptionBlockPlanner" 125 yX5_hasClass ∈ k_TBL := List.mem_filter.mpr ⟨List.mem_of_getElem? (i := 977) (by decide +kernel), rfl⟩
theorem w_978 : Cond.methodLink "OptionBlockPlanner" 129 yX5_openBlocks ∈ k_TBL := List.mem_filter.mpr ⟨List.mem_of_getElem? (i := 978) (by decide +kernel), rfl⟩
theorem w_979 : Cond.methodLink "OptionBlockPlannerLaw" 205 yL_pupilsInClass ∈ k_TBL := List.mem_filter.mpr ⟨List.mem_of_getElem? (i := 979) (by decide +kernel), rfl⟩
theorem w_980 : Cond.static yL_pupilsInClass ∈ k_TBL := List.mem_filter.mpr ⟨List.mem_of_getElem? (i := 980) (by decide +kernel), rfl⟩
theorem w_982 : Cond.methodLink "OptionBlockPlannerLaw" 39 yX7_pupilsInClass ∈ k_TBL := List.mem_filter.mpr ⟨List.mem_of_getElem? (i := 982) (by decide +kernel), rfl⟩
theorem w_983 : Cond.instanceMethod yX7_pupilsInClass ∈ k_TBL := List.mem_filter.mpr ⟨List.mem_of_getElem? (i := 983) (by decide +kernel), rfl⟩
theorem w_984 : Cond.selects "OptionBlockPlanner" yX7_pupilsInClass yX7_pupilsInClass ∈ k_TBL := List.mem_filter.mpr ⟨List.mem_of_getElem? (i := 984) (by decide +kernel), rfl⟩
theorem w_986 : Cond.methodLink "OptionBlockPlanner" 136 yX5_roster ∈ k_TBL := List.mem_filter.mpr ⟨List.mem_of_getElem? (i := 986) (by decide +kernel), rfl⟩
theorem w_987 : Cond.methodLink "OptionBlockPlanner" 139 yJ6_bitCount_0f7a4 ∈ k_TBL := List.mem_filter.mpr ⟨List.mem_of_getElem? (i := 987) (by decide +kernel), rfl⟩
theorem w_988 : Cond.methodLink "OptionBlockPlannerLaw" 208 yL_pupilInClass ∈ k_TBL := List.mem_filter.mpr ⟨List.mem_of_getElem? (i := 988) (by decide +kernel), rfl⟩
theorem w_989 : Cond.static yL_pupilInClass ∈ k_TBL := List.mem_filter.mpr ⟨List.mem_of_getElem? (i := 989) (by decide +kernel), rfl⟩
theorem w_991 : Cond.classLink "OptionBlockPlannerLaw" 46 "java/util/NoSuchElementException" ∈ k_TBL := List.mem_filter.mpr ⟨List.mem_of_getElem? (i := 991) (by decide +kernel), rfl⟩
theorem w_992 : Cond.methodLink "OptionBlockPlannerLaw" 42 yX7_pupilInClass ∈ k_TBL := List.mem_filter.mpr ⟨List.mem_of_getElem? (i := 992) (by decide +kernel), rfl⟩
theorem w_993 : Cond.instanceMethod yX7_pupilInClass ∈ k_TBL := List.mem_filter.mpr ⟨List.mem_of_getElem? (i := 993) (by decide +kernel), rfl⟩
theorem w_994 : Cond.selects "OptionBlockPlanner" yX7_pupilInClass yX7_pupilInClass ∈ k_TBL := List.mem_filter.mpr ⟨List.mem_of_getElem? (i := 994) (by decide +kernel), rfl⟩
theorem w_996 : Cond.methodLink "OptionBlockPlanner" 144 yX7_needElement ∈ k_TBL := List.mem_filter.mpr ⟨List.mem_of_getElem? (i := 996) (by decide +kernel), rfl⟩
theorem w_997 : Cond.static yX7_needElement ∈ k_TBL := List.mem_filter.mpr ⟨List.mem_of_getElem? (i := 997) (by decide +kernel), rfl⟩
theorem w_999 : Cond.classLink "OptionBlockPlanner" 335 "java/util/NoSuchElementException" ∈ k_TBL := List.mem_filter.mpr ⟨List.mem_of_getElem? (i := 999) (by decide +kernel), rfl⟩
theorem w_1000 : Cond.instantiable "java/util/NoSuchElementException" 6 ∈ k_TBL := List.mem_filter.mpr ⟨List.mem_of_getElem? (i := 1000) (by decide +kernel), rfl⟩
theorem w_1001 : Cond.castable "java/util/NoSuchElementException" "java/util/NoSuchElementException" ∈ k_NW := List.mem_filter.mpr ⟨List.mem_of_getElem? (i := 1001) (by decide +kernel), rfl⟩
theorem w_1002 : Cond.selects "java/util/NoSuchElementException" ⟨"java/lang/Throwable", "fillInStackTrace", "(I)Ljava/lang/Throwable;"⟩ ⟨"java/lang/Throwable", "fillInStackTrace", "(I)Ljava/lang/Throwable;"⟩ ∈ k_TBL := List.mem_filter.mpr ⟨List.mem_of_getElem? (i := 1002) (by decide +kernel), rfl⟩
theorem w_1008 : Cond.stringRef "OptionBlockPlanner" 337 "there is none" ∈ lw_tbl := List.mem_of_getElem? (i := 1008) (by decide +kernel)
theorem w_1009 : Cond.methodLink "OptionBlockPlanner" 339 ⟨"java/util/NoSuchElementException", "<init>", "(Ljava/lang/String;)V"⟩ ∈ k_TBL := List.mem_filter.mpr ⟨List.mem_of_getElem? (i := 1009) (by decide +kernel), rfl⟩
theorem w_1010 : Cond.instanceMethod ⟨"java/util/NoSuchElementException", "<init>", "(Ljava/lang/String;)V"⟩ ∈ k_TBL := List.mem_filter.mpr ⟨List.mem_of_getElem? (i := 1010) (by decide +kernel), rfl⟩
theorem w_1012 : Cond.methodLink "java/util/NoSuchElementException" 13 ⟨"java/lang/RuntimeException", "<init>", "(Ljava/lang/String;)V"⟩ ∈ k_TBL := List.mem_filter.mpr ⟨List.mem_of_getElem? (i := 1012) (by decide +kernel), rfl⟩
theorem w_1015 : Cond.methodLink "OptionBlockPlanner" 147 yX7_memberAt ∈ k_TBL := List.mem_filter.mpr ⟨List.mem_of_getElem? (i := 1015) (by decide +kernel), rfl⟩
theorem w_1016 : Cond.methodLink "OptionBlockPlannerLaw" 212 yL_addPupil ∈ k_TBL := List.mem_filter.mpr ⟨List.mem_of_getElem? (i := 1016) (by decide +kernel), rfl⟩
theorem w_1017 : Cond.static yL_addPupil ∈ k_TBL := List.mem_filter.mpr ⟨List.mem_of_getElem? (i := 1017) (by decide +kernel), rfl⟩
theorem w_1019 : Cond.methodLink "OptionBlockPlannerLaw" 48 yX7_addPupil ∈ k_TBL := List.mem_filter.mpr ⟨List.mem_of_getElem? (i := 1019) (by decide +kernel), rfl⟩
theorem w_1020 : Cond.instanceMethod yX7_addPupil ∈ k_TBL := List.mem_filter.mpr ⟨List.mem_of_getElem? (i := 1020) (by decide +kernel), rfl⟩
theorem w_1021 : Cond.selects "OptionBlockPlanner" yX7_addPupil yX7_addPupil ∈ k_TBL := List.mem_filter.mpr ⟨List.mem_of_getElem? (i := 1021) (by decide +kernel), rfl⟩
theorem w_1023 : Cond.methodLink "OptionBlockPlannerLaw" 220 yL_addWish ∈ k_TBL := List.mem_filter.mpr ⟨List.mem_of_getElem? (i := 1023) (by decide +kernel), rfl⟩
theorem w_1024 : Cond.static yL_addWish ∈ k_TBL := List.mem_filter.mpr ⟨List.mem_of_getElem? (i := 1024) (by decide +kernel), rfl⟩
theorem w_1026 : Cond.methodLink "OptionBlockPlannerLaw" 52 yX7_addWish ∈ k_TBL := List.mem_filter.mpr ⟨List.mem_of_getElem? (i := 1026) (by decide +kernel), rfl⟩
theorem w_1027 : Cond.instanceMethod yX7_addWish ∈ k_TBL := List.mem_filter.mpr ⟨List.mem_of_getElem? (i := 1027) (by decide +kernel), rfl⟩
theorem w_1028 : Cond.selects "OptionBlockPlanner" yX7_addWish yX7_addWish ∈ k_TBL := List.mem_filter.mpr ⟨List.mem_of_getElem? (i := 1028) (by decide +kernel), rfl⟩
theorem w_1030 : Cond.methodLink "OptionBlockPlannerLaw" 223 yL_setReserve ∈ k_TBL := List.mem_filter.mpr ⟨List.mem_of_getElem? (i := 1030) (by decide +kernel), rfl⟩
theorem w_1031 : Cond.static yL_setReserve ∈ k_TBL := List.mem_filter.mpr ⟨List.mem_of_getElem? (i := 1031) (by decide +kernel), rfl⟩
theorem w_1033 : Cond.methodLink "OptionBlockPlannerLaw" 55 yX7_setReserve ∈ k_TBL := List.mem_filter.mpr ⟨List.mem_of_getElem? (i := 1033) (by decide +kernel), rfl⟩
theorem w_1034 : Cond.instanceMethod yX7_setReserve ∈ k_TBL := List.mem_filter.mpr ⟨List.mem_of_getElem? (i := 1034) (by decide +kernel), rfl⟩
theorem w_1035 : Cond.selects "OptionBlockPlanner" yX7_setReserve yX7_setReserve ∈ k_TBL := List.mem_filter.mpr ⟨List.mem_of_getElem? (i := 1035) (by decide +kernel), rfl⟩
theorem w_1037 : Cond.methodLink "OptionBlockPlannerLaw" 226 yL_wishCount ∈ k_TBL := List.mem_filter.mpr ⟨List.mem_of_getElem? (i := 1037) (by decide +kernel), rfl⟩
theorem w_1038 : Cond.static yL_wishCount ∈ k_TBL := List.mem_filter.mpr ⟨List.mem_of_getElem? (i := 1038) (by decide +kernel), rfl⟩
theorem w_1040 : Cond.methodLink "OptionBlockPlannerLaw" 58 yX7_wishCount ∈ k_TBL := List.mem_filter.mpr ⟨List.mem_of_getElem? (i := 1040) (by decide +kernel), rfl⟩
theorem w_1041 : Cond.instanceMethod yX7_wishCount ∈ k_TBL := List.mem_filter.mpr ⟨List.mem_of_getElem? (i := 1041) (by decide +kernel), rfl⟩
theorem w_1042 : Cond.selects "OptionBlockPlanner" yX7_wishCount yX7_wishCount ∈ k_TBL := List.mem_filter.mpr ⟨List.mem_of_getElem? (i := 1042) (by decide +kernel), rfl⟩
theorem w_1044 : Cond.methodLink "OptionBlockPlanner" 153 yX5_hasPupil ∈ k_TBL := List.mem_filter.mpr ⟨List.mem_of_getElem? (i := 1044) (by decide +kernel), rfl⟩
theorem w_1045 : Cond.methodLink "OptionBlockPlannerLaw" 229 yL_wishAt ∈ k_TBL := List.mem_filter.mpr ⟨List.mem_of_getElem? (i := 1045) (by decide +kernel), rfl⟩
theorem w_1046 : Cond.static yL_wishAt ∈ k_TBL := List.mem_filter.mpr ⟨List.mem_of_getElem? (i := 1046) (by decide +kernel), rfl⟩
theorem w_1048 : Cond.methodLink "OptionBlockPlannerLaw" 61 yX7_wishAt ∈ k_TBL := List.mem_filter.mpr ⟨List.mem_of_getElem? (i := 1048) (by decide +kernel), rfl⟩
theorem w_1049 : Cond.instanceMethod yX7_wishAt ∈ k_TBL := List.mem_filter.mpr ⟨List.mem_of_getElem? (i := 1049) (by decide +kernel), rfl⟩
theorem w_1050 : Cond.selects "OptionBlockPlanner" yX7_wishAt yX7_wishAt ∈ k_TBL := List.mem_filter.mpr ⟨List.mem_of_getElem? (i := 1050) (by decide +kernel), rfl⟩
theorem w_1052 : Cond.methodLink "OptionBlockPlanner" 159 yX5_wish ∈ k_TBL := List.mem_filter.mpr ⟨List.mem_of_getElem? (i := 1052) (by decide +kernel), rfl⟩
theorem w_1053 : Cond.methodLink "OptionBlockPlannerLaw" 232 yL_reserveOf ∈ k_TBL := List.mem_filter.mpr ⟨List.mem_of_getElem? (i := 1053) (by decide +kernel), rfl⟩
theorem w_1054 : Cond.static yL_reserveOf ∈ k_TBL := List.mem_filter.mpr ⟨List.mem_of_getElem? (i := 1054) (by decide +kernel), rfl⟩
theorem w_1056 : Cond.methodLink "OptionBlockPlannerLaw" 64 yX7_reserveOf ∈ k_TBL := List.mem_filter.mpr ⟨List.mem_of_getElem? (i := 1056) (by decide +kernel), rfl⟩
theorem w_1057 : Cond.instanceMethod yX7_reserveOf ∈ k_TBL := List.mem_filter.mpr ⟨List.mem_of_getElem? (i := 1057) (by decide +kernel), rfl⟩
theorem w_1058 : Cond.selects "OptionBlockPlanner" yX7_reserveOf yX7_reserveOf ∈ k_TBL := List.mem_filter.mpr ⟨List.mem_of_getElem? (i := 1058) (by decide +kernel), rfl⟩
theorem w_1060 : Cond.methodLink "OptionBlockPlannerLaw" 235 yL_subjectIn ∈ k_TBL := List.mem_filter.mpr ⟨List.mem_of_getElem? (i := 1060) (by decide +kernel), rfl⟩
theorem w_1061 : Cond.static yL_subjectIn ∈ k_TBL := List.mem_filter.mpr ⟨List.mem_of_getElem? (i := 1061) (by decide +kernel), rfl⟩
theorem w_1063 : Cond.methodLink "OptionBlockPlannerLaw" 67 yX7_subjectIn ∈ k_TBL := List.mem_filter.mpr ⟨List.mem_of_getElem? (i := 1063) (by decide +kernel), rfl⟩
theorem w_1064 : Cond.instanceMethod yX7_subjectIn ∈ k_TBL := List.mem_filter.mpr ⟨List.mem_of_getElem? (i := 1064) (by decide +kernel), rfl⟩
theorem w_1065 : Cond.selects "OptionBlockPlanner" yX7_subjectIn yX7_subjectIn ∈ k_TBL := List.mem_filter.mpr ⟨List.mem_of_getElem? (i := 1065) (by decide +kernel), rfl⟩
theorem w_1067 : Cond.methodLink "OptionBlockPlanner" 165 yX5_hasBlock ∈ k_TBL := List.mem_filter.mpr ⟨List.mem_of_getElem? (i := 1067) (by decide +kernel), rfl⟩
theorem w_1068 : Cond.methodLink "OptionBlockPlanner" 168 yX5_lesson ∈ k_TBL := List.mem_filter.mpr ⟨List.mem_of_getElem? (i := 1068) (by decide +kernel), rfl⟩
theorem w_1069 : Cond.instanceMethod yX5_lesson ∈ k_TBL := List.mem_filter.mpr ⟨List.mem_of_getElem? (i := 1069) (by decide +kernel), rfl⟩
theorem w_1070 : Cond.selects "OptionBlockPlanner$Plan" yX5_lesson yX5_lesson ∈ k_TBL := List.mem_filter.mpr ⟨List.mem_of_getElem? (i := 1070) (by decide +kernel), rfl⟩
theorem w_1072 : Cond.methodLink "OptionBlockPlannerLaw" 238 yL_blockOf ∈ k_TBL := List.mem_filter.mpr ⟨List.mem_of_getElem? (i := 1072) (by decide +kernel), rfl⟩
theorem w_1073 : Cond.static yL_blockOf ∈ k_TBL := List.mem_filter.mpr ⟨List.mem_of_getElem? (i := 1073) (by decide +kernel), rfl⟩
theorem w_1075 : Cond.methodLink "OptionBlockPlannerLaw" 70 yX7_blockOf ∈ k_TBL := List.mem_filter.mpr ⟨List.mem_of_getElem? (i := 1075) (by decide +kernel), rfl⟩
theorem w_1076 : Cond.instanceMethod yX7_blockOf ∈ k_TBL := List.mem_filter.mpr ⟨List.mem_of_getElem? (i := 1076) (by decide +kernel), rfl⟩
theorem w_1077 : Cond.selects "OptionBlockPlanner" yX7_blockOf yX7_blockOf ∈ k_TBL := List.mem_filter.mpr ⟨List.mem_of_getElem? (i := 1077) (by decide +kernel), rfl⟩
theorem w_1079 : Cond.methodLink "OptionBlockPlanner" 171 yX5_blockTaken ∈ k_TBL := List.mem_filter.mpr ⟨List.mem_of_getElem? (i := 1079) (by decide +kernel), rfl⟩
theorem w_1080 : Cond.methodLink "OptionBlockPlannerLaw" 241 yL_enrol ∈ k_TBL := List.mem_filter.mpr ⟨List.mem_of_getElem? (i := 1080) (by decide +kernel), rfl⟩
theorem w_1081 : Cond.static yL_enrol ∈ k_TBL := List.mem_filter.mpr ⟨List.mem_of_getElem? (i := 1081) (by decide +kernel), rfl⟩
theorem w_1083 : Cond.methodLink "OptionBlockPlannerLaw" 73 yX7_enrol ∈ k_TBL := List.mem_filter.mpr ⟨List.mem_of_getElem? (i := 1083) (by decide +kernel), rfl⟩
theorem w_1084 : Cond.instanceMethod yX7_enrol ∈ k_TBL := List.mem_filter.mpr ⟨List.mem_of_getElem? (i := 1084) (by decide +kernel), rfl⟩
theorem w_1085 : Cond.selects "OptionBlockPlanner" yX7_enrol yX7_enrol ∈ k_TBL := List.mem_filter.mpr ⟨List.mem_of_getElem? (i := 1085) (by decide +kernel), rfl⟩
theorem w_1087 : Cond.methodLink "OptionBlockPlannerLaw" 248 yL_withdraw ∈ k_TBL := List.mem_filter.mpr ⟨List.mem_of_getElem? (i := 1087) (by decide +kernel), rfl⟩
theorem w_1088 : Cond.static yL_withdraw ∈ k_TBL := List.mem_filter.mpr ⟨List.mem_of_getElem? (i := 1088) (by decide +kernel), rfl⟩
theorem w_1090 : Cond.methodLink "OptionBlockPlannerLaw" 76 yX7_withdraw ∈ k_TBL := List.mem_filter.mpr ⟨List.mem_of_getElem? (i := 1090) (by decide +kernel), rfl⟩
theorem w_1091 : Cond.instanceMethod yX7_withdraw ∈ k_TBL := List.mem_filter.mpr ⟨List.mem_of_getElem? (i := 1091) (by decide +kernel), rfl⟩
theorem w_1092 : Cond.selects "OptionBlockPlanner" yX7_withdraw yX7_withdraw ∈ k_TBL := List.mem_filter.mpr ⟨List.mem_of_getElem? (i := 1092) (by decide +kernel), rfl⟩
theorem w_1094 : Cond.methodLink "OptionBlockPlanner" 183 yX2_faultOfWithdrawing ∈ k_TBL := List.mem_filter.mpr ⟨List.mem_of_getElem? (i := 1094) (by decide +kernel), rfl⟩
theorem w_1095 : Cond.instanceMethod yX2_faultOfWithdrawing ∈ k_TBL := List.mem_filter.mpr ⟨List.mem_of_getElem? (i := 1095) (by decide +kernel), rfl⟩
theorem w_1096 : Cond.selects "OptionBlockPlanner$Changes" yX2_faultOfWithdrawing yX2_faultOfWithdrawing ∈ k_TBL := List.mem_filter.mpr ⟨List.mem_of_getElem? (i := 1096) (by decide +kernel), rfl⟩
theorem w_1098 : Cond.methodLink "OptionBlockPlanner" 186 yX5_dropLessons ∈ k_TBL := List.mem_filter.mpr ⟨List.mem_of_getElem? (i := 1098) (by decide +kernel), rfl⟩
theorem w_1099 : Cond.instanceMethod yX5_dropLessons ∈ k_TBL := List.mem_filter.mpr ⟨List.mem_of_getElem? (i := 1099) (by decide +kernel), rfl⟩
theorem w_1100 : Cond.selects "OptionBlockPlanner$Plan" yX5_dropLessons yX5_dropLessons ∈ k_TBL := List.mem_filter.mpr ⟨List.mem_of_getElem? (i := 1100) (by decide +kernel), rfl⟩
theorem w_1102 : Cond.methodLink "OptionBlockPlanner$Plan" 109 yX5_lessonsOf ∈ k_TBL := List.mem_filter.mpr ⟨List.mem_of_getElem? (i := 1102) (by decide +kernel), rfl⟩
theorem w_1103 : Cond.methodLink "OptionBlockPlanner$Plan" 112 yX5_lesson ∈ k_TBL := List.mem_filter.mpr ⟨List.mem_of_getElem? (i := 1103) (by decide +kernel), rfl⟩
theorem w_1104 : Cond.methodLink "OptionBlockPlannerLaw" 251 yL_bestValue ∈ k_TBL := List.mem_filter.mpr ⟨List.mem_of_getElem? (i := 1104) (by decide +kernel), rfl⟩
theorem w_1105 : Cond.static yL_bestValue ∈ k_TBL := List.mem_filter.mpr ⟨List.mem_of_getElem? (i := 1105) (by decide +kernel), rfl⟩
theorem w_1107 : Cond.methodLink "OptionBlockPlannerLaw" 79 yX7_bestValue ∈ k_TBL := List.mem_filter.mpr ⟨List.mem_of_getElem? (i := 1107) (by decide +kernel), rfl⟩
theorem w_1108 : Cond.instanceMethod yX7_bestValue ∈ k_TBL := List.mem_filter.mpr ⟨List.mem_of_getElem? (i := 1108) (by decide +kernel), rfl⟩
theorem w_1109 : Cond.selects "OptionBlockPlanner" yX7_bestValue yX7_bestValue ∈ k_TBL := List.mem_filter.mpr ⟨List.mem_of_getElem? (i := 1109) (by decide +kernel), rfl⟩
theorem w_1111 : Cond.methodLink "OptionBlockPlanner" 189 yX4_valueBySearch ∈ k_TBL := List.mem_filter.mpr ⟨List.mem_of_getElem? (i := 1111) (by decide +kernel), rfl⟩
theorem w_1112 : Cond.instanceMethod yX4_valueBySearch ∈ k_TBL := List.mem_filter.mpr ⟨List.mem_of_getElem? (i := 1112) (by decide +kernel), rfl⟩
theorem w_1113 : Cond.selects "OptionBlockPlanner$Placements" yX4_valueBySearch yX4_valueBySearch ∈ k_TBL := List.mem_filter.mpr ⟨List.mem_of_getElem? (i := 1113) (by decide +kernel), rfl⟩
theorem w_1115 : Cond.methodLink "OptionBlockPlannerLaw" 254 yL_bestValueBySets ∈ k_TBL := List.mem_filter.mpr ⟨List.mem_of_getElem? (i := 1115) (by decide +kernel), rfl⟩
theorem w_1116 : Cond.static yL_bestValueBySets ∈ k_TBL := List.mem_filter.mpr ⟨List.mem_of_getElem? (i := 1116) (by decide +kernel), rfl⟩
theorem w_1118 : Cond.methodLink "OptionBlockPlannerLaw" 82 yX7_bestValueBySets ∈ k_TBL := List.mem_filter.mpr ⟨List.mem_of_getElem? (i := 1118) (by decide +kernel), rfl⟩
theorem w_1119 : Cond.instanceMethod yX7_bestValueBySets ∈ k_TBL := List.mem_filter.mpr ⟨List.mem_of_getElem? (i := 1119) (by decide +kernel), rfl⟩
theorem w_1120 : Cond.selects "OptionBlockPlanner" yX7_bestValueBySets yX7_bestValueBySets ∈ k_TBL := List.mem_filter.mpr ⟨List.mem_of_getElem? (i := 1120) (by decide +kernel), rfl⟩
theorem w_1122 : Cond.methodLink "OptionBlockPlanner" 192 yX4_valueBySets ∈ k_TBL := List.mem_filter.mpr ⟨List.mem_of_getElem? (i := 1122) (by decide +kernel), rfl⟩
theorem w_1123 : Cond.instanceMethod yX4_valueBySets ∈ k_TBL := List.mem_filter.mpr ⟨List.mem_of_getElem? (i := 1123) (by decide +kernel), rfl⟩
theorem w_1124 : Cond.selects "OptionBlockPlanner$Placements" yX4_valueBySets yX4_valueBySets ∈ k_TBL := List.mem_filter.mpr ⟨List.mem_of_getElem? (i := 1124) (by decide +kernel), rfl⟩
theorem w_1126 : Cond.methodLink "OptionBlockPlanner$Placements" 53 yX4_setsUsedFor ∈ k_TBL := List.mem_filter.mpr ⟨List.mem_of_getElem? (i := 1126) (by decide +kernel), rfl⟩
theorem w_1128 : Cond.instanceMethod yX4_setsUsedFor ∈ k_TBL := List.mem_filter.mpr ⟨List.mem_of_getElem? (i := 1128) (by decide +kernel), rfl⟩
theorem w_1130 : Cond.methodLink "OptionBlockPlanner$Placements" 109 yX4_setsWithOneOf ∈ k_TBL := List.mem_filter.mpr ⟨List.mem_of_getElem? (i := 1130) (by decide +kernel), rfl⟩
theorem w_1131 : Cond.static yX4_setsWithOneOf ∈ k_TBL := List.mem_filter.mpr ⟨List.mem_of_getElem? (i := 1131) (by decide +kernel), rfl⟩
theorem w_1133 : Cond.methodLink "OptionBlockPlannerLaw" 257 yL_canServe ∈ k_TBL := List.mem_filter.mpr ⟨List.mem_of_getElem? (i := 1133) (by decide +kernel), rfl⟩
theorem w_1134 : Cond.static yL_canServe ∈ k_TBL := List.mem_filter.mpr ⟨List.mem_of_getElem? (i := 1134) (by decide +kernel), rfl⟩
theorem w_1136 : Cond.methodLink "OptionBlockPlannerLaw" 85 yX7_canServe ∈ k_TBL := List.mem_filter.mpr ⟨List.mem_of_getElem? (i := 1136) (by decide +kernel), rfl⟩
theorem w_1137 : Cond.instanceMethod yX7_canServe ∈ k_TBL := List.mem_filter.mpr ⟨List.mem_of_getElem? (i := 1137) (by decide +kernel), rfl⟩
theorem w_1138 : Cond.selects "OptionBlockPlanner" yX7_canServe yX7_canServe ∈ k_TBL := List.mem_filter.mpr ⟨List.mem_of_getElem? (i := 1138) (by decide +kernel), rfl⟩
theorem w_1140 : Cond.methodLink "OptionBlockPlanner" 195 yX4_servesBySearch ∈ k_TBL := List.mem_filter.mpr ⟨List.mem_of_getElem? (i := 1140) (by decide +kernel), rfl⟩
theorem w_1141 : Cond.instanceMethod yX4_servesBySearch ∈ k_TBL := List.mem_filter.mpr ⟨List.mem_of_getElem? (i := 1141) (by decide +kernel), rfl⟩
theorem w_1142 : Cond.selects "OptionBlockPlanner$Placements" yX4_servesBySearch yX4_servesBySearch ∈ k_TBL := List.mem_filter.mpr ⟨List.mem_of_getElem? (i := 1142) (by decide +kernel), rfl⟩
theorem w_1144 : Cond.methodLink "OptionBlockPlanner$Placements" 57 yX4_collectOpen ∈ k_TBL := List.mem_filter.mpr ⟨List.mem_of_getElem? (i := 1144) (by decide +kernel), rfl⟩
theorem w_1146 : Cond.instanceMethod yX4_collectOpen ∈ k_TBL := List.mem_filter.mpr ⟨List.mem_of_getElem? (i := 1146) (by decide +kernel), rfl⟩
theorem w_1148 : Cond.methodLink "OptionBlockPlanner$Placements" 92 yX5_openBlocks ∈ k_TBL := List.mem_filter.mpr ⟨List.mem_of_getElem? (i := 1148) (by decide +kernel), rfl⟩
theorem w_1149 : Cond.methodLink "OptionBlockPlanner$Placements" 60 yX4_serve ∈ k_TBL := List.mem_filter.mpr ⟨List.mem_of_getElem? (i := 1149) (by decide +kernel), rfl⟩
theorem w_1150 : Cond.static yX4_serve ∈ k_TBL := List.mem_filter.mpr ⟨List.mem_of_getElem? (i := 1150) (by decide +kernel), rfl⟩
theorem w_1152 : Cond.methodLink "OptionBlockPlannerLaw" 260 yL_canServeByCounting ∈ k_TBL := List.mem_filter.mpr ⟨List.mem_of_getElem? (i := 1152) (by decide +kernel), rfl⟩
theorem w_1153 : Cond.static yL_canServeByCounting ∈ k_TBL := List.mem_filter.mpr ⟨List.mem_of_getElem? (i := 1153) (by decide +kernel), rfl⟩
theorem w_1155 : Cond.methodLink "OptionBlockPlannerLaw" 89 yX7_canServeByCounting ∈ k_TBL := List.mem_filter.mpr ⟨List.mem_of_getElem? (i := 1155) (by decide +kernel), rfl⟩
theorem w_1156 : Cond.instanceMethod yX7_canServeByCounting ∈ k_TBL := List.mem_filter.mpr ⟨List.mem_of_getElem? (i := 1156) (by decide +kernel), rfl⟩
theorem w_1157 : Cond.selects "OptionBlockPlanner" yX7_canServeByCounting yX7_canServeByCounting ∈ k_TBL := List.mem_filter.mpr ⟨List.mem_of_getElem? (i := 1157) (by decide +kernel), rfl⟩
theorem w_1159 : Cond.methodLink "OptionBlockPlanner" 198 yX4_servesByCounting ∈ k_TBL := List.mem_filter.mpr ⟨List.mem_of_getElem? (i := 1159) (by decide +kernel), rfl⟩
theorem w_1160 : Cond.instanceMethod yX4_servesByCounting ∈ k_TBL := List.mem_filter.mpr ⟨List.mem_of_getElem? (i := 1160) (by decide +kernel), rfl⟩
theorem w_1161 : Cond.selects "OptionBlockPlanner$Placements" yX4_servesByCounting yX4_servesByCounting ∈ k_TBL := List.mem_filter.mpr ⟨List.mem_of_getElem? (i := 1161) (by decide +kernel), rfl⟩
theorem w_1163 : Cond.methodLink "OptionBlockPlanner$Placements" 64 yJ9_max_7cf53 ∈ k_TBL := List.mem_filter.mpr ⟨List.mem_of_getElem? (i := 1163) (by decide +kernel), rfl⟩
theorem w_1164 : Cond.methodLink "OptionBlockPlanner$Placements" 73 yJ6_bitCount_0f7a4 ∈ k_TBL := List.mem_filter.mpr ⟨List.mem_of_getElem? (i := 1164) (by decide +kernel), rfl⟩
theorem w_1165 : Cond.methodLink "OptionBlockPlannerLaw" 267 yL_meanClassSize ∈ k_TBL := List.mem_filter.mpr ⟨List.mem_of_getElem? (i := 1165) (by decide +kernel), rfl⟩
theorem w_1166 : Cond.static yL_meanClassSize ∈ k_TBL := List.mem_filter.mpr ⟨List.mem_of_getElem? (i := 1166) (by decide +kernel), rfl⟩
theorem w_1168 : Cond.classLink "OptionBlockPlannerLaw" 96 "java/lang/ArithmeticException" ∈ k_TBL := List.mem_filter.mpr ⟨List.mem_of_getElem? (i := 1168) (by decide +kernel), rfl⟩
theorem w_1169 : Cond.instantiable "java/lang/ArithmeticException" 6 ∈ k_TBL := List.mem_filter.mpr ⟨List.mem_of_getElem? (i := 1169) (by decide +kernel), rfl⟩
theorem w_1170 : Cond.instanceMethod ⟨"java/lang/ArithmeticException", "<init>", "(Ljava/lang/String;)V"⟩ ∈ k_TBL := List.mem_filter.mpr ⟨List.mem_of_getElem? (i := 1170) (by decide +kernel), rfl⟩
theorem w_1172 : Cond.methodLink "java/lang/ArithmeticException" 7 ⟨"java/lang/RuntimeException", "<init>", "(Ljava/lang/String;)V"⟩ ∈ k_TBL := List.mem_filter.mpr ⟨List.mem_of_getElem? (i := 1172) (by decide +kernel), rfl⟩
theorem w_1180 : Cond.castable "java/lang/ArithmeticException" "java/lang/ArithmeticException" ∈ k_NW := List.mem_filter.mpr ⟨List.mem_of_getElem? (i := 1180) (by decide +kernel), rfl⟩
theorem w_1181 : Cond.selects "java/lang/ArithmeticException" ⟨"java/lang/Throwable", "fillInStackTrace", "(I)Ljava/lang/Throwable;"⟩ ⟨"java/lang/Throwable", "fillInStackTrace", "(I)Ljava/lang/Throwable;"⟩ ∈ k_TBL := List.mem_filter.mpr ⟨List.mem_of_getElem? (i := 1181) (by decide +kernel), rfl⟩
theorem w_1182 : Cond.methodLink "OptionBlockPlannerLaw" 92 yX7_meanClassSize ∈ k_TBL := List.mem_filter.mpr ⟨List.mem_of_getElem? (i := 1182) (by decide +kernel), rfl⟩
theorem w_1183 : Cond.instanceMethod yX7_meanClassSize ∈ k_TBL := List.mem_filter.mpr ⟨List.mem_of_getElem? (i := 1183) (by decide +kernel), rfl⟩
theorem w_1184 : Cond.selects "OptionBlockPlanner" yX7_meanClassSize yX7_meanClassSize ∈ k_TBL := List.mem_filter.mpr ⟨List.mem_of_getElem? (i := 1184) (by decide +kernel), rfl⟩
theorem w_1186 : Cond.methodLink "OptionBlockPlanner" 201 yX5_openClasses ∈ k_TBL := List.mem_filter.mpr ⟨List.mem_of_getElem? (i := 1186) (by decide +kernel), rfl⟩
theorem w_1187 : Cond.instanceMethod yX5_openClasses ∈ k_TBL := List.mem_filter.mpr ⟨List.mem_of_getElem? (i := 1187) (by decide +kernel), rfl⟩
theorem w_1188 : Cond.selects "OptionBlockPlanner$Plan" yX5_openClasses yX5_openClasses ∈ k_TBL := List.mem_filter.mpr ⟨List.mem_of_getElem? (i := 1188) (by decide +kernel), rfl⟩
theorem w_1190 : Cond.classLink "OptionBlockPlanner" 205 "java/lang/ArithmeticException" ∈ k_TBL := List.mem_filter.mpr ⟨List.mem_of_getElem? (i := 1190) (by decide +kernel), rfl⟩
theorem w_1191 : Cond.stringRef "OptionBlockPlanner" 207 "no class is open" ∈ lw_tbl := List.mem_of_getElem? (i := 1191) (by decide +kernel)
theorem w_1192 : Cond.methodLink "OptionBlockPlanner" 209 ⟨"java/lang/ArithmeticException", "<init>", "(Ljava/lang/String;)V"⟩ ∈ k_TBL := List.mem_filter.mpr ⟨List.mem_of_getElem? (i := 1192) (by decide +kernel), rfl⟩
theorem w_1193 : Cond.methodLink "OptionBlockPlanner" 212 yX5_lessonsOfAll ∈ k_TBL := List.mem_filter.mpr ⟨List.mem_of_getElem? (i := 1193) (by decide +kernel), rfl⟩
theorem w_1194 : Cond.methodLink "OptionBlockPlannerLaw" 271 yL_movesFor ∈ k_TBL := List.mem_filter.mpr ⟨List.mem_of_getElem? (i := 1194) (by decide +kernel), rfl⟩
theorem w_1195 : Cond.static yL_movesFor ∈ k_TBL := List.mem_filter.mpr ⟨List.mem_of_getElem? (i := 1195) (by decide +kernel), rfl⟩
theorem w_1197 : Cond.methodLink "OptionBlockPlannerLaw" 98 yX7_movesFor ∈ k_TBL := List.mem_filter.mpr ⟨List.mem_of_getElem? (i := 1197) (by decide +kernel), rfl⟩
theorem w_1198 : Cond.instanceMethod yX7_movesFor ∈ k_TBL := List.mem_filter.mpr ⟨List.mem_of_getElem? (i := 1198) (by decide +kernel), rfl⟩
theorem w_1199 : Cond.selects "OptionBlockPlanner" yX7_movesFor yX7_movesFor ∈ k_TBL := List.mem_filter.mpr ⟨List.mem_of_getElem? (i := 1199) (by decide +kernel), rfl⟩
theorem w_1201 : Cond.methodLink "OptionBlockPlanner" 215 yX2_faultOfJoiner ∈ k_TBL := List.mem_filter.mpr ⟨List.mem_of_getElem? (i := 1201) (by decide +kernel), rfl⟩
theorem w_1202 : Cond.methodLink "OptionBlockPlanner" 218 yX5_freeBlocks ∈ k_TBL := List.mem_filter.mpr ⟨List.mem_of_getElem? (i := 1202) (by decide +kernel), rfl⟩
theorem w_1203 : Cond.methodLink "OptionBlockPlanner" 221 yX1_fewestMoves ∈ k_TBL := List.mem_filter.mpr ⟨List.mem_of_getElem? (i := 1203) (by decide +kernel), rfl⟩
theorem w_1204 : Cond.methodLink "OptionBlockPlannerLaw" 274 yL_movesByTrial ∈ k_TBL := List.mem_filter.mpr ⟨List.mem_of_getElem? (i := 1204) (by decide +kernel), rfl⟩
theorem w_1205 : Cond.static yL_movesByTrial ∈ k_TBL := List.mem_filter.mpr ⟨List.mem_of_getElem? (i := 1205) (by decide +kernel), rfl⟩
theorem w_1207 : Cond.methodLink "OptionBlockPlannerLaw" 101 yX7_movesByTrial ∈ k_TBL := List.mem_filter.mpr ⟨List.mem_of_getElem? (i := 1207) (by decide +kernel), rfl⟩
theorem w_1208 : Cond.instanceMethod yX7_movesByTrial ∈ k_TBL := List.mem_filter.mpr ⟨List.mem_of_getElem? (i := 1208) (by decide +kernel), rfl⟩
theorem w_1209 : Cond.selects "OptionBlockPlanner" yX7_movesByTrial yX7_movesByTrial ∈ k_TBL := List.mem_filter.mpr ⟨List.mem_of_getElem? (i := 1209) (by decide +kernel), rfl⟩
theorem w_1211 : Cond.methodLink "OptionBlockPlanner" 224 yX1_fewestMovesByTrial ∈ k_TBL := List.mem_filter.mpr ⟨List.mem_of_getElem? (i := 1211) (by decide +kernel), rfl⟩
theorem w_1212 : Cond.instanceMethod yX1_fewestMovesByTrial ∈ k_TBL := List.mem_filter.mpr ⟨List.mem_of_getElem? (i := 1212) (by decide +kernel), rfl⟩
theorem w_1213 : Cond.selects "OptionBlockPlanner$Chains" yX1_fewestMovesByTrial yX1_fewestMovesByTrial ∈ k_TBL := List.mem_filter.mpr ⟨List.mem_of_getElem? (i := 1213) (by decide +kernel), rfl⟩
theorem w_1215 : Cond.methodLink "OptionBlockPlanner$Chains" 60 yX1_leadsToRoom ∈ k_TBL := List.mem_filter.mpr ⟨List.mem_of_getElem? (i := 1215) (by decide +kernel), rfl⟩
theorem w_1216 : Cond.static yX1_leadsToRoom ∈ k_TBL := List.mem_filter.mpr ⟨List.mem_of_getElem? (i := 1216) (by decide +kernel), rfl⟩
theorem w_1218 : Cond.methodLink "OptionBlockPlannerLaw" 277 yL_join ∈ k_TBL := List.mem_filter.mpr ⟨List.mem_of_getElem? (i := 1218) (by decide +kernel), rfl⟩
theorem w_1219 : Cond.static yL_join ∈ k_TBL := List.mem_filter.mpr ⟨List.mem_of_getElem? (i := 1219) (by decide +kernel), rfl⟩
theorem w_1221 : Cond.classLink "OptionBlockPlannerLaw" 107 "java/lang/UnsupportedOperationException" ∈ k_TBL := List.mem_filter.mpr ⟨List.mem_of_getElem? (i := 1221) (by decide +kernel), rfl⟩
theorem w_1222 : Cond.methodLink "OptionBlockPlannerLaw" 104 yX7_join ∈ k_TBL := List.mem_filter.mpr ⟨List.mem_of_getElem? (i := 1222) (by decide +kernel), rfl⟩
theorem w_1223 : Cond.instanceMethod yX7_join ∈ k_TBL := List.mem_filter.mpr ⟨List.mem_of_getElem? (i := 1223) (by decide +kernel), rfl⟩
theorem w_1224 : Cond.selects "OptionBlockPlanner" yX7_join yX7_join ∈ k_TBL := List.mem_filter.mpr ⟨List.mem_of_getElem? (i := 1224) (by decide +kernel), rfl⟩
theorem w_1226 : Cond.methodLink "OptionBlockPlannerLaw" 280 yL_quit ∈ k_TBL := List.mem_filter.mpr ⟨List.mem_of_getElem? (i := 1226) (by decide +kernel), rfl⟩
theorem w_1227 : Cond.static yL_quit ∈ k_TBL := List.mem_filter.mpr ⟨List.mem_of_getElem? (i := 1227) (by decide +kernel), rfl⟩
theorem w_1229 : Cond.methodLink "OptionBlockPlannerLaw" 109 yX7_quit ∈ k_TBL := List.mem_filter.mpr ⟨List.mem_of_getElem? (i := 1229) (by decide +kernel), rfl⟩
theorem w_1230 : Cond.instanceMethod yX7_quit ∈ k_TBL := List.mem_filter.mpr ⟨List.mem_of_getElem? (i := 1230) (by decide +kernel), rfl⟩
theorem w_1231 : Cond.selects "OptionBlockPlanner" yX7_quit yX7_quit ∈ k_TBL := List.mem_filter.mpr ⟨List.mem_of_getElem? (i := 1231) (by decide +kernel), rfl⟩
theorem w_1233 : Cond.methodLink "OptionBlockPlannerLaw" 283 yL_change ∈ k_TBL := List.mem_filter.mpr ⟨List.mem_of_getElem? (i := 1233) (by decide +kernel), rfl⟩
theorem w_1234 : Cond.static yL_change ∈ k_TBL := List.mem_filter.mpr ⟨List.mem_of_getElem? (i := 1234) (by decide +kernel), rfl⟩
theorem w_1236 : Cond.methodLink "OptionBlockPlannerLaw" 112 yX7_change ∈ k_TBL := List.mem_filter.mpr ⟨List.mem_of_getElem? (i := 1236) (by decide +kernel), rfl⟩
theorem w_1237 : Cond.instanceMethod yX7_change ∈ k_TBL := List.mem_filter.mpr ⟨List.mem_of_getElem? (i := 1237) (by decide +kernel), rfl⟩
theorem w_1238 : Cond.selects "OptionBlockPlanner" yX7_change yX7_change ∈ k_TBL := List.mem_filter.mpr ⟨List.mem_of_getElem? (i := 1238) (by decide +kernel), rfl⟩
theorem w_1240 : Cond.methodLink "OptionBlockPlannerLaw" 286 yL_refusalReason ∈ k_TBL := List.mem_filter.mpr ⟨List.mem_of_getElem? (i := 1240) (by decide +kernel), rfl⟩
theorem w_1241 : Cond.static yL_refusalReason ∈ k_TBL := List.mem_filter.mpr ⟨List.mem_of_getElem? (i := 1241) (by decide +kernel), rfl⟩
theorem w_1243 : Cond.methodLink "OptionBlockPlannerLaw" 115 yX7_refusalReason ∈ k_TBL := List.mem_filter.mpr ⟨List.mem_of_getElem? (i := 1243) (by decide +kernel), rfl⟩
theorem w_1244 : Cond.instanceMethod yX7_refusalReason ∈ k_TBL := List.mem_filter.mpr ⟨List.mem_of_getElem? (i := 1244) (by decide +kernel), rfl⟩
theorem w_1245 : Cond.selects "OptionBlockPlanner" yX7_refusalReason yX7_refusalReason ∈ k_TBL := List.mem_filter.mpr ⟨List.mem_of_getElem? (i := 1245) (by decide +kernel), rfl⟩
theorem w_1247 : Cond.methodLink "OptionBlockPlannerLaw" 289 yL_chainMoves ∈ k_TBL := List.mem_filter.mpr ⟨List.mem_of_getElem? (i := 1247) (by decide +kernel), rfl⟩
theorem w_1248 : Cond.static yL_chainMoves ∈ k_TBL := List.mem_filter.mpr ⟨List.mem_of_getElem? (i := 1248) (by decide +kernel), rfl⟩
theorem w_1250 : Cond.methodLink "OptionBlockPlannerLaw" 118 yX7_chainMoves ∈ k_TBL := List.mem_filter.mpr ⟨List.mem_of_getElem? (i := 1250) (by decide +kernel), rfl⟩
theorem w_1251 : Cond.instanceMethod yX7_chainMoves ∈ k_TBL := List.mem_filter.mpr ⟨List.mem_of_getElem? (i := 1251) (by decide +kernel), rfl⟩
theorem w_1252 : Cond.selects "OptionBlockPlanner" yX7_chainMoves yX7_chainMoves ∈ k_TBL := List.mem_filter.mpr ⟨List.mem_of_getElem? (i := 1252) (by decide +kernel), rfl⟩
theorem w_1254 : Cond.methodLink "OptionBlockPlannerLaw" 292 yL_chainPupil ∈ k_TBL := List.mem_filter.mpr ⟨List.mem_of_getElem? (i := 1254) (by decide +kernel), rfl⟩
theorem w_1255 : Cond.static yL_chainPupil ∈ k_TBL := List.mem_filter.mpr ⟨List.mem_of_getElem? (i := 1255) (by decide +kernel), rfl⟩
theorem w_1257 : Cond.methodLink "OptionBlockPlannerLaw" 121 yX7_chainPupil ∈ k_TBL := List.mem_filter.mpr ⟨List.mem_of_getElem? (i := 1257) (by decide +kernel), rfl⟩
theorem w_1258 : Cond.instanceMethod yX7_chainPupil ∈ k_TBL := List.mem_filter.mpr ⟨List.mem_of_getElem? (i := 1258) (by decide +kernel), rfl⟩
theorem w_1259 : Cond.selects "OptionBlockPlanner" yX7_chainPupil yX7_chainPupil ∈ k_TBL := List.mem_filter.mpr ⟨List.mem_of_getElem? (i := 1259) (by decide +kernel), rfl⟩
theorem w_1261 : Cond.methodLink "OptionBlockPlannerLaw" 295 yL_chainBlock ∈ k_TBL := List.mem_filter.mpr ⟨List.mem_of_getElem? (i := 1261) (by decide +kernel), rfl⟩
theorem w_1262 : Cond.static yL_chainBlock ∈ k_TBL := List.mem_filter.mpr ⟨List.mem_of_getElem? (i := 1262) (by decide +kernel), rfl⟩
theorem w_1264 : Cond.methodLink "OptionBlockPlannerLaw" 124 yX7_chainBlock ∈ k_TBL := List.mem_filter.mpr ⟨List.mem_of_getElem? (i := 1264) (by decide +kernel), rfl⟩
theorem w_1265 : Cond.instanceMethod yX7_chainBlock ∈ k_TBL := List.mem_filter.mpr ⟨List.mem_of_getElem? (i := 1265) (by decide +kernel), rfl⟩
theorem w_1266 : Cond.selects "OptionBlockPlanner" yX7_chainBlock yX7_chainBlock ∈ k_TBL := List.mem_filter.mpr ⟨List.mem_of_getElem? (i := 1266) (by decide +kernel), rfl⟩
theorem w_1268 : Cond.methodLink "OptionBlockPlannerLaw" 298 yL_commonWishes ∈ k_TBL := List.mem_filter.mpr ⟨List.mem_of_getElem? (i := 1268) (by decide +kernel), rfl⟩
theorem w_1269 : Cond.static yL_commonWishes ∈ k_TBL := List.mem_filter.mpr ⟨List.mem_of_getElem? (i := 1269) (by decide +kernel), rfl⟩
theorem w_1271 : Cond.methodLink "OptionBlockPlannerLaw" 127 yX7_commonWishes ∈ k_TBL := List.mem_filter.mpr ⟨List.mem_of_getElem? (i := 1271) (by decide +kernel), rfl⟩
theorem w_1272 : Cond.instanceMethod yX7_commonWishes ∈ k_TBL := List.mem_filter.mpr ⟨List.mem_of_getElem? (i := 1272) (by decide +kernel), rfl⟩
theorem w_1273 : Cond.selects "OptionBlockPlanner" yX7_commonWishes yX7_commonWishes ∈ k_TBL := List.mem_filter.mpr ⟨List.mem_of_getElem? (i := 1273) (by decide +kernel), rfl⟩
theorem w_1275 : Cond.methodLink "OptionBlockPlanner" 239 yX7_needPair ∈ k_TBL := List.mem_filter.mpr ⟨List.mem_of_getElem? (i := 1275) (by decide +kernel), rfl⟩
theorem w_1277 : Cond.instanceMethod yX7_needPair ∈ k_TBL := List.mem_filter.mpr ⟨List.mem_of_getElem? (i := 1277) (by decide +kernel), rfl⟩
theorem w_1279 : Cond.stringRef "OptionBlockPlanner" 328 "twice the same subject" ∈ lw_tbl := List.mem_of_getElem? (i := 1279) (by decide +kernel)
theorem w_1280 : Cond.methodLink "OptionBlockPlannerLaw" 301 yL_doClash ∈ k_TBL := List.mem_filter.mpr ⟨List.mem_of_getElem? (i := 1280) (by decide +kernel), rfl⟩
theorem w_1281 : Cond.static yL_doClash ∈ k_TBL := List.mem_filter.mpr ⟨List.mem_of_getElem? (i := 1281) (by decide +kernel), rfl⟩
theorem w_1283 : Cond.methodLink "OptionBlockPlannerLaw" 130 yX7_doClash ∈ k_TBL := List.mem_filter.mpr ⟨List.mem_of_getElem? (i := 1283) (by decide +kernel), rfl⟩
theorem w_1284 : Cond.instanceMethod yX7_doClash ∈ k_TBL := List.mem_filter.mpr ⟨List.mem_of_getElem? (i := 1284) (by decide +kernel), rfl⟩
theorem w_1285 : Cond.selects "OptionBlockPlanner" yX7_doClash yX7_doClash ∈ k_TBL := List.mem_filter.mpr ⟨List.mem_of_getElem? (i := 1285) (by decide +kernel), rfl⟩
theorem w_1287 : Cond.methodLink "OptionBlockPlannerLaw" 316 yL_arrange ∈ k_TBL := List.mem_filter.mpr ⟨List.mem_of_getElem? (i := 1287) (by decide +kernel), rfl⟩
theorem w_1288 : Cond.static yL_arrange ∈ k_TBL := List.mem_filter.mpr ⟨List.mem_of_getElem? (i := 1288) (by decide +kernel), rfl⟩
theorem w_1290 : Cond.methodLink "OptionBlockPlannerLaw" 133 yX7_arrange ∈ k_TBL := List.mem_filter.mpr ⟨List.mem_of_getElem? (i := 1290) (by decide +kernel), rfl⟩
theorem w_1291 : Cond.instanceMethod yX7_arrange ∈ k_TBL := List.mem_filter.mpr ⟨List.mem_of_getElem? (i := 1291) (by decide +kernel), rfl⟩
theorem w_1292 : Cond.selects "OptionBlockPlanner" yX7_arrange yX7_arrange ∈ k_TBL := List.mem_filter.mpr ⟨List.mem_of_getElem? (i := 1292) (by decide +kernel), rfl⟩
theorem w_1294 : Cond.methodLink "OptionBlockPlannerLaw" 319 yL_writeTimetable ∈ k_TBL := List.mem_filter.mpr ⟨List.mem_of_getElem? (i := 1294) (by decide +kernel), rfl⟩
theorem w_1295 : Cond.static yL_writeTimetable ∈ k_TBL := List.mem_filter.mpr ⟨List.mem_of_getElem? (i := 1295) (by decide +kernel), rfl⟩
theorem w_1297 : Cond.methodLink "OptionBlockPlannerLaw" 136 yX7_writeTimetable ∈ k_TBL := List.mem_filter.mpr ⟨List.mem_of_getElem? (i := 1297) (by decide +kernel), rfl⟩
theorem w_1298 : Cond.instanceMethod yX7_writeTimetable ∈ k_TBL := List.mem_filter.mpr ⟨List.mem_of_getElem? (i := 1298) (by decide +kernel), rfl⟩
theorem w_1299 : Cond.selects "OptionBlockPlanner" yX7_writeTimetable yX7_writeTimetable ∈ k_TBL := List.mem_filter.mpr ⟨List.mem_of_getElem? (i := 1299) (by decide +kernel), rfl⟩
theorem w_1301 : Cond.methodLink "OptionBlockPlanner" 255 yJ4_setLength_d00df ∈ k_TBL := List.mem_filter.mpr ⟨List.mem_of_getElem? (i := 1301) (by decide +kernel), rfl⟩
theorem w_1302 : Cond.instanceMethod yJ4_setLength_d00df ∈ k_TBL := List.mem_filter.mpr ⟨List.mem_of_getElem? (i := 1302) (by decide +kernel), rfl⟩
theorem w_1303 : Cond.selects "java/lang/StringBuilder" yJ4_setLength_d00df yJ4_setLength_d00df ∈ k_TBL := List.mem_filter.mpr ⟨List.mem_of_getElem? (i := 1303) (by decide +kernel), rfl⟩
theorem w_1305 : Cond.methodLink "java/lang/StringBuilder" 333 yJ5_setLength_d00df ∈ k_TBL := List.mem_filter.mpr ⟨List.mem_of_getElem? (i := 1305) (by decide +kernel), rfl⟩
theorem w_1306 : Cond.instanceMethod yJ5_setLength_d00df ∈ k_TBL := List.mem_filter.mpr ⟨List.mem_of_getElem? (i := 1306) (by decide +kernel), rfl⟩
theorem w_1308 : Cond.classLink "java/lang/AbstractStringBuilder" 129 "java/lang/StringIndexOutOfBoundsException" ∈ k_TBL := List.mem_filter.mpr ⟨List.mem_of_getElem? (i := 1308) (by decide +kernel), rfl⟩
theorem w_1309 : Cond.instantiable "java/lang/StringIndexOutOfBoundsException" 6 ∈ k_TBL := List.mem_filter.mpr ⟨List.mem_of_getElem? (i := 1309) (by decide +kernel), rfl⟩
theorem w_1310 : Cond.methodLink "java/lang/AbstractStringBuilder" 131 yJx7c733_init_d00df ∈ k_TBL := List.mem_filter.mpr ⟨List.mem_of_getElem? (i := 1310) (by decide +kernel), rfl⟩
theorem w_1311 : Cond.instanceMethod yJx7c733_init_d00df ∈ k_TBL := List.mem_filter.mpr ⟨List.mem_of_getElem? (i := 1311) (by decide +kernel), rfl⟩
theorem w_1313 : Cond.classLink "java/lang/StringIndexOutOfBoundsException" 10 "java/lang/StringBuilder" ∈ k_TBL := List.mem_filter.mpr ⟨List.mem_of_getElem? (i := 1313) (by decide +kernel), rfl⟩
theorem w_1314 : Cond.methodLink "java/lang/StringIndexOutOfBoundsException" 12 yJ4_init_da8c8 ∈ k_TBL := List.mem_filter.mpr ⟨List.mem_of_getElem? (i := 1314) (by decide +kernel), rfl⟩
theorem w_1315 : Cond.stringRef "java/lang/StringIndexOutOfBoundsException" 13 "String index out of range: " ∈ lw_tbl := List.mem_of_getElem? (i := 1315) (by decide +kernel)
theorem w_1316 : Cond.methodLink "java/lang/StringIndexOutOfBoundsException" 15 yJ4_append_15ec4 ∈ k_TBL := List.mem_filter.mpr ⟨List.mem_of_getElem? (i := 1316) (by decide +kernel), rfl⟩
theorem w_1317 : Cond.instanceMethod yJ4_append_15ec4 ∈ k_TBL := List.mem_filter.mpr ⟨List.mem_of_getElem? (i := 1317) (by decide +kernel), rfl⟩
theorem w_1318 : Cond.selects "java/lang/StringBuilder" yJ4_append_15ec4 yJ4_append_15ec4 ∈ k_TBL := List.mem_filter.mpr ⟨List.mem_of_getElem? (i := 1318) (by decide +kernel), rfl⟩
theorem w_1320 : Cond.methodLink "java/lang/StringBuilder" 29 yJ5_append_cf1ce ∈ k_TBL := List.mem_filter.mpr ⟨List.mem_of_getElem? (i := 1320) (by decide +kernel), rfl⟩
theorem w_1321 : Cond.instanceMethod yJ5_append_cf1ce ∈ k_TBL := List.mem_filter.mpr ⟨List.mem_of_getElem? (i := 1321) (by decide +kernel), rfl⟩
theorem w_1323 : Cond.methodLink "java/lang/AbstractStringBuilder" 204 yJ5_appendNull_278bc ∈ k_TBL := List.mem_filter.mpr ⟨List.mem_of_getElem? (i := 1323) (by decide +kernel), rfl⟩
theorem w_1325 : Cond.instanceMethod yJ5_appendNull_278bc ∈ k_TBL := List.mem_filter.mpr ⟨List.mem_of_getElem? (i := 1325) (by decide +kernel), rfl⟩
theorem w_1327 : Cond.methodLink "java/lang/AbstractStringBuilder" 100 yJ5_ensureCapacityInternal_d00df ∈ k_TBL := List.mem_filter.mpr ⟨List.mem_of_getElem? (i := 1327) (by decide +kernel), rfl⟩
theorem w_1329 : Cond.instanceMethod yJ5_ensureCapacityInternal_d00df ∈ k_TBL := List.mem_filter.mpr ⟨List.mem_of_getElem? (i := 1329) (by decide +kernel), rfl⟩
theorem w_1331 : Cond.methodLink "java/lang/AbstractStringBuilder" 104 yJ5_newCapacity_0f7a4 ∈ k_TBL := List.mem_filter.mpr ⟨List.mem_of_getElem? (i := 1331) (by decide +kernel), rfl⟩
theorem w_1333 : Cond.instanceMethod yJ5_newCapacity_0f7a4 ∈ k_TBL := List.mem_filter.mpr ⟨List.mem_of_getElem? (i := 1333) (by decide +kernel), rfl⟩
theorem w_1335 : Cond.methodLink "java/lang/AbstractStringBuilder" 114 yJ8_newLength_cabcc ∈ k_TBL := List.mem_filter.mpr ⟨List.mem_of_getElem? (i := 1335) (by decide +kernel), rfl⟩
theorem w_1336 : Cond.static yJ8_newLength_cabcc ∈ k_TBL := List.mem_filter.mpr ⟨List.mem_of_getElem? (i := 1336) (by decide +kernel), rfl⟩
theorem w_1338 : Cond.methodLink "jdk/internal/util/ArraysSupport" 194 yJ9_max_7cf53 ∈ k_TBL := List.mem_filter.mpr ⟨List.mem_of_getElem? (i := 1338) (by decide +kernel), rfl⟩
theorem w_1340 : Cond.methodLink "jdk/internal/util/ArraysSupport" 201 yJ8_hugeLength_7cf53 ∈ k_TBL := List.mem_filter.mpr ⟨List.mem_of_getElem? (i := 1340) (by decide +kernel), rfl⟩
theorem w_1341 : Cond.static yJ8_hugeLength_7cf53 ∈ k_TBL := List.mem_filter.mpr ⟨List.mem_of_getElem? (i := 1341) (by decide +kernel), rfl⟩
theorem w_1344 : Cond.methodLink "java/lang/AbstractStringBuilder" 108 yJ7_copyOf_9075b ∈ k_TBL := List.mem_filter.mpr ⟨List.mem_of_getElem? (i := 1344) (by decide +kernel), rfl⟩
theorem w_1345 : Cond.static yJ7_copyOf_9075b ∈ k_TBL := List.mem_filter.mpr ⟨List.mem_of_getElem? (i := 1345) (by decide +kernel), rfl⟩
theorem w_1347 : Cond.methodLink "java/util/Arrays" 310 ⟨"[B", "clone", "()Ljava/lang/Object;"⟩ ∈ k_TBL := List.mem_filter.mpr ⟨List.mem_of_getElem? (i := 1347) (by decide +kernel), rfl⟩
theorem w_1350 : Cond.instanceMethod ⟨"java/lang/Object", "clone", "()Ljava/lang/Object;"⟩ ∈ k_TBL := List.mem_filter.mpr ⟨List.mem_of_getElem? (i := 1350) (by decide +kernel), rfl⟩
theorem w_1351 : Cond.selects "[B" ⟨"[B", "clone", "()Ljava/lang/Object;"⟩ ⟨"java/lang/Object", "clone", "()Ljava/lang/Object;"⟩ ∈ k_TBL := List.mem_filter.mpr ⟨List.mem_of_getElem? (i := 1351) (by decide +kernel), rfl⟩
theorem w_1352 : Cond.castable "[B" "java/lang/Cloneable" ∈ k_NW := List.mem_filter.mpr ⟨List.mem_of_getElem? (i := 1352) (by decide +kernel), rfl⟩
theorem w_1353 : Cond.classLink "java/util/Arrays" 311 "[B" ∈ k_TBL := List.mem_filter.mpr ⟨List.mem_of_getElem? (i := 1353) (by decide +kernel), rfl⟩
theorem w_1354 : Cond.methodLink "java/util/Arrays" 304 yJ9_min_7cf53 ∈ k_TBL := List.mem_filter.mpr ⟨List.mem_of_getElem? (i := 1354) (by decide +kernel), rfl⟩
theorem w_1355 : Cond.methodLink "java/util/Arrays" 150 ⟨"java/lang/System", "arraycopy", "(Ljava/lang/Object;ILjava/lang/Object;II)V"⟩ ∈ k_TBL := List.mem_filter.mpr ⟨List.mem_of_getElem? (i := 1355) (by decide +kernel), rfl⟩
theorem w_1356 : Cond.methodLink "java/lang/AbstractStringBuilder" 83 yJ5_isLatin1_aae02 ∈ k_TBL := List.mem_filter.mpr ⟨List.mem_of_getElem? (i := 1356) (by decide +kernel), rfl⟩
theorem w_1357 : Cond.instanceMethod yJ5_isLatin1_aae02 ∈ k_TBL := List.mem_filter.mpr ⟨List.mem_of_getElem? (i := 1357) (by decide +kernel), rfl⟩
theorem w_1359 : Cond.selects "java/lang/StringBuilder" yJ5_isLatin1_aae02 yJ5_isLatin1_aae02 ∈ k_TBL := List.mem_filter.mpr ⟨List.mem_of_getElem? (i := 1359) (by decide +kernel), rfl⟩
theorem w_1361 : Cond.methodLink "java/lang/AbstractStringBuilder" 226 yJ2_putCharsAt_cd4e5 ∈ k_TBL := List.mem_filter.mpr ⟨List.mem_of_getElem? (i := 1361) (by decide +kernel), rfl⟩
theorem w_1362 : Cond.static yJ2_putCharsAt_cd4e5 ∈ k_TBL := List.mem_filter.mpr ⟨List.mem_of_getElem? (i := 1362) (by decide +kernel), rfl⟩
theorem w_1364 : Cond.methodLink "java/lang/StringUTF16" 96 yJ2_checkBoundsBeginEnd_d044e ∈ k_TBL := List.mem_filter.mpr ⟨List.mem_of_getElem? (i := 1364) (by decide +kernel), rfl⟩
theorem w_1365 : Cond.static yJ2_checkBoundsBeginEnd_d044e ∈ k_TBL := List.mem_filter.mpr ⟨List.mem_of_getElem? (i := 1365) (by decide +kernel), rfl⟩
theorem w_1367 : Cond.methodLink "java/lang/StringUTF16" 48 yJ2_length_9d52b ∈ k_TBL := List.mem_filter.mpr ⟨List.mem_of_getElem? (i := 1367) (by decide +kernel), rfl⟩
theorem w_1368 : Cond.static yJ2_length_9d52b ∈ k_TBL := List.mem_filter.mpr ⟨List.mem_of_getElem? (i := 1368) (by decide +kernel), rfl⟩
theorem w_1370 : Cond.methodLink "java/lang/StringUTF16" 241 yJ0_checkBoundsBeginEnd_23922 ∈ k_TBL := List.mem_filter.mpr ⟨List.mem_of_getElem? (i := 1370) (by decide +kernel), rfl⟩
theorem w_1371 : Cond.static yJ0_checkBoundsBeginEnd_23922 ∈ k_TBL := List.mem_filter.mpr ⟨List.mem_of_getElem? (i := 1371) (by decide +kernel), rfl⟩
theorem w_1373 : Cond.fieldLink "java/lang/String" 1053 "jdk/internal/util/Preconditions" "SIOOBE_FORMATTER" "Ljava/util/function/BiFunction;" ∈ k_TBL := List.mem_filter.mpr ⟨List.mem_of_getElem? (i := 1373) (by decide +kernel), rfl⟩
theorem w_1375 : Cond.methodLink "java/lang/String" 1062 yJ3_checkFromToIndex_8c36e ∈ k_TBL := List.mem_filter.mpr ⟨List.mem_of_getElem? (i := 1375) (by decide +kernel), rfl⟩
theorem w_1376 : Cond.static yJ3_checkFromToIndex_8c36e ∈ k_TBL := List.mem_filter.mpr ⟨List.mem_of_getElem? (i := 1376) (by decide +kernel), rfl⟩
theorem w_1378 : Cond.methodLink "java/lang/StringUTF16" 111 yJ2_putChar_b72d1 ∈ k_TBL := List.mem_filter.mpr ⟨List.mem_of_getElem? (i := 1378) (by decide +kernel), rfl⟩
theorem w_1379 : Cond.static yJ2_putChar_b72d1 ∈ k_TBL := List.mem_filter.mpr ⟨List.mem_of_getElem? (i := 1379) (by decide +kernel), rfl⟩
theorem w_1381 : Cond.fieldLink "java/lang/StringUTF16" 44 "java/lang/StringUTF16" "$assertionsDisabled" "Z" ∈ k_TBL := List.mem_filter.mpr ⟨List.mem_of_getElem? (i := 1381) (by decide +kernel), rfl⟩
theorem w_1383 : Cond.fieldLink "java/lang/StringUTF16" 59 "java/lang/StringUTF16" "HI_BYTE_SHIFT" "I" ∈ k_TBL := List.mem_filter.mpr ⟨List.mem_of_getElem? (i := 1383) (by decide +kernel), rfl⟩
theorem w_1385 : Cond.fieldLink "java/lang/StringUTF16" 63 "java/lang/StringUTF16" "LO_BYTE_SHIFT" "I" ∈ k_TBL := List.mem_filter.mpr ⟨List.mem_of_getElem? (i := 1385) (by decide +kernel), rfl⟩
theorem w_1387 : Cond.methodLink "java/lang/AbstractStringBuilder" 32 yJ0_length_8abf5 ∈ k_TBL := List.mem_filter.mpr ⟨List.mem_of_getElem? (i := 1387) (by decide +kernel), rfl⟩
theorem w_1388 : Cond.instanceMethod yJ0_length_8abf5 ∈ k_TBL := List.mem_filter.mpr ⟨List.mem_of_getElem? (i := 1388) (by decide +kernel), rfl⟩
theorem w_1389 : Cond.selects "java/lang/String" yJ0_length_8abf5 yJ0_length_8abf5 ∈ k_TBL := List.mem_filter.mpr ⟨List.mem_of_getElem? (i := 1389) (by decide +kernel), rfl⟩
theorem w_1391 : Cond.methodLink "java/lang/String" 335 yJ0_coder_7d493 ∈ k_TBL := List.mem_filter.mpr ⟨List.mem_of_getElem? (i := 1391) (by decide +kernel), rfl⟩
theorem w_1392 : Cond.instanceMethod yJ0_coder_7d493 ∈ k_TBL := List.mem_filter.mpr ⟨List.mem_of_getElem? (i := 1392) (by decide +kernel), rfl⟩
theorem w_1393 : Cond.selects "java/lang/String" yJ0_coder_7d493 yJ0_coder_7d493 ∈ k_TBL := List.mem_filter.mpr ⟨List.mem_of_getElem? (i := 1393) (by decide +kernel), rfl⟩
theorem w_1395 : Cond.fieldLink "java/lang/String" 38 "java/lang/String" "COMPACT_STRINGS" "Z" ∈ k_TBL := List.mem_filter.mpr ⟨List.mem_of_getElem? (i := 1395) (by decide +kernel), rfl⟩
theorem w_1396 : Cond.methodLink "java/lang/AbstractStringBuilder" 208 yJ5_putStringAt_47b60 ∈ k_TBL := List.mem_filter.mpr ⟨List.mem_of_getElem? (i := 1396) (by decide +kernel), rfl⟩
theorem w_1398 : Cond.instanceMethod yJ5_putStringAt_47b60 ∈ k_TBL := List.mem_filter.mpr ⟨List.mem_of_getElem? (i := 1398) (by decide +kernel), rfl⟩
theorem w_1400 : Cond.methodLink "java/lang/AbstractStringBuilder" 397 yJ5_inflateIfNeededFor_a7421 ∈ k_TBL := List.mem_filter.mpr ⟨List.mem_of_getElem? (i := 1400) (by decide +kernel), rfl⟩
theorem w_1402 : Cond.instanceMethod yJ5_inflateIfNeededFor_a7421 ∈ k_TBL := List.mem_filter.mpr ⟨List.mem_of_getElem? (i := 1402) (by decide +kernel), rfl⟩
theorem w_1404 : Cond.methodLink "java/lang/AbstractStringBuilder" 40 yJ0_coder_7d493 ∈ k_TBL := List.mem_filter.mpr ⟨List.mem_of_getElem? (i := 1404) (by decide +kernel), rfl⟩
theorem w_1405 : Cond.methodLink "java/lang/AbstractStringBuilder" 195 yJ5_inflate_da8c8 ∈ k_TBL := List.mem_filter.mpr ⟨List.mem_of_getElem? (i := 1405) (by decide +kernel), rfl⟩
theorem w_1407 : Cond.instanceMethod yJ5_inflate_da8c8 ∈ k_TBL := List.mem_filter.mpr ⟨List.mem_of_getElem? (i := 1407) (by decide +kernel), rfl⟩
theorem w_1409 : Cond.methodLink "java/lang/AbstractStringBuilder" 125 yJ1_inflate_0e8fd ∈ k_TBL := List.mem_filter.mpr ⟨List.mem_of_getElem? (i := 1409) (by decide +kernel), rfl⟩
theorem w_1410 : Cond.static yJ1_inflate_0e8fd ∈ k_TBL := List.mem_filter.mpr ⟨List.mem_of_getElem? (i := 1410) (by decide +kernel), rfl⟩
theorem w_1412 : Cond.methodLink "java/lang/StringLatin1" 240 yJ2_inflate_0e8fd ∈ k_TBL := List.mem_filter.mpr ⟨List.mem_of_getElem? (i := 1412) (by decide +kernel), rfl⟩
theorem w_1413 : Cond.static yJ2_inflate_0e8fd ∈ k_TBL := List.mem_filter.mpr ⟨List.mem_of_getElem? (i := 1413) (by decide +kernel), rfl⟩
theorem w_1415 : Cond.methodLink "java/lang/StringUTF16" 173 yJ2_checkBoundsOffCount_d044e ∈ k_TBL := List.mem_filter.mpr ⟨List.mem_of_getElem? (i := 1415) (by decide +kernel), rfl⟩
theorem w_1416 : Cond.static yJ2_checkBoundsOffCount_d044e ∈ k_TBL := List.mem_filter.mpr ⟨List.mem_of_getElem? (i := 1416) (by decide +kernel), rfl⟩
theorem w_1418 : Cond.methodLink "java/lang/StringUTF16" 419 yJ0_checkBoundsOffCount_cabcc ∈ k_TBL := List.mem_filter.mpr ⟨List.mem_of_getElem? (i := 1418) (by decide +kernel), rfl⟩
theorem w_1419 : Cond.static yJ0_checkBoundsOffCount_cabcc ∈ k_TBL := List.mem_filter.mpr ⟨List.mem_of_getElem? (i := 1419) (by decide +kernel), rfl⟩
theorem w_1421 : Cond.methodLink "java/lang/String" 1065 yJ3_checkFromIndexSize_8c36e ∈ k_TBL := List.mem_filter.mpr ⟨List.mem_of_getElem? (i := 1421) (by decide +kernel), rfl⟩
theorem w_1422 : Cond.static yJ3_checkFromIndexSize_8c36e ∈ k_TBL := List.mem_filter.mpr ⟨List.mem_of_getElem? (i := 1422) (by decide +kernel), rfl⟩
theorem w_1424 : Cond.methodLink "java/lang/AbstractStringBuilder" 399 yJ0_getBytes_840e7 ∈ k_TBL := List.mem_filter.mpr ⟨List.mem_of_getElem? (i := 1424) (by decide +kernel), rfl⟩
theorem w_1425 : Cond.instanceMethod yJ0_getBytes_840e7 ∈ k_TBL := List.mem_filter.mpr ⟨List.mem_of_getElem? (i := 1425) (by decide +kernel), rfl⟩
theorem w_1426 : Cond.selects "java/lang/String" yJ0_getBytes_840e7 yJ0_getBytes_840e7 ∈ k_TBL := List.mem_filter.mpr ⟨List.mem_of_getElem? (i := 1426) (by decide +kernel), rfl⟩
theorem w_1428 : Cond.methodLink "java/lang/String" 212 ⟨"java/lang/System", "arraycopy", "(Ljava/lang/Object;ILjava/lang/Object;II)V"⟩ ∈ k_TBL := List.mem_filter.mpr ⟨List.mem_of_getElem? (i := 1428) (by decide +kernel), rfl⟩
theorem w_1429 : Cond.methodLink "java/lang/String" 106 yJ1_inflate_0e8fd ∈ k_TBL := List.mem_filter.mpr ⟨List.mem_of_getElem? (i := 1429) (by decide +kernel), rfl⟩
theorem w_1430 : Cond.methodLink "java/lang/StringIndexOutOfBoundsException" 19 yJ4_append_bf812 ∈ k_TBL := List.mem_filter.mpr ⟨List.mem_of_getElem? (i := 1430) (by decide +kernel), rfl⟩
theorem w_1431 : Cond.instanceMethod yJ4_append_bf812 ∈ k_TBL := List.mem_filter.mpr ⟨List.mem_of_getElem? (i := 1431) (by decide +kernel), rfl⟩
theorem w_1432 : Cond.selects "java/lang/StringBuilder" yJ4_append_bf812 yJ4_append_bf812 ∈ k_TBL := List.mem_filter.mpr ⟨List.mem_of_getElem? (i := 1432) (by decide +kernel), rfl⟩
theorem w_1434 : Cond.methodLink "java/lang/StringBuilder" 53 yJ5_append_c97b9 ∈ k_TBL := List.mem_filter.mpr ⟨List.mem_of_getElem? (i := 1434) (by decide +kernel), rfl⟩
theorem w_1435 : Cond.instanceMethod yJ5_append_c97b9 ∈ k_TBL := List.mem_filter.mpr ⟨List.mem_of_getElem? (i := 1435) (by decide +kernel), rfl⟩
theorem w_1437 : Cond.methodLink "java/lang/AbstractStringBuilder" 245 yJ6_stringSize_0f7a4 ∈ k_TBL := List.mem_filter.mpr ⟨List.mem_of_getElem? (i := 1437) (by decide +kernel), rfl⟩
theorem w_1438 : Cond.static yJ6_stringSize_0f7a4 ∈ k_TBL := List.mem_filter.mpr ⟨List.mem_of_getElem? (i := 1438) (by decide +kernel), rfl⟩
theorem w_1440 : Cond.methodLink "java/lang/AbstractStringBuilder" 248 yJ6_getChars_ba4f3 ∈ k_TBL := List.mem_filter.mpr ⟨List.mem_of_getElem? (i := 1440) (by decide +kernel), rfl⟩
theorem w_1441 : Cond.static yJ6_getChars_ba4f3 ∈ k_TBL := List.mem_filter.mpr ⟨List.mem_of_getElem? (i := 1441) (by decide +kernel), rfl⟩
theorem w_1443 : Cond.fieldLink "java/lang/Integer" 83 "java/lang/Integer" "DigitOnes" "[B" ∈ k_TBL := List.mem_filter.mpr ⟨List.mem_of_getElem? (i := 1443) (by decide +kernel), rfl⟩
theorem w_1445 : Cond.fieldLink "java/lang/Integer" 87 "java/lang/Integer" "DigitTens" "[B" ∈ k_TBL := List.mem_filter.mpr ⟨List.mem_of_getElem? (i := 1445) (by decide +kernel), rfl⟩
theorem w_1447 : Cond.methodLink "java/lang/AbstractStringBuilder" 251 yJ2_getChars_46870 ∈ k_TBL := List.mem_filter.mpr ⟨List.mem_of_getElem? (i := 1447) (by decide +kernel), rfl⟩
theorem w_1448 : Cond.static yJ2_getChars_46870 ∈ k_TBL := List.mem_filter.mpr ⟨List.mem_of_getElem? (i := 1448) (by decide +kernel), rfl⟩
theorem w_1450 : Cond.methodLink "java/lang/StringUTF16" 393 yJ2_getChars_ba4f3 ∈ k_TBL := List.mem_filter.mpr ⟨List.mem_of_getElem? (i := 1450) (by decide +kernel), rfl⟩
theorem w_1451 : Cond.static yJ2_getChars_ba4f3 ∈ k_TBL := List.mem_filter.mpr ⟨List.mem_of_getElem? (i := 1451) (by decide +kernel), rfl⟩
theorem w_1453 : Cond.fieldLink "java/lang/StringUTF16" 403 "java/lang/Integer" "DigitOnes" "[B" ∈ k_TBL := List.mem_filter.mpr ⟨List.mem_of_getElem? (i := 1453) (by decide +kernel), rfl⟩
theorem w_1454 : Cond.fieldLink "java/lang/StringUTF16" 407 "java/lang/Integer" "DigitTens" "[B" ∈ k_TBL := List.mem_filter.mpr ⟨List.mem_of_getElem? (i := 1454) (by decide +kernel), rfl⟩
theorem w_1455 : Cond.methodLink "java/lang/StringIndexOutOfBoundsException" 22 yJ4_toString_0e30d ∈ k_TBL := List.mem_filter.mpr ⟨List.mem_of_getElem? (i := 1455) (by decide +kernel), rfl⟩
theorem w_1456 : Cond.instanceMethod yJ4_toString_0e30d ∈ k_TBL := List.mem_filter.mpr ⟨List.mem_of_getElem? (i := 1456) (by decide +kernel), rfl⟩
theorem w_1457 : Cond.selects "java/lang/StringBuilder" yJ4_toString_0e30d yJ4_toString_0e30d ∈ k_TBL := List.mem_filter.mpr ⟨List.mem_of_getElem? (i := 1457) (by decide +kernel), rfl⟩
theorem w_1459 : Cond.classLink "java/lang/StringBuilder" 18 "java/lang/String" ∈ k_TBL := List.mem_filter.mpr ⟨List.mem_of_getElem? (i := 1459) (by decide +kernel), rfl⟩
theorem w_1460 : Cond.methodLink "java/lang/StringBuilder" 137 yJ0_init_81219 ∈ k_TBL := List.mem_filter.mpr ⟨List.mem_of_getElem? (i := 1460) (by decide +kernel), rfl⟩
theorem w_1461 : Cond.instanceMethod yJ0_init_81219 ∈ k_TBL := List.mem_filter.mpr ⟨List.mem_of_getElem? (i := 1461) (by decide +kernel), rfl⟩
theorem w_1463 : Cond.methodLink "java/lang/String" 489 yJ0_init_db425 ∈ k_TBL := List.mem_filter.mpr ⟨List.mem_of_getElem? (i := 1463) (by decide +kernel), rfl⟩
theorem w_1464 : Cond.instanceMethod yJ0_init_db425 ∈ k_TBL := List.mem_filter.mpr ⟨List.mem_of_getElem? (i := 1464) (by decide +kernel), rfl⟩
theorem w_1466 : Cond.methodLink "java/lang/String" 1 ⟨"java/lang/Object", "<init>", "()V"⟩ ∈ k_TBL := List.mem_filter.mpr ⟨List.mem_of_getElem? (i := 1466) (by decide +kernel), rfl⟩
theorem w_1467 : Cond.methodLink "java/lang/String" 552 yJ5_getValue_6d5f1 ∈ k_TBL := List.mem_filter.mpr ⟨List.mem_of_getElem? (i := 1467) (by decide +kernel), rfl⟩
theorem w_1468 : Cond.instanceMethod yJ5_getValue_6d5f1 ∈ k_TBL := List.mem_filter.mpr ⟨List.mem_of_getElem? (i := 1468) (by decide +kernel), rfl⟩
theorem w_1470 : Cond.selects "java/lang/StringBuilder" yJ5_getValue_6d5f1 yJ5_getValue_6d5f1 ∈ k_TBL := List.mem_filter.mpr ⟨List.mem_of_getElem? (i := 1470) (by decide +kernel), rfl⟩
theorem w_1472 : Cond.methodLink "java/lang/String" 549 yJ5_length_8abf5 ∈ k_TBL := List.mem_filter.mpr ⟨List.mem_of_getElem? (i := 1472) (by decide +kernel), rfl⟩
theorem w_1473 : Cond.instanceMethod yJ5_length_8abf5 ∈ k_TBL := List.mem_filter.mpr ⟨List.mem_of_getElem? (i := 1473) (by decide +kernel), rfl⟩
theorem w_1475 : Cond.selects "java/lang/StringBuilder" yJ5_length_8abf5 yJ4_length_8abf5 ∈ k_TBL := List.mem_filter.mpr ⟨List.mem_of_getElem? (i := 1475) (by decide +kernel), rfl⟩
theorem w_1476 : Cond.instanceMethod yJ4_length_8abf5 ∈ k_TBL := List.mem_filter.mpr ⟨List.mem_of_getElem? (i := 1476) (by decide +kernel), rfl⟩
theorem w_1478 : Cond.methodLink "java/lang/StringBuilder" 343 yJ5_length_8abf5 ∈ k_TBL := List.mem_filter.mpr ⟨List.mem_of_getElem? (i := 1478) (by decide +kernel), rfl⟩
theorem w_1480 : Cond.methodLink "java/lang/String" 1047 yJ5_isLatin1_aae02 ∈ k_TBL := List.mem_filter.mpr ⟨List.mem_of_getElem? (i := 1480) (by decide +kernel), rfl⟩
theorem w_1481 : Cond.methodLink "java/lang/String" 54 yJ7_copyOfRange_39247 ∈ k_TBL := List.mem_filter.mpr ⟨List.mem_of_getElem? (i := 1481) (by decide +kernel), rfl⟩
theorem w_1482 : Cond.static yJ7_copyOfRange_39247 ∈ k_TBL := List.mem_filter.mpr ⟨List.mem_of_getElem? (i := 1482) (by decide +kernel), rfl⟩
theorem w_1484 : Cond.methodLink "java/util/Arrays" 339 yJ7_copyOfRangeByte_39247 ∈ k_TBL := List.mem_filter.mpr ⟨List.mem_of_getElem? (i := 1484) (by decide +kernel), rfl⟩
theorem w_1485 : Cond.static yJ7_copyOfRangeByte_39247 ∈ k_TBL := List.mem_filter.mpr ⟨List.mem_of_getElem? (i := 1485) (by decide +kernel), rfl⟩
theorem w_1487 : Cond.methodLink "java/util/Arrays" 343 yJ7_checkLength_df160 ∈ k_TBL := List.mem_filter.mpr ⟨List.mem_of_getElem? (i := 1487) (by decide +kernel), rfl⟩
theorem w_1488 : Cond.static yJ7_checkLength_df160 ∈ k_TBL := List.mem_filter.mpr ⟨List.mem_of_getElem? (i := 1488) (by decide +kernel), rfl⟩
theorem w_1490 : Cond.classLink "java/util/Arrays" 43 "java/lang/IllegalArgumentException" ∈ k_TBL := List.mem_filter.mpr ⟨List.mem_of_getElem? (i := 1490) (by decide +kernel), rfl⟩
theorem w_1491 : Cond.classLink "java/util/Arrays" 45 "java/lang/StringBuilder" ∈ k_TBL := List.mem_filter.mpr ⟨List.mem_of_getElem? (i := 1491) (by decide +kernel), rfl⟩
theorem w_1492 : Cond.methodLink "java/util/Arrays" 47 yJ4_init_da8c8 ∈ k_TBL := List.mem_filter.mpr ⟨List.mem_of_getElem? (i := 1492) (by decide +kernel), rfl⟩
theorem w_1493 : Cond.methodLink "java/util/Arrays" 54 yJ4_append_bf812 ∈ k_TBL := List.mem_filter.mpr ⟨List.mem_of_getElem? (i := 1493) (by decide +kernel), rfl⟩
theorem w_1494 : Cond.stringRef "java/util/Arrays" 337 " > " ∈ lw_tbl := List.mem_of_getElem? (i := 1494) (by decide +kernel)
theorem w_1495 : Cond.methodLink "java/util/Arrays" 50 yJ4_append_15ec4 ∈ k_TBL := List.mem_filter.mpr ⟨List.mem_of_getElem? (i := 1495) (by decide +kernel), rfl⟩
theorem w_1496 : Cond.methodLink "java/util/Arrays" 61 yJ4_toString_0e30d ∈ k_TBL := List.mem_filter.mpr ⟨List.mem_of_getElem? (i := 1496) (by decide +kernel), rfl⟩
theorem w_1497 : Cond.methodLink "java/util/Arrays" 65 ⟨"java/lang/IllegalArgumentException", "<init>", "(Ljava/lang/String;)V"⟩ ∈ k_TBL := List.mem_filter.mpr ⟨List.mem_of_getElem? (i := 1497) (by decide +kernel), rfl⟩
theorem w_1498 : Cond.methodLink "java/lang/String" 1051 yJ2_compress_39247 ∈ k_TBL := List.mem_filter.mpr ⟨List.mem_of_getElem? (i := 1498) (by decide +kernel), rfl⟩
theorem w_1499 : Cond.static yJ2_compress_39247 ∈ k_TBL := List.mem_filter.mpr ⟨List.mem_of_getElem? (i := 1499) (by decide +kernel), rfl⟩
theorem w_1501 : Cond.methodLink "java/lang/StringUTF16" 123 yJ2_compress_5af95 ∈ k_TBL := List.mem_filter.mpr ⟨List.mem_of_getElem? (i := 1501) (by decide +kernel), rfl⟩
theorem w_1502 : Cond.static yJ2_compress_5af95 ∈ k_TBL := List.mem_filter.mpr ⟨List.mem_of_getElem? (i := 1502) (by decide +kernel), rfl⟩
theorem w_1504 : Cond.methodLink "java/lang/StringUTF16" 71 yJ2_getChar_3b067 ∈ k_TBL := List.mem_filter.mpr ⟨List.mem_of_getElem? (i := 1504) (by decide +kernel), rfl⟩
theorem w_1505 : Cond.static yJ2_getChar_3b067 ∈ k_TBL := List.mem_filter.mpr ⟨List.mem_of_getElem? (i := 1505) (by decide +kernel), rfl⟩
theorem w_1507 : Cond.methodLink "java/lang/StringUTF16" 126 yJ7_copyOfRange_39247 ∈ k_TBL := List.mem_filter.mpr ⟨List.mem_of_getElem? (i := 1507) (by decide +kernel), rfl⟩
theorem w_1508 : Cond.methodLink "java/lang/String" 47 yJ2_coderFromArrayLen_85cad ∈ k_TBL := List.mem_filter.mpr ⟨List.mem_of_getElem? (i := 1508) (by decide +kernel), rfl⟩
theorem w_1509 : Cond.static yJ2_coderFromArrayLen_85cad ∈ k_TBL := List.mem_filter.mpr ⟨List.mem_of_getElem? (i := 1509) (by decide +kernel), rfl⟩
theorem w_1511 : Cond.fieldLink "java/lang/String" 9 "java/lang/String" "value" "[B" ∈ k_TBL := List.mem_filter.mpr ⟨List.mem_of_getElem? (i := 1511) (by decide +kernel), rfl⟩
theorem w_1512 : Cond.fieldLink "java/lang/String" 15 "java/lang/String" "coder" "B" ∈ k_TBL := List.mem_filter.mpr ⟨List.mem_of_getElem? (i := 1512) (by decide +kernel), rfl⟩
theorem w_1518 : Cond.methodLink "java/lang/StringIndexOutOfBoundsException" 7 ⟨"java/lang/IndexOutOfBoundsException", "<init>", "(Ljava/lang/String;)V"⟩ ∈ k_TBL := List.mem_filter.mpr ⟨List.mem_of_getElem? (i := 1518) (by decide +kernel), rfl⟩
theorem w_1526 : Cond.methodLink "java/lang/AbstractStringBuilder" 133 yJ1_fillNull_b72d1 ∈ k_TBL := List.mem_filter.mpr ⟨List.mem_of_getElem? (i := 1526) (by decide +kernel), rfl⟩
theorem w_1527 : Cond.static yJ1_fillNull_b72d1 ∈ k_TBL := List.mem_filter.mpr ⟨List.mem_of_getElem? (i := 1527) (by decide +kernel), rfl⟩
theorem w_1529 : Cond.methodLink "java/lang/StringLatin1" 236 yJ7_fill_eb02e ∈ k_TBL := List.mem_filter.mpr ⟨List.mem_of_getElem? (i := 1529) (by decide +kernel), rfl⟩
theorem w_1530 : Cond.static yJ7_fill_eb02e ∈ k_TBL := List.mem_filter.mpr ⟨List.mem_of_getElem? (i := 1530) (by decide +kernel), rfl⟩
theorem w_1532 : Cond.methodLink "java/util/Arrays" 13 yJ7_rangeCheck_23922 ∈ k_TBL := List.mem_filter.mpr ⟨List.mem_of_getElem? (i := 1532) (by decide +kernel), rfl⟩
theorem w_1533 : Cond.static yJ7_rangeCheck_23922 ∈ k_TBL := List.mem_filter.mpr ⟨List.mem_of_getElem? (i := 1533) (by decide +kernel), rfl⟩
theorem w_1535 : Cond.stringRef "java/util/Arrays" 48 "fromIndex(" ∈ lw_tbl := List.mem_of_getElem? (i := 1535) (by decide +kernel)
theorem w_1536 : Cond.stringRef "java/util/Arrays" 57 ") > toIndex(" ∈ lw_tbl := List.mem_of_getElem? (i := 1536) (by decide +kernel)
theorem w_1537 : Cond.stringRef "java/util/Arrays" 59 ")" ∈ lw_tbl := List.mem_of_getElem? (i := 1537) (by decide +kernel)
theorem w_1538 : Cond.classLink "java/util/Arrays" 68 "java/lang/ArrayIndexOutOfBoundsException" ∈ k_TBL := List.mem_filter.mpr ⟨List.mem_of_getElem? (i := 1538) (by decide +kernel), rfl⟩
theorem w_1539 : Cond.methodLink "java/util/Arrays" 70 yJx00060_init_d00df ∈ k_TBL := List.mem_filter.mpr ⟨List.mem_of_getElem? (i := 1539) (by decide +kernel), rfl⟩
theorem w_1540 : Cond.instanceMethod yJx00060_init_d00df ∈ k_TBL := List.mem_filter.mpr ⟨List.mem_of_getElem? (i := 1540) (by decide +kernel), rfl⟩
theorem w_1542 : Cond.classLink "java/lang/ArrayIndexOutOfBoundsException" 10 "java/lang/StringBuilder" ∈ k_TBL := List.mem_filter.mpr ⟨List.mem_of_getElem? (i := 1542) (by decide +kernel), rfl⟩
theorem w_1543 : Cond.methodLink "java/lang/ArrayIndexOutOfBoundsException" 12 yJ4_init_da8c8 ∈ k_TBL := List.mem_filter.mpr ⟨List.mem_of_getElem? (i := 1543) (by decide +kernel), rfl⟩
theorem w_1544 : Cond.stringRef "java/lang/ArrayIndexOutOfBoundsException" 13 "Array index out of range: " ∈ lw_tbl := List.mem_of_getElem? (i := 1544) (by decide +kernel)
theorem w_1545 : Cond.methodLink "java/lang/ArrayIndexOutOfBoundsException" 15 yJ4_append_15ec4 ∈ k_TBL := List.mem_filter.mpr ⟨List.mem_of_getElem? (i := 1545) (by decide +kernel), rfl⟩
theorem w_1546 : Cond.methodLink "java/lang/ArrayIndexOutOfBoundsException" 19 yJ4_append_bf812 ∈ k_TBL := List.mem_filter.mpr ⟨List.mem_of_getElem? (i := 1546) (by decide +kernel), rfl⟩
theorem w_1547 : Cond.methodLink "java/lang/ArrayIndexOutOfBoundsException" 22 yJ4_toString_0e30d ∈ k_TBL := List.mem_filter.mpr ⟨List.mem_of_getElem? (i := 1547) (by decide +kernel), rfl⟩
theorem w_1548 : Cond.methodLink "java/lang/AbstractStringBuilder" 137 yJ2_fillNull_b72d1 ∈ k_TBL := List.mem_filter.mpr ⟨List.mem_of_getElem? (i := 1548) (by decide +kernel), rfl⟩
theorem w_1549 : Cond.static yJ2_fillNull_b72d1 ∈ k_TBL := List.mem_filter.mpr ⟨List.mem_of_getElem? (i := 1549) (by decide +kernel), rfl⟩
theorem w_1551 : Cond.methodLink "java/lang/StringUTF16" 380 yJ7_fill_eb02e ∈ k_TBL := List.mem_filter.mpr ⟨List.mem_of_getElem? (i := 1551) (by decide +kernel), rfl⟩
theorem w_1552 : Cond.methodLink "OptionBlockPlanner" 258 yJ4_append_bf812 ∈ k_TBL := List.mem_filter.mpr ⟨List.mem_of_getElem? (i := 1552) (by decide +kernel), rfl⟩
theorem w_1553 : Cond.methodLink "OptionBlockPlanner" 262 yJ4_append_cf468 ∈ k_TBL := List.mem_filter.mpr ⟨List.mem_of_getElem? (i := 1553) (by decide +kernel), rfl⟩
theorem w_1554 : Cond.instanceMethod yJ4_append_cf468 ∈ k_TBL := List.mem_filter.mpr ⟨List.mem_of_getElem? (i := 1554) (by decide +kernel), rfl⟩
theorem w_1555 : Cond.selects "java/lang/StringBuilder" yJ4_append_cf468 yJ4_append_cf468 ∈ k_TBL := List.mem_filter.mpr ⟨List.mem_of_getElem? (i := 1555) (by decide +kernel), rfl⟩
theorem w_1557 : Cond.methodLink "java/lang/StringBuilder" 50 yJ5_append_3fe6f ∈ k_TBL := List.mem_filter.mpr ⟨List.mem_of_getElem? (i := 1557) (by decide +kernel), rfl⟩
theorem w_1558 : Cond.instanceMethod yJ5_append_3fe6f ∈ k_TBL := List.mem_filter.mpr ⟨List.mem_of_getElem? (i := 1558) (by decide +kernel), rfl⟩
theorem w_1560 : Cond.methodLink "java/lang/AbstractStringBuilder" 191 yJ1_canEncode_fc78d ∈ k_TBL := List.mem_filter.mpr ⟨List.mem_of_getElem? (i := 1560) (by decide +kernel), rfl⟩
theorem w_1561 : Cond.static yJ1_canEncode_fc78d ∈ k_TBL := List.mem_filter.mpr ⟨List.mem_of_getElem? (i := 1561) (by decide +kernel), rfl⟩
theorem w_1563 : Cond.methodLink "java/lang/AbstractStringBuilder" 197 yJ2_putCharSB_b72d1 ∈ k_TBL := List.mem_filter.mpr ⟨List.mem_of_getElem? (i := 1563) (by decide +kernel), rfl⟩
theorem w_1564 : Cond.static yJ2_putCharSB_b72d1 ∈ k_TBL := List.mem_filter.mpr ⟨List.mem_of_getElem? (i := 1564) (by decide +kernel), rfl⟩
theorem w_1566 : Cond.methodLink "java/lang/StringUTF16" 67 yJ2_checkIndex_2214a ∈ k_TBL := List.mem_filter.mpr ⟨List.mem_of_getElem? (i := 1566) (by decide +kernel), rfl⟩
theorem w_1567 : Cond.static yJ2_checkIndex_2214a ∈ k_TBL := List.mem_filter.mpr ⟨List.mem_of_getElem? (i := 1567) (by decide +kernel), rfl⟩
theorem w_1569 : Cond.methodLink "java/lang/StringUTF16" 414 yJ0_checkIndex_df160 ∈ k_TBL := List.mem_filter.mpr ⟨List.mem_of_getElem? (i := 1569) (by decide +kernel), rfl⟩
theorem w_1570 : Cond.static yJ0_checkIndex_df160 ∈ k_TBL := List.mem_filter.mpr ⟨List.mem_of_getElem? (i := 1570) (by decide +kernel), rfl⟩
theorem w_1572 : Cond.methodLink "java/lang/String" 1059 yJ3_checkIndex_8e157 ∈ k_TBL := List.mem_filter.mpr ⟨List.mem_of_getElem? (i := 1572) (by decide +kernel), rfl⟩
theorem w_1573 : Cond.static yJ3_checkIndex_8e157 ∈ k_TBL := List.mem_filter.mpr ⟨List.mem_of_getElem? (i := 1573) (by decide +kernel), rfl⟩
theorem w_1575 : Cond.methodLink "OptionBlockPlanner" 265 yX7_writeLesson ∈ k_TBL := List.mem_filter.mpr ⟨List.mem_of_getElem? (i := 1575) (by decide +kernel), rfl⟩
theorem w_1577 : Cond.instanceMethod yX7_writeLesson ∈ k_TBL := List.mem_filter.mpr ⟨List.mem_of_getElem? (i := 1577) (by decide +kernel), rfl⟩
theorem w_1579 : Cond.methodLink "OptionBlockPlanner" 268 yJ4_length_8abf5 ∈ k_TBL := List.mem_filter.mpr ⟨List.mem_of_getElem? (i := 1579) (by decide +kernel), rfl⟩
theorem w_1580 : Cond.methodLink "OptionBlockPlannerLaw" 322 yL_lineAt ∈ k_TBL := List.mem_filter.mpr ⟨List.mem_of_getElem? (i := 1580) (by decide +kernel), rfl⟩
theorem w_1581 : Cond.static yL_lineAt ∈ k_TBL := List.mem_filter.mpr ⟨List.mem_of_getElem? (i := 1581) (by decide +kernel), rfl⟩
theorem w_1583 : Cond.methodLink "OptionBlockPlannerLaw" 139 yX7_lineAt ∈ k_TBL := List.mem_filter.mpr ⟨List.mem_of_getElem? (i := 1583) (by decide +kernel), rfl⟩
theorem w_1584 : Cond.instanceMethod yX7_lineAt ∈ k_TBL := List.mem_filter.mpr ⟨List.mem_of_getElem? (i := 1584) (by decide +kernel), rfl⟩
theorem w_1585 : Cond.selects "OptionBlockPlanner" yX7_lineAt yX7_lineAt ∈ k_TBL := List.mem_filter.mpr ⟨List.mem_of_getElem? (i := 1585) (by decide +kernel), rfl⟩
theorem w_1587 : Cond.methodLink "OptionBlockPlanner" 271 yJ4_charAt_5068e ∈ k_TBL := List.mem_filter.mpr ⟨List.mem_of_getElem? (i := 1587) (by decide +kernel), rfl⟩
theorem w_1588 : Cond.instanceMethod yJ4_charAt_5068e ∈ k_TBL := List.mem_filter.mpr ⟨List.mem_of_getElem? (i := 1588) (by decide +kernel), rfl⟩
theorem w_1589 : Cond.selects "java/lang/StringBuilder" yJ4_charAt_5068e yJ4_charAt_5068e ∈ k_TBL := List.mem_filter.mpr ⟨List.mem_of_getElem? (i := 1589) (by decide +kernel), rfl⟩
theorem w_1591 : Cond.methodLink "java/lang/StringBuilder" 329 yJ5_charAt_5068e ∈ k_TBL := List.mem_filter.mpr ⟨List.mem_of_getElem? (i := 1591) (by decide +kernel), rfl⟩
theorem w_1592 : Cond.instanceMethod yJ5_charAt_5068e ∈ k_TBL := List.mem_filter.mpr ⟨List.mem_of_getElem? (i := 1592) (by decide +kernel), rfl⟩
theorem w_1594 : Cond.methodLink "java/lang/AbstractStringBuilder" 138 yJ9_min_7cf53 ∈ k_TBL := List.mem_filter.mpr ⟨List.mem_of_getElem? (i := 1594) (by decide +kernel), rfl⟩
theorem w_1595 : Cond.methodLink "java/lang/AbstractStringBuilder" 144 yJ0_checkIndex_df160 ∈ k_TBL := List.mem_filter.mpr ⟨List.mem_of_getElem? (i := 1595) (by decide +kernel), rfl⟩
theorem w_1596 : Cond.methodLink "java/lang/AbstractStringBuilder" 148 yJ2_getChar_3b067 ∈ k_TBL := List.mem_filter.mpr ⟨List.mem_of_getElem? (i := 1596) (by decide +kernel), rfl⟩
theorem w_1597 : Cond.methodLink "OptionBlockPlannerLaw" 325 yL_type ∈ k_TBL := List.mem_filter.mpr ⟨List.mem_of_getElem? (i := 1597) (by decide +kernel), rfl⟩
theorem w_1598 : Cond.static yL_type ∈ k_TBL := List.mem_filter.mpr ⟨List.mem_of_getElem? (i := 1598) (by decide +kernel), rfl⟩
theorem w_1600 : Cond.methodLink "OptionBlockPlannerLaw" 143 yX7_type ∈ k_TBL := List.mem_filter.mpr ⟨List.mem_of_getElem? (i := 1600) (by decide +kernel), rfl⟩
theorem w_1601 : Cond.instanceMethod yX7_type ∈ k_TBL := List.mem_filter.mpr ⟨List.mem_of_getElem? (i := 1601) (by decide +kernel), rfl⟩
theorem w_1602 : Cond.selects "OptionBlockPlanner" yX7_type yX7_type ∈ k_TBL := List.mem_filter.mpr ⟨List.mem_of_getElem? (i := 1602) (by decide +kernel), rfl⟩
theorem w_1604 : Cond.stringRef "OptionBlockPlanner" 277 "a character that cannot be typed" ∈ lw_tbl := List.mem_of_getElem? (i := 1604) (by decide +kernel)
theorem w_1605 : Cond.stringRef "OptionBlockPlanner" 285 "the buffer is full" ∈ lw_tbl := List.mem_of_getElem? (i := 1605) (by decide +kernel)
theorem w_1606 : Cond.methodLink "OptionBlockPlannerLaw" 329 yL_execute ∈ k_TBL := List.mem_filter.mpr ⟨List.mem_of_getElem? (i := 1606) (by decide +kernel), rfl⟩
theorem w_1607 : Cond.static yL_execute ∈ k_TBL := List.mem_filter.mpr ⟨List.mem_of_getElem? (i := 1607) (by decide +kernel), rfl⟩
theorem w_1609 : Cond.methodLink "OptionBlockPlannerLaw" 147 yX7_execute ∈ k_TBL := List.mem_filter.mpr ⟨List.mem_of_getElem? (i := 1609) (by decide +kernel), rfl⟩
theorem w_1610 : Cond.instanceMethod yX7_execute ∈ k_TBL := List.mem_filter.mpr ⟨List.mem_of_getElem? (i := 1610) (by decide +kernel), rfl⟩
theorem w_1611 : Cond.selects "OptionBlockPlanner" yX7_execute yX7_execute ∈ k_TBL := List.mem_filter.mpr ⟨List.mem_of_getElem? (i := 1611) (by decide +kernel), rfl⟩
theorem w_1613 : Cond.methodLink "OptionBlockPlanner" 288 yX6_parse ∈ k_TBL := List.mem_filter.mpr ⟨List.mem_of_getElem? (i := 1613) (by decide +kernel), rfl⟩
theorem w_1614 : Cond.instanceMethod yX6_parse ∈ k_TBL := List.mem_filter.mpr ⟨List.mem_of_getElem? (i := 1614) (by decide +kernel), rfl⟩
theorem w_1615 : Cond.selects "OptionBlockPlanner$Program" yX6_parse yX6_parse ∈ k_TBL := List.mem_filter.mpr ⟨List.mem_of_getElem? (i := 1615) (by decide +kernel), rfl⟩
theorem w_1617 : Cond.methodLink "OptionBlockPlanner$Program" 36 yX6_readCommand ∈ k_TBL := List.mem_filter.mpr ⟨List.mem_of_getElem? (i := 1617) (by decide +kernel), rfl⟩
theorem w_1619 : Cond.instanceMethod yX6_readCommand ∈ k_TBL := List.mem_filter.mpr ⟨List.mem_of_getElem? (i := 1619) (by decide +kernel), rfl⟩
theorem w_1621 : Cond.methodLink "OptionBlockPlanner$Program" 48 yX6_formOf ∈ k_TBL := List.mem_filter.mpr ⟨List.mem_of_getElem? (i := 1621) (by decide +kernel), rfl⟩
theorem w_1622 : Cond.static yX6_formOf ∈ k_TBL := List.mem_filter.mpr ⟨List.mem_of_getElem? (i := 1622) (by decide +kernel), rfl⟩
theorem w_1624 : Cond.stringRef "OptionBlockPlanner$Program" 81 "subject #" ∈ lw_tbl := List.mem_of_getElem? (i := 1624) (by decide +kernel)
theorem w_1625 : Cond.stringRef "OptionBlockPlanner$Program" 83 "blocks #" ∈ lw_tbl := List.mem_of_getElem? (i := 1625) (by decide +kernel)
theorem w_1626 : Cond.stringRef "OptionBlockPlanner$Program" 85 "open # #" ∈ lw_tbl := List.mem_of_getElem? (i := 1626) (by decide +kernel)
theorem w_1627 : Cond.stringRef "OptionBlockPlanner$Program" 87 "close # #" ∈ lw_tbl := List.mem_of_getElem? (i := 1627) (by decide +kernel)
theorem w_1628 : Cond.stringRef "OptionBlockPlanner$Program" 89 "pupil" ∈ lw_tbl := List.mem_of_getElem? (i := 1628) (by decide +kernel)
theorem w_1629 : Cond.stringRef "OptionBlockPlanner$Program" 91 "wish @ #" ∈ lw_tbl := List.mem_of_getElem? (i := 1629) (by decide +kernel)
theorem w_1630 : Cond.stringRef "OptionBlockPlanner$Program" 93 "reserve @ #" ∈ lw_tbl := List.mem_of_getElem? (i := 1630) (by decide +kernel)
theorem w_1631 : Cond.stringRef "OptionBlockPlanner$Program" 95 "enrol @" ∈ lw_tbl := List.mem_of_getElem? (i := 1631) (by decide +kernel)
theorem w_1632 : Cond.stringRef "OptionBlockPlanner$Program" 97 "join @ #" ∈ lw_tbl := List.mem_of_getElem? (i := 1632) (by decide +kernel)
theorem w_1633 : Cond.stringRef "OptionBlockPlanner$Program" 99 "quit @ #" ∈ lw_tbl := List.mem_of_getElem? (i := 1633) (by decide +kernel)
theorem w_1634 : Cond.stringRef "OptionBlockPlanner$Program" 101 "change @ # #" ∈ lw_tbl := List.mem_of_getElem? (i := 1634) (by decide +kernel)
theorem w_1635 : Cond.stringRef "OptionBlockPlanner$Program" 103 "arrange" ∈ lw_tbl := List.mem_of_getElem? (i := 1635) (by decide +kernel)
theorem w_1636 : Cond.methodLink "OptionBlockPlanner$Program" 52 yX6_matches ∈ k_TBL := List.mem_filter.mpr ⟨List.mem_of_getElem? (i := 1636) (by decide +kernel), rfl⟩
theorem w_1638 : Cond.instanceMethod yX6_matches ∈ k_TBL := List.mem_filter.mpr ⟨List.mem_of_getElem? (i := 1638) (by decide +kernel), rfl⟩
theorem w_1640 : Cond.methodLink "OptionBlockPlanner$Program" 66 yJ0_length_8abf5 ∈ k_TBL := List.mem_filter.mpr ⟨List.mem_of_getElem? (i := 1640) (by decide +kernel), rfl⟩
theorem w_1641 : Cond.methodLink "OptionBlockPlanner$Program" 69 yJ0_charAt_5068e ∈ k_TBL := List.mem_filter.mpr ⟨List.mem_of_getElem? (i := 1641) (by decide +kernel), rfl⟩
theorem w_1642 : Cond.instanceMethod yJ0_charAt_5068e ∈ k_TBL := List.mem_filter.mpr ⟨List.mem_of_getElem? (i := 1642) (by decide +kernel), rfl⟩
theorem w_1643 : Cond.selects "java/lang/String" yJ0_charAt_5068e yJ0_charAt_5068e ∈ k_TBL := List.mem_filter.mpr ⟨List.mem_of_getElem? (i := 1643) (by decide +kernel), rfl⟩
theorem w_1645 : Cond.methodLink "java/lang/String" 492 yJ0_isLatin1_aae02 ∈ k_TBL := List.mem_filter.mpr ⟨List.mem_of_getElem? (i := 1645) (by decide +kernel), rfl⟩
theorem w_1646 : Cond.instanceMethod yJ0_isLatin1_aae02 ∈ k_TBL := List.mem_filter.mpr ⟨List.mem_of_getElem? (i := 1646) (by decide +kernel), rfl⟩
theorem w_1647 : Cond.selects "java/lang/String" yJ0_isLatin1_aae02 yJ0_isLatin1_aae02 ∈ k_TBL := List.mem_filter.mpr ⟨List.mem_of_getElem? (i := 1647) (by decide +kernel), rfl⟩
theorem w_1649 : Cond.methodLink "java/lang/String" 495 yJ1_charAt_3b067 ∈ k_TBL := List.mem_filter.mpr ⟨List.mem_of_getElem? (i := 1649) (by decide +kernel), rfl⟩
theorem w_1650 : Cond.static yJ1_charAt_3b067 ∈ k_TBL := List.mem_filter.mpr ⟨List.mem_of_getElem? (i := 1650) (by decide +kernel), rfl⟩
theorem w_1652 : Cond.methodLink "java/lang/StringLatin1" 9 yJ0_checkIndex_df160 ∈ k_TBL := List.mem_filter.mpr ⟨List.mem_of_getElem? (i := 1652) (by decide +kernel), rfl⟩
theorem w_1653 : Cond.methodLink "java/lang/String" 498 yJ2_charAt_3b067 ∈ k_TBL := List.mem_filter.mpr ⟨List.mem_of_getElem? (i := 1653) (by decide +kernel), rfl⟩
theorem w_1654 : Cond.static yJ2_charAt_3b067 ∈ k_TBL := List.mem_filter.mpr ⟨List.mem_of_getElem? (i := 1654) (by decide +kernel), rfl⟩
theorem w_1656 : Cond.methodLink "OptionBlockPlanner$Program" 73 yX6_readNumber ∈ k_TBL := List.mem_filter.mpr ⟨List.mem_of_getElem? (i := 1656) (by decide +kernel), rfl⟩
theorem w_1658 : Cond.instanceMethod yX6_readNumber ∈ k_TBL := List.mem_filter.mpr ⟨List.mem_of_getElem? (i := 1658) (by decide +kernel), rfl⟩
theorem w_1660 : Cond.methodLink "OptionBlockPlanner$Program" 77 yX6_digitHere ∈ k_TBL := List.mem_filter.mpr ⟨List.mem_of_getElem? (i := 1660) (by decide +kernel), rfl⟩
theorem w_1662 : Cond.instanceMethod yX6_digitHere ∈ k_TBL := List.mem_filter.mpr ⟨List.mem_of_getElem? (i := 1662) (by decide +kernel), rfl⟩
theorem w_1664 : Cond.methodLink "OptionBlockPlanner$Program" 40 yJ4_length_8abf5 ∈ k_TBL := List.mem_filter.mpr ⟨List.mem_of_getElem? (i := 1664) (by decide +kernel), rfl⟩
theorem w_1665 : Cond.methodLink "OptionBlockPlanner$Program" 80 yJ4_charAt_5068e ∈ k_TBL := List.mem_filter.mpr ⟨List.mem_of_getElem? (i := 1665) (by decide +kernel), rfl⟩
theorem w_1666 : Cond.methodLinkNest "OptionBlockPlanner$Program" 56 yX7_write "OptionBlockPlanner" ∈ k_NW := List.mem_filter.mpr ⟨List.mem_of_getElem? (i := 1666) (by decide +kernel), rfl⟩
theorem w_1667 : Cond.methodLink "OptionBlockPlanner$Program" 44 yX6_skip ∈ k_TBL := List.mem_filter.mpr ⟨List.mem_of_getElem? (i := 1667) (by decide +kernel), rfl⟩
theorem w_1669 : Cond.instanceMethod yX6_skip ∈ k_TBL := List.mem_filter.mpr ⟨List.mem_of_getElem? (i := 1669) (by decide +kernel), rfl⟩
theorem w_1671 : Cond.methodLink "OptionBlockPlanner$Program" 60 yJ9_max_7cf53 ∈ k_TBL := List.mem_filter.mpr ⟨List.mem_of_getElem? (i := 1671) (by decide +kernel), rfl⟩
theorem w_1672 : Cond.stringRef "OptionBlockPlanner" 291 "the program is malformed" ∈ lw_tbl := List.mem_of_getElem? (i := 1672) (by decide +kernel)
theorem w_1673 : Cond.methodLink "OptionBlockPlanner" 299 yX6_modification ∈ k_TBL := List.mem_filter.mpr ⟨List.mem_of_getElem? (i := 1673) (by decide +kernel), rfl⟩
theorem w_1674 : Cond.instanceMethod yX6_modification ∈ k_TBL := List.mem_filter.mpr ⟨List.mem_of_getElem? (i := 1674) (by decide +kernel), rfl⟩
theorem w_1675 : Cond.selects "OptionBlockPlanner$Program" yX6_modification yX6_modification ∈ k_TBL := List.mem_filter.mpr ⟨List.mem_of_getElem? (i := 1675) (by decide +kernel), rfl⟩
theorem w_1677 : Cond.methodLinkNest "OptionBlockPlanner$Program" 25 yX7_read "OptionBlockPlanner" ∈ k_NW := List.mem_filter.mpr ⟨List.mem_of_getElem? (i := 1677) (by decide +kernel), rfl⟩
theorem w_1678 : Cond.methodLink "OptionBlockPlanner" 302 yX6_number ∈ k_TBL := List.mem_filter.mpr ⟨List.mem_of_getElem? (i := 1678) (by decide +kernel), rfl⟩
theorem w_1679 : Cond.instanceMethod yX6_number ∈ k_TBL := List.mem_filter.mpr ⟨List.mem_of_getElem? (i := 1679) (by decide +kernel), rfl⟩
theorem w_1680 : Cond.selects "OptionBlockPlanner$Program" yX6_number yX6_number ∈ k_TBL := List.mem_filter.mpr ⟨List.mem_of_getElem? (i := 1680) (by decide +kernel), rfl⟩
theorem w_1682 : Cond.stringRef "OptionBlockPlanner" 308 "a command failed" ∈ lw_tbl := List.mem_of_getElem? (i := 1682) (by decide +kernel)
theorem w_1683 : Cond.methodLink "OptionBlockPlannerLaw" 332 yL_errorPosition ∈ k_TBL := List.mem_filter.mpr ⟨List.mem_of_getElem? (i := 1683) (by decide +kernel), rfl⟩
theorem w_1684 : Cond.static yL_errorPosition ∈ k_TBL := List.mem_filter.mpr ⟨List.mem_of_getElem? (i := 1684) (by decide +kernel), rfl⟩
theorem w_1686 : Cond.methodLink "OptionBlockPlannerLaw" 150 yX7_errorPosition ∈ k_TBL := List.mem_filter.mpr ⟨List.mem_of_getElem? (i := 1686) (by decide +kernel), rfl⟩
theorem w_1687 : Cond.instanceMethod yX7_errorPosition ∈ k_TBL := List.mem_filter.mpr ⟨List.mem_of_getElem? (i := 1687) (by decide +kernel), rfl⟩
theorem w_1688 : Cond.selects "OptionBlockPlanner" yX7_errorPosition yX7_errorPosition ∈ k_TBL := List.mem_filter.mpr ⟨List.mem_of_getElem? (i := 1688) (by decide +kernel), rfl⟩
theorem w_1690 : Cond.methodLink "OptionBlockPlannerLaw" 335 yL_failedCommand ∈ k_TBL := List.mem_filter.mpr ⟨List.mem_of_getElem? (i := 1690) (by decide +kernel), rfl⟩
theorem w_1691 : Cond.static yL_failedCommand ∈ k_TBL := List.mem_filter.mpr ⟨List.mem_of_getElem? (i := 1691) (by decide +kernel), rfl⟩
theorem w_1693 : Cond.methodLink "OptionBlockPlannerLaw" 153 yX7_failedCommand ∈ k_TBL := List.mem_filter.mpr ⟨List.mem_of_getElem? (i := 1693) (by decide +kernel), rfl⟩
theorem w_1694 : Cond.instanceMethod yX7_failedCommand ∈ k_TBL := List.mem_filter.mpr ⟨List.mem_of_getElem? (i := 1694) (by decide +kernel), rfl⟩
theorem w_1695 : Cond.selects "OptionBlockPlanner" yX7_failedCommand yX7_failedCommand ∈ k_TBL := List.mem_filter.mpr ⟨List.mem_of_getElem? (i := 1695) (by decide +kernel), rfl⟩
theorem w_1697 : Cond.methodLink "OptionBlockPlannerLaw" 338 yL_failureKind ∈ k_TBL := List.mem_filter.mpr ⟨List.mem_of_getElem? (i := 1697) (by decide +kernel), rfl⟩
theorem w_1698 : Cond.static yL_failureKind ∈ k_TBL := List.mem_filter.mpr ⟨List.mem_of_getElem? (i := 1698) (by decide +kernel), rfl⟩
theorem w_1700 : Cond.methodLink "OptionBlockPlannerLaw" 156 yX7_failureKind ∈ k_TBL := List.mem_filter.mpr ⟨List.mem_of_getElem? (i := 1700) (by decide +kernel), rfl⟩
theorem w_1701 : Cond.instanceMethod yX7_failureKind ∈ k_TBL := List.mem_filter.mpr ⟨List.mem_of_getElem? (i := 1701) (by decide +kernel), rfl⟩
theorem w_1702 : Cond.selects "OptionBlockPlanner" yX7_failureKind yX7_failureKind ∈ k_TBL := List.mem_filter.mpr ⟨List.mem_of_getElem? (i := 1702) (by decide +kernel), rfl⟩
theorem w_1704 : Cond.methodLink "OptionBlockPlannerLaw" 341 yL_undo ∈ k_TBL := List.mem_filter.mpr ⟨List.mem_of_getElem? (i := 1704) (by decide +kernel), rfl⟩
theorem w_1705 : Cond.static yL_undo ∈ k_TBL := List.mem_filter.mpr ⟨List.mem_of_getElem? (i := 1705) (by decide +kernel), rfl⟩
theorem w_1707 : Cond.methodLink "OptionBlockPlannerLaw" 159 yX7_undo ∈ k_TBL := List.mem_filter.mpr ⟨List.mem_of_getElem? (i := 1707) (by decide +kernel), rfl⟩
theorem w_1708 : Cond.instanceMethod yX7_undo ∈ k_TBL := List.mem_filter.mpr ⟨List.mem_of_getElem? (i := 1708) (by decide +kernel), rfl⟩
theorem w_1709 : Cond.selects "OptionBlockPlanner" yX7_undo yX7_undo ∈ k_TBL := List.mem_filter.mpr ⟨List.mem_of_getElem? (i := 1709) (by decide +kernel), rfl⟩
theorem w_1711 : Cond.stringRef "OptionBlockPlanner" 314 "nothing can be undone" ∈ lw_tbl := List.mem_of_getElem? (i := 1711) (by decide +kernel)
theorem w_1712 : Cond.methodLink "OptionBlockPlanner" 316 yX3_bringBack ∈ k_TBL := List.mem_filter.mpr ⟨List.mem_of_getElem? (i := 1712) (by decide +kernel), rfl⟩
theorem w_1713 : Cond.instanceMethod yX3_bringBack ∈ k_TBL := List.mem_filter.mpr ⟨List.mem_of_getElem? (i := 1713) (by decide +kernel), rfl⟩
theorem w_1714 : Cond.selects "OptionBlockPlanner$History" yX3_bringBack yX3_bringBack ∈ k_TBL := List.mem_filter.mpr ⟨List.mem_of_getElem? (i := 1714) (by decide +kernel), rfl⟩
theorem w_1716 : Cond.methodLink "OptionBlockPlannerLaw" 348 yL_restore ∈ k_TBL := List.mem_filter.mpr ⟨List.mem_of_getElem? (i := 1716) (by decide +kernel), rfl⟩
theorem w_1717 : Cond.static yL_restore ∈ k_TBL := List.mem_filter.mpr ⟨List.mem_of_getElem? (i := 1717) (by decide +kernel), rfl⟩
theorem w_1719 : Cond.methodLink "OptionBlockPlannerLaw" 162 yX7_restore ∈ k_TBL := List.mem_filter.mpr ⟨List.mem_of_getElem? (i := 1719) (by decide +kernel), rfl⟩
theorem w_1720 : Cond.instanceMethod yX7_restore ∈ k_TBL := List.mem_filter.mpr ⟨List.mem_of_getElem? (i := 1720) (by decide +kernel), rfl⟩
theorem w_1721 : Cond.selects "OptionBlockPlanner" yX7_restore yX7_restore ∈ k_TBL := List.mem_filter.mpr ⟨List.mem_of_getElem? (i := 1721) (by decide +kernel), rfl⟩
theorem w_1723 : Cond.stringRef "OptionBlockPlanner" 323 "there is no snapshot" ∈ lw_tbl := List.mem_of_getElem? (i := 1723) (by decide +kernel)
theorem w_1724 : Cond.methodLink "OptionBlockPlanner" 325 yX3_forget ∈ k_TBL := List.mem_filter.mpr ⟨List.mem_of_getElem? (i := 1724) (by decide +kernel), rfl⟩
theorem w_1725 : Cond.instanceMethod yX3_forget ∈ k_TBL := List.mem_filter.mpr ⟨List.mem_of_getElem? (i := 1725) (by decide +kernel), rfl⟩
theorem w_1726 : Cond.selects "OptionBlockPlanner$History" yX3_forget yX3_forget ∈ k_TBL := List.mem_filter.mpr ⟨List.mem_of_getElem? (i := 1726) (by decide +kernel), rfl⟩
theorem w_1728 : Cond.classLink "OptionBlockPlannerLaw" 166 "OptionBlockPlannerModel" ∈ k_TBL := List.mem_filter.mpr ⟨List.mem_of_getElem? (i := 1728) (by decide +kernel), rfl⟩
theorem w_1729 : Cond.instantiable "OptionBlockPlannerModel" 31 ∈ k_TBL := List.mem_filter.mpr ⟨List.mem_of_getElem? (i := 1729) (by decide +kernel), rfl⟩
theorem w_1730 : Cond.methodLink "OptionBlockPlannerLaw" 168 yX8_init ∈ k_TBL := List.mem_filter.mpr ⟨List.mem_of_getElem? (i := 1730) (by decide +kernel), rfl⟩
theorem w_1731 : Cond.instanceMethod yX8_init ∈ k_TBL := List.mem_filter.mpr ⟨List.mem_of_getElem? (i := 1731) (by decide +kernel), rfl⟩
theorem w_1733 : Cond.methodLink "OptionBlockPlannerModel" 1 ⟨"java/lang/Object", "<init>", "()V"⟩ ∈ k_TBL := List.mem_filter.mpr ⟨List.mem_of_getElem? (i := 1733) (by decide +kernel), rfl⟩
theorem w_1734 : Cond.classLink "OptionBlockPlannerModel" 57 "java/lang/String" ∈ k_TBL := List.mem_filter.mpr ⟨List.mem_of_getElem? (i := 1734) (by decide +kernel), rfl⟩
theorem w_1736 : Cond.stringRef "OptionBlockPlannerModel" 59 "subject D" ∈ lw_tbl := List.mem_of_getElem? (i := 1736) (by decide +kernel)
theorem w_1737 : Cond.stringRef "OptionBlockPlannerModel" 61 "blocks D" ∈ lw_tbl := List.mem_of_getElem? (i := 1737) (by decide +kernel)
theorem w_1738 : Cond.stringRef "OptionBlockPlannerModel" 63 "open D D" ∈ lw_tbl := List.mem_of_getElem? (i := 1738) (by decide +kernel)
theorem w_1739 : Cond.stringRef "OptionBlockPlannerModel" 65 "close D D" ∈ lw_tbl := List.mem_of_getElem? (i := 1739) (by decide +kernel)
theorem w_1740 : Cond.stringRef "OptionBlockPlannerModel" 67 "pupil" ∈ lw_tbl := List.mem_of_getElem? (i := 1740) (by decide +kernel)
theorem w_1741 : Cond.stringRef "OptionBlockPlannerModel" 69 "wish N D" ∈ lw_tbl := List.mem_of_getElem? (i := 1741) (by decide +kernel)
theorem w_1742 : Cond.stringRef "OptionBlockPlannerModel" 71 "reserve N D" ∈ lw_tbl := List.mem_of_getElem? (i := 1742) (by decide +kernel)
theorem w_1743 : Cond.stringRef "OptionBlockPlannerModel" 73 "enrol N" ∈ lw_tbl := List.mem_of_getElem? (i := 1743) (by decide +kernel)
theorem w_1744 : Cond.stringRef "OptionBlockPlannerModel" 75 "join N D" ∈ lw_tbl := List.mem_of_getElem? (i := 1744) (by decide +kernel)
theorem w_1745 : Cond.stringRef "OptionBlockPlannerModel" 77 "quit N D" ∈ lw_tbl := List.mem_of_getElem? (i := 1745) (by decide +kernel)
theorem w_1746 : Cond.stringRef "OptionBlockPlannerModel" 79 "change N D D" ∈ lw_tbl := List.mem_of_getElem? (i := 1746) (by decide +kernel)
theorem w_1747 : Cond.stringRef "OptionBlockPlannerModel" 81 "arrange" ∈ lw_tbl := List.mem_of_getElem? (i := 1747) (by decide +kernel)
theorem w_1748 : Cond.fieldLink "OptionBlockPlannerModel" 7 "OptionBlockPlannerModel" "row" "[I" ∈ k_TBL := List.mem_filter.mpr ⟨List.mem_of_getElem? (i := 1748) (by decide +kernel), rfl⟩
theorem w_1749 : Cond.fieldLink "OptionBlockPlannerModel" 13 "OptionBlockPlannerModel" "ahead" "[I" ∈ k_TBL := List.mem_filter.mpr ⟨List.mem_of_getElem? (i := 1749) (by decide +kernel), rfl⟩
theorem w_1750 : Cond.fieldLink "OptionBlockPlannerModel" 16 "OptionBlockPlannerModel" "saved" "[I" ∈ k_TBL := List.mem_filter.mpr ⟨List.mem_of_getElem? (i := 1750) (by decide +kernel), rfl⟩
theorem w_1751 : Cond.fieldLink "OptionBlockPlannerModel" 19 "OptionBlockPlannerModel" "program" "[I" ∈ k_TBL := List.mem_filter.mpr ⟨List.mem_of_getElem? (i := 1751) (by decide +kernel), rfl⟩
theorem w_1752 : Cond.fieldLink "OptionBlockPlannerModel" 22 "OptionBlockPlannerModel" "undone" "[I" ∈ k_TBL := List.mem_filter.mpr ⟨List.mem_of_getElem? (i := 1752) (by decide +kernel), rfl⟩
theorem w_1753 : Cond.fieldLink "OptionBlockPlannerModel" 110 "OptionBlockPlannerModel" "undos" "I" ∈ k_TBL := List.mem_filter.mpr ⟨List.mem_of_getElem? (i := 1753) (by decide +kernel), rfl⟩
theorem w_1754 : Cond.fieldLink "OptionBlockPlannerModel" 116 "OptionBlockPlannerModel" "isSaved" "Z" ∈ k_TBL := List.mem_filter.mpr ⟨List.mem_of_getElem? (i := 1754) (by decide +kernel), rfl⟩
theorem w_1755 : Cond.fieldLink "OptionBlockPlannerModel" 96 "OptionBlockPlannerModel" "thrown" "I" ∈ k_TBL := List.mem_filter.mpr ⟨List.mem_of_getElem? (i := 1755) (by decide +kernel), rfl⟩
theorem w_1756 : Cond.fieldLink "OptionBlockPlannerModel" 103 "OptionBlockPlannerModel" "kind" "I" ∈ k_TBL := List.mem_filter.mpr ⟨List.mem_of_getElem? (i := 1756) (by decide +kernel), rfl⟩
theorem w_1757 : Cond.fieldLink "OptionBlockPlannerModel" 249 "OptionBlockPlannerModel" "reason" "I" ∈ k_TBL := List.mem_filter.mpr ⟨List.mem_of_getElem? (i := 1757) (by decide +kernel), rfl⟩
theorem w_1758 : Cond.fieldLink "OptionBlockPlannerModel" 25 "OptionBlockPlannerModel" "position" "I" ∈ k_TBL := List.mem_filter.mpr ⟨List.mem_of_getElem? (i := 1758) (by decide +kernel), rfl⟩
theorem w_1759 : Cond.fieldLink "OptionBlockPlannerModel" 29 "OptionBlockPlannerModel" "command" "I" ∈ k_TBL := List.mem_filter.mpr ⟨List.mem_of_getElem? (i := 1759) (by decide +kernel), rfl⟩
theorem w_1760 : Cond.fieldLink "OptionBlockPlannerModel" 315 "OptionBlockPlannerModel" "failure" "I" ∈ k_TBL := List.mem_filter.mpr ⟨List.mem_of_getElem? (i := 1760) (by decide +kernel), rfl⟩
theorem w_1761 : Cond.fieldLink "OptionBlockPlannerModel" 32 "OptionBlockPlannerModel" "line" "[C" ∈ k_TBL := List.mem_filter.mpr ⟨List.mem_of_getElem? (i := 1761) (by decide +kernel), rfl⟩
theorem w_1762 : Cond.fieldLink "OptionBlockPlannerModel" 36 "OptionBlockPlannerModel" "buffer" "[C" ∈ k_TBL := List.mem_filter.mpr ⟨List.mem_of_getElem? (i := 1762) (by decide +kernel), rfl⟩
theorem w_1763 : Cond.fieldLink "OptionBlockPlannerModel" 276 "OptionBlockPlannerModel" "lineLong" "I" ∈ k_TBL := List.mem_filter.mpr ⟨List.mem_of_getElem? (i := 1763) (by decide +kernel), rfl⟩
theorem w_1764 : Cond.fieldLink "OptionBlockPlannerModel" 283 "OptionBlockPlannerModel" "typed" "I" ∈ k_TBL := List.mem_filter.mpr ⟨List.mem_of_getElem? (i := 1764) (by decide +kernel), rfl⟩
theorem w_1765 : Cond.fieldLink "OptionBlockPlannerModel" 39 "OptionBlockPlannerModel" "at" "[I" ∈ k_TBL := List.mem_filter.mpr ⟨List.mem_of_getElem? (i := 1765) (by decide +kernel), rfl⟩
theorem w_1766 : Cond.fieldLink "OptionBlockPlannerModel" 42 "OptionBlockPlannerModel" "best" "[I" ∈ k_TBL := List.mem_filter.mpr ⟨List.mem_of_getElem? (i := 1766) (by decide +kernel), rfl⟩
theorem w_1767 : Cond.fieldLink "OptionBlockPlannerModel" 198 "OptionBlockPlannerModel" "bestWorth" "I" ∈ k_TBL := List.mem_filter.mpr ⟨List.mem_of_getElem? (i := 1767) (by decide +kernel), rfl⟩
theorem w_1768 : Cond.fieldLink "OptionBlockPlannerModel" 45 "OptionBlockPlannerModel" "stop" "[I" ∈ k_TBL := List.mem_filter.mpr ⟨List.mem_of_getElem? (i := 1768) (by decide +kernel), rfl⟩
theorem w_1769 : Cond.fieldLink "OptionBlockPlannerModel" 48 "OptionBlockPlannerModel" "shared" "[I" ∈ k_TBL := List.mem_filter.mpr ⟨List.mem_of_getElem? (i := 1769) (by decide +kernel), rfl⟩
theorem w_1770 : Cond.fieldLink "OptionBlockPlannerModel" 51 "OptionBlockPlannerModel" "block" "[I" ∈ k_TBL := List.mem_filter.mpr ⟨List.mem_of_getElem? (i := 1770) (by decide +kernel), rfl⟩
theorem w_1771 : Cond.fieldLink "OptionBlockPlannerModel" 54 "OptionBlockPlannerModel" "arranged" "[I" ∈ k_TBL := List.mem_filter.mpr ⟨List.mem_of_getElem? (i := 1771) (by decide +kernel), rfl⟩
theorem w_1772 : Cond.fieldLink "OptionBlockPlannerModel" 83 "OptionBlockPlannerModel" "forms" "[Ljava/lang/String;" ∈ k_TBL := List.mem_filter.mpr ⟨List.mem_of_getElem? (i := 1772) (by decide +kernel), rfl⟩
theorem w_1773 : Cond.fieldLink "OptionBlockPlannerModel" 87 "OptionBlockPlannerModel" "act" "[I" ∈ k_TBL := List.mem_filter.mpr ⟨List.mem_of_getElem? (i := 1773) (by decide +kernel), rfl⟩
theorem w_1774 : Cond.fieldLink "OptionBlockPlannerModel" 90 "OptionBlockPlannerModel" "number" "[I" ∈ k_TBL := List.mem_filter.mpr ⟨List.mem_of_getElem? (i := 1774) (by decide +kernel), rfl⟩
theorem w_1775 : Cond.fieldLink "OptionBlockPlannerModel" 93 "OptionBlockPlannerModel" "read" "[I" ∈ k_TBL := List.mem_filter.mpr ⟨List.mem_of_getElem? (i := 1775) (by decide +kernel), rfl⟩
theorem w_1776 : Cond.fieldLink "OptionBlockPlannerModel" 286 "OptionBlockPlannerModel" "textLong" "I" ∈ k_TBL := List.mem_filter.mpr ⟨List.mem_of_getElem? (i := 1776) (by decide +kernel), rfl⟩
theorem w_1777 : Cond.fieldLink "OptionBlockPlannerModel" 302 "OptionBlockPlannerModel" "acts" "I" ∈ k_TBL := List.mem_filter.mpr ⟨List.mem_of_getElem? (i := 1777) (by decide +kernel), rfl⟩
theorem w_1778 : Cond.fieldLink "OptionBlockPlannerModel" 299 "OptionBlockPlannerModel" "stopped" "I" ∈ k_TBL := List.mem_filter.mpr ⟨List.mem_of_getElem? (i := 1778) (by decide +kernel), rfl⟩
theorem w_1842 : Cond.arrayClass .char ∈ k_TBL := List.mem_filter.mpr ⟨List.mem_of_getElem? (i := 1842) (by decide +kernel), rfl⟩
theorem w_1843 : Cond.methodLink "OptionBlockPlannerLaw" 175 yX8_thrown ∈ k_TBL := List.mem_filter.mpr ⟨List.mem_of_getElem? (i := 1843) (by decide +kernel), rfl⟩
theorem w_1844 : Cond.instanceMethod yX8_thrown ∈ k_TBL := List.mem_filter.mpr ⟨List.mem_of_getElem? (i := 1844) (by decide +kernel), rfl⟩
theorem w_1845 : Cond.selects "OptionBlockPlannerModel" yX8_thrown yX8_thrown ∈ k_TBL := List.mem_filter.mpr ⟨List.mem_of_getElem? (i := 1845) (by decide +kernel), rfl⟩
theorem w_1847 : Cond.methodLink "OptionBlockPlannerLaw" 343 yX8_undo ∈ k_TBL := List.mem_filter.mpr ⟨List.mem_of_getElem? (i := 1847) (by decide +kernel), rfl⟩
theorem w_1848 : Cond.instanceMethod yX8_undo ∈ k_TBL := List.mem_filter.mpr ⟨List.mem_of_getElem? (i := 1848) (by decide +kernel), rfl⟩
theorem w_1849 : Cond.selects "OptionBlockPlannerModel" yX8_undo yX8_undo ∈ k_TBL := List.mem_filter.mpr ⟨List.mem_of_getElem? (i := 1849) (by decide +kernel), rfl⟩
theorem w_1851 : Cond.methodLink "OptionBlockPlannerModel" 106 yX8_fails ∈ k_TBL := List.mem_filter.mpr ⟨List.mem_of_getElem? (i := 1851) (by decide +kernel), rfl⟩
theorem w_1853 : Cond.instanceMethod yX8_fails ∈ k_TBL := List.mem_filter.mpr ⟨List.mem_of_getElem? (i := 1853) (by decide +kernel), rfl⟩
theorem w_1855 : Cond.methodLink "OptionBlockPlannerModel" 113 yX8_tells ∈ k_TBL := List.mem_filter.mpr ⟨List.mem_of_getElem? (i := 1855) (by decide +kernel), rfl⟩
theorem w_1857 : Cond.instanceMethod yX8_tells ∈ k_TBL := List.mem_filter.mpr ⟨List.mem_of_getElem? (i := 1857) (by decide +kernel), rfl⟩
theorem w_1859 : Cond.methodLink "OptionBlockPlannerLaw" 347 yX8_save ∈ k_TBL := List.mem_filter.mpr ⟨List.mem_of_getElem? (i := 1859) (by decide +kernel), rfl⟩
theorem w_1860 : Cond.instanceMethod yX8_save ∈ k_TBL := List.mem_filter.mpr ⟨List.mem_of_getElem? (i := 1860) (by decide +kernel), rfl⟩
theorem w_1861 : Cond.selects "OptionBlockPlannerModel" yX8_save yX8_save ∈ k_TBL := List.mem_filter.mpr ⟨List.mem_of_getElem? (i := 1861) (by decide +kernel), rfl⟩
theorem w_1863 : Cond.methodLink "OptionBlockPlannerModel" 99 yX8_copies ∈ k_TBL := List.mem_filter.mpr ⟨List.mem_of_getElem? (i := 1863) (by decide +kernel), rfl⟩
theorem w_1864 : Cond.static yX8_copies ∈ k_TBL := List.mem_filter.mpr ⟨List.mem_of_getElem? (i := 1864) (by decide +kernel), rfl⟩
theorem w_1866 : Cond.methodLink "OptionBlockPlannerLaw" 350 yX8_restore ∈ k_TBL := List.mem_filter.mpr ⟨List.mem_of_getElem? (i := 1866) (by decide +kernel), rfl⟩
theorem w_1867 : Cond.instanceMethod yX8_restore ∈ k_TBL := List.mem_filter.mpr ⟨List.mem_of_getElem? (i := 1867) (by decide +kernel), rfl⟩
theorem w_1868 : Cond.selects "OptionBlockPlannerModel" yX8_restore yX8_restore ∈ k_TBL := List.mem_filter.mpr ⟨List.mem_of_getElem? (i := 1868) (by decide +kernel), rfl⟩
theorem w_1870 : Cond.methodLink "OptionBlockPlannerLaw" 174 yX8_addSubject ∈ k_TBL := List.mem_filter.mpr ⟨List.mem_of_getElem? (i := 1870) (by decide +kernel), rfl⟩
theorem w_1871 : Cond.instanceMethod yX8_addSubject ∈ k_TBL := List.mem_filter.mpr ⟨List.mem_of_getElem? (i := 1871) (by decide +kernel), rfl⟩
theorem w_1872 : Cond.selects "OptionBlockPlannerModel" yX8_addSubject yX8_addSubject ∈ k_TBL := List.mem_filter.mpr ⟨List.mem_of_getElem? (i := 1872) (by decide +kernel), rfl⟩
theorem w_1874 : Cond.methodLink "OptionBlockPlannerModel" 134 yX8_begins ∈ k_TBL := List.mem_filter.mpr ⟨List.mem_of_getElem? (i := 1874) (by decide +kernel), rfl⟩
theorem w_1876 : Cond.instanceMethod yX8_begins ∈ k_TBL := List.mem_filter.mpr ⟨List.mem_of_getElem? (i := 1876) (by decide +kernel), rfl⟩
theorem w_1878 : Cond.methodLink "OptionBlockPlannerModel" 137 yX8_addSubjectNow ∈ k_TBL := List.mem_filter.mpr ⟨List.mem_of_getElem? (i := 1878) (by decide +kernel), rfl⟩
theorem w_1880 : Cond.instanceMethod yX8_addSubjectNow ∈ k_TBL := List.mem_filter.mpr ⟨List.mem_of_getElem? (i := 1880) (by decide +kernel), rfl⟩
theorem w_1882 : Cond.methodLink "OptionBlockPlannerModel" 120 yX8_in ∈ k_TBL := List.mem_filter.mpr ⟨List.mem_of_getElem? (i := 1882) (by decide +kernel), rfl⟩
theorem w_1883 : Cond.static yX8_in ∈ k_TBL := List.mem_filter.mpr ⟨List.mem_of_getElem? (i := 1883) (by decide +kernel), rfl⟩
theorem w_1885 : Cond.methodLink "OptionBlockPlannerModel" 131 yX8_bad ∈ k_TBL := List.mem_filter.mpr ⟨List.mem_of_getElem? (i := 1885) (by decide +kernel), rfl⟩
theorem w_1887 : Cond.instanceMethod yX8_bad ∈ k_TBL := List.mem_filter.mpr ⟨List.mem_of_getElem? (i := 1887) (by decide +kernel), rfl⟩
theorem w_1889 : Cond.methodLink "OptionBlockPlannerModel" 140 yX8_ends ∈ k_TBL := List.mem_filter.mpr ⟨List.mem_of_getElem? (i := 1889) (by decide +kernel), rfl⟩
theorem w_1891 : Cond.instanceMethod yX8_ends ∈ k_TBL := List.mem_filter.mpr ⟨List.mem_of_getElem? (i := 1891) (by decide +kernel), rfl⟩
theorem w_1893 : Cond.methodLink "OptionBlockPlannerLaw" 181 yX8_setSize ∈ k_TBL := List.mem_filter.mpr ⟨List.mem_of_getElem? (i := 1893) (by decide +kernel), rfl⟩
theorem w_1894 : Cond.instanceMethod yX8_setSize ∈ k_TBL := List.mem_filter.mpr ⟨List.mem_of_getElem? (i := 1894) (by decide +kernel), rfl⟩
theorem w_1895 : Cond.selects "OptionBlockPlannerModel" yX8_setSize yX8_setSize ∈ k_TBL := List.mem_filter.mpr ⟨List.mem_of_getElem? (i := 1895) (by decide +kernel), rfl⟩
theorem w_1897 : Cond.methodLink "OptionBlockPlannerModel" 151 yX8_setSizeNow ∈ k_TBL := List.mem_filter.mpr ⟨List.mem_of_getElem? (i := 1897) (by decide +kernel), rfl⟩
theorem w_1899 : Cond.instanceMethod yX8_setSizeNow ∈ k_TBL := List.mem_filter.mpr ⟨List.mem_of_getElem? (i := 1899) (by decide +kernel), rfl⟩
theorem w_1901 : Cond.methodLink "OptionBlockPlannerModel" 144 yX8_isSubject ∈ k_TBL := List.mem_filter.mpr ⟨List.mem_of_getElem? (i := 1901) (by decide +kernel), rfl⟩
theorem w_1903 : Cond.instanceMethod yX8_isSubject ∈ k_TBL := List.mem_filter.mpr ⟨List.mem_of_getElem? (i := 1903) (by decide +kernel), rfl⟩
theorem w_1905 : Cond.methodLink "OptionBlockPlannerModel" 148 yX8_inClass ∈ k_TBL := List.mem_filter.mpr ⟨List.mem_of_getElem? (i := 1905) (by decide +kernel), rfl⟩
theorem w_1907 : Cond.instanceMethod yX8_inClass ∈ k_TBL := List.mem_filter.mpr ⟨List.mem_of_getElem? (i := 1907) (by decide +kernel), rfl⟩
theorem w_1909 : Cond.methodLink "OptionBlockPlannerModel" 124 yX8_subjectOf ∈ k_TBL := List.mem_filter.mpr ⟨List.mem_of_getElem? (i := 1909) (by decide +kernel), rfl⟩
theorem w_1911 : Cond.instanceMethod yX8_subjectOf ∈ k_TBL := List.mem_filter.mpr ⟨List.mem_of_getElem? (i := 1911) (by decide +kernel), rfl⟩
theorem w_1913 : Cond.methodLink "OptionBlockPlannerLaw" 185 yX8_subjectCount ∈ k_TBL := List.mem_filter.mpr ⟨List.mem_of_getElem? (i := 1913) (by decide +kernel), rfl⟩
theorem w_1914 : Cond.instanceMethod yX8_subjectCount ∈ k_TBL := List.mem_filter.mpr ⟨List.mem_of_getElem? (i := 1914) (by decide +kernel), rfl⟩
theorem w_1915 : Cond.selects "OptionBlockPlannerModel" yX8_subjectCount yX8_subjectCount ∈ k_TBL := List.mem_filter.mpr ⟨List.mem_of_getElem? (i := 1915) (by decide +kernel), rfl⟩
theorem w_1917 : Cond.methodLink "OptionBlockPlannerLaw" 188 yX8_sizeOf ∈ k_TBL := List.mem_filter.mpr ⟨List.mem_of_getElem? (i := 1917) (by decide +kernel), rfl⟩
theorem w_1918 : Cond.instanceMethod yX8_sizeOf ∈ k_TBL := List.mem_filter.mpr ⟨List.mem_of_getElem? (i := 1918) (by decide +kernel), rfl⟩
theorem w_1919 : Cond.selects "OptionBlockPlannerModel" yX8_sizeOf yX8_sizeOf ∈ k_TBL := List.mem_filter.mpr ⟨List.mem_of_getElem? (i := 1919) (by decide +kernel), rfl⟩
theorem w_1921 : Cond.methodLink "OptionBlockPlannerLaw" 191 yX8_setBlockCount ∈ k_TBL := List.mem_filter.mpr ⟨List.mem_of_getElem? (i := 1921) (by decide +kernel), rfl⟩
theorem w_1922 : Cond.instanceMethod yX8_setBlockCount ∈ k_TBL := List.mem_filter.mpr ⟨List.mem_of_getElem? (i := 1922) (by decide +kernel), rfl⟩
theorem w_1923 : Cond.selects "OptionBlockPlannerModel" yX8_setBlockCount yX8_setBlockCount ∈ k_TBL := List.mem_filter.mpr ⟨List.mem_of_getElem? (i := 1923) (by decide +kernel), rfl⟩
theorem w_1925 : Cond.methodLink "OptionBlockPlannerModel" 158 yX8_setBlockCountNow ∈ k_TBL := List.mem_filter.mpr ⟨List.mem_of_getElem? (i := 1925) (by decide +kernel), rfl⟩
theorem w_1927 : Cond.instanceMethod yX8_setBlockCountNow ∈ k_TBL := List.mem_filter.mpr ⟨List.mem_of_getElem? (i := 1927) (by decide +kernel), rfl⟩
theorem w_1929 : Cond.methodLink "OptionBlockPlannerModel" 154 yX8_hasOpen ∈ k_TBL := List.mem_filter.mpr ⟨List.mem_of_getElem? (i := 1929) (by decide +kernel), rfl⟩
theorem w_1931 : Cond.instanceMethod yX8_hasOpen ∈ k_TBL := List.mem_filter.mpr ⟨List.mem_of_getElem? (i := 1931) (by decide +kernel), rfl⟩
theorem w_1933 : Cond.methodLink "OptionBlockPlannerLaw" 195 yX8_blockCount ∈ k_TBL := List.mem_filter.mpr ⟨List.mem_of_getElem? (i := 1933) (by decide +kernel), rfl⟩
theorem w_1934 : Cond.instanceMethod yX8_blockCount ∈ k_TBL := List.mem_filter.mpr ⟨List.mem_of_getElem? (i := 1934) (by decide +kernel), rfl⟩
theorem w_1935 : Cond.selects "OptionBlockPlannerModel" yX8_blockCount yX8_blockCount ∈ k_TBL := List.mem_filter.mpr ⟨List.mem_of_getElem? (i := 1935) (by decide +kernel), rfl⟩
theorem w_1937 : Cond.methodLink "OptionBlockPlannerLaw" 198 yX8_openClass ∈ k_TBL := List.mem_filter.mpr ⟨List.mem_of_getElem? (i := 1937) (by decide +kernel), rfl⟩
theorem w_1938 : Cond.instanceMethod yX8_openClass ∈ k_TBL := List.mem_filter.mpr ⟨List.mem_of_getElem? (i := 1938) (by decide +kernel), rfl⟩
theorem w_1939 : Cond.selects "OptionBlockPlannerModel" yX8_openClass yX8_openClass ∈ k_TBL := List.mem_filter.mpr ⟨List.mem_of_getElem? (i := 1939) (by decide +kernel), rfl⟩
theorem w_1941 : Cond.methodLink "OptionBlockPlannerModel" 167 yX8_openClassNow ∈ k_TBL := List.mem_filter.mpr ⟨List.mem_of_getElem? (i := 1941) (by decide +kernel), rfl⟩
theorem w_1943 : Cond.instanceMethod yX8_openClassNow ∈ k_TBL := List.mem_filter.mpr ⟨List.mem_of_getElem? (i := 1943) (by decide +kernel), rfl⟩
theorem w_1945 : Cond.methodLink "OptionBlockPlannerModel" 161 yX8_isBlock ∈ k_TBL := List.mem_filter.mpr ⟨List.mem_of_getElem? (i := 1945) (by decide +kernel), rfl⟩
theorem w_1947 : Cond.instanceMethod yX8_isBlock ∈ k_TBL := List.mem_filter.mpr ⟨List.mem_of_getElem? (i := 1947) (by decide +kernel), rfl⟩
theorem w_1949 : Cond.methodLink "OptionBlockPlannerModel" 164 yX8_openOf ∈ k_TBL := List.mem_filter.mpr ⟨List.mem_of_getElem? (i := 1949) (by decide +kernel), rfl⟩
theorem w_1951 : Cond.instanceMethod yX8_openOf ∈ k_TBL := List.mem_filter.mpr ⟨List.mem_of_getElem? (i := 1951) (by decide +kernel), rfl⟩
theorem w_1953 : Cond.methodLink "OptionBlockPlannerLaw" 201 yX8_closeClass ∈ k_TBL := List.mem_filter.mpr ⟨List.mem_of_getElem? (i := 1953) (by decide +kernel), rfl⟩
theorem w_1954 : Cond.instanceMethod yX8_closeClass ∈ k_TBL := List.mem_filter.mpr ⟨List.mem_of_getElem? (i := 1954) (by decide +kernel), rfl⟩
theorem w_1955 : Cond.selects "OptionBlockPlannerModel" yX8_closeClass yX8_closeClass ∈ k_TBL := List.mem_filter.mpr ⟨List.mem_of_getElem? (i := 1955) (by decide +kernel), rfl⟩
theorem w_1957 : Cond.methodLink "OptionBlockPlannerModel" 170 yX8_closeClassNow ∈ k_TBL := List.mem_filter.mpr ⟨List.mem_of_getElem? (i := 1957) (by decide +kernel), rfl⟩
theorem w_1959 : Cond.instanceMethod yX8_closeClassNow ∈ k_TBL := List.mem_filter.mpr ⟨List.mem_of_getElem? (i := 1959) (by decide +kernel), rfl⟩
theorem w_1961 : Cond.methodLink "OptionBlockPlannerLaw" 204 yX8_isOpen ∈ k_TBL := List.mem_filter.mpr ⟨List.mem_of_getElem? (i := 1961) (by decide +kernel), rfl⟩
theorem w_1962 : Cond.instanceMethod yX8_isOpen ∈ k_TBL := List.mem_filter.mpr ⟨List.mem_of_getElem? (i := 1962) (by decide +kernel), rfl⟩
theorem w_1963 : Cond.selects "OptionBlockPlannerModel" yX8_isOpen yX8_isOpen ∈ k_TBL := List.mem_filter.mpr ⟨List.mem_of_getElem? (i := 1963) (by decide +kernel), rfl⟩
theorem w_1965 : Cond.methodLink "OptionBlockPlannerLaw" 207 yX8_pupilsInClass ∈ k_TBL := List.mem_filter.mpr ⟨List.mem_of_getElem? (i := 1965) (by decide +kernel), rfl⟩
theorem w_1966 : Cond.instanceMethod yX8_pupilsInClass ∈ k_TBL := List.mem_filter.mpr ⟨List.mem_of_getElem? (i := 1966) (by decide +kernel), rfl⟩
theorem w_1967 : Cond.selects "OptionBlockPlannerModel" yX8_pupilsInClass yX8_pupilsInClass ∈ k_TBL := List.mem_filter.mpr ⟨List.mem_of_getElem? (i := 1967) (by decide +kernel), rfl⟩
theorem w_1969 : Cond.methodLink "OptionBlockPlannerLaw" 211 yX8_pupilInClass ∈ k_TBL := List.mem_filter.mpr ⟨List.mem_of_getElem? (i := 1969) (by decide +kernel), rfl⟩
theorem w_1970 : Cond.instanceMethod yX8_pupilInClass ∈ k_TBL := List.mem_filter.mpr ⟨List.mem_of_getElem? (i := 1970) (by decide +kernel), rfl⟩
theorem w_1971 : Cond.selects "OptionBlockPlannerModel" yX8_pupilInClass yX8_pupilInClass ∈ k_TBL := List.mem_filter.mpr ⟨List.mem_of_getElem? (i := 1971) (by decide +kernel), rfl⟩
theorem w_1973 : Cond.methodLink "OptionBlockPlannerLaw" 215 yX8_addPupil ∈ k_TBL := List.mem_filter.mpr ⟨List.mem_of_getElem? (i := 1973) (by decide +kernel), rfl⟩
theorem w_1974 : Cond.instanceMethod yX8_addPupil ∈ k_TBL := List.mem_filter.mpr ⟨List.mem_of_getElem? (i := 1974) (by decide +kernel), rfl⟩
theorem w_1975 : Cond.selects "OptionBlockPlannerModel" yX8_addPupil yX8_addPupil ∈ k_TBL := List.mem_filter.mpr ⟨List.mem_of_getElem? (i := 1975) (by decide +kernel), rfl⟩
theorem w_1977 : Cond.methodLink "OptionBlockPlannerModel" 173 yX8_addPupilNow ∈ k_TBL := List.mem_filter.mpr ⟨List.mem_of_getElem? (i := 1977) (by decide +kernel), rfl⟩
theorem w_1979 : Cond.instanceMethod yX8_addPupilNow ∈ k_TBL := List.mem_filter.mpr ⟨List.mem_of_getElem? (i := 1979) (by decide +kernel), rfl⟩
theorem w_1981 : Cond.methodLink "OptionBlockPlannerLaw" 219 yX8_pupilCount ∈ k_TBL := List.mem_filter.mpr ⟨List.mem_of_getElem? (i := 1981) (by decide +kernel), rfl⟩
theorem w_1982 : Cond.instanceMethod yX8_pupilCount ∈ k_TBL := List.mem_filter.mpr ⟨List.mem_of_getElem? (i := 1982) (by decide +kernel), rfl⟩
theorem w_1983 : Cond.selects "OptionBlockPlannerModel" yX8_pupilCount yX8_pupilCount ∈ k_TBL := List.mem_filter.mpr ⟨List.mem_of_getElem? (i := 1983) (by decide +kernel), rfl⟩
theorem w_1985 : Cond.methodLink "OptionBlockPlannerLaw" 222 yX8_addWish ∈ k_TBL := List.mem_filter.mpr ⟨List.mem_of_getElem? (i := 1985) (by decide +kernel), rfl⟩
theorem w_1986 : Cond.instanceMethod yX8_addWish ∈ k_TBL := List.mem_filter.mpr ⟨List.mem_of_getElem? (i := 1986) (by decide +kernel), rfl⟩
theorem w_1987 : Cond.selects "OptionBlockPlannerModel" yX8_addWish yX8_addWish ∈ k_TBL := List.mem_filter.mpr ⟨List.mem_of_getElem? (i := 1987) (by decide +kernel), rfl⟩
theorem w_1989 : Cond.methodLink "OptionBlockPlannerModel" 183 yX8_addWishNow ∈ k_TBL := List.mem_filter.mpr ⟨List.mem_of_getElem? (i := 1989) (by decide +kernel), rfl⟩
theorem w_1991 : Cond.instanceMethod yX8_addWishNow ∈ k_TBL := List.mem_filter.mpr ⟨List.mem_of_getElem? (i := 1991) (by decide +kernel), rfl⟩
theorem w_1993 : Cond.methodLink "OptionBlockPlannerModel" 177 yX8_isPupil ∈ k_TBL := List.mem_filter.mpr ⟨List.mem_of_getElem? (i := 1993) (by decide +kernel), rfl⟩
theorem w_1995 : Cond.instanceMethod yX8_isPupil ∈ k_TBL := List.mem_filter.mpr ⟨List.mem_of_getElem? (i := 1995) (by decide +kernel), rfl⟩
theorem w_1997 : Cond.methodLink "OptionBlockPlannerModel" 180 yX8_isWish ∈ k_TBL := List.mem_filter.mpr ⟨List.mem_of_getElem? (i := 1997) (by decide +kernel), rfl⟩
theorem w_1999 : Cond.instanceMethod yX8_isWish ∈ k_TBL := List.mem_filter.mpr ⟨List.mem_of_getElem? (i := 1999) (by decide +kernel), rfl⟩
theorem w_2001 : Cond.methodLink "OptionBlockPlannerModel" 128 yX8_wish ∈ k_TBL := List.mem_filter.mpr ⟨List.mem_of_getElem? (i := 2001) (by decide +kernel), rfl⟩
theorem w_2003 : Cond.instanceMethod yX8_wish ∈ k_TBL := List.mem_filter.mpr ⟨List.mem_of_getElem? (i := 2003) (by decide +kernel), rfl⟩
theorem w_2005 : Cond.methodLink "OptionBlockPlannerLaw" 225 yX8_setReserve ∈ k_TBL := List.mem_filter.mpr ⟨List.mem_of_getElem? (i := 2005) (by decide +kernel), rfl⟩
theorem w_2006 : Cond.instanceMethod yX8_setReserve ∈ k_TBL := List.mem_filter.mpr ⟨List.mem_of_getElem? (i := 2006) (by decide +kernel), rfl⟩
theorem w_2007 : Cond.selects "OptionBlockPlannerModel" yX8_setReserve yX8_setReserve ∈ k_TBL := List.mem_filter.mpr ⟨List.mem_of_getElem? (i := 2007) (by decide +kernel), rfl⟩
theorem w_2009 : Cond.methodLink "OptionBlockPlannerModel" 186 yX8_setReserveNow ∈ k_TBL := List.mem_filter.mpr ⟨List.mem_of_getElem? (i := 2009) (by decide +kernel), rfl⟩
theorem w_2011 : Cond.instanceMethod yX8_setReserveNow ∈ k_TBL := List.mem_filter.mpr ⟨List.mem_of_getElem? (i := 2011) (by decide +kernel), rfl⟩
theorem w_2013 : Cond.methodLink "OptionBlockPlannerLaw" 228 yX8_wishCount ∈ k_TBL := List.mem_filter.mpr ⟨List.mem_of_getElem? (i := 2013) (by decide +kernel), rfl⟩
theorem w_2014 : Cond.instanceMethod yX8_wishCount ∈ k_TBL := List.mem_filter.mpr ⟨List.mem_of_getElem? (i := 2014) (by decide +kernel), rfl⟩
theorem w_2015 : Cond.selects "OptionBlockPlannerModel" yX8_wishCount yX8_wishCount ∈ k_TBL := List.mem_filter.mpr ⟨List.mem_of_getElem? (i := 2015) (by decide +kernel), rfl⟩
theorem w_2017 : Cond.methodLink "OptionBlockPlannerLaw" 231 yX8_wishAt ∈ k_TBL := List.mem_filter.mpr ⟨List.mem_of_getElem? (i := 2017) (by decide +kernel), rfl⟩
theorem w_2018 : Cond.instanceMethod yX8_wishAt ∈ k_TBL := List.mem_filter.mpr ⟨List.mem_of_getElem? (i := 2018) (by decide +kernel), rfl⟩
theorem w_2019 : Cond.selects "OptionBlockPlannerModel" yX8_wishAt yX8_wishAt ∈ k_TBL := List.mem_filter.mpr ⟨List.mem_of_getElem? (i := 2019) (by decide +kernel), rfl⟩
theorem w_2021 : Cond.methodLink "OptionBlockPlannerLaw" 234 yX8_reserveOf ∈ k_TBL := List.mem_filter.mpr ⟨List.mem_of_getElem? (i := 2021) (by decide +kernel), rfl⟩
theorem w_2022 : Cond.instanceMethod yX8_reserveOf ∈ k_TBL := List.mem_filter.mpr ⟨List.mem_of_getElem? (i := 2022) (by decide +kernel), rfl⟩
theorem w_2023 : Cond.selects "OptionBlockPlannerModel" yX8_reserveOf yX8_reserveOf ∈ k_TBL := List.mem_filter.mpr ⟨List.mem_of_getElem? (i := 2023) (by decide +kernel), rfl⟩
theorem w_2025 : Cond.methodLink "OptionBlockPlannerLaw" 237 yX8_subjectIn ∈ k_TBL := List.mem_filter.mpr ⟨List.mem_of_getElem? (i := 2025) (by decide +kernel), rfl⟩
theorem w_2026 : Cond.instanceMethod yX8_subjectIn ∈ k_TBL := List.mem_filter.mpr ⟨List.mem_of_getElem? (i := 2026) (by decide +kernel), rfl⟩
theorem w_2027 : Cond.selects "OptionBlockPlannerModel" yX8_subjectIn yX8_subjectIn ∈ k_TBL := List.mem_filter.mpr ⟨List.mem_of_getElem? (i := 2027) (by decide +kernel), rfl⟩
theorem w_2029 : Cond.methodLink "OptionBlockPlannerLaw" 240 yX8_blockOf ∈ k_TBL := List.mem_filter.mpr ⟨List.mem_of_getElem? (i := 2029) (by decide +kernel), rfl⟩
theorem w_2030 : Cond.instanceMethod yX8_blockOf ∈ k_TBL := List.mem_filter.mpr ⟨List.mem_of_getElem? (i := 2030) (by decide +kernel), rfl⟩
theorem w_2031 : Cond.selects "OptionBlockPlannerModel" yX8_blockOf yX8_blockOf ∈ k_TBL := List.mem_filter.mpr ⟨List.mem_of_getElem? (i := 2031) (by decide +kernel), rfl⟩
theorem w_2033 : Cond.methodLink "OptionBlockPlannerModel" 189 yX8_blockOfSubject ∈ k_TBL := List.mem_filter.mpr ⟨List.mem_of_getElem? (i := 2033) (by decide +kernel), rfl⟩
theorem w_2035 : Cond.instanceMethod yX8_blockOfSubject ∈ k_TBL := List.mem_filter.mpr ⟨List.mem_of_getElem? (i := 2035) (by decide +kernel), rfl⟩
theorem w_2037 : Cond.methodLink "OptionBlockPlannerLaw" 243 yX8_enrol ∈ k_TBL := List.mem_filter.mpr ⟨List.mem_of_getElem? (i := 2037) (by decide +kernel), rfl⟩
theorem w_2038 : Cond.instanceMethod yX8_enrol ∈ k_TBL := List.mem_filter.mpr ⟨List.mem_of_getElem? (i := 2038) (by decide +kernel), rfl⟩
theorem w_2039 : Cond.selects "OptionBlockPlannerModel" yX8_enrol yX8_enrol ∈ k_TBL := List.mem_filter.mpr ⟨List.mem_of_getElem? (i := 2039) (by decide +kernel), rfl⟩
theorem w_2041 : Cond.methodLink "OptionBlockPlannerModel" 211 yX8_enrolNow ∈ k_TBL := List.mem_filter.mpr ⟨List.mem_of_getElem? (i := 2041) (by decide +kernel), rfl⟩
theorem w_2043 : Cond.instanceMethod yX8_enrolNow ∈ k_TBL := List.mem_filter.mpr ⟨List.mem_of_getElem? (i := 2043) (by decide +kernel), rfl⟩
theorem w_2045 : Cond.methodLink "OptionBlockPlannerModel" 204 yX8_classesOf ∈ k_TBL := List.mem_filter.mpr ⟨List.mem_of_getElem? (i := 2045) (by decide +kernel), rfl⟩
theorem w_2047 : Cond.instanceMethod yX8_classesOf ∈ k_TBL := List.mem_filter.mpr ⟨List.mem_of_getElem? (i := 2047) (by decide +kernel), rfl⟩
theorem w_2049 : Cond.methodLink "OptionBlockPlannerModel" 207 yX8_findsPlacement ∈ k_TBL := List.mem_filter.mpr ⟨List.mem_of_getElem? (i := 2049) (by decide +kernel), rfl⟩
theorem w_2051 : Cond.instanceMethod yX8_findsPlacement ∈ k_TBL := List.mem_filter.mpr ⟨List.mem_of_getElem? (i := 2051) (by decide +kernel), rfl⟩
theorem w_2053 : Cond.methodLink "OptionBlockPlannerModel" 201 yX8_worth ∈ k_TBL := List.mem_filter.mpr ⟨List.mem_of_getElem? (i := 2053) (by decide +kernel), rfl⟩
theorem w_2055 : Cond.instanceMethod yX8_worth ∈ k_TBL := List.mem_filter.mpr ⟨List.mem_of_getElem? (i := 2055) (by decide +kernel), rfl⟩
theorem w_2057 : Cond.methodLink "OptionBlockPlannerModel" 192 yX8_hasRoom ∈ k_TBL := List.mem_filter.mpr ⟨List.mem_of_getElem? (i := 2057) (by decide +kernel), rfl⟩
theorem w_2059 : Cond.instanceMethod yX8_hasRoom ∈ k_TBL := List.mem_filter.mpr ⟨List.mem_of_getElem? (i := 2059) (by decide +kernel), rfl⟩
theorem w_2061 : Cond.methodLink "OptionBlockPlannerModel" 195 yX8_lacksWish ∈ k_TBL := List.mem_filter.mpr ⟨List.mem_of_getElem? (i := 2061) (by decide +kernel), rfl⟩
theorem w_2063 : Cond.instanceMethod yX8_lacksWish ∈ k_TBL := List.mem_filter.mpr ⟨List.mem_of_getElem? (i := 2063) (by decide +kernel), rfl⟩
theorem w_2065 : Cond.methodLink "OptionBlockPlannerLaw" 247 yX8_enrolAll ∈ k_TBL := List.mem_filter.mpr ⟨List.mem_of_getElem? (i := 2065) (by decide +kernel), rfl⟩
theorem w_2066 : Cond.instanceMethod yX8_enrolAll ∈ k_TBL := List.mem_filter.mpr ⟨List.mem_of_getElem? (i := 2066) (by decide +kernel), rfl⟩
theorem w_2067 : Cond.selects "OptionBlockPlannerModel" yX8_enrolAll yX8_enrolAll ∈ k_TBL := List.mem_filter.mpr ⟨List.mem_of_getElem? (i := 2067) (by decide +kernel), rfl⟩
theorem w_2069 : Cond.methodLink "OptionBlockPlannerModel" 214 yX8_isServed ∈ k_TBL := List.mem_filter.mpr ⟨List.mem_of_getElem? (i := 2069) (by decide +kernel), rfl⟩
theorem w_2071 : Cond.instanceMethod yX8_isServed ∈ k_TBL := List.mem_filter.mpr ⟨List.mem_of_getElem? (i := 2071) (by decide +kernel), rfl⟩
theorem w_2073 : Cond.methodLink "OptionBlockPlannerLaw" 250 yX8_withdraw ∈ k_TBL := List.mem_filter.mpr ⟨List.mem_of_getElem? (i := 2073) (by decide +kernel), rfl⟩
theorem w_2074 : Cond.instanceMethod yX8_withdraw ∈ k_TBL := List.mem_filter.mpr ⟨List.mem_of_getElem? (i := 2074) (by decide +kernel), rfl⟩
theorem w_2075 : Cond.selects "OptionBlockPlannerModel" yX8_withdraw yX8_withdraw ∈ k_TBL := List.mem_filter.mpr ⟨List.mem_of_getElem? (i := 2075) (by decide +kernel), rfl⟩
theorem w_2077 : Cond.methodLink "OptionBlockPlannerModel" 217 yX8_withdrawNow ∈ k_TBL := List.mem_filter.mpr ⟨List.mem_of_getElem? (i := 2077) (by decide +kernel), rfl⟩
theorem w_2079 : Cond.instanceMethod yX8_withdrawNow ∈ k_TBL := List.mem_filter.mpr ⟨List.mem_of_getElem? (i := 2079) (by decide +kernel), rfl⟩
theorem w_2081 : Cond.methodLink "OptionBlockPlannerLaw" 253 yX8_bestValue ∈ k_TBL := List.mem_filter.mpr ⟨List.mem_of_getElem? (i := 2081) (by decide +kernel), rfl⟩
theorem w_2082 : Cond.instanceMethod yX8_bestValue ∈ k_TBL := List.mem_filter.mpr ⟨List.mem_of_getElem? (i := 2082) (by decide +kernel), rfl⟩
theorem w_2083 : Cond.selects "OptionBlockPlannerModel" yX8_bestValue yX8_bestValue ∈ k_TBL := List.mem_filter.mpr ⟨List.mem_of_getElem? (i := 2083) (by decide +kernel), rfl⟩
theorem w_2085 : Cond.methodLink "OptionBlockPlannerLaw" 256 yX8_bestValueBySets ∈ k_TBL := List.mem_filter.mpr ⟨List.mem_of_getElem? (i := 2085) (by decide +kernel), rfl⟩
theorem w_2086 : Cond.instanceMethod yX8_bestValueBySets ∈ k_TBL := List.mem_filter.mpr ⟨List.mem_of_getElem? (i := 2086) (by decide +kernel), rfl⟩
theorem w_2087 : Cond.selects "OptionBlockPlannerModel" yX8_bestValueBySets yX8_bestValueBySets ∈ k_TBL := List.mem_filter.mpr ⟨List.mem_of_getElem? (i := 2087) (by decide +kernel), rfl⟩
theorem w_2089 : Cond.methodLink "OptionBlockPlannerModel" 224 yX8_canPlace ∈ k_TBL := List.mem_filter.mpr ⟨List.mem_of_getElem? (i := 2089) (by decide +kernel), rfl⟩
theorem w_2091 : Cond.instanceMethod yX8_canPlace ∈ k_TBL := List.mem_filter.mpr ⟨List.mem_of_getElem? (i := 2091) (by decide +kernel), rfl⟩
theorem w_2093 : Cond.methodLink "OptionBlockPlannerModel" 220 yX8_more ∈ k_TBL := List.mem_filter.mpr ⟨List.mem_of_getElem? (i := 2093) (by decide +kernel), rfl⟩
theorem w_2095 : Cond.instanceMethod yX8_more ∈ k_TBL := List.mem_filter.mpr ⟨List.mem_of_getElem? (i := 2095) (by decide +kernel), rfl⟩
theorem w_2097 : Cond.methodLink "OptionBlockPlannerLaw" 259 yX8_canServe ∈ k_TBL := List.mem_filter.mpr ⟨List.mem_of_getElem? (i := 2097) (by decide +kernel), rfl⟩
theorem w_2098 : Cond.instanceMethod yX8_canServe ∈ k_TBL := List.mem_filter.mpr ⟨List.mem_of_getElem? (i := 2098) (by decide +kernel), rfl⟩
theorem w_2099 : Cond.selects "OptionBlockPlannerModel" yX8_canServe yX8_canServe ∈ k_TBL := List.mem_filter.mpr ⟨List.mem_of_getElem? (i := 2099) (by decide +kernel), rfl⟩
theorem w_2101 : Cond.methodLink "OptionBlockPlannerModel" 228 yX8_isServable ∈ k_TBL := List.mem_filter.mpr ⟨List.mem_of_getElem? (i := 2101) (by decide +kernel), rfl⟩
theorem w_2103 : Cond.instanceMethod yX8_isServable ∈ k_TBL := List.mem_filter.mpr ⟨List.mem_of_getElem? (i := 2103) (by decide +kernel), rfl⟩
theorem w_2105 : Cond.methodLink "OptionBlockPlannerLaw" 262 yX8_canServeByCounting ∈ k_TBL := List.mem_filter.mpr ⟨List.mem_of_getElem? (i := 2105) (by decide +kernel), rfl⟩
theorem w_2106 : Cond.instanceMethod yX8_canServeByCounting ∈ k_TBL := List.mem_filter.mpr ⟨List.mem_of_getElem? (i := 2106) (by decide +kernel), rfl⟩
theorem w_2107 : Cond.selects "OptionBlockPlannerModel" yX8_canServeByCounting yX8_canServeByCounting ∈ k_TBL := List.mem_filter.mpr ⟨List.mem_of_getElem? (i := 2107) (by decide +kernel), rfl⟩
theorem w_2109 : Cond.methodLink "OptionBlockPlannerLaw" 266 yX8_servedCount ∈ k_TBL := List.mem_filter.mpr ⟨List.mem_of_getElem? (i := 2109) (by decide +kernel), rfl⟩
theorem w_2110 : Cond.instanceMethod yX8_servedCount ∈ k_TBL := List.mem_filter.mpr ⟨List.mem_of_getElem? (i := 2110) (by decide +kernel), rfl⟩
theorem w_2111 : Cond.selects "OptionBlockPlannerModel" yX8_servedCount yX8_servedCount ∈ k_TBL := List.mem_filter.mpr ⟨List.mem_of_getElem? (i := 2111) (by decide +kernel), rfl⟩
theorem w_2113 : Cond.methodLink "OptionBlockPlannerLaw" 270 yX8_meanClassSize ∈ k_TBL := List.mem_filter.mpr ⟨List.mem_of_getElem? (i := 2113) (by decide +kernel), rfl⟩
theorem w_2114 : Cond.instanceMethod yX8_meanClassSize ∈ k_TBL := List.mem_filter.mpr ⟨List.mem_of_getElem? (i := 2114) (by decide +kernel), rfl⟩
theorem w_2115 : Cond.selects "OptionBlockPlannerModel" yX8_meanClassSize yX8_meanClassSize ∈ k_TBL := List.mem_filter.mpr ⟨List.mem_of_getElem? (i := 2115) (by decide +kernel), rfl⟩
theorem w_2117 : Cond.methodLink "OptionBlockPlannerLaw" 273 yX8_movesFor ∈ k_TBL := List.mem_filter.mpr ⟨List.mem_of_getElem? (i := 2117) (by decide +kernel), rfl⟩
theorem w_2118 : Cond.instanceMethod yX8_movesFor ∈ k_TBL := List.mem_filter.mpr ⟨List.mem_of_getElem? (i := 2118) (by decide +kernel), rfl⟩
theorem w_2119 : Cond.selects "OptionBlockPlannerModel" yX8_movesFor yX8_movesFor ∈ k_TBL := List.mem_filter.mpr ⟨List.mem_of_getElem? (i := 2119) (by decide +kernel), rfl⟩
theorem w_2121 : Cond.methodLink "OptionBlockPlannerModel" 243 yX8_asksMoves ∈ k_TBL := List.mem_filter.mpr ⟨List.mem_of_getElem? (i := 2121) (by decide +kernel), rfl⟩
theorem w_2123 : Cond.instanceMethod yX8_asksMoves ∈ k_TBL := List.mem_filter.mpr ⟨List.mem_of_getElem? (i := 2123) (by decide +kernel), rfl⟩
theorem w_2125 : Cond.methodLink "OptionBlockPlannerModel" 240 yX8_findsChain ∈ k_TBL := List.mem_filter.mpr ⟨List.mem_of_getElem? (i := 2125) (by decide +kernel), rfl⟩
theorem w_2127 : Cond.instanceMethod yX8_findsChain ∈ k_TBL := List.mem_filter.mpr ⟨List.mem_of_getElem? (i := 2127) (by decide +kernel), rfl⟩
theorem w_2129 : Cond.methodLink "OptionBlockPlannerModel" 237 yX8_isChain ∈ k_TBL := List.mem_filter.mpr ⟨List.mem_of_getElem? (i := 2129) (by decide +kernel), rfl⟩
theorem w_2131 : Cond.instanceMethod yX8_isChain ∈ k_TBL := List.mem_filter.mpr ⟨List.mem_of_getElem? (i := 2131) (by decide +kernel), rfl⟩
theorem w_2133 : Cond.methodLink "OptionBlockPlannerModel" 231 yX8_isEntry ∈ k_TBL := List.mem_filter.mpr ⟨List.mem_of_getElem? (i := 2133) (by decide +kernel), rfl⟩
theorem w_2135 : Cond.instanceMethod yX8_isEntry ∈ k_TBL := List.mem_filter.mpr ⟨List.mem_of_getElem? (i := 2135) (by decide +kernel), rfl⟩
theorem w_2137 : Cond.methodLink "OptionBlockPlannerModel" 234 yX8_mover ∈ k_TBL := List.mem_filter.mpr ⟨List.mem_of_getElem? (i := 2137) (by decide +kernel), rfl⟩
theorem w_2139 : Cond.instanceMethod yX8_mover ∈ k_TBL := List.mem_filter.mpr ⟨List.mem_of_getElem? (i := 2139) (by decide +kernel), rfl⟩
theorem w_2141 : Cond.methodLink "OptionBlockPlannerLaw" 276 yX8_movesByTrial ∈ k_TBL := List.mem_filter.mpr ⟨List.mem_of_getElem? (i := 2141) (by decide +kernel), rfl⟩
theorem w_2142 : Cond.instanceMethod yX8_movesByTrial ∈ k_TBL := List.mem_filter.mpr ⟨List.mem_of_getElem? (i := 2142) (by decide +kernel), rfl⟩
theorem w_2143 : Cond.selects "OptionBlockPlannerModel" yX8_movesByTrial yX8_movesByTrial ∈ k_TBL := List.mem_filter.mpr ⟨List.mem_of_getElem? (i := 2143) (by decide +kernel), rfl⟩
theorem w_2145 : Cond.methodLink "OptionBlockPlannerLaw" 279 yX8_join ∈ k_TBL := List.mem_filter.mpr ⟨List.mem_of_getElem? (i := 2145) (by decide +kernel), rfl⟩
theorem w_2146 : Cond.instanceMethod yX8_join ∈ k_TBL := List.mem_filter.mpr ⟨List.mem_of_getElem? (i := 2146) (by decide +kernel), rfl⟩
theorem w_2147 : Cond.selects "OptionBlockPlannerModel" yX8_join yX8_join ∈ k_TBL := List.mem_filter.mpr ⟨List.mem_of_getElem? (i := 2147) (by decide +kernel), rfl⟩
theorem w_2149 : Cond.methodLink "OptionBlockPlannerModel" 252 yX8_joinNow ∈ k_TBL := List.mem_filter.mpr ⟨List.mem_of_getElem? (i := 2149) (by decide +kernel), rfl⟩
theorem w_2151 : Cond.instanceMethod yX8_joinNow ∈ k_TBL := List.mem_filter.mpr ⟨List.mem_of_getElem? (i := 2151) (by decide +kernel), rfl⟩
theorem w_2153 : Cond.methodLink "OptionBlockPlannerModel" 246 yX8_whyRefused ∈ k_TBL := List.mem_filter.mpr ⟨List.mem_of_getElem? (i := 2153) (by decide +kernel), rfl⟩
theorem w_2155 : Cond.instanceMethod yX8_whyRefused ∈ k_TBL := List.mem_filter.mpr ⟨List.mem_of_getElem? (i := 2155) (by decide +kernel), rfl⟩
theorem w_2157 : Cond.methodLink "OptionBlockPlannerLaw" 282 yX8_quit ∈ k_TBL := List.mem_filter.mpr ⟨List.mem_of_getElem? (i := 2157) (by decide +kernel), rfl⟩
theorem w_2158 : Cond.instanceMethod yX8_quit ∈ k_TBL := List.mem_filter.mpr ⟨List.mem_of_getElem? (i := 2158) (by decide +kernel), rfl⟩
theorem w_2159 : Cond.selects "OptionBlockPlannerModel" yX8_quit yX8_quit ∈ k_TBL := List.mem_filter.mpr ⟨List.mem_of_getElem? (i := 2159) (by decide +kernel), rfl⟩
theorem w_2161 : Cond.methodLink "OptionBlockPlannerModel" 255 yX8_quitNow ∈ k_TBL := List.mem_filter.mpr ⟨List.mem_of_getElem? (i := 2161) (by decide +kernel), rfl⟩
theorem w_2163 : Cond.instanceMethod yX8_quitNow ∈ k_TBL := List.mem_filter.mpr ⟨List.mem_of_getElem? (i := 2163) (by decide +kernel), rfl⟩
theorem w_2165 : Cond.methodLink "OptionBlockPlannerLaw" 285 yX8_change ∈ k_TBL := List.mem_filter.mpr ⟨List.mem_of_getElem? (i := 2165) (by decide +kernel), rfl⟩
theorem w_2166 : Cond.instanceMethod yX8_change ∈ k_TBL := List.mem_filter.mpr ⟨List.mem_of_getElem? (i := 2166) (by decide +kernel), rfl⟩
theorem w_2167 : Cond.selects "OptionBlockPlannerModel" yX8_change yX8_change ∈ k_TBL := List.mem_filter.mpr ⟨List.mem_of_getElem? (i := 2167) (by decide +kernel), rfl⟩
theorem w_2169 : Cond.methodLink "OptionBlockPlannerModel" 258 yX8_changeNow ∈ k_TBL := List.mem_filter.mpr ⟨List.mem_of_getElem? (i := 2169) (by decide +kernel), rfl⟩
theorem w_2171 : Cond.instanceMethod yX8_changeNow ∈ k_TBL := List.mem_filter.mpr ⟨List.mem_of_getElem? (i := 2171) (by decide +kernel), rfl⟩
theorem w_2173 : Cond.methodLink "OptionBlockPlannerLaw" 288 yX8_refusalReason ∈ k_TBL := List.mem_filter.mpr ⟨List.mem_of_getElem? (i := 2173) (by decide +kernel), rfl⟩
theorem w_2174 : Cond.instanceMethod yX8_refusalReason ∈ k_TBL := List.mem_filter.mpr ⟨List.mem_of_getElem? (i := 2174) (by decide +kernel), rfl⟩
theorem w_2175 : Cond.selects "OptionBlockPlannerModel" yX8_refusalReason yX8_refusalReason ∈ k_TBL := List.mem_filter.mpr ⟨List.mem_of_getElem? (i := 2175) (by decide +kernel), rfl⟩
theorem w_2177 : Cond.methodLink "OptionBlockPlannerLaw" 291 yX8_chainMoves ∈ k_TBL := List.mem_filter.mpr ⟨List.mem_of_getElem? (i := 2177) (by decide +kernel), rfl⟩
theorem w_2178 : Cond.instanceMethod yX8_chainMoves ∈ k_TBL := List.mem_filter.mpr ⟨List.mem_of_getElem? (i := 2178) (by decide +kernel), rfl⟩
theorem w_2179 : Cond.selects "OptionBlockPlannerModel" yX8_chainMoves yX8_chainMoves ∈ k_TBL := List.mem_filter.mpr ⟨List.mem_of_getElem? (i := 2179) (by decide +kernel), rfl⟩
theorem w_2181 : Cond.methodLink "OptionBlockPlannerLaw" 294 yX8_chainPupil ∈ k_TBL := List.mem_filter.mpr ⟨List.mem_of_getElem? (i := 2181) (by decide +kernel), rfl⟩
theorem w_2182 : Cond.instanceMethod yX8_chainPupil ∈ k_TBL := List.mem_filter.mpr ⟨List.mem_of_getElem? (i := 2182) (by decide +kernel), rfl⟩
theorem w_2183 : Cond.selects "OptionBlockPlannerModel" yX8_chainPupil yX8_chainPupil ∈ k_TBL := List.mem_filter.mpr ⟨List.mem_of_getElem? (i := 2183) (by decide +kernel), rfl⟩
theorem w_2185 : Cond.methodLink "OptionBlockPlannerLaw" 297 yX8_chainBlock ∈ k_TBL := List.mem_filter.mpr ⟨List.mem_of_getElem? (i := 2185) (by decide +kernel), rfl⟩
theorem w_2186 : Cond.instanceMethod yX8_chainBlock ∈ k_TBL := List.mem_filter.mpr ⟨List.mem_of_getElem? (i := 2186) (by decide +kernel), rfl⟩
theorem w_2187 : Cond.selects "OptionBlockPlannerModel" yX8_chainBlock yX8_chainBlock ∈ k_TBL := List.mem_filter.mpr ⟨List.mem_of_getElem? (i := 2187) (by decide +kernel), rfl⟩
theorem w_2189 : Cond.methodLink "OptionBlockPlannerLaw" 300 yX8_commonWishes ∈ k_TBL := List.mem_filter.mpr ⟨List.mem_of_getElem? (i := 2189) (by decide +kernel), rfl⟩
theorem w_2190 : Cond.instanceMethod yX8_commonWishes ∈ k_TBL := List.mem_filter.mpr ⟨List.mem_of_getElem? (i := 2190) (by decide +kernel), rfl⟩
theorem w_2191 : Cond.selects "OptionBlockPlannerModel" yX8_commonWishes yX8_commonWishes ∈ k_TBL := List.mem_filter.mpr ⟨List.mem_of_getElem? (i := 2191) (by decide +kernel), rfl⟩
theorem w_2193 : Cond.methodLink "OptionBlockPlannerModel" 261 yX8_wrongPair ∈ k_TBL := List.mem_filter.mpr ⟨List.mem_of_getElem? (i := 2193) (by decide +kernel), rfl⟩
theorem w_2195 : Cond.instanceMethod yX8_wrongPair ∈ k_TBL := List.mem_filter.mpr ⟨List.mem_of_getElem? (i := 2195) (by decide +kernel), rfl⟩
theorem w_2197 : Cond.methodLink "OptionBlockPlannerModel" 264 yX8_common ∈ k_TBL := List.mem_filter.mpr ⟨List.mem_of_getElem? (i := 2197) (by decide +kernel), rfl⟩
theorem w_2199 : Cond.instanceMethod yX8_common ∈ k_TBL := List.mem_filter.mpr ⟨List.mem_of_getElem? (i := 2199) (by decide +kernel), rfl⟩
theorem w_2201 : Cond.methodLink "OptionBlockPlannerLaw" 303 yX8_doClash ∈ k_TBL := List.mem_filter.mpr ⟨List.mem_of_getElem? (i := 2201) (by decide +kernel), rfl⟩
theorem w_2202 : Cond.instanceMethod yX8_doClash ∈ k_TBL := List.mem_filter.mpr ⟨List.mem_of_getElem? (i := 2202) (by decide +kernel), rfl⟩
theorem w_2203 : Cond.selects "OptionBlockPlannerModel" yX8_doClash yX8_doClash ∈ k_TBL := List.mem_filter.mpr ⟨List.mem_of_getElem? (i := 2203) (by decide +kernel), rfl⟩
theorem w_2205 : Cond.methodLink "OptionBlockPlannerModel" 267 yX8_clash ∈ k_TBL := List.mem_filter.mpr ⟨List.mem_of_getElem? (i := 2205) (by decide +kernel), rfl⟩
theorem w_2207 : Cond.instanceMethod yX8_clash ∈ k_TBL := List.mem_filter.mpr ⟨List.mem_of_getElem? (i := 2207) (by decide +kernel), rfl⟩
theorem w_2209 : Cond.methodLink "OptionBlockPlannerLaw" 307 yX8_clashCount ∈ k_TBL := List.mem_filter.mpr ⟨List.mem_of_getElem? (i := 2209) (by decide +kernel), rfl⟩
theorem w_2210 : Cond.instanceMethod yX8_clashCount ∈ k_TBL := List.mem_filter.mpr ⟨List.mem_of_getElem? (i := 2210) (by decide +kernel), rfl⟩
theorem w_2211 : Cond.selects "OptionBlockPlannerModel" yX8_clashCount yX8_clashCount ∈ k_TBL := List.mem_filter.mpr ⟨List.mem_of_getElem? (i := 2211) (by decide +kernel), rfl⟩
theorem w_2213 : Cond.methodLink "OptionBlockPlannerLaw" 311 yX8_leastClashes ∈ k_TBL := List.mem_filter.mpr ⟨List.mem_of_getElem? (i := 2213) (by decide +kernel), rfl⟩
theorem w_2214 : Cond.instanceMethod yX8_leastClashes ∈ k_TBL := List.mem_filter.mpr ⟨List.mem_of_getElem? (i := 2214) (by decide +kernel), rfl⟩
theorem w_2215 : Cond.selects "OptionBlockPlannerModel" yX8_leastClashes yX8_leastClashes ∈ k_TBL := List.mem_filter.mpr ⟨List.mem_of_getElem? (i := 2215) (by decide +kernel), rfl⟩
theorem w_2217 : Cond.methodLink "OptionBlockPlannerModel" 270 yX8_findsArrangement ∈ k_TBL := List.mem_filter.mpr ⟨List.mem_of_getElem? (i := 2217) (by decide +kernel), rfl⟩
theorem w_2219 : Cond.instanceMethod yX8_findsArrangement ∈ k_TBL := List.mem_filter.mpr ⟨List.mem_of_getElem? (i := 2219) (by decide +kernel), rfl⟩
theorem w_2221 : Cond.methodLink "OptionBlockPlannerLaw" 315 yX8_leastClashesByTrial ∈ k_TBL := List.mem_filter.mpr ⟨List.mem_of_getElem? (i := 2221) (by decide +kernel), rfl⟩
theorem w_2222 : Cond.instanceMethod yX8_leastClashesByTrial ∈ k_TBL := List.mem_filter.mpr ⟨List.mem_of_getElem? (i := 2222) (by decide +kernel), rfl⟩
theorem w_2223 : Cond.selects "OptionBlockPlannerModel" yX8_leastClashesByTrial yX8_leastClashesByTrial ∈ k_TBL := List.mem_filter.mpr ⟨List.mem_of_getElem? (i := 2223) (by decide +kernel), rfl⟩
theorem w_2225 : Cond.methodLink "OptionBlockPlannerLaw" 318 yX8_arrange ∈ k_TBL := List.mem_filter.mpr ⟨List.mem_of_getElem? (i := 2225) (by decide +kernel), rfl⟩
theorem w_2226 : Cond.instanceMethod yX8_arrange ∈ k_TBL := List.mem_filter.mpr ⟨List.mem_of_getElem? (i := 2226) (by decide +kernel), rfl⟩
theorem w_2227 : Cond.selects "OptionBlockPlannerModel" yX8_arrange yX8_arrange ∈ k_TBL := List.mem_filter.mpr ⟨List.mem_of_getElem? (i := 2227) (by decide +kernel), rfl⟩
theorem w_2229 : Cond.methodLink "OptionBlockPlannerModel" 273 yX8_arrangeNow ∈ k_TBL := List.mem_filter.mpr ⟨List.mem_of_getElem? (i := 2229) (by decide +kernel), rfl⟩
theorem w_2231 : Cond.instanceMethod yX8_arrangeNow ∈ k_TBL := List.mem_filter.mpr ⟨List.mem_of_getElem? (i := 2231) (by decide +kernel), rfl⟩
theorem w_2233 : Cond.methodLink "OptionBlockPlannerLaw" 321 yX8_writeTimetable ∈ k_TBL := List.mem_filter.mpr ⟨List.mem_of_getElem? (i := 2233) (by decide +kernel), rfl⟩
theorem w_2234 : Cond.instanceMethod yX8_writeTimetable ∈ k_TBL := List.mem_filter.mpr ⟨List.mem_of_getElem? (i := 2234) (by decide +kernel), rfl⟩
theorem w_2235 : Cond.selects "OptionBlockPlannerModel" yX8_writeTimetable yX8_writeTimetable ∈ k_TBL := List.mem_filter.mpr ⟨List.mem_of_getElem? (i := 2235) (by decide +kernel), rfl⟩
theorem w_2237 : Cond.methodLink "OptionBlockPlannerModel" 279 yX8_writes ∈ k_TBL := List.mem_filter.mpr ⟨List.mem_of_getElem? (i := 2237) (by decide +kernel), rfl⟩
theorem w_2239 : Cond.instanceMethod yX8_writes ∈ k_TBL := List.mem_filter.mpr ⟨List.mem_of_getElem? (i := 2239) (by decide +kernel), rfl⟩
theorem w_2241 : Cond.methodLink "OptionBlockPlannerLaw" 324 yX8_lineAt ∈ k_TBL := List.mem_filter.mpr ⟨List.mem_of_getElem? (i := 2241) (by decide +kernel), rfl⟩
theorem w_2242 : Cond.instanceMethod yX8_lineAt ∈ k_TBL := List.mem_filter.mpr ⟨List.mem_of_getElem? (i := 2242) (by decide +kernel), rfl⟩
theorem w_2243 : Cond.selects "OptionBlockPlannerModel" yX8_lineAt yX8_lineAt ∈ k_TBL := List.mem_filter.mpr ⟨List.mem_of_getElem? (i := 2243) (by decide +kernel), rfl⟩
theorem w_2245 : Cond.methodLink "OptionBlockPlannerLaw" 328 yX8_type ∈ k_TBL := List.mem_filter.mpr ⟨List.mem_of_getElem? (i := 2245) (by decide +kernel), rfl⟩
theorem w_2246 : Cond.instanceMethod yX8_type ∈ k_TBL := List.mem_filter.mpr ⟨List.mem_of_getElem? (i := 2246) (by decide +kernel), rfl⟩
theorem w_2247 : Cond.selects "OptionBlockPlannerModel" yX8_type yX8_type ∈ k_TBL := List.mem_filter.mpr ⟨List.mem_of_getElem? (i := 2247) (by decide +kernel), rfl⟩
theorem w_2249 : Cond.methodLink "OptionBlockPlannerLaw" 331 yX8_execute ∈ k_TBL := List.mem_filter.mpr ⟨List.mem_of_getElem? (i := 2249) (by decide +kernel), rfl⟩
theorem w_2250 : Cond.instanceMethod yX8_execute ∈ k_TBL := List.mem_filter.mpr ⟨List.mem_of_getElem? (i := 2250) (by decide +kernel), rfl⟩
theorem w_2251 : Cond.selects "OptionBlockPlannerModel" yX8_execute yX8_execute ∈ k_TBL := List.mem_filter.mpr ⟨List.mem_of_getElem? (i := 2251) (by decide +kernel), rfl⟩
theorem w_2253 : Cond.methodLink "OptionBlockPlannerModel" 309 yX8_parses ∈ k_TBL := List.mem_filter.mpr ⟨List.mem_of_getElem? (i := 2253) (by decide +kernel), rfl⟩
theorem w_2255 : Cond.instanceMethod yX8_parses ∈ k_TBL := List.mem_filter.mpr ⟨List.mem_of_getElem? (i := 2255) (by decide +kernel), rfl⟩
theorem w_2257 : Cond.methodLink "OptionBlockPlannerModel" 305 yX8_reads ∈ k_TBL := List.mem_filter.mpr ⟨List.mem_of_getElem? (i := 2257) (by decide +kernel), rfl⟩
theorem w_2259 : Cond.instanceMethod yX8_reads ∈ k_TBL := List.mem_filter.mpr ⟨List.mem_of_getElem? (i := 2259) (by decide +kernel), rfl⟩
theorem w_2261 : Cond.methodLink "OptionBlockPlannerModel" 289 yJ0_length_8abf5 ∈ k_TBL := List.mem_filter.mpr ⟨List.mem_of_getElem? (i := 2261) (by decide +kernel), rfl⟩
theorem w_2262 : Cond.methodLink "OptionBlockPlannerModel" 292 yJ0_charAt_5068e ∈ k_TBL := List.mem_filter.mpr ⟨List.mem_of_getElem? (i := 2262) (by decide +kernel), rfl⟩
theorem w_2263 : Cond.methodLink "OptionBlockPlannerModel" 296 yX8_isDigit ∈ k_TBL := List.mem_filter.mpr ⟨List.mem_of_getElem? (i := 2263) (by decide +kernel), rfl⟩
theorem w_2265 : Cond.instanceMethod yX8_isDigit ∈ k_TBL := List.mem_filter.mpr ⟨List.mem_of_getElem? (i := 2265) (by decide +kernel), rfl⟩
theorem w_2267 : Cond.methodLink "OptionBlockPlannerModel" 312 yX8_acts ∈ k_TBL := List.mem_filter.mpr ⟨List.mem_of_getElem? (i := 2267) (by decide +kernel), rfl⟩
theorem w_2269 : Cond.instanceMethod yX8_acts ∈ k_TBL := List.mem_filter.mpr ⟨List.mem_of_getElem? (i := 2269) (by decide +kernel), rfl⟩
theorem w_2271 : Cond.methodLink "OptionBlockPlannerLaw" 334 yX8_errorPosition ∈ k_TBL := List.mem_filter.mpr ⟨List.mem_of_getElem? (i := 2271) (by decide +kernel), rfl⟩
theorem w_2272 : Cond.instanceMethod yX8_errorPosition ∈ k_TBL := List.mem_filter.mpr ⟨List.mem_of_getElem? (i := 2272) (by decide +kernel), rfl⟩
theorem w_2273 : Cond.selects "OptionBlockPlannerModel" yX8_errorPosition yX8_errorPosition ∈ k_TBL := List.mem_filter.mpr ⟨List.mem_of_getElem? (i := 2273) (by decide +kernel), rfl⟩
theorem w_2275 : Cond.methodLink "OptionBlockPlannerLaw" 337 yX8_failedCommand ∈ k_TBL := List.mem_filter.mpr ⟨List.mem_of_getElem? (i := 2275) (by decide +kernel), rfl⟩
theorem w_2276 : Cond.instanceMethod yX8_failedCommand ∈ k_TBL := List.mem_filter.mpr ⟨List.mem_of_getElem? (i := 2276) (by decide +kernel), rfl⟩
theorem w_2277 : Cond.selects "OptionBlockPlannerModel" yX8_failedCommand yX8_failedCommand ∈ k_TBL := List.mem_filter.mpr ⟨List.mem_of_getElem? (i := 2277) (by decide +kernel), rfl⟩
theorem w_2279 : Cond.methodLink "OptionBlockPlannerLaw" 340 yX8_failureKind ∈ k_TBL := List.mem_filter.mpr ⟨List.mem_of_getElem? (i := 2279) (by decide +kernel), rfl⟩
theorem w_2280 : Cond.instanceMethod yX8_failureKind ∈ k_TBL := List.mem_filter.mpr ⟨List.mem_of_getElem? (i := 2280) (by decide +kernel), rfl⟩
theorem w_2281 : Cond.selects "OptionBlockPlannerModel" yX8_failureKind yX8_failureKind ∈ k_TBL := List.mem_filter.mpr ⟨List.mem_of_getElem? (i := 2281) (by decide +kernel), rfl⟩
theorem w_2283 : Cond.arrayClass .long ∈ k_TBL := List.mem_filter.mpr ⟨List.mem_of_getElem? (i := 2283) (by decide +kernel), rfl⟩
theorem w_2284 : Cond.arrayClass .double ∈ k_TBL := List.mem_filter.mpr ⟨List.mem_of_getElem? (i := 2284) (by decide +kernel), rfl⟩
theorem w_2296 : Cond.selects "java/lang/StringBuilder" yJ4_length_8abf5 yJ4_length_8abf5 ∈ k_TBL := List.mem_filter.mpr ⟨List.mem_of_getElem? (i := 2296) (by decide +kernel), rfl⟩
theorem w_2298 : Cond.castable "java/lang/ArrayIndexOutOfBoundsException" "java/lang/IndexOutOfBoundsException" ∈ k_NW := List.mem_filter.mpr ⟨List.mem_of_getElem? (i := 2298) (by decide +kernel), rfl⟩
theorem w_2299 : Cond.castable "java/lang/StringIndexOutOfBoundsException" "java/lang/IndexOutOfBoundsException" ∈ k_NW := List.mem_filter.mpr ⟨List.mem_of_getElem? (i := 2299) (by decide +kernel), rfl⟩
theorem w_2300 : Cond.castable "OptionBlockPlanner" "java/lang/Object" ∈ k_NW := List.mem_filter.mpr ⟨List.mem_of_getElem? (i := 2300) (by decide +kernel), rfl⟩
theorem w_2301 : Cond.castable "OptionBlockPlanner$Plan" "java/lang/Object" ∈ k_NW := List.mem_filter.mpr ⟨List.mem_of_getElem? (i := 2301) (by decide +kernel), rfl⟩
theorem w_2302 : Cond.castable "OptionBlockPlanner$Placements" "java/lang/Object" ∈ k_NW := List.mem_filter.mpr ⟨List.mem_of_getElem? (i := 2302) (by decide +kernel), rfl⟩
theorem w_2303 : Cond.castable "OptionBlockPlanner$Chains" "java/lang/Object" ∈ k_NW := List.mem_filter.mpr ⟨List.mem_of_getElem? (i := 2303) (by decide +kernel), rfl⟩
theorem w_2304 : Cond.castable "OptionBlockPlanner$Arrangements" "java/lang/Object" ∈ k_NW := List.mem_filter.mpr ⟨List.mem_of_getElem? (i := 2304) (by decide +kernel), rfl⟩
theorem w_2305 : Cond.castable "OptionBlockPlanner$Changes" "java/lang/Object" ∈ k_NW := List.mem_filter.mpr ⟨List.mem_of_getElem? (i := 2305) (by decide +kernel), rfl⟩
theorem w_2306 : Cond.castable "OptionBlockPlanner$History" "java/lang/Object" ∈ k_NW := List.mem_filter.mpr ⟨List.mem_of_getElem? (i := 2306) (by decide +kernel), rfl⟩
theorem w_2307 : Cond.castable "OptionBlockPlanner$Program" "java/lang/Object" ∈ k_NW := List.mem_filter.mpr ⟨List.mem_of_getElem? (i := 2307) (by decide +kernel), rfl⟩
theorem w_2308 : Cond.castable "java/lang/StringBuilder" "java/lang/Object" ∈ k_NW := List.mem_filter.mpr ⟨List.mem_of_getElem? (i := 2308) (by decide +kernel), rfl⟩
theorem w_2309 : Cond.castable "OptionBlockPlannerModel" "java/lang/Object" ∈ k_NW := List.mem_filter.mpr ⟨List.mem_of_getElem? (i := 2309) (by decide +kernel), rfl⟩
theorem w_2310 : Cond.castable "java/lang/IndexOutOfBoundsException" "java/lang/Object" ∈ k_NW := List.mem_filter.mpr ⟨List.mem_of_getElem? (i := 2310) (by decide +kernel), rfl⟩
theorem w_2311 : Cond.castable "java/lang/IllegalArgumentException" "java/lang/Object" ∈ k_NW := List.mem_filter.mpr ⟨List.mem_of_getElem? (i := 2311) (by decide +kernel), rfl⟩
theorem w_2312 : Cond.castable "java/lang/IllegalStateException" "java/lang/Object" ∈ k_NW := List.mem_filter.mpr ⟨List.mem_of_getElem? (i := 2312) (by decide +kernel), rfl⟩
theorem w_2313 : Cond.castable "java/lang/UnsupportedOperationException" "java/lang/Object" ∈ k_NW := List.mem_filter.mpr ⟨List.mem_of_getElem? (i := 2313) (by decide +kernel), rfl⟩
theorem w_2314 : Cond.castable "java/lang/ArrayIndexOutOfBoundsException" "java/lang/Object" ∈ k_NW := List.mem_filter.mpr ⟨List.mem_of_getElem? (i := 2314) (by decide +kernel), rfl⟩
theorem w_2315 : Cond.castable "java/util/NoSuchElementException" "java/lang/Object" ∈ k_NW := List.mem_filter.mpr ⟨List.mem_of_getElem? (i := 2315) (by decide +kernel), rfl⟩
theorem w_2316 : Cond.castable "java/lang/ArithmeticException" "java/lang/Object" ∈ k_NW := List.mem_filter.mpr ⟨List.mem_of_getElem? (i := 2316) (by decide +kernel), rfl⟩
theorem w_2317 : Cond.castable "java/lang/StringIndexOutOfBoundsException" "java/lang/Object" ∈ k_NW := List.mem_filter.mpr ⟨List.mem_of_getElem? (i := 2317) (by decide +kernel), rfl⟩
theorem w_2318 : Cond.castable "java/lang/String" "java/lang/Object" ∈ k_NW := List.mem_filter.mpr ⟨List.mem_of_getElem? (i := 2318) (by decide +kernel), rfl⟩
theorem w_2319 : Cond.castable "java/lang/Throwable" "java/lang/Object" ∈ k_NW := List.mem_filter.mpr ⟨List.mem_of_getElem? (i := 2319) (by decide +kernel), rfl⟩
abbrev mX0_init : k_M := (yX0_init, cX0_init, 2, none, [])
theorem oX0_init : k_MOk mX0_init 1 := ⟨List.mem_filter.mpr ⟨List.mem_of_getElem? (i := 235) (by decide +kernel), rfl⟩, w_89, by decide, by decide +kernel, by decide +kernel⟩
abbrev mX0_findBest : k_M := (yX0_findBest, cX0_findBest, 1, (some .int), [])
theorem oX0_findBest : k_MOk mX0_findBest 0 := ⟨List.mem_filter.mpr ⟨List.mem_of_getElem? (i := 565) (by decide +kernel), rfl⟩, w_89, by decide, by decide +kernel, by decide +kernel⟩
abbrev mX0_fewestByTrial : k_M := (yX0_fewestByTrial, cX0_fewestByTrial, 1, (some .int), [])
theorem oX0_fewestByTrial : k_MOk mX0_fewestByTrial 0 := ⟨List.mem_filter.mpr ⟨List.mem_of_getElem? (i := 594) (by decide +kernel), rfl⟩, w_89, by decide, by decide +kernel, by decide +kernel⟩
abbrev mX0_carryOut : k_M := (yX0_carryOut, cX0_carryOut, 3, (some .int), [])
theorem oX0_carryOut : k_MOk mX0_carryOut 0 := ⟨List.mem_filter.mpr ⟨List.mem_of_getElem? (i := 891) (by decide +kernel), rfl⟩, w_89, by decide, by decide +kernel, by decide +kernel⟩
abbrev mX0_collectCommon : k_M := (yX0_collectCommon, cX0_collectCommon, 2, none, [])
theorem oX0_collectCommon : k_MOk mX0_collectCommon 0 := ⟨List.mem_filter.mpr ⟨List.mem_of_getElem? (i := 569) (by decide +kernel), rfl⟩, w_89, by decide, by decide +kernel, by decide +kernel⟩
abbrev mX0_countPairs : k_M := (yX0_countPairs, cX0_countPairs, 5, none, [])
theorem oX0_countPairs : k_MOk mX0_countPairs 1 := ⟨List.mem_filter.mpr ⟨List.mem_of_getElem? (i := 575) (by decide +kernel), rfl⟩, w_89, by decide, by decide +kernel, by decide +kernel⟩
abbrev mX0_settle : k_M := (yX0_settle, cX0_settle, 4, none, [])
theorem oX0_settle : k_MOk mX0_settle 3 := ⟨List.mem_filter.mpr ⟨List.mem_of_getElem? (i := 581) (by decide +kernel), rfl⟩, w_89, by decide, by decide +kernel, by decide +kernel⟩
abbrev mX0_tryAll : k_M := (yX0_tryAll, cX0_tryAll, 6, (some .int), [])
theorem oX0_tryAll : k_MOk mX0_tryAll 3 := ⟨List.mem_filter.mpr ⟨List.mem_of_getElem? (i := 597) (by decide +kernel), rfl⟩, w_89, by decide, by decide +kernel, by decide +kernel⟩
abbrev mX0_weigh : k_M := (yX0_weigh, cX0_weigh, 5, none, [])
theorem oX0_weigh : k_MOk mX0_weigh 1 := ⟨List.mem_filter.mpr ⟨List.mem_of_getElem? (i := 586) (by decide +kernel), rfl⟩, w_89, by decide, by decide +kernel, by decide +kernel⟩
abbrev mX1_init : k_M := (yX1_init, cX1_init, 2, none, [])
theorem oX1_init : k_MOk mX1_init 1 := ⟨List.mem_filter.mpr ⟨List.mem_of_getElem? (i := 216) (by decide +kernel), rfl⟩, w_88, by decide, by decide +kernel, by decide +kernel⟩
abbrev mX1_fewestMoves : k_M := (yX1_fewestMoves, cX1_fewestMoves, 5, (some .int), [])
theorem oX1_fewestMoves : k_MOk mX1_fewestMoves 2 := ⟨List.mem_filter.mpr ⟨List.mem_of_getElem? (i := 668) (by decide +kernel), rfl⟩, w_88, by decide, by decide +kernel, by decide +kernel⟩
abbrev mX1_fewestMovesByTrial : k_M := (yX1_fewestMovesByTrial, cX1_fewestMovesByTrial, 6, (some .int), [])
theorem oX1_fewestMovesByTrial : k_MOk mX1_fewestMovesByTrial 2 := ⟨List.mem_filter.mpr ⟨List.mem_of_getElem? (i := 1214) (by decide +kernel), rfl⟩, w_88, by decide, by decide +kernel, by decide +kernel⟩
abbrev mX1_reasonAgainst : k_M := (yX1_reasonAgainst, cX1_reasonAgainst, 4, (some .int), [])
theorem oX1_reasonAgainst : k_MOk mX1_reasonAgainst 2 := ⟨List.mem_filter.mpr ⟨List.mem_of_getElem? (i := 694) (by decide +kernel), rfl⟩, w_88, by decide, by decide +kernel, by decide +kernel⟩
abbrev mX1_carryOut : k_M := (yX1_carryOut, cX1_carryOut, 9, (some .int), [])
theorem oX1_carryOut : k_MOk mX1_carryOut 2 := ⟨List.mem_filter.mpr ⟨List.mem_of_getElem? (i := 863) (by decide +kernel), rfl⟩, w_88, by decide, by decide +kernel, by decide +kernel⟩
abbrev mX1_measure : k_M := (yX1_measure, cX1_measure, 3, none, [])
theorem oX1_measure : k_MOk mX1_measure 1 := ⟨List.mem_filter.mpr ⟨List.mem_of_getElem? (i := 677) (by decide +kernel), rfl⟩, w_88, by decide, by decide +kernel, by decide +kernel⟩
abbrev mX1_nextBlock : k_M := (yX1_nextBlock, cX1_nextBlock, 5, (some .int), [])
theorem oX1_nextBlock : k_MOk mX1_nextBlock 2 := ⟨List.mem_filter.mpr ⟨List.mem_of_getElem? (i := 682) (by decide +kernel), rfl⟩, w_88, by decide, by decide +kernel, by decide +kernel⟩
abbrev mX1_nearest : k_M := (yX1_nearest, cX1_nearest, 6, (some .int), [])
theorem oX1_nearest : k_MOk mX1_nearest 1 := ⟨List.mem_filter.mpr ⟨List.mem_of_getElem? (i := 686) (by decide +kernel), rfl⟩, w_88, by decide, by decide +kernel, by decide +kernel⟩
abbrev mX1_leadsToRoom : k_M := (yX1_leadsToRoom, cX1_leadsToRoom, 8, (some .boolean), [])
theorem oX1_leadsToRoom : k_MOk mX1_leadsToRoom 5 := ⟨List.mem_filter.mpr ⟨List.mem_of_getElem? (i := 1217) (by decide +kernel), rfl⟩, w_88, by decide, by decide +kernel, by decide +kernel⟩
abbrev mX2_init : k_M := (yX2_init, cX2_init, 5, none, [])
theorem oX2_init : k_MOk mX2_init 4 := ⟨List.mem_filter.mpr ⟨List.mem_of_getElem? (i := 260) (by decide +kernel), rfl⟩, w_90, by decide, by decide +kernel, by decide +kernel⟩
abbrev mX2_faultOf : k_M := (yX2_faultOf, cX2_faultOf, 5, (some .int), [])
theorem oX2_faultOf : k_MOk mX2_faultOf 4 := ⟨List.mem_filter.mpr ⟨List.mem_of_getElem? (i := 620) (by decide +kernel), rfl⟩, w_90, by decide, by decide +kernel, by decide +kernel⟩
abbrev mX2_perform : k_M := (yX2_perform, cX2_perform, 5, (some .int), [])
theorem oX2_perform : k_MOk mX2_perform 4 := ⟨List.mem_filter.mpr ⟨List.mem_of_getElem? (i := 834) (by decide +kernel), rfl⟩, w_90, by decide, by decide +kernel, by decide +kernel⟩
abbrev mX2_faultOfJoiner : k_M := (yX2_faultOfJoiner, cX2_faultOfJoiner, 3, (some .int), [])
theorem oX2_faultOfJoiner : k_MOk mX2_faultOfJoiner 2 := ⟨List.mem_filter.mpr ⟨List.mem_of_getElem? (i := 659) (by decide +kernel), rfl⟩, w_90, by decide, by decide +kernel, by decide +kernel⟩
abbrev mX2_faultOfNewSubject : k_M := (yX2_faultOfNewSubject, cX2_faultOfNewSubject, 2, (some .int), [])
theorem oX2_faultOfNewSubject : k_MOk mX2_faultOfNewSubject 1 := ⟨List.mem_filter.mpr ⟨List.mem_of_getElem? (i := 624) (by decide +kernel), rfl⟩, w_90, by decide, by decide +kernel, by decide +kernel⟩
abbrev mX2_faultOfResizing : k_M := (yX2_faultOfResizing, cX2_faultOfResizing, 3, (some .int), [])
theorem oX2_faultOfResizing : k_MOk mX2_faultOfResizing 2 := ⟨List.mem_filter.mpr ⟨List.mem_of_getElem? (i := 925) (by decide +kernel), rfl⟩, w_90, by decide, by decide +kernel, by decide +kernel⟩
abbrev mX2_faultOfBlocks : k_M := (yX2_faultOfBlocks, cX2_faultOfBlocks, 3, (some .int), [])
theorem oX2_faultOfBlocks : k_MOk mX2_faultOfBlocks 1 := ⟨List.mem_filter.mpr ⟨List.mem_of_getElem? (i := 628) (by decide +kernel), rfl⟩, w_90, by decide, by decide +kernel, by decide +kernel⟩
abbrev mX2_faultOfOpening : k_M := (yX2_faultOfOpening, cX2_faultOfOpening, 3, (some .int), [])
theorem oX2_faultOfOpening : k_MOk mX2_faultOfOpening 2 := ⟨List.mem_filter.mpr ⟨List.mem_of_getElem? (i := 633) (by decide +kernel), rfl⟩, w_90, by decide, by decide +kernel, by decide +kernel⟩
abbrev mX2_faultOfClosing : k_M := (yX2_faultOfClosing, cX2_faultOfClosing, 4, (some .int), [])
theorem oX2_faultOfClosing : k_MOk mX2_faultOfClosing 2 := ⟨List.mem_filter.mpr ⟨List.mem_of_getElem? (i := 639) (by decide +kernel), rfl⟩, w_90, by decide, by decide +kernel, by decide +kernel⟩
abbrev mX2_faultOfWish : k_M := (yX2_faultOfWish, cX2_faultOfWish, 4, (some .int), [])
theorem oX2_faultOfWish : k_MOk mX2_faultOfWish 2 := ⟨List.mem_filter.mpr ⟨List.mem_of_getElem? (i := 644) (by decide +kernel), rfl⟩, w_90, by decide, by decide +kernel, by decide +kernel⟩
abbrev mX2_faultOfReserve : k_M := (yX2_faultOfReserve, cX2_faultOfReserve, 3, (some .int), [])
theorem oX2_faultOfReserve : k_MOk mX2_faultOfReserve 2 := ⟨List.mem_filter.mpr ⟨List.mem_of_getElem? (i := 648) (by decide +kernel), rfl⟩, w_90, by decide, by decide +kernel, by decide +kernel⟩
abbrev mX2_faultOfEnrolling : k_M := (yX2_faultOfEnrolling, cX2_faultOfEnrolling, 2, (some .int), [])
theorem oX2_faultOfEnrolling : k_MOk mX2_faultOfEnrolling 1 := ⟨List.mem_filter.mpr ⟨List.mem_of_getElem? (i := 442) (by decide +kernel), rfl⟩, w_90, by decide, by decide +kernel, by decide +kernel⟩
abbrev mX2_faultOfWithdrawing : k_M := (yX2_faultOfWithdrawing, cX2_faultOfWithdrawing, 2, (some .int), [])
theorem oX2_faultOfWithdrawing : k_MOk mX2_faultOfWithdrawing 1 := ⟨List.mem_filter.mpr ⟨List.mem_of_getElem? (i := 1097) (by decide +kernel), rfl⟩, w_90, by decide, by decide +kernel, by decide +kernel⟩
abbrev mX2_faultOfJoining : k_M := (yX2_faultOfJoining, cX2_faultOfJoining, 5, (some .int), [])
theorem oX2_faultOfJoining : k_MOk mX2_faultOfJoining 2 := ⟨List.mem_filter.mpr ⟨List.mem_of_getElem? (i := 655) (by decide +kernel), rfl⟩, w_90, by decide, by decide +kernel, by decide +kernel⟩
abbrev mX2_faultOfQuitting : k_M := (yX2_faultOfQuitting, cX2_faultOfQuitting, 3, (some .int), [])
theorem oX2_faultOfQuitting : k_MOk mX2_faultOfQuitting 2 := ⟨List.mem_filter.mpr ⟨List.mem_of_getElem? (i := 699) (by decide +kernel), rfl⟩, w_90, by decide, by decide +kernel, by decide +kernel⟩
abbrev mX2_faultOfChanging : k_M := (yX2_faultOfChanging, cX2_faultOfChanging, 6, (some .int), [])
theorem oX2_faultOfChanging : k_MOk mX2_faultOfChanging 3 := ⟨List.mem_filter.mpr ⟨List.mem_of_getElem? (i := 703) (by decide +kernel), rfl⟩, w_90, by decide, by decide +kernel, by decide +kernel⟩
abbrev mX2_refusal : k_M := (yX2_refusal, cX2_refusal, 3, (some .int), [])
theorem oX2_refusal : k_MOk mX2_refusal 2 := ⟨List.mem_filter.mpr ⟨List.mem_of_getElem? (i := 690) (by decide +kernel), rfl⟩, w_90, by decide, by decide +kernel, by decide +kernel⟩
abbrev mX3_init : k_M := (yX3_init, cX3_init, 2, none, [])
theorem oX3_init : k_MOk mX3_init 0 := ⟨List.mem_filter.mpr ⟨List.mem_of_getElem? (i := 283) (by decide +kernel), rfl⟩, w_91, by decide, by decide +kernel, by decide +kernel⟩
abbrev mX3_keep : k_M := (yX3_keep, cX3_keep, 3, none, [])
theorem oX3_keep : k_MOk mX3_keep 1 := ⟨List.mem_filter.mpr ⟨List.mem_of_getElem? (i := 420) (by decide +kernel), rfl⟩, w_91, by decide, by decide +kernel, by decide +kernel⟩
abbrev mX3_bringBack : k_M := (yX3_bringBack, cX3_bringBack, 4, none, [])
theorem oX3_bringBack : k_MOk mX3_bringBack 1 := ⟨List.mem_filter.mpr ⟨List.mem_of_getElem? (i := 1715) (by decide +kernel), rfl⟩, w_91, by decide, by decide +kernel, by decide +kernel⟩
abbrev mX3_forget : k_M := (yX3_forget, cX3_forget, 1, none, [])
theorem oX3_forget : k_MOk mX3_forget 0 := ⟨List.mem_filter.mpr ⟨List.mem_of_getElem? (i := 1727) (by decide +kernel), rfl⟩, w_91, by decide, by decide +kernel, by decide +kernel⟩
abbrev mX3_planIn : k_M := (yX3_planIn, cX3_planIn, 2, (some (.object "OptionBlockPlanner$Plan")), [])
theorem oX3_planIn : k_MOk mX3_planIn 1 := ⟨List.mem_filter.mpr ⟨List.mem_of_getElem? (i := 424) (by decide +kernel), rfl⟩, w_91, by decide, by decide +kernel, by decide +kernel⟩
abbrev mX4_init : k_M := (yX4_init, cX4_init, 2, none, [])
theorem oX4_init : k_MOk mX4_init 1 := ⟨List.mem_filter.mpr ⟨List.mem_of_getElem? (i := 191) (by decide +kernel), rfl⟩, w_87, by decide, by decide +kernel, by decide +kernel⟩
abbrev mX4_valueBySearch : k_M := (yX4_valueBySearch, cX4_valueBySearch, 2, (some .int), [])
theorem oX4_valueBySearch : k_MOk mX4_valueBySearch 1 := ⟨List.mem_filter.mpr ⟨List.mem_of_getElem? (i := 1114) (by decide +kernel), rfl⟩, w_87, by decide, by decide +kernel, by decide +kernel⟩
abbrev mX4_giveBest : k_M := (yX4_giveBest, cX4_giveBest, 5, (some .int), [])
theorem oX4_giveBest : k_MOk mX4_giveBest 1 := ⟨List.mem_filter.mpr ⟨List.mem_of_getElem? (i := 469) (by decide +kernel), rfl⟩, w_87, by decide, by decide +kernel, by decide +kernel⟩
abbrev mX4_valueBySets : k_M := (yX4_valueBySets, cX4_valueBySets, 3, (some .int), [])
theorem oX4_valueBySets : k_MOk mX4_valueBySets 1 := ⟨List.mem_filter.mpr ⟨List.mem_of_getElem? (i := 1125) (by decide +kernel), rfl⟩, w_87, by decide, by decide +kernel, by decide +kernel⟩
abbrev mX4_servesBySearch : k_M := (yX4_servesBySearch, cX4_servesBySearch, 2, (some .boolean), [])
theorem oX4_servesBySearch : k_MOk mX4_servesBySearch 1 := ⟨List.mem_filter.mpr ⟨List.mem_of_getElem? (i := 1143) (by decide +kernel), rfl⟩, w_87, by decide, by decide +kernel, by decide +kernel⟩
abbrev mX4_servesByCounting : k_M := (yX4_servesByCounting, cX4_servesByCounting, 6, (some .boolean), [])
theorem oX4_servesByCounting : k_MOk mX4_servesByCounting 1 := ⟨List.mem_filter.mpr ⟨List.mem_of_getElem? (i := 1162) (by decide +kernel), rfl⟩, w_87, by decide, by decide +kernel, by decide +kernel⟩
abbrev mX4_collectRoomy : k_M := (yX4_collectRoomy, cX4_collectRoomy, 5, none, [])
theorem oX4_collectRoomy : k_MOk mX4_collectRoomy 1 := ⟨List.mem_filter.mpr ⟨List.mem_of_getElem? (i := 473) (by decide +kernel), rfl⟩, w_87, by decide, by decide +kernel, by decide +kernel⟩
abbrev mX4_collectOpen : k_M := (yX4_collectOpen, cX4_collectOpen, 4, none, [])
theorem oX4_collectOpen : k_MOk mX4_collectOpen 1 := ⟨List.mem_filter.mpr ⟨List.mem_of_getElem? (i := 1147) (by decide +kernel), rfl⟩, w_87, by decide, by decide +kernel, by decide +kernel⟩
abbrev mX4_findBest : k_M := (yX4_findBest, cX4_findBest, 1, (some .int), [])
theorem oX4_findBest : k_MOk mX4_findBest 0 := ⟨List.mem_filter.mpr ⟨List.mem_of_getElem? (i := 506) (by decide +kernel), rfl⟩, w_87, by decide, by decide +kernel, by decide +kernel⟩
abbrev mX4_scoreOf : k_M := (yX4_scoreOf, cX4_scoreOf, 1, (some .int), [])
theorem oX4_scoreOf : k_MOk mX4_scoreOf 1 := ⟨List.mem_filter.mpr ⟨List.mem_of_getElem? (i := 502) (by decide +kernel), rfl⟩, w_87, by decide, by decide +kernel, by decide +kernel⟩
abbrev mX4_extend : k_M := (yX4_extend, cX4_extend, 7, none, [])
theorem oX4_extend : k_MOk mX4_extend 4 := ⟨List.mem_filter.mpr ⟨List.mem_of_getElem? (i := 509) (by decide +kernel), rfl⟩, w_87, by decide, by decide +kernel, by decide +kernel⟩
abbrev mX4_keepIfBetter : k_M := (yX4_keepIfBetter, cX4_keepIfBetter, 2, none, [])
theorem oX4_keepIfBetter : k_MOk mX4_keepIfBetter 1 := ⟨List.mem_filter.mpr ⟨List.mem_of_getElem? (i := 513) (by decide +kernel), rfl⟩, w_87, by decide, by decide +kernel, by decide +kernel⟩
abbrev mX4_setsUsedFor : k_M := (yX4_setsUsedFor, cX4_setsUsedFor, 4, (some .int), [])
theorem oX4_setsUsedFor : k_MOk mX4_setsUsedFor 1 := ⟨List.mem_filter.mpr ⟨List.mem_of_getElem? (i := 1129) (by decide +kernel), rfl⟩, w_87, by decide, by decide +kernel, by decide +kernel⟩
abbrev mX4_setsWithOneOf : k_M := (yX4_setsWithOneOf, cX4_setsWithOneOf, 5, (some .int), [])
theorem oX4_setsWithOneOf : k_MOk mX4_setsWithOneOf 2 := ⟨List.mem_filter.mpr ⟨List.mem_of_getElem? (i := 1132) (by decide +kernel), rfl⟩, w_87, by decide, by decide +kernel, by decide +kernel⟩
abbrev mX4_serve : k_M := (yX4_serve, cX4_serve, 5, (some .boolean), [])
theorem oX4_serve : k_MOk mX4_serve 4 := ⟨List.mem_filter.mpr ⟨List.mem_of_getElem? (i := 1151) (by decide +kernel), rfl⟩, w_87, by decide, by decide +kernel, by decide +kernel⟩
abbrev mX5_init : k_M := (yX5_init, cX5_init, 1, none, [])
theorem oX5_init : k_MOk mX5_init 0 := ⟨List.mem_filter.mpr ⟨List.mem_of_getElem? (i := 129) (by decide +kernel), rfl⟩, w_86, by decide, by decide +kernel, by decide +kernel⟩
abbrev mX5_copyFrom : k_M := (yX5_copyFrom, cX5_copyFrom, 2, none, [])
theorem oX5_copyFrom : k_MOk mX5_copyFrom 1 := ⟨List.mem_filter.mpr ⟨List.mem_of_getElem? (i := 428) (by decide +kernel), rfl⟩, w_86, by decide, by decide +kernel, by decide +kernel⟩
abbrev mX5_hasSubject : k_M := (yX5_hasSubject, cX5_hasSubject, 2, (some .boolean), [])
theorem oX5_hasSubject : k_MOk mX5_hasSubject 1 := ⟨List.mem_filter.mpr ⟨List.mem_of_getElem? (i := 490) (by decide +kernel), rfl⟩, w_86, by decide, by decide +kernel, by decide +kernel⟩
abbrev mX5_hasBlock : k_M := (yX5_hasBlock, cX5_hasBlock, 2, (some .boolean), [])
theorem oX5_hasBlock : k_MOk mX5_hasBlock 1 := ⟨List.mem_filter.mpr ⟨List.mem_of_getElem? (i := 527) (by decide +kernel), rfl⟩, w_86, by decide, by decide +kernel, by decide +kernel⟩
abbrev mX5_hasClass : k_M := (yX5_hasClass, cX5_hasClass, 3, (some .boolean), [])
theorem oX5_hasClass : k_MOk mX5_hasClass 2 := ⟨List.mem_filter.mpr ⟨List.mem_of_getElem? (i := 523) (by decide +kernel), rfl⟩, w_86, by decide, by decide +kernel, by decide +kernel⟩
abbrev mX5_openBlocks : k_M := (yX5_openBlocks, cX5_openBlocks, 2, (some .int), [])
theorem oX5_openBlocks : k_MOk mX5_openBlocks 1 := ⟨List.mem_filter.mpr ⟨List.mem_of_getElem? (i := 486) (by decide +kernel), rfl⟩, w_86, by decide, by decide +kernel, by decide +kernel⟩
abbrev mX5_openClasses : k_M := (yX5_openClasses, cX5_openClasses, 3, (some .int), [])
theorem oX5_openClasses : k_MOk mX5_openClasses 0 := ⟨List.mem_filter.mpr ⟨List.mem_of_getElem? (i := 1189) (by decide +kernel), rfl⟩, w_86, by decide, by decide +kernel, by decide +kernel⟩
abbrev mX5_roster : k_M := (yX5_roster, cX5_roster, 4, (some .int), [])
theorem oX5_roster : k_MOk mX5_roster 2 := ⟨List.mem_filter.mpr ⟨List.mem_of_getElem? (i := 458) (by decide +kernel), rfl⟩, w_86, by decide, by decide +kernel, by decide +kernel⟩
abbrev mX5_largestClass : k_M := (yX5_largestClass, cX5_largestClass, 4, (some .int), [])
theorem oX5_largestClass : k_MOk mX5_largestClass 1 := ⟨List.mem_filter.mpr ⟨List.mem_of_getElem? (i := 929) (by decide +kernel), rfl⟩, w_86, by decide, by decide +kernel, by decide +kernel⟩
abbrev mX5_roomyBlocks : k_M := (yX5_roomyBlocks, cX5_roomyBlocks, 7, (some .int), [])
theorem oX5_roomyBlocks : k_MOk mX5_roomyBlocks 2 := ⟨List.mem_filter.mpr ⟨List.mem_of_getElem? (i := 482) (by decide +kernel), rfl⟩, w_86, by decide, by decide +kernel, by decide +kernel⟩
abbrev mX5_clash : k_M := (yX5_clash, cX5_clash, 5, (some .boolean), [])
theorem oX5_clash : k_MOk mX5_clash 2 := ⟨List.mem_filter.mpr ⟨List.mem_of_getElem? (i := 549) (by decide +kernel), rfl⟩, w_86, by decide, by decide +kernel, by decide +kernel⟩
abbrev mX5_newSubject : k_M := (yX5_newSubject, cX5_newSubject, 2, (some .int), [])
theorem oX5_newSubject : k_MOk mX5_newSubject 1 := ⟨List.mem_filter.mpr ⟨List.mem_of_getElem? (i := 838) (by decide +kernel), rfl⟩, w_86, by decide, by decide +kernel, by decide +kernel⟩
abbrev mX5_resize : k_M := (yX5_resize, cX5_resize, 4, (some .int), [])
theorem oX5_resize : k_MOk mX5_resize 2 := ⟨List.mem_filter.mpr ⟨List.mem_of_getElem? (i := 936) (by decide +kernel), rfl⟩, w_86, by decide, by decide +kernel, by decide +kernel⟩
abbrev mX5_setBlocks : k_M := (yX5_setBlocks, cX5_setBlocks, 3, (some .int), [])
theorem oX5_setBlocks : k_MOk mX5_setBlocks 1 := ⟨List.mem_filter.mpr ⟨List.mem_of_getElem? (i := 842) (by decide +kernel), rfl⟩, w_86, by decide, by decide +kernel, by decide +kernel⟩
abbrev mX5_setOpenBlocks : k_M := (yX5_setOpenBlocks, cX5_setOpenBlocks, 3, (some .int), [])
theorem oX5_setOpenBlocks : k_MOk mX5_setOpenBlocks 2 := ⟨List.mem_filter.mpr ⟨List.mem_of_getElem? (i := 846) (by decide +kernel), rfl⟩, w_86, by decide, by decide +kernel, by decide +kernel⟩
abbrev mX5_hasPupil : k_M := (yX5_hasPupil, cX5_hasPupil, 2, (some .boolean), [])
theorem oX5_hasPupil : k_MOk mX5_hasPupil 1 := ⟨List.mem_filter.mpr ⟨List.mem_of_getElem? (i := 446) (by decide +kernel), rfl⟩, w_86, by decide, by decide +kernel, by decide +kernel⟩
abbrev mX5_wish : k_M := (yX5_wish, cX5_wish, 3, (some .int), [])
theorem oX5_wish : k_MOk mX5_wish 2 := ⟨List.mem_filter.mpr ⟨List.mem_of_getElem? (i := 478) (by decide +kernel), rfl⟩, w_86, by decide, by decide +kernel, by decide +kernel⟩
abbrev mX5_wishSet : k_M := (yX5_wishSet, cX5_wishSet, 5, (some .int), [])
theorem oX5_wishSet : k_MOk mX5_wishSet 1 := ⟨List.mem_filter.mpr ⟨List.mem_of_getElem? (i := 557) (by decide +kernel), rfl⟩, w_86, by decide, by decide +kernel, by decide +kernel⟩
abbrev mX5_wishersOfBoth : k_M := (yX5_wishersOfBoth, cX5_wishersOfBoth, 6, (some .int), [])
theorem oX5_wishersOfBoth : k_MOk mX5_wishersOfBoth 2 := ⟨List.mem_filter.mpr ⟨List.mem_of_getElem? (i := 553) (by decide +kernel), rfl⟩, w_86, by decide, by decide +kernel, by decide +kernel⟩
abbrev mX5_newPupil : k_M := (yX5_newPupil, cX5_newPupil, 1, (some .int), [])
theorem oX5_newPupil : k_MOk mX5_newPupil 0 := ⟨List.mem_filter.mpr ⟨List.mem_of_getElem? (i := 850) (by decide +kernel), rfl⟩, w_86, by decide, by decide +kernel, by decide +kernel⟩
abbrev mX5_newWish : k_M := (yX5_newWish, cX5_newWish, 4, (some .int), [])
theorem oX5_newWish : k_MOk mX5_newWish 2 := ⟨List.mem_filter.mpr ⟨List.mem_of_getElem? (i := 854) (by decide +kernel), rfl⟩, w_86, by decide, by decide +kernel, by decide +kernel⟩
abbrev mX5_newReserve : k_M := (yX5_newReserve, cX5_newReserve, 4, (some .int), [])
theorem oX5_newReserve : k_MOk mX5_newReserve 2 := ⟨List.mem_filter.mpr ⟨List.mem_of_getElem? (i := 858) (by decide +kernel), rfl⟩, w_86, by decide, by decide +kernel, by decide +kernel⟩
abbrev mX5_enter : k_M := (yX5_enter, cX5_enter, 4, none, [])
theorem oX5_enter : k_MOk mX5_enter 3 := ⟨List.mem_filter.mpr ⟨List.mem_of_getElem? (i := 519) (by decide +kernel), rfl⟩, w_86, by decide, by decide +kernel, by decide +kernel⟩
abbrev mX5_leave : k_M := (yX5_leave, cX5_leave, 4, none, [])
theorem oX5_leave : k_MOk mX5_leave 3 := ⟨List.mem_filter.mpr ⟨List.mem_of_getElem? (i := 881) (by decide +kernel), rfl⟩, w_86, by decide, by decide +kernel, by decide +kernel⟩
abbrev mX5_lesson : k_M := (yX5_lesson, cX5_lesson, 4, (some .int), [])
theorem oX5_lesson : k_MOk mX5_lesson 2 := ⟨List.mem_filter.mpr ⟨List.mem_of_getElem? (i := 1071) (by decide +kernel), rfl⟩, w_86, by decide, by decide +kernel, by decide +kernel⟩
abbrev mX5_blockTaken : k_M := (yX5_blockTaken, cX5_blockTaken, 4, (some .int), [])
theorem oX5_blockTaken : k_MOk mX5_blockTaken 2 := ⟨List.mem_filter.mpr ⟨List.mem_of_getElem? (i := 537) (by decide +kernel), rfl⟩, w_86, by decide, by decide +kernel, by decide +kernel⟩
abbrev mX5_busyPupils : k_M := (yX5_busyPupils, cX5_busyPupils, 4, (some .int), [])
theorem oX5_busyPupils : k_MOk mX5_busyPupils 1 := ⟨List.mem_filter.mpr ⟨List.mem_of_getElem? (i := 454) (by decide +kernel), rfl⟩, w_86, by decide, by decide +kernel, by decide +kernel⟩
abbrev mX5_freeBlocks : k_M := (yX5_freeBlocks, cX5_freeBlocks, 4, (some .int), [])
theorem oX5_freeBlocks : k_MOk mX5_freeBlocks 1 := ⟨List.mem_filter.mpr ⟨List.mem_of_getElem? (i := 664) (by decide +kernel), rfl⟩, w_86, by decide, by decide +kernel, by decide +kernel⟩
abbrev mX5_lessonsOf : k_M := (yX5_lessonsOf, cX5_lessonsOf, 4, (some .int), [])
theorem oX5_lessonsOf : k_MOk mX5_lessonsOf 1 := ⟨List.mem_filter.mpr ⟨List.mem_of_getElem? (i := 450) (by decide +kernel), rfl⟩, w_86, by decide, by decide +kernel, by decide +kernel⟩
abbrev mX5_lessonsOfAll : k_M := (yX5_lessonsOfAll, cX5_lessonsOfAll, 3, (some .int), [])
theorem oX5_lessonsOfAll : k_MOk mX5_lessonsOfAll 0 := ⟨List.mem_filter.mpr ⟨List.mem_of_getElem? (i := 707) (by decide +kernel), rfl⟩, w_86, by decide, by decide +kernel, by decide +kernel⟩
abbrev mX5_attendsWishes : k_M := (yX5_attendsWishes, cX5_attendsWishes, 4, (some .boolean), [])
theorem oX5_attendsWishes : k_MOk mX5_attendsWishes 1 := ⟨List.mem_filter.mpr ⟨List.mem_of_getElem? (i := 532) (by decide +kernel), rfl⟩, w_86, by decide, by decide +kernel, by decide +kernel⟩
abbrev mX5_dropLesson : k_M := (yX5_dropLesson, cX5_dropLesson, 4, (some .int), [])
theorem oX5_dropLesson : k_MOk mX5_dropLesson 2 := ⟨List.mem_filter.mpr ⟨List.mem_of_getElem? (i := 887) (by decide +kernel), rfl⟩, w_86, by decide, by decide +kernel, by decide +kernel⟩
abbrev mX5_dropLessons : k_M := (yX5_dropLessons, cX5_dropLessons, 4, (some .int), [])
theorem oX5_dropLessons : k_MOk mX5_dropLessons 1 := ⟨List.mem_filter.mpr ⟨List.mem_of_getElem? (i := 1101) (by decide +kernel), rfl⟩, w_86, by decide, by decide +kernel, by decide +kernel⟩
abbrev mX5_noteMove : k_M := (yX5_noteMove, cX5_noteMove, 4, none, [])
theorem oX5_noteMove : k_MOk mX5_noteMove 3 := ⟨List.mem_filter.mpr ⟨List.mem_of_getElem? (i := 873) (by decide +kernel), rfl⟩, w_86, by decide, by decide +kernel, by decide +kernel⟩
abbrev mX5_makeMoves : k_M := (yX5_makeMoves, cX5_makeMoves, 7, none, [])
theorem oX5_makeMoves : k_MOk mX5_makeMoves 3 := ⟨List.mem_filter.mpr ⟨List.mem_of_getElem? (i := 877) (by decide +kernel), rfl⟩, w_86, by decide, by decide +kernel, by decide +kernel⟩
abbrev mX6_init : k_M := (yX6_init, cX6_init, 1, none, [])
theorem oX6_init : k_MOk mX6_init 0 := ⟨List.mem_filter.mpr ⟨List.mem_of_getElem? (i := 303) (by decide +kernel), rfl⟩, w_92, by decide, by decide +kernel, by decide +kernel⟩
abbrev mX6_modification : k_M := (yX6_modification, cX6_modification, 2, (some .int), [])
theorem oX6_modification : k_MOk mX6_modification 1 := ⟨List.mem_filter.mpr ⟨List.mem_of_getElem? (i := 1676) (by decide +kernel), rfl⟩, w_92, by decide, by decide +kernel, by decide +kernel⟩
abbrev mX6_number : k_M := (yX6_number, cX6_number, 3, (some .int), [])
theorem oX6_number : k_MOk mX6_number 2 := ⟨List.mem_filter.mpr ⟨List.mem_of_getElem? (i := 1681) (by decide +kernel), rfl⟩, w_92, by decide, by decide +kernel, by decide +kernel⟩
abbrev mX6_parse : k_M := (yX6_parse, cX6_parse, 1, (some .int), [])
theorem oX6_parse : k_MOk mX6_parse 0 := ⟨List.mem_filter.mpr ⟨List.mem_of_getElem? (i := 1616) (by decide +kernel), rfl⟩, w_92, by decide, by decide +kernel, by decide +kernel⟩
abbrev mX6_readCommand : k_M := (yX6_readCommand, cX6_readCommand, 5, (some .boolean), [])
theorem oX6_readCommand : k_MOk mX6_readCommand 1 := ⟨List.mem_filter.mpr ⟨List.mem_of_getElem? (i := 1620) (by decide +kernel), rfl⟩, w_92, by decide, by decide +kernel, by decide +kernel⟩
abbrev mX6_matches : k_M := (yX6_matches, cX6_matches, 7, (some .boolean), [])
theorem oX6_matches : k_MOk mX6_matches 2 := ⟨List.mem_filter.mpr ⟨List.mem_of_getElem? (i := 1639) (by decide +kernel), rfl⟩, w_92, by decide, by decide +kernel, by decide +kernel⟩
abbrev mX6_readNumber : k_M := (yX6_readNumber, cX6_readNumber, 5, (some .boolean), [])
theorem oX6_readNumber : k_MOk mX6_readNumber 2 := ⟨List.mem_filter.mpr ⟨List.mem_of_getElem? (i := 1659) (by decide +kernel), rfl⟩, w_92, by decide, by decide +kernel, by decide +kernel⟩
abbrev mX6_digitHere : k_M := (yX6_digitHere, cX6_digitHere, 2, (some .int), [])
theorem oX6_digitHere : k_MOk mX6_digitHere 0 := ⟨List.mem_filter.mpr ⟨List.mem_of_getElem? (i := 1663) (by decide +kernel), rfl⟩, w_92, by decide, by decide +kernel, by decide +kernel⟩
abbrev mX6_skip : k_M := (yX6_skip, cX6_skip, 3, (some .boolean), [])
theorem oX6_skip : k_MOk mX6_skip 1 := ⟨List.mem_filter.mpr ⟨List.mem_of_getElem? (i := 1670) (by decide +kernel), rfl⟩, w_92, by decide, by decide +kernel, by decide +kernel⟩
abbrev mX6_formOf : k_M := (yX6_formOf, cX6_formOf, 1, (some (.object "java/lang/String")), [])
theorem oX6_formOf : k_MOk mX6_formOf 1 := ⟨List.mem_filter.mpr ⟨List.mem_of_getElem? (i := 1623) (by decide +kernel), rfl⟩, w_92, by decide, by decide +kernel, by decide +kernel⟩
abbrev mX7_init : k_M := (yX7_init, cX7_init, 1, none, [])
theorem oX7_init : k_MOk mX7_init 0 := ⟨List.mem_filter.mpr ⟨List.mem_of_getElem? (i := 121) (by decide +kernel), rfl⟩, w_85, by decide, by decide +kernel, by decide +kernel⟩
abbrev mX7_addSubject : k_M := (yX7_addSubject, cX7_addSubject, 2, (some .int), [])
theorem oX7_addSubject : k_MOk mX7_addSubject 1 := ⟨List.mem_filter.mpr ⟨List.mem_of_getElem? (i := 612) (by decide +kernel), rfl⟩, w_85, by decide, by decide +kernel, by decide +kernel⟩
abbrev mX7_setSize : k_M := (yX7_setSize, cX7_setSize, 3, (some .int), [])
theorem oX7_setSize : k_MOk mX7_setSize 2 := ⟨List.mem_filter.mpr ⟨List.mem_of_getElem? (i := 921) (by decide +kernel), rfl⟩, w_85, by decide, by decide +kernel, by decide +kernel⟩
abbrev mX7_subjectCount : k_M := (yX7_subjectCount, cX7_subjectCount, 1, (some .int), [])
theorem oX7_subjectCount : k_MOk mX7_subjectCount 0 := ⟨List.mem_filter.mpr ⟨List.mem_of_getElem? (i := 404) (by decide +kernel), rfl⟩, w_85, by decide, by decide +kernel, by decide +kernel⟩
abbrev mX7_sizeOf : k_M := (yX7_sizeOf, cX7_sizeOf, 2, (some .int), [])
theorem oX7_sizeOf : k_MOk mX7_sizeOf 1 := ⟨List.mem_filter.mpr ⟨List.mem_of_getElem? (i := 943) (by decide +kernel), rfl⟩, w_85, by decide, by decide +kernel, by decide +kernel⟩
abbrev mX7_setBlockCount : k_M := (yX7_setBlockCount, cX7_setBlockCount, 2, (some .int), [])
theorem oX7_setBlockCount : k_MOk mX7_setBlockCount 1 := ⟨List.mem_filter.mpr ⟨List.mem_of_getElem? (i := 955) (by decide +kernel), rfl⟩, w_85, by decide, by decide +kernel, by decide +kernel⟩
abbrev mX7_blockCount : k_M := (yX7_blockCount, cX7_blockCount, 1, (some .int), [])
theorem oX7_blockCount : k_MOk mX7_blockCount 0 := ⟨List.mem_filter.mpr ⟨List.mem_of_getElem? (i := 408) (by decide +kernel), rfl⟩, w_85, by decide, by decide +kernel, by decide +kernel⟩
abbrev mX7_openClass : k_M := (yX7_openClass, cX7_openClass, 3, (some .int), [])
theorem oX7_openClass : k_MOk mX7_openClass 2 := ⟨List.mem_filter.mpr ⟨List.mem_of_getElem? (i := 962) (by decide +kernel), rfl⟩, w_85, by decide, by decide +kernel, by decide +kernel⟩
abbrev mX7_closeClass : k_M := (yX7_closeClass, cX7_closeClass, 3, (some .int), [])
theorem oX7_closeClass : k_MOk mX7_closeClass 2 := ⟨List.mem_filter.mpr ⟨List.mem_of_getElem? (i := 969) (by decide +kernel), rfl⟩, w_85, by decide, by decide +kernel, by decide +kernel⟩
abbrev mX7_isOpen : k_M := (yX7_isOpen, cX7_isOpen, 3, (some .boolean), [])
theorem oX7_isOpen : k_MOk mX7_isOpen 2 := ⟨List.mem_filter.mpr ⟨List.mem_of_getElem? (i := 976) (by decide +kernel), rfl⟩, w_85, by decide, by decide +kernel, by decide +kernel⟩
abbrev mX7_pupilsInClass : k_M := (yX7_pupilsInClass, cX7_pupilsInClass, 3, (some .int), [])
theorem oX7_pupilsInClass : k_MOk mX7_pupilsInClass 2 := ⟨List.mem_filter.mpr ⟨List.mem_of_getElem? (i := 985) (by decide +kernel), rfl⟩, w_85, by decide, by decide +kernel, by decide +kernel⟩
abbrev mX7_pupilInClass : k_M := (yX7_pupilInClass, cX7_pupilInClass, 5, (some .int), [])
theorem oX7_pupilInClass : k_MOk mX7_pupilInClass 3 := ⟨List.mem_filter.mpr ⟨List.mem_of_getElem? (i := 995) (by decide +kernel), rfl⟩, w_85, by decide, by decide +kernel, by decide +kernel⟩
abbrev mX7_addPupil : k_M := (yX7_addPupil, cX7_addPupil, 1, (some .int), [])
theorem oX7_addPupil : k_MOk mX7_addPupil 0 := ⟨List.mem_filter.mpr ⟨List.mem_of_getElem? (i := 1022) (by decide +kernel), rfl⟩, w_85, by decide, by decide +kernel, by decide +kernel⟩
abbrev mX7_pupilCount : k_M := (yX7_pupilCount, cX7_pupilCount, 1, (some .int), [])
theorem oX7_pupilCount : k_MOk mX7_pupilCount 0 := ⟨List.mem_filter.mpr ⟨List.mem_of_getElem? (i := 412) (by decide +kernel), rfl⟩, w_85, by decide, by decide +kernel, by decide +kernel⟩
abbrev mX7_addWish : k_M := (yX7_addWish, cX7_addWish, 3, (some .int), [])
theorem oX7_addWish : k_MOk mX7_addWish 2 := ⟨List.mem_filter.mpr ⟨List.mem_of_getElem? (i := 1029) (by decide +kernel), rfl⟩, w_85, by decide, by decide +kernel, by decide +kernel⟩
abbrev mX7_setReserve : k_M := (yX7_setReserve, cX7_setReserve, 3, (some .int), [])
theorem oX7_setReserve : k_MOk mX7_setReserve 2 := ⟨List.mem_filter.mpr ⟨List.mem_of_getElem? (i := 1036) (by decide +kernel), rfl⟩, w_85, by decide, by decide +kernel, by decide +kernel⟩
abbrev mX7_wishCount : k_M := (yX7_wishCount, cX7_wishCount, 2, (some .int), [])
theorem oX7_wishCount : k_MOk mX7_wishCount 1 := ⟨List.mem_filter.mpr ⟨List.mem_of_getElem? (i := 1043) (by decide +kernel), rfl⟩, w_85, by decide, by decide +kernel, by decide +kernel⟩
abbrev mX7_wishAt : k_M := (yX7_wishAt, cX7_wishAt, 3, (some .int), [])
theorem oX7_wishAt : k_MOk mX7_wishAt 2 := ⟨List.mem_filter.mpr ⟨List.mem_of_getElem? (i := 1051) (by decide +kernel), rfl⟩, w_85, by decide, by decide +kernel, by decide +kernel⟩
abbrev mX7_reserveOf : k_M := (yX7_reserveOf, cX7_reserveOf, 2, (some .int), [])
theorem oX7_reserveOf : k_MOk mX7_reserveOf 1 := ⟨List.mem_filter.mpr ⟨List.mem_of_getElem? (i := 1059) (by decide +kernel), rfl⟩, w_85, by decide, by decide +kernel, by decide +kernel⟩
abbrev mX7_subjectIn : k_M := (yX7_subjectIn, cX7_subjectIn, 3, (some .int), [])
theorem oX7_subjectIn : k_MOk mX7_subjectIn 2 := ⟨List.mem_filter.mpr ⟨List.mem_of_getElem? (i := 1066) (by decide +kernel), rfl⟩, w_85, by decide, by decide +kernel, by decide +kernel⟩
abbrev mX7_blockOf : k_M := (yX7_blockOf, cX7_blockOf, 3, (some .int), [])
theorem oX7_blockOf : k_MOk mX7_blockOf 2 := ⟨List.mem_filter.mpr ⟨List.mem_of_getElem? (i := 1078) (by decide +kernel), rfl⟩, w_85, by decide, by decide +kernel, by decide +kernel⟩
abbrev mX7_enrol : k_M := (yX7_enrol, cX7_enrol, 2, (some .int), [])
theorem oX7_enrol : k_MOk mX7_enrol 1 := ⟨List.mem_filter.mpr ⟨List.mem_of_getElem? (i := 1086) (by decide +kernel), rfl⟩, w_85, by decide, by decide +kernel, by decide +kernel⟩
abbrev mX7_enrolAll : k_M := (yX7_enrolAll, cX7_enrolAll, 3, (some .int), [])
theorem oX7_enrolAll : k_MOk mX7_enrolAll 0 := ⟨List.mem_filter.mpr ⟨List.mem_of_getElem? (i := 416) (by decide +kernel), rfl⟩, w_85, by decide, by decide +kernel, by decide +kernel⟩
abbrev mX7_withdraw : k_M := (yX7_withdraw, cX7_withdraw, 2, (some .int), [])
theorem oX7_withdraw : k_MOk mX7_withdraw 1 := ⟨List.mem_filter.mpr ⟨List.mem_of_getElem? (i := 1093) (by decide +kernel), rfl⟩, w_85, by decide, by decide +kernel, by decide +kernel⟩
abbrev mX7_bestValue : k_M := (yX7_bestValue, cX7_bestValue, 2, (some .int), [])
theorem oX7_bestValue : k_MOk mX7_bestValue 1 := ⟨List.mem_filter.mpr ⟨List.mem_of_getElem? (i := 1110) (by decide +kernel), rfl⟩, w_85, by decide, by decide +kernel, by decide +kernel⟩
abbrev mX7_bestValueBySets : k_M := (yX7_bestValueBySets, cX7_bestValueBySets, 2, (some .int), [])
theorem oX7_bestValueBySets : k_MOk mX7_bestValueBySets 1 := ⟨List.mem_filter.mpr ⟨List.mem_of_getElem? (i := 1121) (by decide +kernel), rfl⟩, w_85, by decide, by decide +kernel, by decide +kernel⟩
abbrev mX7_canServe : k_M := (yX7_canServe, cX7_canServe, 2, (some .boolean), [])
theorem oX7_canServe : k_MOk mX7_canServe 1 := ⟨List.mem_filter.mpr ⟨List.mem_of_getElem? (i := 1139) (by decide +kernel), rfl⟩, w_85, by decide, by decide +kernel, by decide +kernel⟩
abbrev mX7_canServeByCounting : k_M := (yX7_canServeByCounting, cX7_canServeByCounting, 2, (some .boolean), [])
theorem oX7_canServeByCounting : k_MOk mX7_canServeByCounting 1 := ⟨List.mem_filter.mpr ⟨List.mem_of_getElem? (i := 1158) (by decide +kernel), rfl⟩, w_85, by decide, by decide +kernel, by decide +kernel⟩
abbrev mX7_servedCount : k_M := (yX7_servedCount, cX7_servedCount, 3, (some .int), [])
theorem oX7_servedCount : k_MOk mX7_servedCount 0 := ⟨List.mem_filter.mpr ⟨List.mem_of_getElem? (i := 541) (by decide +kernel), rfl⟩, w_85, by decide, by decide +kernel, by decide +kernel⟩
abbrev mX7_meanClassSize : k_M := (yX7_meanClassSize, cX7_meanClassSize, 2, (some .double), [])
theorem oX7_meanClassSize : k_MOk mX7_meanClassSize 0 := ⟨List.mem_filter.mpr ⟨List.mem_of_getElem? (i := 1185) (by decide +kernel), rfl⟩, w_85, by decide, by decide +kernel, by decide +kernel⟩
abbrev mX7_movesFor : k_M := (yX7_movesFor, cX7_movesFor, 4, (some .int), [])
theorem oX7_movesFor : k_MOk mX7_movesFor 2 := ⟨List.mem_filter.mpr ⟨List.mem_of_getElem? (i := 1200) (by decide +kernel), rfl⟩, w_85, by decide, by decide +kernel, by decide +kernel⟩
abbrev mX7_movesByTrial : k_M := (yX7_movesByTrial, cX7_movesByTrial, 4, (some .int), [])
theorem oX7_movesByTrial : k_MOk mX7_movesByTrial 2 := ⟨List.mem_filter.mpr ⟨List.mem_of_getElem? (i := 1210) (by decide +kernel), rfl⟩, w_85, by decide, by decide +kernel, by decide +kernel⟩
abbrev mX7_join : k_M := (yX7_join, cX7_join, 3, (some .int), [])
theorem oX7_join : k_MOk mX7_join 2 := ⟨List.mem_filter.mpr ⟨List.mem_of_getElem? (i := 1225) (by decide +kernel), rfl⟩, w_85, by decide, by decide +kernel, by decide +kernel⟩
abbrev mX7_quit : k_M := (yX7_quit, cX7_quit, 3, (some .int), [])
theorem oX7_quit : k_MOk mX7_quit 2 := ⟨List.mem_filter.mpr ⟨List.mem_of_getElem? (i := 1232) (by decide +kernel), rfl⟩, w_85, by decide, by decide +kernel, by decide +kernel⟩
abbrev mX7_change : k_M := (yX7_change, cX7_change, 4, (some .int), [])
theorem oX7_change : k_MOk mX7_change 3 := ⟨List.mem_filter.mpr ⟨List.mem_of_getElem? (i := 1239) (by decide +kernel), rfl⟩, w_85, by decide, by decide +kernel, by decide +kernel⟩
abbrev mX7_refusalReason : k_M := (yX7_refusalReason, cX7_refusalReason, 1, (some .int), [])
theorem oX7_refusalReason : k_MOk mX7_refusalReason 0 := ⟨List.mem_filter.mpr ⟨List.mem_of_getElem? (i := 1246) (by decide +kernel), rfl⟩, w_85, by decide, by decide +kernel, by decide +kernel⟩
abbrev mX7_chainMoves : k_M := (yX7_chainMoves, cX7_chainMoves, 1, (some .int), [])
theorem oX7_chainMoves : k_MOk mX7_chainMoves 0 := ⟨List.mem_filter.mpr ⟨List.mem_of_getElem? (i := 1253) (by decide +kernel), rfl⟩, w_85, by decide, by decide +kernel, by decide +kernel⟩
abbrev mX7_chainPupil : k_M := (yX7_chainPupil, cX7_chainPupil, 2, (some .int), [])
theorem oX7_chainPupil : k_MOk mX7_chainPupil 1 := ⟨List.mem_filter.mpr ⟨List.mem_of_getElem? (i := 1260) (by decide +kernel), rfl⟩, w_85, by decide, by decide +kernel, by decide +kernel⟩
abbrev mX7_chainBlock : k_M := (yX7_chainBlock, cX7_chainBlock, 2, (some .int), [])
theorem oX7_chainBlock : k_MOk mX7_chainBlock 1 := ⟨List.mem_filter.mpr ⟨List.mem_of_getElem? (i := 1267) (by decide +kernel), rfl⟩, w_85, by decide, by decide +kernel, by decide +kernel⟩
abbrev mX7_commonWishes : k_M := (yX7_commonWishes, cX7_commonWishes, 3, (some .int), [])
theorem oX7_commonWishes : k_MOk mX7_commonWishes 2 := ⟨List.mem_filter.mpr ⟨List.mem_of_getElem? (i := 1274) (by decide +kernel), rfl⟩, w_85, by decide, by decide +kernel, by decide +kernel⟩
abbrev mX7_doClash : k_M := (yX7_doClash, cX7_doClash, 3, (some .boolean), [])
theorem oX7_doClash : k_MOk mX7_doClash 2 := ⟨List.mem_filter.mpr ⟨List.mem_of_getElem? (i := 1286) (by decide +kernel), rfl⟩, w_85, by decide, by decide +kernel, by decide +kernel⟩
abbrev mX7_clashCount : k_M := (yX7_clashCount, cX7_clashCount, 4, (some .int), [])
theorem oX7_clashCount : k_MOk mX7_clashCount 0 := ⟨List.mem_filter.mpr ⟨List.mem_of_getElem? (i := 545) (by decide +kernel), rfl⟩, w_85, by decide, by decide +kernel, by decide +kernel⟩
abbrev mX7_leastClashes : k_M := (yX7_leastClashes, cX7_leastClashes, 1, (some .int), [])
theorem oX7_leastClashes : k_MOk mX7_leastClashes 0 := ⟨List.mem_filter.mpr ⟨List.mem_of_getElem? (i := 561) (by decide +kernel), rfl⟩, w_85, by decide, by decide +kernel, by decide +kernel⟩
abbrev mX7_leastClashesByTrial : k_M := (yX7_leastClashesByTrial, cX7_leastClashesByTrial, 1, (some .int), [])
theorem oX7_leastClashesByTrial : k_MOk mX7_leastClashesByTrial 0 := ⟨List.mem_filter.mpr ⟨List.mem_of_getElem? (i := 590) (by decide +kernel), rfl⟩, w_85, by decide, by decide +kernel, by decide +kernel⟩
abbrev mX7_arrange : k_M := (yX7_arrange, cX7_arrange, 1, (some .int), [])
theorem oX7_arrange : k_MOk mX7_arrange 0 := ⟨List.mem_filter.mpr ⟨List.mem_of_getElem? (i := 1293) (by decide +kernel), rfl⟩, w_85, by decide, by decide +kernel, by decide +kernel⟩
abbrev mX7_writeTimetable : k_M := (yX7_writeTimetable, cX7_writeTimetable, 3, (some .int), [])
theorem oX7_writeTimetable : k_MOk mX7_writeTimetable 1 := ⟨List.mem_filter.mpr ⟨List.mem_of_getElem? (i := 1300) (by decide +kernel), rfl⟩, w_85, by decide, by decide +kernel, by decide +kernel⟩
abbrev mX7_lineAt : k_M := (yX7_lineAt, cX7_lineAt, 2, (some .char), [])
theorem oX7_lineAt : k_MOk mX7_lineAt 1 := ⟨List.mem_filter.mpr ⟨List.mem_of_getElem? (i := 1586) (by decide +kernel), rfl⟩, w_85, by decide, by decide +kernel, by decide +kernel⟩
abbrev mX7_type : k_M := (yX7_type, cX7_type, 2, (some .int), [])
theorem oX7_type : k_MOk mX7_type 1 := ⟨List.mem_filter.mpr ⟨List.mem_of_getElem? (i := 1603) (by decide +kernel), rfl⟩, w_85, by decide, by decide +kernel, by decide +kernel⟩
abbrev mX7_execute : k_M := (yX7_execute, cX7_execute, 8, (some .int), [])
theorem oX7_execute : k_MOk mX7_execute 0 := ⟨List.mem_filter.mpr ⟨List.mem_of_getElem? (i := 1612) (by decide +kernel), rfl⟩, w_85, by decide, by decide +kernel, by decide +kernel⟩
abbrev mX7_errorPosition : k_M := (yX7_errorPosition, cX7_errorPosition, 1, (some .int), [])
theorem oX7_errorPosition : k_MOk mX7_errorPosition 0 := ⟨List.mem_filter.mpr ⟨List.mem_of_getElem? (i := 1689) (by decide +kernel), rfl⟩, w_85, by decide, by decide +kernel, by decide +kernel⟩
abbrev mX7_failedCommand : k_M := (yX7_failedCommand, cX7_failedCommand, 1, (some .int), [])
theorem oX7_failedCommand : k_MOk mX7_failedCommand 0 := ⟨List.mem_filter.mpr ⟨List.mem_of_getElem? (i := 1696) (by decide +kernel), rfl⟩, w_85, by decide, by decide +kernel, by decide +kernel⟩
abbrev mX7_failureKind : k_M := (yX7_failureKind, cX7_failureKind, 1, (some .int), [])
theorem oX7_failureKind : k_MOk mX7_failureKind 0 := ⟨List.mem_filter.mpr ⟨List.mem_of_getElem? (i := 1703) (by decide +kernel), rfl⟩, w_85, by decide, by decide +kernel, by decide +kernel⟩
abbrev mX7_undo : k_M := (yX7_undo, cX7_undo, 1, (some .int), [])
theorem oX7_undo : k_MOk mX7_undo 0 := ⟨List.mem_filter.mpr ⟨List.mem_of_getElem? (i := 1710) (by decide +kernel), rfl⟩, w_85, by decide, by decide +kernel, by decide +kernel⟩
abbrev mX7_save : k_M := (yX7_save, cX7_save, 1, (some .int), [])
theorem oX7_save : k_MOk mX7_save 0 := ⟨List.mem_filter.mpr ⟨List.mem_of_getElem? (i := 602) (by decide +kernel), rfl⟩, w_85, by decide, by decide +kernel, by decide +kernel⟩
abbrev mX7_restore : k_M := (yX7_restore, cX7_restore, 1, (some .int), [])
theorem oX7_restore : k_MOk mX7_restore 0 := ⟨List.mem_filter.mpr ⟨List.mem_of_getElem? (i := 1722) (by decide +kernel), rfl⟩, w_85, by decide, by decide +kernel, by decide +kernel⟩
abbrev mX7_make : k_M := (yX7_make, cX7_make, 5, (some .int), [])
theorem oX7_make : k_MOk mX7_make 4 := ⟨List.mem_filter.mpr ⟨List.mem_of_getElem? (i := 616) (by decide +kernel), rfl⟩, w_85, by decide, by decide +kernel, by decide +kernel⟩
abbrev mX7_writeLesson : k_M := (yX7_writeLesson, cX7_writeLesson, 3, none, [])
theorem oX7_writeLesson : k_MOk mX7_writeLesson 2 := ⟨List.mem_filter.mpr ⟨List.mem_of_getElem? (i := 1578) (by decide +kernel), rfl⟩, w_85, by decide, by decide +kernel, by decide +kernel⟩
abbrev mX7_needPair : k_M := (yX7_needPair, cX7_needPair, 3, none, [])
theorem oX7_needPair : k_MOk mX7_needPair 2 := ⟨List.mem_filter.mpr ⟨List.mem_of_getElem? (i := 1278) (by decide +kernel), rfl⟩, w_85, by decide, by decide +kernel, by decide +kernel⟩
abbrev mX7_needIndex : k_M := (yX7_needIndex, cX7_needIndex, 1, none, [])
theorem oX7_needIndex : k_MOk mX7_needIndex 1 := ⟨List.mem_filter.mpr ⟨List.mem_of_getElem? (i := 947) (by decide +kernel), rfl⟩, w_85, by decide, by decide +kernel, by decide +kernel⟩
abbrev mX7_needElement : k_M := (yX7_needElement, cX7_needElement, 1, none, [])
theorem oX7_needElement : k_MOk mX7_needElement 1 := ⟨List.mem_filter.mpr ⟨List.mem_of_getElem? (i := 998) (by decide +kernel), rfl⟩, w_85, by decide, by decide +kernel, by decide +kernel⟩
abbrev mX7_throwFault : k_M := (yX7_throwFault, cX7_throwFault, 1, none, [])
theorem oX7_throwFault : k_MOk mX7_throwFault 1 := ⟨List.mem_filter.mpr ⟨List.mem_of_getElem? (i := 710) (by decide +kernel), rfl⟩, w_85, by decide, by decide +kernel, by decide +kernel⟩
abbrev mX7_read : k_M := (yX7_read, cX7_read, 2, (some .int), [])
theorem oX7_read : k_MOk mX7_read 2 := ⟨List.mem_filter.mpr ⟨List.mem_of_getElem? (i := 461) (by decide +kernel), rfl⟩, w_85, by decide, by decide +kernel, by decide +kernel⟩
abbrev mX7_write : k_M := (yX7_write, cX7_write, 3, none, [])
theorem oX7_write : k_MOk mX7_write 3 := ⟨List.mem_filter.mpr ⟨List.mem_of_getElem? (i := 499) (by decide +kernel), rfl⟩, w_85, by decide, by decide +kernel, by decide +kernel⟩
abbrev mX7_copyRow : k_M := (yX7_copyRow, cX7_copyRow, 2, none, [])
theorem oX7_copyRow : k_MOk mX7_copyRow 2 := ⟨List.mem_filter.mpr ⟨List.mem_of_getElem? (i := 431) (by decide +kernel), rfl⟩, w_85, by decide, by decide +kernel, by decide +kernel⟩
abbrev mX7_holds : k_M := (yX7_holds, cX7_holds, 2, (some .boolean), [])
theorem oX7_holds : k_MOk mX7_holds 2 := ⟨List.mem_filter.mpr ⟨List.mem_of_getElem? (i := 464) (by decide +kernel), rfl⟩, w_85, by decide, by decide +kernel, by decide +kernel⟩
abbrev mX7_memberAt : k_M := (yX7_memberAt, cX7_memberAt, 4, (some .int), [])
theorem oX7_memberAt : k_MOk mX7_memberAt 2 := ⟨List.mem_filter.mpr ⟨List.mem_of_getElem? (i := 868) (by decide +kernel), rfl⟩, w_85, by decide, by decide +kernel, by decide +kernel⟩
abbrev mX8_init : k_M := (yX8_init, cX8_init, 1, none, [])
theorem oX8_init : k_MOk mX8_init 0 := ⟨List.mem_filter.mpr ⟨List.mem_of_getElem? (i := 1732) (by decide +kernel), rfl⟩, w_97, by decide, by decide +kernel, by decide +kernel⟩
abbrev mX8_thrown : k_M := (yX8_thrown, cX8_thrown, 1, (some .int), [])
theorem oX8_thrown : k_MOk mX8_thrown 0 := ⟨List.mem_filter.mpr ⟨List.mem_of_getElem? (i := 1846) (by decide +kernel), rfl⟩, w_97, by decide, by decide +kernel, by decide +kernel⟩
abbrev mX8_in : k_M := (yX8_in, cX8_in, 3, (some .boolean), [])
theorem oX8_in : k_MOk mX8_in 3 := ⟨List.mem_filter.mpr ⟨List.mem_of_getElem? (i := 1884) (by decide +kernel), rfl⟩, w_97, by decide, by decide +kernel, by decide +kernel⟩
abbrev mX8_copies : k_M := (yX8_copies, cX8_copies, 3, none, [])
theorem oX8_copies : k_MOk mX8_copies 2 := ⟨List.mem_filter.mpr ⟨List.mem_of_getElem? (i := 1865) (by decide +kernel), rfl⟩, w_97, by decide, by decide +kernel, by decide +kernel⟩
abbrev mX8_fails : k_M := (yX8_fails, cX8_fails, 2, (some .int), [])
theorem oX8_fails : k_MOk mX8_fails 1 := ⟨List.mem_filter.mpr ⟨List.mem_of_getElem? (i := 1854) (by decide +kernel), rfl⟩, w_97, by decide, by decide +kernel, by decide +kernel⟩
abbrev mX8_tells : k_M := (yX8_tells, cX8_tells, 2, (some .int), [])
theorem oX8_tells : k_MOk mX8_tells 1 := ⟨List.mem_filter.mpr ⟨List.mem_of_getElem? (i := 1858) (by decide +kernel), rfl⟩, w_97, by decide, by decide +kernel, by decide +kernel⟩
abbrev mX8_begins : k_M := (yX8_begins, cX8_begins, 1, none, [])
theorem oX8_begins : k_MOk mX8_begins 0 := ⟨List.mem_filter.mpr ⟨List.mem_of_getElem? (i := 1877) (by decide +kernel), rfl⟩, w_97, by decide, by decide +kernel, by decide +kernel⟩
abbrev mX8_bad : k_M := (yX8_bad, cX8_bad, 2, (some .int), [])
theorem oX8_bad : k_MOk mX8_bad 1 := ⟨List.mem_filter.mpr ⟨List.mem_of_getElem? (i := 1888) (by decide +kernel), rfl⟩, w_97, by decide, by decide +kernel, by decide +kernel⟩
abbrev mX8_ends : k_M := (yX8_ends, cX8_ends, 5, (some .int), [])
theorem oX8_ends : k_MOk mX8_ends 3 := ⟨List.mem_filter.mpr ⟨List.mem_of_getElem? (i := 1892) (by decide +kernel), rfl⟩, w_97, by decide, by decide +kernel, by decide +kernel⟩
abbrev mX8_undo : k_M := (yX8_undo, cX8_undo, 2, (some .int), [])
theorem oX8_undo : k_MOk mX8_undo 0 := ⟨List.mem_filter.mpr ⟨List.mem_of_getElem? (i := 1850) (by decide +kernel), rfl⟩, w_97, by decide, by decide +kernel, by decide +kernel⟩
abbrev mX8_save : k_M := (yX8_save, cX8_save, 1, (some .int), [])
theorem oX8_save : k_MOk mX8_save 0 := ⟨List.mem_filter.mpr ⟨List.mem_of_getElem? (i := 1862) (by decide +kernel), rfl⟩, w_97, by decide, by decide +kernel, by decide +kernel⟩
abbrev mX8_restore : k_M := (yX8_restore, cX8_restore, 1, (some .int), [])
theorem oX8_restore : k_MOk mX8_restore 0 := ⟨List.mem_filter.mpr ⟨List.mem_of_getElem? (i := 1869) (by decide +kernel), rfl⟩, w_97, by decide, by decide +kernel, by decide +kernel⟩
abbrev mX8_isSubject : k_M := (yX8_isSubject, cX8_isSubject, 2, (some .boolean), [])
theorem oX8_isSubject : k_MOk mX8_isSubject 1 := ⟨List.mem_filter.mpr ⟨List.mem_of_getElem? (i := 1904) (by decide +kernel), rfl⟩, w_97, by decide, by decide +kernel, by decide +kernel⟩
abbrev mX8_isBlock : k_M := (yX8_isBlock, cX8_isBlock, 2, (some .boolean), [])
theorem oX8_isBlock : k_MOk mX8_isBlock 1 := ⟨List.mem_filter.mpr ⟨List.mem_of_getElem? (i := 1948) (by decide +kernel), rfl⟩, w_97, by decide, by decide +kernel, by decide +kernel⟩
abbrev mX8_isPupil : k_M := (yX8_isPupil, cX8_isPupil, 2, (some .boolean), [])
theorem oX8_isPupil : k_MOk mX8_isPupil 1 := ⟨List.mem_filter.mpr ⟨List.mem_of_getElem? (i := 1996) (by decide +kernel), rfl⟩, w_97, by decide, by decide +kernel, by decide +kernel⟩
abbrev mX8_hasOpen : k_M := (yX8_hasOpen, cX8_hasOpen, 3, (some .boolean), [])
theorem oX8_hasOpen : k_MOk mX8_hasOpen 2 := ⟨List.mem_filter.mpr ⟨List.mem_of_getElem? (i := 1932) (by decide +kernel), rfl⟩, w_97, by decide, by decide +kernel, by decide +kernel⟩
abbrev mX8_subjectOf : k_M := (yX8_subjectOf, cX8_subjectOf, 3, (some .int), [])
theorem oX8_subjectOf : k_MOk mX8_subjectOf 2 := ⟨List.mem_filter.mpr ⟨List.mem_of_getElem? (i := 1912) (by decide +kernel), rfl⟩, w_97, by decide, by decide +kernel, by decide +kernel⟩
abbrev mX8_blockOfSubject : k_M := (yX8_blockOfSubject, cX8_blockOfSubject, 4, (some .int), [])
theorem oX8_blockOfSubject : k_MOk mX8_blockOfSubject 2 := ⟨List.mem_filter.mpr ⟨List.mem_of_getElem? (i := 2036) (by decide +kernel), rfl⟩, w_97, by decide, by decide +kernel, by decide +kernel⟩
abbrev mX8_inClass : k_M := (yX8_inClass, cX8_inClass, 5, (some .int), [])
theorem oX8_inClass : k_MOk mX8_inClass 2 := ⟨List.mem_filter.mpr ⟨List.mem_of_getElem? (i := 1908) (by decide +kernel), rfl⟩, w_97, by decide, by decide +kernel, by decide +kernel⟩
abbrev mX8_openOf : k_M := (yX8_openOf, cX8_openOf, 4, (some .int), [])
theorem oX8_openOf : k_MOk mX8_openOf 1 := ⟨List.mem_filter.mpr ⟨List.mem_of_getElem? (i := 1952) (by decide +kernel), rfl⟩, w_97, by decide, by decide +kernel, by decide +kernel⟩
abbrev mX8_classesOf : k_M := (yX8_classesOf, cX8_classesOf, 4, (some .int), [])
theorem oX8_classesOf : k_MOk mX8_classesOf 1 := ⟨List.mem_filter.mpr ⟨List.mem_of_getElem? (i := 2048) (by decide +kernel), rfl⟩, w_97, by decide, by decide +kernel, by decide +kernel⟩
abbrev mX8_wish : k_M := (yX8_wish, cX8_wish, 3, (some .int), [])
theorem oX8_wish : k_MOk mX8_wish 2 := ⟨List.mem_filter.mpr ⟨List.mem_of_getElem? (i := 2004) (by decide +kernel), rfl⟩, w_97, by decide, by decide +kernel, by decide +kernel⟩
abbrev mX8_isWish : k_M := (yX8_isWish, cX8_isWish, 5, (some .boolean), [])
theorem oX8_isWish : k_MOk mX8_isWish 2 := ⟨List.mem_filter.mpr ⟨List.mem_of_getElem? (i := 2000) (by decide +kernel), rfl⟩, w_97, by decide, by decide +kernel, by decide +kernel⟩
abbrev mX8_addSubjectNow : k_M := (yX8_addSubjectNow, cX8_addSubjectNow, 4, (some .int), [])
theorem oX8_addSubjectNow : k_MOk mX8_addSubjectNow 1 := ⟨List.mem_filter.mpr ⟨List.mem_of_getElem? (i := 1881) (by decide +kernel), rfl⟩, w_97, by decide, by decide +kernel, by decide +kernel⟩
abbrev mX8_addSubject : k_M := (yX8_addSubject, cX8_addSubject, 2, (some .int), [])
theorem oX8_addSubject : k_MOk mX8_addSubject 1 := ⟨List.mem_filter.mpr ⟨List.mem_of_getElem? (i := 1873) (by decide +kernel), rfl⟩, w_97, by decide, by decide +kernel, by decide +kernel⟩
abbrev mX8_setSizeNow : k_M := (yX8_setSizeNow, cX8_setSizeNow, 4, (some .int), [])
theorem oX8_setSizeNow : k_MOk mX8_setSizeNow 2 := ⟨List.mem_filter.mpr ⟨List.mem_of_getElem? (i := 1900) (by decide +kernel), rfl⟩, w_97, by decide, by decide +kernel, by decide +kernel⟩
abbrev mX8_setSize : k_M := (yX8_setSize, cX8_setSize, 3, (some .int), [])
theorem oX8_setSize : k_MOk mX8_setSize 2 := ⟨List.mem_filter.mpr ⟨List.mem_of_getElem? (i := 1896) (by decide +kernel), rfl⟩, w_97, by decide, by decide +kernel, by decide +kernel⟩
abbrev mX8_subjectCount : k_M := (yX8_subjectCount, cX8_subjectCount, 1, (some .int), [])
theorem oX8_subjectCount : k_MOk mX8_subjectCount 0 := ⟨List.mem_filter.mpr ⟨List.mem_of_getElem? (i := 1916) (by decide +kernel), rfl⟩, w_97, by decide, by decide +kernel, by decide +kernel⟩
abbrev mX8_sizeOf : k_M := (yX8_sizeOf, cX8_sizeOf, 2, (some .int), [])
theorem oX8_sizeOf : k_MOk mX8_sizeOf 1 := ⟨List.mem_filter.mpr ⟨List.mem_of_getElem? (i := 1920) (by decide +kernel), rfl⟩, w_97, by decide, by decide +kernel, by decide +kernel⟩
abbrev mX8_setBlockCountNow : k_M := (yX8_setBlockCountNow, cX8_setBlockCountNow, 4, (some .int), [])
theorem oX8_setBlockCountNow : k_MOk mX8_setBlockCountNow 1 := ⟨List.mem_filter.mpr ⟨List.mem_of_getElem? (i := 1928) (by decide +kernel), rfl⟩, w_97, by decide, by decide +kernel, by decide +kernel⟩
abbrev mX8_setBlockCount : k_M := (yX8_setBlockCount, cX8_setBlockCount, 2, (some .int), [])
theorem oX8_setBlockCount : k_MOk mX8_setBlockCount 1 := ⟨List.mem_filter.mpr ⟨List.mem_of_getElem? (i := 1924) (by decide +kernel), rfl⟩, w_97, by decide, by decide +kernel, by decide +kernel⟩
abbrev mX8_blockCount : k_M := (yX8_blockCount, cX8_blockCount, 1, (some .int), [])
theorem oX8_blockCount : k_MOk mX8_blockCount 0 := ⟨List.mem_filter.mpr ⟨List.mem_of_getElem? (i := 1936) (by decide +kernel), rfl⟩, w_97, by decide, by decide +kernel, by decide +kernel⟩
abbrev mX8_openClassNow : k_M := (yX8_openClassNow, cX8_openClassNow, 3, (some .int), [])
theorem oX8_openClassNow : k_MOk mX8_openClassNow 2 := ⟨List.mem_filter.mpr ⟨List.mem_of_getElem? (i := 1944) (by decide +kernel), rfl⟩, w_97, by decide, by decide +kernel, by decide +kernel⟩
abbrev mX8_openClass : k_M := (yX8_openClass, cX8_openClass, 3, (some .int), [])
theorem oX8_openClass : k_MOk mX8_openClass 2 := ⟨List.mem_filter.mpr ⟨List.mem_of_getElem? (i := 1940) (by decide +kernel), rfl⟩, w_97, by decide, by decide +kernel, by decide +kernel⟩
abbrev mX8_closeClassNow : k_M := (yX8_closeClassNow, cX8_closeClassNow, 3, (some .int), [])
theorem oX8_closeClassNow : k_MOk mX8_closeClassNow 2 := ⟨List.mem_filter.mpr ⟨List.mem_of_getElem? (i := 1960) (by decide +kernel), rfl⟩, w_97, by decide, by decide +kernel, by decide +kernel⟩
abbrev mX8_closeClass : k_M := (yX8_closeClass, cX8_closeClass, 3, (some .int), [])
theorem oX8_closeClass : k_MOk mX8_closeClass 2 := ⟨List.mem_filter.mpr ⟨List.mem_of_getElem? (i := 1956) (by decide +kernel), rfl⟩, w_97, by decide, by decide +kernel, by decide +kernel⟩
abbrev mX8_isOpen : k_M := (yX8_isOpen, cX8_isOpen, 3, (some .boolean), [])
theorem oX8_isOpen : k_MOk mX8_isOpen 2 := ⟨List.mem_filter.mpr ⟨List.mem_of_getElem? (i := 1964) (by decide +kernel), rfl⟩, w_97, by decide, by decide +kernel, by decide +kernel⟩
abbrev mX8_pupilsInClass : k_M := (yX8_pupilsInClass, cX8_pupilsInClass, 3, (some .int), [])
theorem oX8_pupilsInClass : k_MOk mX8_pupilsInClass 2 := ⟨List.mem_filter.mpr ⟨List.mem_of_getElem? (i := 1968) (by decide +kernel), rfl⟩, w_97, by decide, by decide +kernel, by decide +kernel⟩
abbrev mX8_pupilInClass : k_M := (yX8_pupilInClass, cX8_pupilInClass, 6, (some .int), [])
theorem oX8_pupilInClass : k_MOk mX8_pupilInClass 3 := ⟨List.mem_filter.mpr ⟨List.mem_of_getElem? (i := 1972) (by decide +kernel), rfl⟩, w_97, by decide, by decide +kernel, by decide +kernel⟩
abbrev mX8_addPupilNow : k_M := (yX8_addPupilNow, cX8_addPupilNow, 3, (some .int), [])
theorem oX8_addPupilNow : k_MOk mX8_addPupilNow 0 := ⟨List.mem_filter.mpr ⟨List.mem_of_getElem? (i := 1980) (by decide +kernel), rfl⟩, w_97, by decide, by decide +kernel, by decide +kernel⟩
abbrev mX8_addPupil : k_M := (yX8_addPupil, cX8_addPupil, 1, (some .int), [])
theorem oX8_addPupil : k_MOk mX8_addPupil 0 := ⟨List.mem_filter.mpr ⟨List.mem_of_getElem? (i := 1976) (by decide +kernel), rfl⟩, w_97, by decide, by decide +kernel, by decide +kernel⟩
abbrev mX8_pupilCount : k_M := (yX8_pupilCount, cX8_pupilCount, 1, (some .int), [])
theorem oX8_pupilCount : k_MOk mX8_pupilCount 0 := ⟨List.mem_filter.mpr ⟨List.mem_of_getElem? (i := 1984) (by decide +kernel), rfl⟩, w_97, by decide, by decide +kernel, by decide +kernel⟩
abbrev mX8_addWishNow : k_M := (yX8_addWishNow, cX8_addWishNow, 3, (some .int), [])
theorem oX8_addWishNow : k_MOk mX8_addWishNow 2 := ⟨List.mem_filter.mpr ⟨List.mem_of_getElem? (i := 1992) (by decide +kernel), rfl⟩, w_97, by decide, by decide +kernel, by decide +kernel⟩
abbrev mX8_addWish : k_M := (yX8_addWish, cX8_addWish, 3, (some .int), [])
theorem oX8_addWish : k_MOk mX8_addWish 2 := ⟨List.mem_filter.mpr ⟨List.mem_of_getElem? (i := 1988) (by decide +kernel), rfl⟩, w_97, by decide, by decide +kernel, by decide +kernel⟩
abbrev mX8_setReserveNow : k_M := (yX8_setReserveNow, cX8_setReserveNow, 4, (some .int), [])
theorem oX8_setReserveNow : k_MOk mX8_setReserveNow 2 := ⟨List.mem_filter.mpr ⟨List.mem_of_getElem? (i := 2012) (by decide +kernel), rfl⟩, w_97, by decide, by decide +kernel, by decide +kernel⟩
abbrev mX8_setReserve : k_M := (yX8_setReserve, cX8_setReserve, 3, (some .int), [])
theorem oX8_setReserve : k_MOk mX8_setReserve 2 := ⟨List.mem_filter.mpr ⟨List.mem_of_getElem? (i := 2008) (by decide +kernel), rfl⟩, w_97, by decide, by decide +kernel, by decide +kernel⟩
abbrev mX8_wishCount : k_M := (yX8_wishCount, cX8_wishCount, 2, (some .int), [])
theorem oX8_wishCount : k_MOk mX8_wishCount 1 := ⟨List.mem_filter.mpr ⟨List.mem_of_getElem? (i := 2016) (by decide +kernel), rfl⟩, w_97, by decide, by decide +kernel, by decide +kernel⟩
abbrev mX8_wishAt : k_M := (yX8_wishAt, cX8_wishAt, 3, (some .int), [])
theorem oX8_wishAt : k_MOk mX8_wishAt 2 := ⟨List.mem_filter.mpr ⟨List.mem_of_getElem? (i := 2020) (by decide +kernel), rfl⟩, w_97, by decide, by decide +kernel, by decide +kernel⟩
abbrev mX8_reserveOf : k_M := (yX8_reserveOf, cX8_reserveOf, 2, (some .int), [])
theorem oX8_reserveOf : k_MOk mX8_reserveOf 1 := ⟨List.mem_filter.mpr ⟨List.mem_of_getElem? (i := 2024) (by decide +kernel), rfl⟩, w_97, by decide, by decide +kernel, by decide +kernel⟩
abbrev mX8_subjectIn : k_M := (yX8_subjectIn, cX8_subjectIn, 3, (some .int), [])
theorem oX8_subjectIn : k_MOk mX8_subjectIn 2 := ⟨List.mem_filter.mpr ⟨List.mem_of_getElem? (i := 2028) (by decide +kernel), rfl⟩, w_97, by decide, by decide +kernel, by decide +kernel⟩
abbrev mX8_blockOf : k_M := (yX8_blockOf, cX8_blockOf, 3, (some .int), [])
theorem oX8_blockOf : k_MOk mX8_blockOf 2 := ⟨List.mem_filter.mpr ⟨List.mem_of_getElem? (i := 2032) (by decide +kernel), rfl⟩, w_97, by decide, by decide +kernel, by decide +kernel⟩
abbrev mX8_hasRoom : k_M := (yX8_hasRoom, cX8_hasRoom, 5, (some .boolean), [])
theorem oX8_hasRoom : k_MOk mX8_hasRoom 3 := ⟨List.mem_filter.mpr ⟨List.mem_of_getElem? (i := 2060) (by decide +kernel), rfl⟩, w_97, by decide, by decide +kernel, by decide +kernel⟩
abbrev mX8_worth : k_M := (yX8_worth, cX8_worth, 6, (some .int), [])
theorem oX8_worth : k_MOk mX8_worth 1 := ⟨List.mem_filter.mpr ⟨List.mem_of_getElem? (i := 2056) (by decide +kernel), rfl⟩, w_97, by decide, by decide +kernel, by decide +kernel⟩
abbrev mX8_lacksWish : k_M := (yX8_lacksWish, cX8_lacksWish, 4, (some .boolean), [])
theorem oX8_lacksWish : k_MOk mX8_lacksWish 1 := ⟨List.mem_filter.mpr ⟨List.mem_of_getElem? (i := 2064) (by decide +kernel), rfl⟩, w_97, by decide, by decide +kernel, by decide +kernel⟩
abbrev mX8_findsPlacement : k_M := (yX8_findsPlacement, cX8_findsPlacement, 6, none, [])
theorem oX8_findsPlacement : k_MOk mX8_findsPlacement 1 := ⟨List.mem_filter.mpr ⟨List.mem_of_getElem? (i := 2052) (by decide +kernel), rfl⟩, w_97, by decide, by decide +kernel, by decide +kernel⟩
abbrev mX8_enrolNow : k_M := (yX8_enrolNow, cX8_enrolNow, 3, (some .int), [])
theorem oX8_enrolNow : k_MOk mX8_enrolNow 1 := ⟨List.mem_filter.mpr ⟨List.mem_of_getElem? (i := 2044) (by decide +kernel), rfl⟩, w_97, by decide, by decide +kernel, by decide +kernel⟩
abbrev mX8_enrol : k_M := (yX8_enrol, cX8_enrol, 2, (some .int), [])
theorem oX8_enrol : k_MOk mX8_enrol 1 := ⟨List.mem_filter.mpr ⟨List.mem_of_getElem? (i := 2040) (by decide +kernel), rfl⟩, w_97, by decide, by decide +kernel, by decide +kernel⟩
abbrev mX8_isServed : k_M := (yX8_isServed, cX8_isServed, 4, (some .boolean), [])
theorem oX8_isServed : k_MOk mX8_isServed 1 := ⟨List.mem_filter.mpr ⟨List.mem_of_getElem? (i := 2072) (by decide +kernel), rfl⟩, w_97, by decide, by decide +kernel, by decide +kernel⟩
abbrev mX8_enrolAll : k_M := (yX8_enrolAll, cX8_enrolAll, 4, (some .int), [])
theorem oX8_enrolAll : k_MOk mX8_enrolAll 0 := ⟨List.mem_filter.mpr ⟨List.mem_of_getElem? (i := 2068) (by decide +kernel), rfl⟩, w_97, by decide, by decide +kernel, by decide +kernel⟩
abbrev mX8_withdrawNow : k_M := (yX8_withdrawNow, cX8_withdrawNow, 4, (some .int), [])
theorem oX8_withdrawNow : k_MOk mX8_withdrawNow 1 := ⟨List.mem_filter.mpr ⟨List.mem_of_getElem? (i := 2080) (by decide +kernel), rfl⟩, w_97, by decide, by decide +kernel, by decide +kernel⟩
abbrev mX8_withdraw : k_M := (yX8_withdraw, cX8_withdraw, 2, (some .int), [])
theorem oX8_withdraw : k_MOk mX8_withdraw 1 := ⟨List.mem_filter.mpr ⟨List.mem_of_getElem? (i := 2076) (by decide +kernel), rfl⟩, w_97, by decide, by decide +kernel, by decide +kernel⟩
abbrev mX8_bestValue : k_M := (yX8_bestValue, cX8_bestValue, 2, (some .int), [])
theorem oX8_bestValue : k_MOk mX8_bestValue 1 := ⟨List.mem_filter.mpr ⟨List.mem_of_getElem? (i := 2084) (by decide +kernel), rfl⟩, w_97, by decide, by decide +kernel, by decide +kernel⟩
abbrev mX8_canPlace : k_M := (yX8_canPlace, cX8_canPlace, 6, (some .boolean), [])
theorem oX8_canPlace : k_MOk mX8_canPlace 3 := ⟨List.mem_filter.mpr ⟨List.mem_of_getElem? (i := 2092) (by decide +kernel), rfl⟩, w_97, by decide, by decide +kernel, by decide +kernel⟩
abbrev mX8_more : k_M := (yX8_more, cX8_more, 9, (some .int), [])
theorem oX8_more : k_MOk mX8_more 4 := ⟨List.mem_filter.mpr ⟨List.mem_of_getElem? (i := 2096) (by decide +kernel), rfl⟩, w_97, by decide, by decide +kernel, by decide +kernel⟩
abbrev mX8_bestValueBySets : k_M := (yX8_bestValueBySets, cX8_bestValueBySets, 5, (some .int), [])
theorem oX8_bestValueBySets : k_MOk mX8_bestValueBySets 1 := ⟨List.mem_filter.mpr ⟨List.mem_of_getElem? (i := 2088) (by decide +kernel), rfl⟩, w_97, by decide, by decide +kernel, by decide +kernel⟩
abbrev mX8_isServable : k_M := (yX8_isServable, cX8_isServable, 2, (some .boolean), [])
theorem oX8_isServable : k_MOk mX8_isServable 1 := ⟨List.mem_filter.mpr ⟨List.mem_of_getElem? (i := 2104) (by decide +kernel), rfl⟩, w_97, by decide, by decide +kernel, by decide +kernel⟩
abbrev mX8_canServe : k_M := (yX8_canServe, cX8_canServe, 2, (some .boolean), [])
theorem oX8_canServe : k_MOk mX8_canServe 1 := ⟨List.mem_filter.mpr ⟨List.mem_of_getElem? (i := 2100) (by decide +kernel), rfl⟩, w_97, by decide, by decide +kernel, by decide +kernel⟩
abbrev mX8_canServeByCounting : k_M := (yX8_canServeByCounting, cX8_canServeByCounting, 9, (some .boolean), [])
theorem oX8_canServeByCounting : k_MOk mX8_canServeByCounting 1 := ⟨List.mem_filter.mpr ⟨List.mem_of_getElem? (i := 2108) (by decide +kernel), rfl⟩, w_97, by decide, by decide +kernel, by decide +kernel⟩
abbrev mX8_servedCount : k_M := (yX8_servedCount, cX8_servedCount, 3, (some .int), [])
theorem oX8_servedCount : k_MOk mX8_servedCount 0 := ⟨List.mem_filter.mpr ⟨List.mem_of_getElem? (i := 2112) (by decide +kernel), rfl⟩, w_97, by decide, by decide +kernel, by decide +kernel⟩
abbrev mX8_meanClassSize : k_M := (yX8_meanClassSize, cX8_meanClassSize, 4, (some .double), [])
theorem oX8_meanClassSize : k_MOk mX8_meanClassSize 0 := ⟨List.mem_filter.mpr ⟨List.mem_of_getElem? (i := 2116) (by decide +kernel), rfl⟩, w_97, by decide, by decide +kernel, by decide +kernel⟩
abbrev mX8_mover : k_M := (yX8_mover, cX8_mover, 5, (some .int), [])
theorem oX8_mover : k_MOk mX8_mover 3 := ⟨List.mem_filter.mpr ⟨List.mem_of_getElem? (i := 2140) (by decide +kernel), rfl⟩, w_97, by decide, by decide +kernel, by decide +kernel⟩
abbrev mX8_isEntry : k_M := (yX8_isEntry, cX8_isEntry, 4, (some .boolean), [])
theorem oX8_isEntry : k_MOk mX8_isEntry 3 := ⟨List.mem_filter.mpr ⟨List.mem_of_getElem? (i := 2136) (by decide +kernel), rfl⟩, w_97, by decide, by decide +kernel, by decide +kernel⟩
abbrev mX8_isChain : k_M := (yX8_isChain, cX8_isChain, 5, (some .boolean), [])
theorem oX8_isChain : k_MOk mX8_isChain 3 := ⟨List.mem_filter.mpr ⟨List.mem_of_getElem? (i := 2132) (by decide +kernel), rfl⟩, w_97, by decide, by decide +kernel, by decide +kernel⟩
abbrev mX8_findsChain : k_M := (yX8_findsChain, cX8_findsChain, 6, (some .int), [])
theorem oX8_findsChain : k_MOk mX8_findsChain 2 := ⟨List.mem_filter.mpr ⟨List.mem_of_getElem? (i := 2128) (by decide +kernel), rfl⟩, w_97, by decide, by decide +kernel, by decide +kernel⟩
abbrev mX8_asksMoves : k_M := (yX8_asksMoves, cX8_asksMoves, 4, (some .int), [])
theorem oX8_asksMoves : k_MOk mX8_asksMoves 2 := ⟨List.mem_filter.mpr ⟨List.mem_of_getElem? (i := 2124) (by decide +kernel), rfl⟩, w_97, by decide, by decide +kernel, by decide +kernel⟩
abbrev mX8_movesFor : k_M := (yX8_movesFor, cX8_movesFor, 3, (some .int), [])
theorem oX8_movesFor : k_MOk mX8_movesFor 2 := ⟨List.mem_filter.mpr ⟨List.mem_of_getElem? (i := 2120) (by decide +kernel), rfl⟩, w_97, by decide, by decide +kernel, by decide +kernel⟩
abbrev mX8_movesByTrial : k_M := (yX8_movesByTrial, cX8_movesByTrial, 3, (some .int), [])
theorem oX8_movesByTrial : k_MOk mX8_movesByTrial 2 := ⟨List.mem_filter.mpr ⟨List.mem_of_getElem? (i := 2144) (by decide +kernel), rfl⟩, w_97, by decide, by decide +kernel, by decide +kernel⟩
abbrev mX8_whyRefused : k_M := (yX8_whyRefused, cX8_whyRefused, 5, (some .int), [])
theorem oX8_whyRefused : k_MOk mX8_whyRefused 2 := ⟨List.mem_filter.mpr ⟨List.mem_of_getElem? (i := 2156) (by decide +kernel), rfl⟩, w_97, by decide, by decide +kernel, by decide +kernel⟩
abbrev mX8_joinNow : k_M := (yX8_joinNow, cX8_joinNow, 6, (some .int), [])
theorem oX8_joinNow : k_MOk mX8_joinNow 2 := ⟨List.mem_filter.mpr ⟨List.mem_of_getElem? (i := 2152) (by decide +kernel), rfl⟩, w_97, by decide, by decide +kernel, by decide +kernel⟩
abbrev mX8_join : k_M := (yX8_join, cX8_join, 3, (some .int), [])
theorem oX8_join : k_MOk mX8_join 2 := ⟨List.mem_filter.mpr ⟨List.mem_of_getElem? (i := 2148) (by decide +kernel), rfl⟩, w_97, by decide, by decide +kernel, by decide +kernel⟩
abbrev mX8_quitNow : k_M := (yX8_quitNow, cX8_quitNow, 4, (some .int), [])
theorem oX8_quitNow : k_MOk mX8_quitNow 2 := ⟨List.mem_filter.mpr ⟨List.mem_of_getElem? (i := 2164) (by decide +kernel), rfl⟩, w_97, by decide, by decide +kernel, by decide +kernel⟩
abbrev mX8_quit : k_M := (yX8_quit, cX8_quit, 3, (some .int), [])
theorem oX8_quit : k_MOk mX8_quit 2 := ⟨List.mem_filter.mpr ⟨List.mem_of_getElem? (i := 2160) (by decide +kernel), rfl⟩, w_97, by decide, by decide +kernel, by decide +kernel⟩
abbrev mX8_changeNow : k_M := (yX8_changeNow, cX8_changeNow, 6, (some .int), [])
theorem oX8_changeNow : k_MOk mX8_changeNow 3 := ⟨List.mem_filter.mpr ⟨List.mem_of_getElem? (i := 2172) (by decide +kernel), rfl⟩, w_97, by decide, by decide +kernel, by decide +kernel⟩
abbrev mX8_change : k_M := (yX8_change, cX8_change, 4, (some .int), [])
theorem oX8_change : k_MOk mX8_change 3 := ⟨List.mem_filter.mpr ⟨List.mem_of_getElem? (i := 2168) (by decide +kernel), rfl⟩, w_97, by decide, by decide +kernel, by decide +kernel⟩
abbrev mX8_refusalReason : k_M := (yX8_refusalReason, cX8_refusalReason, 1, (some .int), [])
theorem oX8_refusalReason : k_MOk mX8_refusalReason 0 := ⟨List.mem_filter.mpr ⟨List.mem_of_getElem? (i := 2176) (by decide +kernel), rfl⟩, w_97, by decide, by decide +kernel, by decide +kernel⟩
abbrev mX8_chainMoves : k_M := (yX8_chainMoves, cX8_chainMoves, 1, (some .int), [])
theorem oX8_chainMoves : k_MOk mX8_chainMoves 0 := ⟨List.mem_filter.mpr ⟨List.mem_of_getElem? (i := 2180) (by decide +kernel), rfl⟩, w_97, by decide, by decide +kernel, by decide +kernel⟩
abbrev mX8_chainPupil : k_M := (yX8_chainPupil, cX8_chainPupil, 2, (some .int), [])
theorem oX8_chainPupil : k_MOk mX8_chainPupil 1 := ⟨List.mem_filter.mpr ⟨List.mem_of_getElem? (i := 2184) (by decide +kernel), rfl⟩, w_97, by decide, by decide +kernel, by decide +kernel⟩
abbrev mX8_chainBlock : k_M := (yX8_chainBlock, cX8_chainBlock, 2, (some .int), [])
theorem oX8_chainBlock : k_MOk mX8_chainBlock 1 := ⟨List.mem_filter.mpr ⟨List.mem_of_getElem? (i := 2188) (by decide +kernel), rfl⟩, w_97, by decide, by decide +kernel, by decide +kernel⟩
abbrev mX8_common : k_M := (yX8_common, cX8_common, 5, (some .int), [])
theorem oX8_common : k_MOk mX8_common 2 := ⟨List.mem_filter.mpr ⟨List.mem_of_getElem? (i := 2200) (by decide +kernel), rfl⟩, w_97, by decide, by decide +kernel, by decide +kernel⟩
abbrev mX8_wrongPair : k_M := (yX8_wrongPair, cX8_wrongPair, 3, (some .int), [])
theorem oX8_wrongPair : k_MOk mX8_wrongPair 2 := ⟨List.mem_filter.mpr ⟨List.mem_of_getElem? (i := 2196) (by decide +kernel), rfl⟩, w_97, by decide, by decide +kernel, by decide +kernel⟩
abbrev mX8_commonWishes : k_M := (yX8_commonWishes, cX8_commonWishes, 3, (some .int), [])
theorem oX8_commonWishes : k_MOk mX8_commonWishes 2 := ⟨List.mem_filter.mpr ⟨List.mem_of_getElem? (i := 2192) (by decide +kernel), rfl⟩, w_97, by decide, by decide +kernel, by decide +kernel⟩
abbrev mX8_clash : k_M := (yX8_clash, cX8_clash, 5, (some .boolean), [])
theorem oX8_clash : k_MOk mX8_clash 2 := ⟨List.mem_filter.mpr ⟨List.mem_of_getElem? (i := 2208) (by decide +kernel), rfl⟩, w_97, by decide, by decide +kernel, by decide +kernel⟩
abbrev mX8_doClash : k_M := (yX8_doClash, cX8_doClash, 3, (some .boolean), [])
theorem oX8_doClash : k_MOk mX8_doClash 2 := ⟨List.mem_filter.mpr ⟨List.mem_of_getElem? (i := 2204) (by decide +kernel), rfl⟩, w_97, by decide, by decide +kernel, by decide +kernel⟩
abbrev mX8_clashCount : k_M := (yX8_clashCount, cX8_clashCount, 5, (some .int), [])
theorem oX8_clashCount : k_MOk mX8_clashCount 0 := ⟨List.mem_filter.mpr ⟨List.mem_of_getElem? (i := 2212) (by decide +kernel), rfl⟩, w_97, by decide, by decide +kernel, by decide +kernel⟩
abbrev mX8_findsArrangement : k_M := (yX8_findsArrangement, cX8_findsArrangement, 9, (some .int), [])
theorem oX8_findsArrangement : k_MOk mX8_findsArrangement 0 := ⟨List.mem_filter.mpr ⟨List.mem_of_getElem? (i := 2220) (by decide +kernel), rfl⟩, w_97, by decide, by decide +kernel, by decide +kernel⟩
abbrev mX8_leastClashes : k_M := (yX8_leastClashes, cX8_leastClashes, 1, (some .int), [])
theorem oX8_leastClashes : k_MOk mX8_leastClashes 0 := ⟨List.mem_filter.mpr ⟨List.mem_of_getElem? (i := 2216) (by decide +kernel), rfl⟩, w_97, by decide, by decide +kernel, by decide +kernel⟩
abbrev mX8_leastClashesByTrial : k_M := (yX8_leastClashesByTrial, cX8_leastClashesByTrial, 1, (some .int), [])
theorem oX8_leastClashesByTrial : k_MOk mX8_leastClashesByTrial 0 := ⟨List.mem_filter.mpr ⟨List.mem_of_getElem? (i := 2224) (by decide +kernel), rfl⟩, w_97, by decide, by decide +kernel, by decide +kernel⟩
abbrev mX8_arrangeNow : k_M := (yX8_arrangeNow, cX8_arrangeNow, 4, (some .int), [])
theorem oX8_arrangeNow : k_MOk mX8_arrangeNow 0 := ⟨List.mem_filter.mpr ⟨List.mem_of_getElem? (i := 2232) (by decide +kernel), rfl⟩, w_97, by decide, by decide +kernel, by decide +kernel⟩
abbrev mX8_arrange : k_M := (yX8_arrange, cX8_arrange, 1, (some .int), [])
theorem oX8_arrange : k_MOk mX8_arrange 0 := ⟨List.mem_filter.mpr ⟨List.mem_of_getElem? (i := 2228) (by decide +kernel), rfl⟩, w_97, by decide, by decide +kernel, by decide +kernel⟩
abbrev mX8_writes : k_M := (yX8_writes, cX8_writes, 2, none, [])
theorem oX8_writes : k_MOk mX8_writes 1 := ⟨List.mem_filter.mpr ⟨List.mem_of_getElem? (i := 2240) (by decide +kernel), rfl⟩, w_97, by decide, by decide +kernel, by decide +kernel⟩
abbrev mX8_writeTimetable : k_M := (yX8_writeTimetable, cX8_writeTimetable, 4, (some .int), [])
theorem oX8_writeTimetable : k_MOk mX8_writeTimetable 1 := ⟨List.mem_filter.mpr ⟨List.mem_of_getElem? (i := 2236) (by decide +kernel), rfl⟩, w_97, by decide, by decide +kernel, by decide +kernel⟩
abbrev mX8_lineAt : k_M := (yX8_lineAt, cX8_lineAt, 2, (some .char), [])
theorem oX8_lineAt : k_MOk mX8_lineAt 1 := ⟨List.mem_filter.mpr ⟨List.mem_of_getElem? (i := 2244) (by decide +kernel), rfl⟩, w_97, by decide, by decide +kernel, by decide +kernel⟩
abbrev mX8_type : k_M := (yX8_type, cX8_type, 2, (some .int), [])
theorem oX8_type : k_MOk mX8_type 1 := ⟨List.mem_filter.mpr ⟨List.mem_of_getElem? (i := 2248) (by decide +kernel), rfl⟩, w_97, by decide, by decide +kernel, by decide +kernel⟩
abbrev mX8_isDigit : k_M := (yX8_isDigit, cX8_isDigit, 2, (some .boolean), [])
theorem oX8_isDigit : k_MOk mX8_isDigit 1 := ⟨List.mem_filter.mpr ⟨List.mem_of_getElem? (i := 2266) (by decide +kernel), rfl⟩, w_97, by decide, by decide +kernel, by decide +kernel⟩
abbrev mX8_reads : k_M := (yX8_reads, cX8_reads, 8, (some .boolean), [])
theorem oX8_reads : k_MOk mX8_reads 2 := ⟨List.mem_filter.mpr ⟨List.mem_of_getElem? (i := 2260) (by decide +kernel), rfl⟩, w_97, by decide, by decide +kernel, by decide +kernel⟩
abbrev mX8_parses : k_M := (yX8_parses, cX8_parses, 5, (some .int), [])
theorem oX8_parses : k_MOk mX8_parses 0 := ⟨List.mem_filter.mpr ⟨List.mem_of_getElem? (i := 2256) (by decide +kernel), rfl⟩, w_97, by decide, by decide +kernel, by decide +kernel⟩
abbrev mX8_acts : k_M := (yX8_acts, cX8_acts, 5, (some .int), [])
theorem oX8_acts : k_MOk mX8_acts 4 := ⟨List.mem_filter.mpr ⟨List.mem_of_getElem? (i := 2270) (by decide +kernel), rfl⟩, w_97, by decide, by decide +kernel, by decide +kernel⟩
abbrev mX8_execute : k_M := (yX8_execute, cX8_execute, 4, (some .int), [])
theorem oX8_execute : k_MOk mX8_execute 0 := ⟨List.mem_filter.mpr ⟨List.mem_of_getElem? (i := 2252) (by decide +kernel), rfl⟩, w_97, by decide, by decide +kernel, by decide +kernel⟩
abbrev mX8_errorPosition : k_M := (yX8_errorPosition, cX8_errorPosition, 1, (some .int), [])
theorem oX8_errorPosition : k_MOk mX8_errorPosition 0 := ⟨List.mem_filter.mpr ⟨List.mem_of_getElem? (i := 2274) (by decide +kernel), rfl⟩, w_97, by decide, by decide +kernel, by decide +kernel⟩
abbrev mX8_failedCommand : k_M := (yX8_failedCommand, cX8_failedCommand, 1, (some .int), [])
theorem oX8_failedCommand : k_MOk mX8_failedCommand 0 := ⟨List.mem_filter.mpr ⟨List.mem_of_getElem? (i := 2278) (by decide +kernel), rfl⟩, w_97, by decide, by decide +kernel, by decide +kernel⟩
abbrev mX8_failureKind : k_M := (yX8_failureKind, cX8_failureKind, 1, (some .int), [])
theorem oX8_failureKind : k_MOk mX8_failureKind 0 := ⟨List.mem_filter.mpr ⟨List.mem_of_getElem? (i := 2282) (by decide +kernel), rfl⟩, w_97, by decide, by decide +kernel, by decide +kernel⟩
abbrev mJ5_init_d00df : k_M := (yJ5_init_d00df, cJ5_init_d00df, 2, none, [])
theorem oJ5_init_d00df : k_MOk mJ5_init_d00df 1 := ⟨List.mem_filter.mpr ⟨List.mem_of_getElem? (i := 312) (by decide +kernel), rfl⟩, w_93, by decide, by decide +kernel, by decide +kernel⟩
abbrev mJ5_length_8abf5 : k_M := (yJ5_length_8abf5, cJ5_length_8abf5, 1, (some .int), [])
theorem oJ5_length_8abf5 : k_MOk mJ5_length_8abf5 0 := ⟨List.mem_filter.mpr ⟨List.mem_of_getElem? (i := 1479) (by decide +kernel), rfl⟩, w_93, by decide, by decide +kernel, by decide +kernel⟩
abbrev mJ5_ensureCapacityInternal_d00df : k_M := (yJ5_ensureCapacityInternal_d00df, cJ5_ensureCapacityInternal_d00df, 3, none, [])
theorem oJ5_ensureCapacityInternal_d00df : k_MOk mJ5_ensureCapacityInternal_d00df 1 := ⟨List.mem_filter.mpr ⟨List.mem_of_getElem? (i := 1330) (by decide +kernel), rfl⟩, w_93, by decide, by decide +kernel, by decide +kernel⟩
abbrev mJ5_newCapacity_0f7a4 : k_M := (yJ5_newCapacity_0f7a4, cJ5_newCapacity_0f7a4, 6, (some .int), [])
theorem oJ5_newCapacity_0f7a4 : k_MOk mJ5_newCapacity_0f7a4 1 := ⟨List.mem_filter.mpr ⟨List.mem_of_getElem? (i := 1334) (by decide +kernel), rfl⟩, w_93, by decide, by decide +kernel, by decide +kernel⟩
abbrev mJ5_inflate_da8c8 : k_M := (yJ5_inflate_da8c8, cJ5_inflate_da8c8, 2, none, [])
theorem oJ5_inflate_da8c8 : k_MOk mJ5_inflate_da8c8 0 := ⟨List.mem_filter.mpr ⟨List.mem_of_getElem? (i := 1408) (by decide +kernel), rfl⟩, w_93, by decide, by decide +kernel, by decide +kernel⟩
abbrev mJ5_setLength_d00df : k_M := (yJ5_setLength_d00df, cJ5_setLength_d00df, 2, none, [])
theorem oJ5_setLength_d00df : k_MOk mJ5_setLength_d00df 1 := ⟨List.mem_filter.mpr ⟨List.mem_of_getElem? (i := 1307) (by decide +kernel), rfl⟩, w_93, by decide, by decide +kernel, by decide +kernel⟩
abbrev mJ5_charAt_5068e : k_M := (yJ5_charAt_5068e, cJ5_charAt_5068e, 5, (some .char), [])
theorem oJ5_charAt_5068e : k_MOk mJ5_charAt_5068e 1 := ⟨List.mem_filter.mpr ⟨List.mem_of_getElem? (i := 1593) (by decide +kernel), rfl⟩, w_93, by decide, by decide +kernel, by decide +kernel⟩
abbrev mJ5_append_cf1ce : k_M := (yJ5_append_cf1ce, cJ5_append_cf1ce, 3, (some (.object "java/lang/AbstractStringBuilder")), [])
theorem oJ5_append_cf1ce : k_MOk mJ5_append_cf1ce 1 := ⟨List.mem_filter.mpr ⟨List.mem_of_getElem? (i := 1322) (by decide +kernel), rfl⟩, w_93, by decide, by decide +kernel, by decide +kernel⟩
abbrev mJ5_appendNull_278bc : k_M := (yJ5_appendNull_278bc, cJ5_appendNull_278bc, 3, (some (.object "java/lang/AbstractStringBuilder")), [])
theorem oJ5_appendNull_278bc : k_MOk mJ5_appendNull_278bc 0 := ⟨List.mem_filter.mpr ⟨List.mem_of_getElem? (i := 1326) (by decide +kernel), rfl⟩, w_93, by decide, by decide +kernel, by decide +kernel⟩
abbrev mJ5_append_3fe6f : k_M := (yJ5_append_3fe6f, cJ5_append_3fe6f, 2, (some (.object "java/lang/AbstractStringBuilder")), [])
theorem oJ5_append_3fe6f : k_MOk mJ5_append_3fe6f 1 := ⟨List.mem_filter.mpr ⟨List.mem_of_getElem? (i := 1559) (by decide +kernel), rfl⟩, w_93, by decide, by decide +kernel, by decide +kernel⟩
abbrev mJ5_append_c97b9 : k_M := (yJ5_append_c97b9, cJ5_append_c97b9, 4, (some (.object "java/lang/AbstractStringBuilder")), [])
theorem oJ5_append_c97b9 : k_MOk mJ5_append_c97b9 1 := ⟨List.mem_filter.mpr ⟨List.mem_of_getElem? (i := 1436) (by decide +kernel), rfl⟩, w_93, by decide, by decide +kernel, by decide +kernel⟩
abbrev mJ5_getValue_6d5f1 : k_M := (yJ5_getValue_6d5f1, cJ5_getValue_6d5f1, 1, (some (.array .byte)), [])
theorem oJ5_getValue_6d5f1 : k_MOk mJ5_getValue_6d5f1 0 := ⟨List.mem_filter.mpr ⟨List.mem_of_getElem? (i := 1471) (by decide +kernel), rfl⟩, w_93, by decide, by decide +kernel, by decide +kernel⟩
abbrev mJ5_isLatin1_aae02 : k_M := (yJ5_isLatin1_aae02, cJ5_isLatin1_aae02, 1, (some .boolean), [])
theorem oJ5_isLatin1_aae02 : k_MOk mJ5_isLatin1_aae02 0 := ⟨List.mem_filter.mpr ⟨List.mem_of_getElem? (i := 1360) (by decide +kernel), rfl⟩, w_93, by decide, by decide +kernel, by decide +kernel⟩
abbrev mJ5_inflateIfNeededFor_a7421 : k_M := (yJ5_inflateIfNeededFor_a7421, cJ5_inflateIfNeededFor_a7421, 2, none, [])
theorem oJ5_inflateIfNeededFor_a7421 : k_MOk mJ5_inflateIfNeededFor_a7421 1 := ⟨List.mem_filter.mpr ⟨List.mem_of_getElem? (i := 1403) (by decide +kernel), rfl⟩, w_93, by decide, by decide +kernel, by decide +kernel⟩
abbrev mJ5_putStringAt_47b60 : k_M := (yJ5_putStringAt_47b60, cJ5_putStringAt_47b60, 3, none, [])
theorem oJ5_putStringAt_47b60 : k_MOk mJ5_putStringAt_47b60 2 := ⟨List.mem_filter.mpr ⟨List.mem_of_getElem? (i := 1399) (by decide +kernel), rfl⟩, w_93, by decide, by decide +kernel, by decide +kernel⟩
abbrev mJx00060_init_a7421 : k_M := (yJx00060_init_a7421, cJx00060_init_a7421, 2, none, [])
theorem oJx00060_init_a7421 : k_MOk mJx00060_init_a7421 1 := ⟨List.mem_filter.mpr ⟨List.mem_of_getElem? (i := 900) (by decide +kernel), rfl⟩, w_109, by decide, by decide +kernel, by decide +kernel⟩
abbrev mJx00060_init_d00df : k_M := (yJx00060_init_d00df, cJx00060_init_d00df, 2, none, [])
theorem oJx00060_init_d00df : k_MOk mJx00060_init_d00df 1 := ⟨List.mem_filter.mpr ⟨List.mem_of_getElem? (i := 1541) (by decide +kernel), rfl⟩, w_109, by decide, by decide +kernel, by decide +kernel⟩
abbrev mJ6_getChars_ba4f3 : k_M := (yJ6_getChars_ba4f3, cJ6_getChars_ba4f3, 7, (some .int), [])
theorem oJ6_getChars_ba4f3 : k_MOk mJ6_getChars_ba4f3 3 := ⟨List.mem_filter.mpr ⟨List.mem_of_getElem? (i := 1442) (by decide +kernel), rfl⟩, w_99, by decide, by decide +kernel, by decide +kernel⟩
abbrev mJ6_stringSize_0f7a4 : k_M := (yJ6_stringSize_0f7a4, cJ6_stringSize_0f7a4, 4, (some .int), [])
theorem oJ6_stringSize_0f7a4 : k_MOk mJ6_stringSize_0f7a4 1 := ⟨List.mem_filter.mpr ⟨List.mem_of_getElem? (i := 1439) (by decide +kernel), rfl⟩, w_99, by decide, by decide +kernel, by decide +kernel⟩
abbrev mJ6_bitCount_0f7a4 : k_M := (yJ6_bitCount_0f7a4, cJ6_bitCount_0f7a4, 1, (some .int), [])
theorem oJ6_bitCount_0f7a4 : k_MOk mJ6_bitCount_0f7a4 1 := ⟨List.mem_filter.mpr ⟨List.mem_of_getElem? (i := 493) (by decide +kernel), rfl⟩, w_99, by decide, by decide +kernel, by decide +kernel⟩
abbrev mJ9_max_7cf53 : k_M := (yJ9_max_7cf53, cJ9_max_7cf53, 2, (some .int), [])
theorem oJ9_max_7cf53 : k_MOk mJ9_max_7cf53 2 := ⟨List.mem_filter.mpr ⟨List.mem_of_getElem? (i := 932) (by decide +kernel), rfl⟩, w_107, by decide, by decide +kernel, by decide +kernel⟩
abbrev mJ9_min_7cf53 : k_M := (yJ9_min_7cf53, cJ9_min_7cf53, 2, (some .int), [])
theorem oJ9_min_7cf53 : k_MOk mJ9_min_7cf53 2 := ⟨List.mem_filter.mpr ⟨List.mem_of_getElem? (i := 434) (by decide +kernel), rfl⟩, w_107, by decide, by decide +kernel, by decide +kernel⟩
abbrev mJ0_init_81219 : k_M := (yJ0_init_81219, cJ0_init_81219, 2, none, [])
theorem oJ0_init_81219 : k_MOk mJ0_init_81219 1 := ⟨List.mem_filter.mpr ⟨List.mem_of_getElem? (i := 1462) (by decide +kernel), rfl⟩, w_95, by decide, by decide +kernel, by decide +kernel⟩
abbrev mJ0_length_8abf5 : k_M := (yJ0_length_8abf5, cJ0_length_8abf5, 1, (some .int), [])
theorem oJ0_length_8abf5 : k_MOk mJ0_length_8abf5 0 := ⟨List.mem_filter.mpr ⟨List.mem_of_getElem? (i := 1390) (by decide +kernel), rfl⟩, w_95, by decide, by decide +kernel, by decide +kernel⟩
abbrev mJ0_charAt_5068e : k_M := (yJ0_charAt_5068e, cJ0_charAt_5068e, 2, (some .char), [])
theorem oJ0_charAt_5068e : k_MOk mJ0_charAt_5068e 1 := ⟨List.mem_filter.mpr ⟨List.mem_of_getElem? (i := 1644) (by decide +kernel), rfl⟩, w_95, by decide, by decide +kernel, by decide +kernel⟩
abbrev mJ0_getBytes_840e7 : k_M := (yJ0_getBytes_840e7, cJ0_getBytes_840e7, 4, none, [])
theorem oJ0_getBytes_840e7 : k_MOk mJ0_getBytes_840e7 3 := ⟨List.mem_filter.mpr ⟨List.mem_of_getElem? (i := 1427) (by decide +kernel), rfl⟩, w_95, by decide, by decide +kernel, by decide +kernel⟩
abbrev mJ0_init_db425 : k_M := (yJ0_init_db425, cJ0_init_db425, 5, none, [])
theorem oJ0_init_db425 : k_MOk mJ0_init_db425 2 := ⟨List.mem_filter.mpr ⟨List.mem_of_getElem? (i := 1465) (by decide +kernel), rfl⟩, w_95, by decide, by decide +kernel, by decide +kernel⟩
abbrev mJ0_coder_7d493 : k_M := (yJ0_coder_7d493, cJ0_coder_7d493, 1, (some .byte), [])
theorem oJ0_coder_7d493 : k_MOk mJ0_coder_7d493 0 := ⟨List.mem_filter.mpr ⟨List.mem_of_getElem? (i := 1394) (by decide +kernel), rfl⟩, w_95, by decide, by decide +kernel, by decide +kernel⟩
abbrev mJ0_isLatin1_aae02 : k_M := (yJ0_isLatin1_aae02, cJ0_isLatin1_aae02, 1, (some .boolean), [])
theorem oJ0_isLatin1_aae02 : k_MOk mJ0_isLatin1_aae02 0 := ⟨List.mem_filter.mpr ⟨List.mem_of_getElem? (i := 1648) (by decide +kernel), rfl⟩, w_95, by decide, by decide +kernel, by decide +kernel⟩
abbrev mJ0_checkIndex_df160 : k_M := (yJ0_checkIndex_df160, cJ0_checkIndex_df160, 2, none, [])
theorem oJ0_checkIndex_df160 : k_MOk mJ0_checkIndex_df160 2 := ⟨List.mem_filter.mpr ⟨List.mem_of_getElem? (i := 1571) (by decide +kernel), rfl⟩, w_95, by decide, by decide +kernel, by decide +kernel⟩
abbrev mJ0_checkBoundsOffCount_cabcc : k_M := (yJ0_checkBoundsOffCount_cabcc, cJ0_checkBoundsOffCount_cabcc, 3, (some .int), [])
theorem oJ0_checkBoundsOffCount_cabcc : k_MOk mJ0_checkBoundsOffCount_cabcc 3 := ⟨List.mem_filter.mpr ⟨List.mem_of_getElem? (i := 1420) (by decide +kernel), rfl⟩, w_95, by decide, by decide +kernel, by decide +kernel⟩
abbrev mJ0_checkBoundsBeginEnd_23922 : k_M := (yJ0_checkBoundsBeginEnd_23922, cJ0_checkBoundsBeginEnd_23922, 3, none, [])
theorem oJ0_checkBoundsBeginEnd_23922 : k_MOk mJ0_checkBoundsBeginEnd_23922 3 := ⟨List.mem_filter.mpr ⟨List.mem_of_getElem? (i := 1372) (by decide +kernel), rfl⟩, w_95, by decide, by decide +kernel, by decide +kernel⟩
abbrev mJ4_init_da8c8 : k_M := (yJ4_init_da8c8, cJ4_init_da8c8, 1, none, [])
theorem oJ4_init_da8c8 : k_MOk mJ4_init_da8c8 0 := ⟨List.mem_filter.mpr ⟨List.mem_of_getElem? (i := 309) (by decide +kernel), rfl⟩, w_94, by decide, by decide +kernel, by decide +kernel⟩
abbrev mJ4_append_15ec4 : k_M := (yJ4_append_15ec4, cJ4_append_15ec4, 2, (some (.object "java/lang/StringBuilder")), [])
theorem oJ4_append_15ec4 : k_MOk mJ4_append_15ec4 1 := ⟨List.mem_filter.mpr ⟨List.mem_of_getElem? (i := 1319) (by decide +kernel), rfl⟩, w_94, by decide, by decide +kernel, by decide +kernel⟩
abbrev mJ4_append_cf468 : k_M := (yJ4_append_cf468, cJ4_append_cf468, 2, (some (.object "java/lang/StringBuilder")), [])
theorem oJ4_append_cf468 : k_MOk mJ4_append_cf468 1 := ⟨List.mem_filter.mpr ⟨List.mem_of_getElem? (i := 1556) (by decide +kernel), rfl⟩, w_94, by decide, by decide +kernel, by decide +kernel⟩
abbrev mJ4_append_bf812 : k_M := (yJ4_append_bf812, cJ4_append_bf812, 2, (some (.object "java/lang/StringBuilder")), [])
theorem oJ4_append_bf812 : k_MOk mJ4_append_bf812 1 := ⟨List.mem_filter.mpr ⟨List.mem_of_getElem? (i := 1433) (by decide +kernel), rfl⟩, w_94, by decide, by decide +kernel, by decide +kernel⟩
abbrev mJ4_toString_0e30d : k_M := (yJ4_toString_0e30d, cJ4_toString_0e30d, 1, (some (.object "java/lang/String")), [])
theorem oJ4_toString_0e30d : k_MOk mJ4_toString_0e30d 0 := ⟨List.mem_filter.mpr ⟨List.mem_of_getElem? (i := 1458) (by decide +kernel), rfl⟩, w_94, by decide, by decide +kernel, by decide +kernel⟩
abbrev mJ4_charAt_5068e : k_M := (yJ4_charAt_5068e, cJ4_charAt_5068e, 2, (some .char), [])
theorem oJ4_charAt_5068e : k_MOk mJ4_charAt_5068e 1 := ⟨List.mem_filter.mpr ⟨List.mem_of_getElem? (i := 1590) (by decide +kernel), rfl⟩, w_94, by decide, by decide +kernel, by decide +kernel⟩
abbrev mJ4_setLength_d00df : k_M := (yJ4_setLength_d00df, cJ4_setLength_d00df, 2, none, [])
theorem oJ4_setLength_d00df : k_MOk mJ4_setLength_d00df 1 := ⟨List.mem_filter.mpr ⟨List.mem_of_getElem? (i := 1304) (by decide +kernel), rfl⟩, w_94, by decide, by decide +kernel, by decide +kernel⟩
abbrev mJ4_length_8abf5 : k_M := (yJ4_length_8abf5, cJ4_length_8abf5, 1, (some .int), [])
theorem oJ4_length_8abf5 : k_MOk mJ4_length_8abf5 0 := ⟨List.mem_filter.mpr ⟨List.mem_of_getElem? (i := 1477) (by decide +kernel), rfl⟩, w_94, by decide, by decide +kernel, by decide +kernel⟩
abbrev mJx7c733_init_d00df : k_M := (yJx7c733_init_d00df, cJx7c733_init_d00df, 2, none, [])
theorem oJx7c733_init_d00df : k_MOk mJx7c733_init_d00df 1 := ⟨List.mem_filter.mpr ⟨List.mem_of_getElem? (i := 1312) (by decide +kernel), rfl⟩, w_112, by decide, by decide +kernel, by decide +kernel⟩
abbrev mJ1_charAt_3b067 : k_M := (yJ1_charAt_3b067, cJ1_charAt_3b067, 2, (some .char), [])
theorem oJ1_charAt_3b067 : k_MOk mJ1_charAt_3b067 2 := ⟨List.mem_filter.mpr ⟨List.mem_of_getElem? (i := 1651) (by decide +kernel), rfl⟩, w_116, by decide, by decide +kernel, by decide +kernel⟩
abbrev mJ1_canEncode_fc78d : k_M := (yJ1_canEncode_fc78d, cJ1_canEncode_fc78d, 1, (some .boolean), [])
theorem oJ1_canEncode_fc78d : k_MOk mJ1_canEncode_fc78d 1 := ⟨List.mem_filter.mpr ⟨List.mem_of_getElem? (i := 1562) (by decide +kernel), rfl⟩, w_116, by decide, by decide +kernel, by decide +kernel⟩
abbrev mJ1_fillNull_b72d1 : k_M := (yJ1_fillNull_b72d1, cJ1_fillNull_b72d1, 3, none, [])
theorem oJ1_fillNull_b72d1 : k_MOk mJ1_fillNull_b72d1 3 := ⟨List.mem_filter.mpr ⟨List.mem_of_getElem? (i := 1528) (by decide +kernel), rfl⟩, w_116, by decide, by decide +kernel, by decide +kernel⟩
abbrev mJ1_inflate_0e8fd : k_M := (yJ1_inflate_0e8fd, cJ1_inflate_0e8fd, 5, none, [])
theorem oJ1_inflate_0e8fd : k_MOk mJ1_inflate_0e8fd 5 := ⟨List.mem_filter.mpr ⟨List.mem_of_getElem? (i := 1411) (by decide +kernel), rfl⟩, w_116, by decide, by decide +kernel, by decide +kernel⟩
abbrev mJ2_newBytesFor_77867 : k_M := (yJ2_newBytesFor_77867, cJ2_newBytesFor_77867, 1, (some (.array .byte)), [])
theorem oJ2_newBytesFor_77867 : k_MOk mJ2_newBytesFor_77867 1 := ⟨List.mem_filter.mpr ⟨List.mem_of_getElem? (i := 318) (by decide +kernel), rfl⟩, w_96, by decide, by decide +kernel, by decide +kernel⟩
abbrev mJ2_newBytesLength_0f7a4 : k_M := (yJ2_newBytesLength_0f7a4, cJ2_newBytesLength_0f7a4, 1, (some .int), [])
theorem oJ2_newBytesLength_0f7a4 : k_MOk mJ2_newBytesLength_0f7a4 1 := ⟨List.mem_filter.mpr ⟨List.mem_of_getElem? (i := 321) (by decide +kernel), rfl⟩, w_96, by decide, by decide +kernel, by decide +kernel⟩
abbrev mJ2_putChar_b72d1 : k_M := (yJ2_putChar_b72d1, cJ2_putChar_b72d1, 3, none, [])
theorem oJ2_putChar_b72d1 : k_MOk mJ2_putChar_b72d1 3 := ⟨List.mem_filter.mpr ⟨List.mem_of_getElem? (i := 1380) (by decide +kernel), rfl⟩, w_96, by decide, by decide +kernel, by decide +kernel⟩
abbrev mJ2_getChar_3b067 : k_M := (yJ2_getChar_3b067, cJ2_getChar_3b067, 2, (some .char), [])
theorem oJ2_getChar_3b067 : k_MOk mJ2_getChar_3b067 2 := ⟨List.mem_filter.mpr ⟨List.mem_of_getElem? (i := 1506) (by decide +kernel), rfl⟩, w_96, by decide, by decide +kernel, by decide +kernel⟩
abbrev mJ2_length_9d52b : k_M := (yJ2_length_9d52b, cJ2_length_9d52b, 1, (some .int), [])
theorem oJ2_length_9d52b : k_MOk mJ2_length_9d52b 1 := ⟨List.mem_filter.mpr ⟨List.mem_of_getElem? (i := 1369) (by decide +kernel), rfl⟩, w_96, by decide, by decide +kernel, by decide +kernel⟩
abbrev mJ2_coderFromArrayLen_85cad : k_M := (yJ2_coderFromArrayLen_85cad, cJ2_coderFromArrayLen_85cad, 2, (some .byte), [])
theorem oJ2_coderFromArrayLen_85cad : k_MOk mJ2_coderFromArrayLen_85cad 2 := ⟨List.mem_filter.mpr ⟨List.mem_of_getElem? (i := 1510) (by decide +kernel), rfl⟩, w_96, by decide, by decide +kernel, by decide +kernel⟩
abbrev mJ2_compress_39247 : k_M := (yJ2_compress_39247, cJ2_compress_39247, 6, (some (.array .byte)), [])
theorem oJ2_compress_39247 : k_MOk mJ2_compress_39247 3 := ⟨List.mem_filter.mpr ⟨List.mem_of_getElem? (i := 1500) (by decide +kernel), rfl⟩, w_96, by decide, by decide +kernel, by decide +kernel⟩
abbrev mJ2_compress_5af95 : k_M := (yJ2_compress_5af95, cJ2_compress_5af95, 7, (some .int), [])
theorem oJ2_compress_5af95 : k_MOk mJ2_compress_5af95 5 := ⟨List.mem_filter.mpr ⟨List.mem_of_getElem? (i := 1503) (by decide +kernel), rfl⟩, w_96, by decide, by decide +kernel, by decide +kernel⟩
abbrev mJ2_fillNull_b72d1 : k_M := (yJ2_fillNull_b72d1, cJ2_fillNull_b72d1, 3, none, [])
theorem oJ2_fillNull_b72d1 : k_MOk mJ2_fillNull_b72d1 3 := ⟨List.mem_filter.mpr ⟨List.mem_of_getElem? (i := 1550) (by decide +kernel), rfl⟩, w_96, by decide, by decide +kernel, by decide +kernel⟩
abbrev mJ2_putCharSB_b72d1 : k_M := (yJ2_putCharSB_b72d1, cJ2_putCharSB_b72d1, 3, none, [])
theorem oJ2_putCharSB_b72d1 : k_MOk mJ2_putCharSB_b72d1 3 := ⟨List.mem_filter.mpr ⟨List.mem_of_getElem? (i := 1565) (by decide +kernel), rfl⟩, w_96, by decide, by decide +kernel, by decide +kernel⟩
abbrev mJ2_getChars_46870 : k_M := (yJ2_getChars_46870, cJ2_getChars_46870, 5, (some .int), [])
theorem oJ2_getChars_46870 : k_MOk mJ2_getChars_46870 4 := ⟨List.mem_filter.mpr ⟨List.mem_of_getElem? (i := 1449) (by decide +kernel), rfl⟩, w_96, by decide, by decide +kernel, by decide +kernel⟩
abbrev mJ2_putCharsAt_cd4e5 : k_M := (yJ2_putCharsAt_cd4e5, cJ2_putCharsAt_cd4e5, 7, (some .int), [])
theorem oJ2_putCharsAt_cd4e5 : k_MOk mJ2_putCharsAt_cd4e5 6 := ⟨List.mem_filter.mpr ⟨List.mem_of_getElem? (i := 1363) (by decide +kernel), rfl⟩, w_96, by decide, by decide +kernel, by decide +kernel⟩
abbrev mJ2_charAt_3b067 : k_M := (yJ2_charAt_3b067, cJ2_charAt_3b067, 2, (some .char), [])
theorem oJ2_charAt_3b067 : k_MOk mJ2_charAt_3b067 2 := ⟨List.mem_filter.mpr ⟨List.mem_of_getElem? (i := 1655) (by decide +kernel), rfl⟩, w_96, by decide, by decide +kernel, by decide +kernel⟩
abbrev mJ2_inflate_0e8fd : k_M := (yJ2_inflate_0e8fd, cJ2_inflate_0e8fd, 6, none, [])
theorem oJ2_inflate_0e8fd : k_MOk mJ2_inflate_0e8fd 5 := ⟨List.mem_filter.mpr ⟨List.mem_of_getElem? (i := 1414) (by decide +kernel), rfl⟩, w_96, by decide, by decide +kernel, by decide +kernel⟩
abbrev mJ2_getChars_ba4f3 : k_M := (yJ2_getChars_ba4f3, cJ2_getChars_ba4f3, 7, (some .int), [])
theorem oJ2_getChars_ba4f3 : k_MOk mJ2_getChars_ba4f3 3 := ⟨List.mem_filter.mpr ⟨List.mem_of_getElem? (i := 1452) (by decide +kernel), rfl⟩, w_96, by decide, by decide +kernel, by decide +kernel⟩
abbrev mJ2_checkIndex_2214a : k_M := (yJ2_checkIndex_2214a, cJ2_checkIndex_2214a, 2, none, [])
theorem oJ2_checkIndex_2214a : k_MOk mJ2_checkIndex_2214a 2 := ⟨List.mem_filter.mpr ⟨List.mem_of_getElem? (i := 1568) (by decide +kernel), rfl⟩, w_96, by decide, by decide +kernel, by decide +kernel⟩
abbrev mJ2_checkBoundsBeginEnd_d044e : k_M := (yJ2_checkBoundsBeginEnd_d044e, cJ2_checkBoundsBeginEnd_d044e, 3, none, [])
theorem oJ2_checkBoundsBeginEnd_d044e : k_MOk mJ2_checkBoundsBeginEnd_d044e 3 := ⟨List.mem_filter.mpr ⟨List.mem_of_getElem? (i := 1366) (by decide +kernel), rfl⟩, w_96, by decide, by decide +kernel, by decide +kernel⟩
abbrev mJ2_checkBoundsOffCount_d044e : k_M := (yJ2_checkBoundsOffCount_d044e, cJ2_checkBoundsOffCount_d044e, 3, none, [])
theorem oJ2_checkBoundsOffCount_d044e : k_MOk mJ2_checkBoundsOffCount_d044e 3 := ⟨List.mem_filter.mpr ⟨List.mem_of_getElem? (i := 1417) (by decide +kernel), rfl⟩, w_96, by decide, by decide +kernel, by decide +kernel⟩
abbrev mJ7_rangeCheck_23922 : k_M := (yJ7_rangeCheck_23922, cJ7_rangeCheck_23922, 3, none, [])
theorem oJ7_rangeCheck_23922 : k_MOk mJ7_rangeCheck_23922 3 := ⟨List.mem_filter.mpr ⟨List.mem_of_getElem? (i := 1534) (by decide +kernel), rfl⟩, w_114, by decide, by decide +kernel, by decide +kernel⟩
abbrev mJ7_fill_eb02e : k_M := (yJ7_fill_eb02e, cJ7_fill_eb02e, 5, none, [])
theorem oJ7_fill_eb02e : k_MOk mJ7_fill_eb02e 4 := ⟨List.mem_filter.mpr ⟨List.mem_of_getElem? (i := 1531) (by decide +kernel), rfl⟩, w_114, by decide, by decide +kernel, by decide +kernel⟩
abbrev mJ7_copyOf_9075b : k_M := (yJ7_copyOf_9075b, cJ7_copyOf_9075b, 3, (some (.array .byte)), [])
theorem oJ7_copyOf_9075b : k_MOk mJ7_copyOf_9075b 2 := ⟨List.mem_filter.mpr ⟨List.mem_of_getElem? (i := 1346) (by decide +kernel), rfl⟩, w_114, by decide, by decide +kernel, by decide +kernel⟩
abbrev mJ7_checkLength_df160 : k_M := (yJ7_checkLength_df160, cJ7_checkLength_df160, 2, none, [])
theorem oJ7_checkLength_df160 : k_MOk mJ7_checkLength_df160 2 := ⟨List.mem_filter.mpr ⟨List.mem_of_getElem? (i := 1489) (by decide +kernel), rfl⟩, w_114, by decide, by decide +kernel, by decide +kernel⟩
abbrev mJ7_copyOfRange_39247 : k_M := (yJ7_copyOfRange_39247, cJ7_copyOfRange_39247, 3, (some (.array .byte)), [])
theorem oJ7_copyOfRange_39247 : k_MOk mJ7_copyOfRange_39247 3 := ⟨List.mem_filter.mpr ⟨List.mem_of_getElem? (i := 1483) (by decide +kernel), rfl⟩, w_114, by decide, by decide +kernel, by decide +kernel⟩
abbrev mJ7_copyOfRangeByte_39247 : k_M := (yJ7_copyOfRangeByte_39247, cJ7_copyOfRangeByte_39247, 5, (some (.array .byte)), [])
theorem oJ7_copyOfRangeByte_39247 : k_MOk mJ7_copyOfRangeByte_39247 3 := ⟨List.mem_filter.mpr ⟨List.mem_of_getElem? (i := 1486) (by decide +kernel), rfl⟩, w_114, by decide, by decide +kernel, by decide +kernel⟩
abbrev mJ8_newLength_cabcc : k_M := (yJ8_newLength_cabcc, cJ8_newLength_cabcc, 4, (some .int), [])
theorem oJ8_newLength_cabcc : k_MOk mJ8_newLength_cabcc 3 := ⟨List.mem_filter.mpr ⟨List.mem_of_getElem? (i := 1337) (by decide +kernel), rfl⟩, w_113, by decide, by decide +kernel, by decide +kernel⟩
abbrev mJ8_hugeLength_7cf53 : k_M := (yJ8_hugeLength_7cf53, cJ8_hugeLength_7cf53, 3, (some .int), [])
theorem oJ8_hugeLength_7cf53 : k_MOk mJ8_hugeLength_7cf53 2 := ⟨List.mem_filter.mpr ⟨List.mem_of_getElem? (i := 1342) (by decide +kernel), rfl⟩, w_113, by decide, by decide +kernel, by decide +kernel⟩
abbrev mJ3_checkIndex_8e157 : k_M := (yJ3_checkIndex_8e157, cJ3_checkIndex_8e157, 3, (some .int), [])
theorem oJ3_checkIndex_8e157 : k_MOk mJ3_checkIndex_8e157 3 := ⟨List.mem_filter.mpr ⟨List.mem_of_getElem? (i := 1574) (by decide +kernel), rfl⟩, w_115, by decide, by decide +kernel, by decide +kernel⟩
abbrev mJ3_checkFromToIndex_8c36e : k_M := (yJ3_checkFromToIndex_8c36e, cJ3_checkFromToIndex_8c36e, 4, (some .int), [])
theorem oJ3_checkFromToIndex_8c36e : k_MOk mJ3_checkFromToIndex_8c36e 4 := ⟨List.mem_filter.mpr ⟨List.mem_of_getElem? (i := 1377) (by decide +kernel), rfl⟩, w_115, by decide, by decide +kernel, by decide +kernel⟩
abbrev mJ3_checkFromIndexSize_8c36e : k_M := (yJ3_checkFromIndexSize_8c36e, cJ3_checkFromIndexSize_8c36e, 4, (some .int), [])
theorem oJ3_checkFromIndexSize_8c36e : k_MOk mJ3_checkFromIndexSize_8c36e 4 := ⟨List.mem_filter.mpr ⟨List.mem_of_getElem? (i := 1423) (by decide +kernel), rfl⟩, w_115, by decide, by decide +kernel, by decide +kernel⟩
abbrev mL_addSubject : k_M := (yL_addSubject, cL_addSubject, 4, (some .int), [(0, 9, 12, 13), (0, 9, 15, 15)])
theorem oL_addSubject : k_MOk mL_addSubject 3 := ⟨List.mem_filter.mpr ⟨List.mem_of_getElem? (i := 606) (by decide +kernel), rfl⟩, w_84, by decide, by decide +kernel, by decide +kernel⟩
abbrev mL_setSize : k_M := (yL_setSize, cL_setSize, 5, (some .int), [(0, 10, 13, 21), (0, 10, 17, 13), (0, 10, 21, 15)])
theorem oL_setSize : k_MOk mL_setSize 4 := ⟨List.mem_filter.mpr ⟨List.mem_of_getElem? (i := 896) (by decide +kernel), rfl⟩, w_84, by decide, by decide +kernel, by decide +kernel⟩
abbrev mL_sizeOf : k_M := (yL_sizeOf, cL_sizeOf, 4, (some .int), [(0, 9, 12, 21)])
theorem oL_sizeOf : k_MOk mL_sizeOf 3 := ⟨List.mem_filter.mpr ⟨List.mem_of_getElem? (i := 939) (by decide +kernel), rfl⟩, w_84, by decide, by decide +kernel, by decide +kernel⟩
abbrev mL_setBlockCount : k_M := (yL_setBlockCount, cL_setBlockCount, 4, (some .int), [(0, 9, 12, 13), (0, 9, 15, 15)])
theorem oL_setBlockCount : k_MOk mL_setBlockCount 3 := ⟨List.mem_filter.mpr ⟨List.mem_of_getElem? (i := 951) (by decide +kernel), rfl⟩, w_84, by decide, by decide +kernel, by decide +kernel⟩
abbrev mL_openClass : k_M := (yL_openClass, cL_openClass, 5, (some .int), [(0, 10, 13, 21), (0, 10, 17, 15)])
theorem oL_openClass : k_MOk mL_openClass 4 := ⟨List.mem_filter.mpr ⟨List.mem_of_getElem? (i := 958) (by decide +kernel), rfl⟩, w_84, by decide, by decide +kernel, by decide +kernel⟩
abbrev mL_closeClass : k_M := (yL_closeClass, cL_closeClass, 5, (some .int), [(0, 10, 13, 21), (0, 10, 17, 15)])
theorem oL_closeClass : k_MOk mL_closeClass 4 := ⟨List.mem_filter.mpr ⟨List.mem_of_getElem? (i := 965) (by decide +kernel), rfl⟩, w_84, by decide, by decide +kernel, by decide +kernel⟩
abbrev mL_isOpen : k_M := (yL_isOpen, cL_isOpen, 5, (some .int), [(0, 17, 20, 21)])
theorem oL_isOpen : k_MOk mL_isOpen 4 := ⟨List.mem_filter.mpr ⟨List.mem_of_getElem? (i := 972) (by decide +kernel), rfl⟩, w_84, by decide, by decide +kernel, by decide +kernel⟩
abbrev mL_pupilsInClass : k_M := (yL_pupilsInClass, cL_pupilsInClass, 5, (some .int), [(0, 10, 13, 21)])
theorem oL_pupilsInClass : k_MOk mL_pupilsInClass 4 := ⟨List.mem_filter.mpr ⟨List.mem_of_getElem? (i := 981) (by decide +kernel), rfl⟩, w_84, by decide, by decide +kernel, by decide +kernel⟩
abbrev mL_pupilInClass : k_M := (yL_pupilInClass, cL_pupilInClass, 6, (some .int), [(0, 12, 15, 21), (0, 12, 19, 46)])
theorem oL_pupilInClass : k_MOk mL_pupilInClass 5 := ⟨List.mem_filter.mpr ⟨List.mem_of_getElem? (i := 990) (by decide +kernel), rfl⟩, w_84, by decide, by decide +kernel, by decide +kernel⟩
abbrev mL_addPupil : k_M := (yL_addPupil, cL_addPupil, 3, (some .int), [(0, 8, 11, 15)])
theorem oL_addPupil : k_MOk mL_addPupil 2 := ⟨List.mem_filter.mpr ⟨List.mem_of_getElem? (i := 1018) (by decide +kernel), rfl⟩, w_84, by decide, by decide +kernel, by decide +kernel⟩
abbrev mL_addWish : k_M := (yL_addWish, cL_addWish, 5, (some .int), [(0, 10, 13, 21), (0, 10, 17, 15)])
theorem oL_addWish : k_MOk mL_addWish 4 := ⟨List.mem_filter.mpr ⟨List.mem_of_getElem? (i := 1025) (by decide +kernel), rfl⟩, w_84, by decide, by decide +kernel, by decide +kernel⟩
abbrev mL_setReserve : k_M := (yL_setReserve, cL_setReserve, 5, (some .int), [(0, 10, 13, 21), (0, 10, 17, 15)])
theorem oL_setReserve : k_MOk mL_setReserve 4 := ⟨List.mem_filter.mpr ⟨List.mem_of_getElem? (i := 1032) (by decide +kernel), rfl⟩, w_84, by decide, by decide +kernel, by decide +kernel⟩
abbrev mL_wishCount : k_M := (yL_wishCount, cL_wishCount, 4, (some .int), [(0, 9, 12, 21)])
theorem oL_wishCount : k_MOk mL_wishCount 3 := ⟨List.mem_filter.mpr ⟨List.mem_of_getElem? (i := 1039) (by decide +kernel), rfl⟩, w_84, by decide, by decide +kernel, by decide +kernel⟩
abbrev mL_wishAt : k_M := (yL_wishAt, cL_wishAt, 5, (some .int), [(0, 10, 13, 21), (0, 10, 17, 46)])
theorem oL_wishAt : k_MOk mL_wishAt 4 := ⟨List.mem_filter.mpr ⟨List.mem_of_getElem? (i := 1047) (by decide +kernel), rfl⟩, w_84, by decide, by decide +kernel, by decide +kernel⟩
abbrev mL_reserveOf : k_M := (yL_reserveOf, cL_reserveOf, 4, (some .int), [(0, 9, 12, 21)])
theorem oL_reserveOf : k_MOk mL_reserveOf 3 := ⟨List.mem_filter.mpr ⟨List.mem_of_getElem? (i := 1055) (by decide +kernel), rfl⟩, w_84, by decide, by decide +kernel, by decide +kernel⟩
abbrev mL_subjectIn : k_M := (yL_subjectIn, cL_subjectIn, 5, (some .int), [(0, 10, 13, 21)])
theorem oL_subjectIn : k_MOk mL_subjectIn 4 := ⟨List.mem_filter.mpr ⟨List.mem_of_getElem? (i := 1062) (by decide +kernel), rfl⟩, w_84, by decide, by decide +kernel, by decide +kernel⟩
abbrev mL_blockOf : k_M := (yL_blockOf, cL_blockOf, 5, (some .int), [(0, 10, 13, 21)])
theorem oL_blockOf : k_MOk mL_blockOf 4 := ⟨List.mem_filter.mpr ⟨List.mem_of_getElem? (i := 1074) (by decide +kernel), rfl⟩, w_84, by decide, by decide +kernel, by decide +kernel⟩
abbrev mL_enrol : k_M := (yL_enrol, cL_enrol, 4, (some .int), [(0, 9, 12, 21), (0, 9, 15, 15)])
theorem oL_enrol : k_MOk mL_enrol 3 := ⟨List.mem_filter.mpr ⟨List.mem_of_getElem? (i := 1082) (by decide +kernel), rfl⟩, w_84, by decide, by decide +kernel, by decide +kernel⟩
abbrev mL_withdraw : k_M := (yL_withdraw, cL_withdraw, 4, (some .int), [(0, 9, 12, 21), (0, 9, 15, 15)])
theorem oL_withdraw : k_MOk mL_withdraw 3 := ⟨List.mem_filter.mpr ⟨List.mem_of_getElem? (i := 1089) (by decide +kernel), rfl⟩, w_84, by decide, by decide +kernel, by decide +kernel⟩
abbrev mL_bestValue : k_M := (yL_bestValue, cL_bestValue, 4, (some .int), [(0, 9, 12, 21)])
theorem oL_bestValue : k_MOk mL_bestValue 3 := ⟨List.mem_filter.mpr ⟨List.mem_of_getElem? (i := 1106) (by decide +kernel), rfl⟩, w_84, by decide, by decide +kernel, by decide +kernel⟩
abbrev mL_bestValueBySets : k_M := (yL_bestValueBySets, cL_bestValueBySets, 4, (some .int), [(0, 9, 12, 21)])
theorem oL_bestValueBySets : k_MOk mL_bestValueBySets 3 := ⟨List.mem_filter.mpr ⟨List.mem_of_getElem? (i := 1117) (by decide +kernel), rfl⟩, w_84, by decide, by decide +kernel, by decide +kernel⟩
abbrev mL_canServe : k_M := (yL_canServe, cL_canServe, 4, (some .int), [(0, 16, 19, 21)])
theorem oL_canServe : k_MOk mL_canServe 3 := ⟨List.mem_filter.mpr ⟨List.mem_of_getElem? (i := 1135) (by decide +kernel), rfl⟩, w_84, by decide, by decide +kernel, by decide +kernel⟩
abbrev mL_canServeByCounting : k_M := (yL_canServeByCounting, cL_canServeByCounting, 4, (some .int), [(0, 16, 19, 21)])
theorem oL_canServeByCounting : k_MOk mL_canServeByCounting 3 := ⟨List.mem_filter.mpr ⟨List.mem_of_getElem? (i := 1154) (by decide +kernel), rfl⟩, w_84, by decide, by decide +kernel, by decide +kernel⟩
abbrev mL_meanClassSize : k_M := (yL_meanClassSize, cL_meanClassSize, 3, (some .int), [(0, 7, 10, 96)])
theorem oL_meanClassSize : k_MOk mL_meanClassSize 2 := ⟨List.mem_filter.mpr ⟨List.mem_of_getElem? (i := 1167) (by decide +kernel), rfl⟩, w_84, by decide, by decide +kernel, by decide +kernel⟩
abbrev mL_movesFor : k_M := (yL_movesFor, cL_movesFor, 5, (some .int), [(0, 10, 13, 21), (0, 10, 17, 15), (0, 10, 21, 46)])
theorem oL_movesFor : k_MOk mL_movesFor 4 := ⟨List.mem_filter.mpr ⟨List.mem_of_getElem? (i := 1196) (by decide +kernel), rfl⟩, w_84, by decide, by decide +kernel, by decide +kernel⟩
abbrev mL_movesByTrial : k_M := (yL_movesByTrial, cL_movesByTrial, 5, (some .int), [(0, 10, 13, 21), (0, 10, 17, 15), (0, 10, 21, 46)])
theorem oL_movesByTrial : k_MOk mL_movesByTrial 4 := ⟨List.mem_filter.mpr ⟨List.mem_of_getElem? (i := 1206) (by decide +kernel), rfl⟩, w_84, by decide, by decide +kernel, by decide +kernel⟩
abbrev mL_join : k_M := (yL_join, cL_join, 5, (some .int), [(0, 10, 13, 21), (0, 10, 17, 15), (0, 10, 21, 107)])
theorem oL_join : k_MOk mL_join 4 := ⟨List.mem_filter.mpr ⟨List.mem_of_getElem? (i := 1220) (by decide +kernel), rfl⟩, w_84, by decide, by decide +kernel, by decide +kernel⟩
abbrev mL_quit : k_M := (yL_quit, cL_quit, 5, (some .int), [(0, 10, 13, 21), (0, 10, 17, 15)])
theorem oL_quit : k_MOk mL_quit 4 := ⟨List.mem_filter.mpr ⟨List.mem_of_getElem? (i := 1228) (by decide +kernel), rfl⟩, w_84, by decide, by decide +kernel, by decide +kernel⟩
abbrev mL_change : k_M := (yL_change, cL_change, 6, (some .int), [(0, 12, 15, 21), (0, 12, 19, 15), (0, 12, 23, 107)])
theorem oL_change : k_MOk mL_change 5 := ⟨List.mem_filter.mpr ⟨List.mem_of_getElem? (i := 1235) (by decide +kernel), rfl⟩, w_84, by decide, by decide +kernel, by decide +kernel⟩
abbrev mL_refusalReason : k_M := (yL_refusalReason, cL_refusalReason, 3, (some .int), [(0, 8, 11, 46)])
theorem oL_refusalReason : k_MOk mL_refusalReason 2 := ⟨List.mem_filter.mpr ⟨List.mem_of_getElem? (i := 1242) (by decide +kernel), rfl⟩, w_84, by decide, by decide +kernel, by decide +kernel⟩
abbrev mL_chainMoves : k_M := (yL_chainMoves, cL_chainMoves, 3, (some .int), [(0, 8, 11, 46)])
theorem oL_chainMoves : k_MOk mL_chainMoves 2 := ⟨List.mem_filter.mpr ⟨List.mem_of_getElem? (i := 1249) (by decide +kernel), rfl⟩, w_84, by decide, by decide +kernel, by decide +kernel⟩
abbrev mL_chainPupil : k_M := (yL_chainPupil, cL_chainPupil, 4, (some .int), [(0, 9, 12, 46)])
theorem oL_chainPupil : k_MOk mL_chainPupil 3 := ⟨List.mem_filter.mpr ⟨List.mem_of_getElem? (i := 1256) (by decide +kernel), rfl⟩, w_84, by decide, by decide +kernel, by decide +kernel⟩
abbrev mL_chainBlock : k_M := (yL_chainBlock, cL_chainBlock, 4, (some .int), [(0, 9, 12, 46)])
theorem oL_chainBlock : k_MOk mL_chainBlock 3 := ⟨List.mem_filter.mpr ⟨List.mem_of_getElem? (i := 1263) (by decide +kernel), rfl⟩, w_84, by decide, by decide +kernel, by decide +kernel⟩
abbrev mL_commonWishes : k_M := (yL_commonWishes, cL_commonWishes, 5, (some .int), [(0, 10, 13, 21), (0, 10, 17, 13)])
theorem oL_commonWishes : k_MOk mL_commonWishes 4 := ⟨List.mem_filter.mpr ⟨List.mem_of_getElem? (i := 1270) (by decide +kernel), rfl⟩, w_84, by decide, by decide +kernel, by decide +kernel⟩
abbrev mL_doClash : k_M := (yL_doClash, cL_doClash, 5, (some .int), [(0, 17, 20, 21), (0, 17, 24, 13)])
theorem oL_doClash : k_MOk mL_doClash 4 := ⟨List.mem_filter.mpr ⟨List.mem_of_getElem? (i := 1282) (by decide +kernel), rfl⟩, w_84, by decide, by decide +kernel, by decide +kernel⟩
abbrev mL_arrange : k_M := (yL_arrange, cL_arrange, 3, (some .int), [(0, 8, 11, 15)])
theorem oL_arrange : k_MOk mL_arrange 2 := ⟨List.mem_filter.mpr ⟨List.mem_of_getElem? (i := 1289) (by decide +kernel), rfl⟩, w_84, by decide, by decide +kernel, by decide +kernel⟩
abbrev mL_writeTimetable : k_M := (yL_writeTimetable, cL_writeTimetable, 4, (some .int), [(0, 9, 12, 21)])
theorem oL_writeTimetable : k_MOk mL_writeTimetable 3 := ⟨List.mem_filter.mpr ⟨List.mem_of_getElem? (i := 1296) (by decide +kernel), rfl⟩, w_84, by decide, by decide +kernel, by decide +kernel⟩
abbrev mL_lineAt : k_M := (yL_lineAt, cL_lineAt, 4, (some .int), [(0, 9, 12, 21)])
theorem oL_lineAt : k_MOk mL_lineAt 3 := ⟨List.mem_filter.mpr ⟨List.mem_of_getElem? (i := 1582) (by decide +kernel), rfl⟩, w_84, by decide, by decide +kernel, by decide +kernel⟩
abbrev mL_type : k_M := (yL_type, cL_type, 4, (some .int), [(0, 9, 12, 13), (0, 9, 15, 15)])
theorem oL_type : k_MOk mL_type 3 := ⟨List.mem_filter.mpr ⟨List.mem_of_getElem? (i := 1599) (by decide +kernel), rfl⟩, w_84, by decide, by decide +kernel, by decide +kernel⟩
abbrev mL_execute : k_M := (yL_execute, cL_execute, 3, (some .int), [(0, 8, 11, 13), (0, 8, 14, 15)])
theorem oL_execute : k_MOk mL_execute 2 := ⟨List.mem_filter.mpr ⟨List.mem_of_getElem? (i := 1608) (by decide +kernel), rfl⟩, w_84, by decide, by decide +kernel, by decide +kernel⟩
abbrev mL_errorPosition : k_M := (yL_errorPosition, cL_errorPosition, 3, (some .int), [(0, 8, 11, 46)])
theorem oL_errorPosition : k_MOk mL_errorPosition 2 := ⟨List.mem_filter.mpr ⟨List.mem_of_getElem? (i := 1685) (by decide +kernel), rfl⟩, w_84, by decide, by decide +kernel, by decide +kernel⟩
abbrev mL_failedCommand : k_M := (yL_failedCommand, cL_failedCommand, 3, (some .int), [(0, 8, 11, 46)])
theorem oL_failedCommand : k_MOk mL_failedCommand 2 := ⟨List.mem_filter.mpr ⟨List.mem_of_getElem? (i := 1692) (by decide +kernel), rfl⟩, w_84, by decide, by decide +kernel, by decide +kernel⟩
abbrev mL_failureKind : k_M := (yL_failureKind, cL_failureKind, 3, (some .int), [(0, 8, 11, 46)])
theorem oL_failureKind : k_MOk mL_failureKind 2 := ⟨List.mem_filter.mpr ⟨List.mem_of_getElem? (i := 1699) (by decide +kernel), rfl⟩, w_84, by decide, by decide +kernel, by decide +kernel⟩
abbrev mL_undo : k_M := (yL_undo, cL_undo, 3, (some .int), [(0, 8, 11, 15)])
theorem oL_undo : k_MOk mL_undo 2 := ⟨List.mem_filter.mpr ⟨List.mem_of_getElem? (i := 1706) (by decide +kernel), rfl⟩, w_84, by decide, by decide +kernel, by decide +kernel⟩
abbrev mL_restore : k_M := (yL_restore, cL_restore, 3, (some .int), [(0, 8, 11, 15)])
theorem oL_restore : k_MOk mL_restore 2 := ⟨List.mem_filter.mpr ⟨List.mem_of_getElem? (i := 1718) (by decide +kernel), rfl⟩, w_84, by decide, by decide +kernel, by decide +kernel⟩
theorem kcJ4 : k_Cls 0 RJ4 TJ4 4 tyJ4 := ⟨rfl, by decide +kernel, tyJ4_ok, nmJ4⟩
theorem kcX0 : k_Cls 1 RX0 TX0 6 tyX0 := ⟨rfl, by decide +kernel, tyX0_ok, nmX0⟩
theorem kcX1 : k_Cls 2 RX1 TX1 4 tyX1 := ⟨rfl, by decide +kernel, tyX1_ok, nmX1⟩
theorem kcX2 : k_Cls 3 RX2 TX2 5 tyX2 := ⟨rfl, by decide +kernel, tyX2_ok, nmX2⟩
theorem kcX3 : k_Cls 4 RX3 TX3 3 tyX3 := ⟨rfl, by decide +kernel, tyX3_ok, nmX3⟩
theorem kcX4 : k_Cls 5 RX4 TX4 6 tyX4 := ⟨rfl, by decide +kernel, tyX4_ok, nmX4⟩
theorem kcX5 : k_Cls 6 RX5 TX5 12 tyX5 := ⟨rfl, by decide +kernel, tyX5_ok, nmX5⟩
theorem kcX6 : k_Cls 7 RX6 TX6 5 tyX6 := ⟨rfl, by decide +kernel, tyX6_ok, nmX6⟩
theorem kcX7 : k_Cls 8 RX7 TX7 14 tyX7 := ⟨rfl, by decide +kernel, tyX7_ok, nmX7⟩
theorem kcX8 : k_Cls 9 RX8 TX8 31 tyX8 := ⟨rfl, by decide +kernel, tyX8_ok, nmX8⟩

/-! ===== the words by their places ===== -/
theorem v_0 : lw_tbl[0]? = some (Cond.selects "OptionBlockPlanner$History" yX3_planIn yX3_planIn) := by decide +kernel
theorem v_1 : lw_tbl[1]? = some (Cond.selects "OptionBlockPlanner$Placements" yX4_collectRoomy yX4_collectRoomy) := by decide +kernel
theorem v_2 : lw_tbl[2]? = some (Cond.selects "OptionBlockPlanner$Placements" yX4_findBest yX4_findBest) := by decide +kernel
theorem v_3 : lw_tbl[3]? = some (Cond.selects "OptionBlockPlanner$Placements" yX4_keepIfBetter yX4_keepIfBetter) := by decide +kernel
theorem v_4 : lw_tbl[4]? = some (Cond.selects "OptionBlockPlanner$Arrangements" yX0_collectCommon yX0_collectCommon) := by decide +kernel
theorem v_5 : lw_tbl[5]? = some (Cond.selects "OptionBlockPlanner$Arrangements" yX0_countPairs yX0_countPairs) := by decide +kernel
theorem v_6 : lw_tbl[6]? = some (Cond.selects "OptionBlockPlanner$Arrangements" yX0_weigh yX0_weigh) := by decide +kernel
theorem v_7 : lw_tbl[7]? = some (Cond.selects "OptionBlockPlanner" yX7_make yX7_make) := by decide +kernel
theorem v_8 : lw_tbl[8]? = some (Cond.selects "OptionBlockPlanner$Changes" yX2_faultOfNewSubject yX2_faultOfNewSubject) := by decide +kernel
theorem v_9 : lw_tbl[9]? = some (Cond.selects "OptionBlockPlanner$Changes" yX2_faultOfBlocks yX2_faultOfBlocks) := by decide +kernel
theorem v_10 : lw_tbl[10]? = some (Cond.selects "OptionBlockPlanner$Changes" yX2_faultOfOpening yX2_faultOfOpening) := by decide +kernel
theorem v_11 : lw_tbl[11]? = some (Cond.selects "OptionBlockPlanner$Changes" yX2_faultOfClosing yX2_faultOfClosing) := by decide +kernel
theorem v_12 : lw_tbl[12]? = some (Cond.selects "OptionBlockPlanner$Changes" yX2_faultOfWish yX2_faultOfWish) := by decide +kernel
theorem v_13 : lw_tbl[13]? = some (Cond.selects "OptionBlockPlanner$Changes" yX2_faultOfReserve yX2_faultOfReserve) := by decide +kernel
theorem v_14 : lw_tbl[14]? = some (Cond.selects "OptionBlockPlanner$Changes" yX2_faultOfJoining yX2_faultOfJoining) := by decide +kernel
theorem v_15 : lw_tbl[15]? = some (Cond.selects "OptionBlockPlanner$Chains" yX1_measure yX1_measure) := by decide +kernel
theorem v_16 : lw_tbl[16]? = some (Cond.selects "OptionBlockPlanner$Chains" yX1_nextBlock yX1_nextBlock) := by decide +kernel
theorem v_17 : lw_tbl[17]? = some (Cond.selects "OptionBlockPlanner$Chains" yX1_nearest yX1_nearest) := by decide +kernel
theorem v_18 : lw_tbl[18]? = some (Cond.selects "OptionBlockPlanner$Changes" yX2_refusal yX2_refusal) := by decide +kernel
theorem v_19 : lw_tbl[19]? = some (Cond.selects "OptionBlockPlanner$Changes" yX2_faultOfQuitting yX2_faultOfQuitting) := by decide +kernel
theorem v_20 : lw_tbl[20]? = some (Cond.selects "OptionBlockPlanner$Changes" yX2_faultOfChanging yX2_faultOfChanging) := by decide +kernel
theorem v_21 : lw_tbl[21]? = some (Cond.selects "java/lang/Throwable" ⟨"java/lang/Throwable", "fillInStackTrace", "(I)Ljava/lang/Throwable;"⟩ ⟨"java/lang/Throwable", "fillInStackTrace", "(I)Ljava/lang/Throwable;"⟩) := by decide +kernel
theorem v_22 : lw_tbl[22]? = some (Cond.selects "OptionBlockPlanner$Placements" yX4_setsUsedFor yX4_setsUsedFor) := by decide +kernel
theorem v_23 : lw_tbl[23]? = some (Cond.selects "OptionBlockPlanner$Placements" yX4_collectOpen yX4_collectOpen) := by decide +kernel
theorem v_24 : lw_tbl[24]? = some (Cond.selects "OptionBlockPlanner" yX7_needPair yX7_needPair) := by decide +kernel
theorem v_25 : lw_tbl[25]? = some (Cond.selects "OptionBlockPlanner" yX7_writeLesson yX7_writeLesson) := by decide +kernel
theorem v_26 : lw_tbl[26]? = some (Cond.selects "OptionBlockPlanner$Program" yX6_readCommand yX6_readCommand) := by decide +kernel
theorem v_27 : lw_tbl[27]? = some (Cond.selects "OptionBlockPlanner$Program" yX6_matches yX6_matches) := by decide +kernel
theorem v_28 : lw_tbl[28]? = some (Cond.selects "OptionBlockPlanner$Program" yX6_readNumber yX6_readNumber) := by decide +kernel
theorem v_29 : lw_tbl[29]? = some (Cond.selects "OptionBlockPlanner$Program" yX6_digitHere yX6_digitHere) := by decide +kernel
theorem v_30 : lw_tbl[30]? = some (Cond.selects "OptionBlockPlanner$Program" yX6_skip yX6_skip) := by decide +kernel
theorem v_31 : lw_tbl[31]? = some (Cond.selects "OptionBlockPlannerModel" yX8_fails yX8_fails) := by decide +kernel
theorem v_32 : lw_tbl[32]? = some (Cond.selects "OptionBlockPlannerModel" yX8_tells yX8_tells) := by decide +kernel
theorem v_33 : lw_tbl[33]? = some (Cond.selects "OptionBlockPlannerModel" yX8_begins yX8_begins) := by decide +kernel
theorem v_34 : lw_tbl[34]? = some (Cond.selects "OptionBlockPlannerModel" yX8_addSubjectNow yX8_addSubjectNow) := by decide +kernel
theorem v_35 : lw_tbl[35]? = some (Cond.selects "OptionBlockPlannerModel" yX8_bad yX8_bad) := by decide +kernel
theorem v_36 : lw_tbl[36]? = some (Cond.selects "OptionBlockPlannerModel" yX8_ends yX8_ends) := by decide +kernel
theorem v_37 : lw_tbl[37]? = some (Cond.selects "OptionBlockPlannerModel" yX8_setSizeNow yX8_setSizeNow) := by decide +kernel
theorem v_38 : lw_tbl[38]? = some (Cond.selects "OptionBlockPlannerModel" yX8_isSubject yX8_isSubject) := by decide +kernel
theorem v_39 : lw_tbl[39]? = some (Cond.selects "OptionBlockPlannerModel" yX8_inClass yX8_inClass) := by decide +kernel
theorem v_40 : lw_tbl[40]? = some (Cond.selects "OptionBlockPlannerModel" yX8_subjectOf yX8_subjectOf) := by decide +kernel
theorem v_41 : lw_tbl[41]? = some (Cond.selects "OptionBlockPlannerModel" yX8_setBlockCountNow yX8_setBlockCountNow) := by decide +kernel
theorem v_42 : lw_tbl[42]? = some (Cond.selects "OptionBlockPlannerModel" yX8_hasOpen yX8_hasOpen) := by decide +kernel
theorem v_43 : lw_tbl[43]? = some (Cond.selects "OptionBlockPlannerModel" yX8_openClassNow yX8_openClassNow) := by decide +kernel
theorem v_44 : lw_tbl[44]? = some (Cond.selects "OptionBlockPlannerModel" yX8_isBlock yX8_isBlock) := by decide +kernel
theorem v_45 : lw_tbl[45]? = some (Cond.selects "OptionBlockPlannerModel" yX8_openOf yX8_openOf) := by decide +kernel
theorem v_46 : lw_tbl[46]? = some (Cond.selects "OptionBlockPlannerModel" yX8_closeClassNow yX8_closeClassNow) := by decide +kernel
theorem v_47 : lw_tbl[47]? = some (Cond.selects "OptionBlockPlannerModel" yX8_addPupilNow yX8_addPupilNow) := by decide +kernel
theorem v_48 : lw_tbl[48]? = some (Cond.selects "OptionBlockPlannerModel" yX8_addWishNow yX8_addWishNow) := by decide +kernel
theorem v_49 : lw_tbl[49]? = some (Cond.selects "OptionBlockPlannerModel" yX8_isPupil yX8_isPupil) := by decide +kernel
theorem v_50 : lw_tbl[50]? = some (Cond.selects "OptionBlockPlannerModel" yX8_isWish yX8_isWish) := by decide +kernel
theorem v_51 : lw_tbl[51]? = some (Cond.selects "OptionBlockPlannerModel" yX8_wish yX8_wish) := by decide +kernel
theorem v_52 : lw_tbl[52]? = some (Cond.selects "OptionBlockPlannerModel" yX8_setReserveNow yX8_setReserveNow) := by decide +kernel
theorem v_53 : lw_tbl[53]? = some (Cond.selects "OptionBlockPlannerModel" yX8_blockOfSubject yX8_blockOfSubject) := by decide +kernel
theorem v_54 : lw_tbl[54]? = some (Cond.selects "OptionBlockPlannerModel" yX8_enrolNow yX8_enrolNow) := by decide +kernel
theorem v_55 : lw_tbl[55]? = some (Cond.selects "OptionBlockPlannerModel" yX8_classesOf yX8_classesOf) := by decide +kernel
theorem v_56 : lw_tbl[56]? = some (Cond.selects "OptionBlockPlannerModel" yX8_findsPlacement yX8_findsPlacement) := by decide +kernel
theorem v_57 : lw_tbl[57]? = some (Cond.selects "OptionBlockPlannerModel" yX8_worth yX8_worth) := by decide +kernel
theorem v_58 : lw_tbl[58]? = some (Cond.selects "OptionBlockPlannerModel" yX8_hasRoom yX8_hasRoom) := by decide +kernel
theorem v_59 : lw_tbl[59]? = some (Cond.selects "OptionBlockPlannerModel" yX8_lacksWish yX8_lacksWish) := by decide +kernel
theorem v_60 : lw_tbl[60]? = some (Cond.selects "OptionBlockPlannerModel" yX8_isServed yX8_isServed) := by decide +kernel
theorem v_61 : lw_tbl[61]? = some (Cond.selects "OptionBlockPlannerModel" yX8_withdrawNow yX8_withdrawNow) := by decide +kernel
theorem v_62 : lw_tbl[62]? = some (Cond.selects "OptionBlockPlannerModel" yX8_canPlace yX8_canPlace) := by decide +kernel
theorem v_63 : lw_tbl[63]? = some (Cond.selects "OptionBlockPlannerModel" yX8_more yX8_more) := by decide +kernel
theorem v_64 : lw_tbl[64]? = some (Cond.selects "OptionBlockPlannerModel" yX8_isServable yX8_isServable) := by decide +kernel
theorem v_65 : lw_tbl[65]? = some (Cond.selects "OptionBlockPlannerModel" yX8_asksMoves yX8_asksMoves) := by decide +kernel
theorem v_66 : lw_tbl[66]? = some (Cond.selects "OptionBlockPlannerModel" yX8_findsChain yX8_findsChain) := by decide +kernel
theorem v_67 : lw_tbl[67]? = some (Cond.selects "OptionBlockPlannerModel" yX8_isChain yX8_isChain) := by decide +kernel
theorem v_68 : lw_tbl[68]? = some (Cond.selects "OptionBlockPlannerModel" yX8_isEntry yX8_isEntry) := by decide +kernel
theorem v_69 : lw_tbl[69]? = some (Cond.selects "OptionBlockPlannerModel" yX8_mover yX8_mover) := by decide +kernel
theorem v_70 : lw_tbl[70]? = some (Cond.selects "OptionBlockPlannerModel" yX8_joinNow yX8_joinNow) := by decide +kernel
theorem v_71 : lw_tbl[71]? = some (Cond.selects "OptionBlockPlannerModel" yX8_whyRefused yX8_whyRefused) := by decide +kernel
theorem v_72 : lw_tbl[72]? = some (Cond.selects "OptionBlockPlannerModel" yX8_quitNow yX8_quitNow) := by decide +kernel
theorem v_73 : lw_tbl[73]? = some (Cond.selects "OptionBlockPlannerModel" yX8_changeNow yX8_changeNow) := by decide +kernel
theorem v_74 : lw_tbl[74]? = some (Cond.selects "OptionBlockPlannerModel" yX8_wrongPair yX8_wrongPair) := by decide +kernel
theorem v_75 : lw_tbl[75]? = some (Cond.selects "OptionBlockPlannerModel" yX8_common yX8_common) := by decide +kernel
theorem v_76 : lw_tbl[76]? = some (Cond.selects "OptionBlockPlannerModel" yX8_clash yX8_clash) := by decide +kernel
theorem v_77 : lw_tbl[77]? = some (Cond.selects "OptionBlockPlannerModel" yX8_findsArrangement yX8_findsArrangement) := by decide +kernel
theorem v_78 : lw_tbl[78]? = some (Cond.selects "OptionBlockPlannerModel" yX8_arrangeNow yX8_arrangeNow) := by decide +kernel
theorem v_79 : lw_tbl[79]? = some (Cond.selects "OptionBlockPlannerModel" yX8_writes yX8_writes) := by decide +kernel
theorem v_80 : lw_tbl[80]? = some (Cond.selects "OptionBlockPlannerModel" yX8_parses yX8_parses) := by decide +kernel
theorem v_81 : lw_tbl[81]? = some (Cond.selects "OptionBlockPlannerModel" yX8_reads yX8_reads) := by decide +kernel
theorem v_82 : lw_tbl[82]? = some (Cond.selects "OptionBlockPlannerModel" yX8_isDigit yX8_isDigit) := by decide +kernel
theorem v_83 : lw_tbl[83]? = some (Cond.selects "OptionBlockPlannerModel" yX8_acts yX8_acts) := by decide +kernel
theorem v_84 : lw_tbl[84]? = some (Cond.initialized "OptionBlockPlannerLaw") := by decide +kernel
theorem v_85 : lw_tbl[85]? = some (Cond.initialized "OptionBlockPlanner") := by decide +kernel
theorem v_86 : lw_tbl[86]? = some (Cond.initialized "OptionBlockPlanner$Plan") := by decide +kernel
theorem v_87 : lw_tbl[87]? = some (Cond.initialized "OptionBlockPlanner$Placements") := by decide +kernel
theorem v_88 : lw_tbl[88]? = some (Cond.initialized "OptionBlockPlanner$Chains") := by decide +kernel
theorem v_89 : lw_tbl[89]? = some (Cond.initialized "OptionBlockPlanner$Arrangements") := by decide +kernel
theorem v_90 : lw_tbl[90]? = some (Cond.initialized "OptionBlockPlanner$Changes") := by decide +kernel
theorem v_91 : lw_tbl[91]? = some (Cond.initialized "OptionBlockPlanner$History") := by decide +kernel
theorem v_92 : lw_tbl[92]? = some (Cond.initialized "OptionBlockPlanner$Program") := by decide +kernel
theorem v_93 : lw_tbl[93]? = some (Cond.initialized "java/lang/AbstractStringBuilder") := by decide +kernel
theorem v_94 : lw_tbl[94]? = some (Cond.initialized "java/lang/StringBuilder") := by decide +kernel
theorem v_95 : lw_tbl[95]? = some (Cond.initialized "java/lang/String") := by decide +kernel
theorem v_96 : lw_tbl[96]? = some (Cond.initialized "java/lang/StringUTF16") := by decide +kernel
theorem v_97 : lw_tbl[97]? = some (Cond.initialized "OptionBlockPlannerModel") := by decide +kernel
theorem v_98 : lw_tbl[98]? = some (Cond.initialized "java/lang/Number") := by decide +kernel
theorem v_99 : lw_tbl[99]? = some (Cond.initialized "java/lang/Integer") := by decide +kernel
theorem v_100 : lw_tbl[100]? = some (Cond.initialized "java/lang/Throwable") := by decide +kernel
theorem v_101 : lw_tbl[101]? = some (Cond.initialized "java/lang/Exception") := by decide +kernel
theorem v_102 : lw_tbl[102]? = some (Cond.initialized "java/lang/RuntimeException") := by decide +kernel
theorem v_103 : lw_tbl[103]? = some (Cond.initialized "java/lang/IndexOutOfBoundsException") := by decide +kernel
theorem v_104 : lw_tbl[104]? = some (Cond.initialized "java/lang/IllegalArgumentException") := by decide +kernel
theorem v_105 : lw_tbl[105]? = some (Cond.initialized "java/lang/IllegalStateException") := by decide +kernel
theorem v_106 : lw_tbl[106]? = some (Cond.initialized "java/lang/UnsupportedOperationException") := by decide +kernel
theorem v_107 : lw_tbl[107]? = some (Cond.initialized "java/lang/Math") := by decide +kernel
theorem v_108 : lw_tbl[108]? = some (Cond.initialized "java/lang/System") := by decide +kernel
theorem v_109 : lw_tbl[109]? = some (Cond.initialized "java/lang/ArrayIndexOutOfBoundsException") := by decide +kernel
theorem v_110 : lw_tbl[110]? = some (Cond.initialized "java/util/NoSuchElementException") := by decide +kernel
theorem v_111 : lw_tbl[111]? = some (Cond.initialized "java/lang/ArithmeticException") := by decide +kernel
theorem v_112 : lw_tbl[112]? = some (Cond.initialized "java/lang/StringIndexOutOfBoundsException") := by decide +kernel
theorem v_113 : lw_tbl[113]? = some (Cond.initialized "jdk/internal/util/ArraysSupport") := by decide +kernel
theorem v_114 : lw_tbl[114]? = some (Cond.initialized "java/util/Arrays") := by decide +kernel
theorem v_115 : lw_tbl[115]? = some (Cond.initialized "jdk/internal/util/Preconditions") := by decide +kernel
theorem v_116 : lw_tbl[116]? = some (Cond.initialized "java/lang/StringLatin1") := by decide +kernel
theorem v_117 : lw_tbl[117]? = some (Cond.classLink "OptionBlockPlannerLaw" 8 "OptionBlockPlanner") := by decide +kernel
theorem v_118 : lw_tbl[118]? = some (Cond.instantiable "OptionBlockPlanner" 14) := by decide +kernel
theorem v_119 : lw_tbl[119]? = some (Cond.methodLink "OptionBlockPlannerLaw" 165 yX7_init) := by decide +kernel
theorem v_120 : lw_tbl[120]? = some (Cond.instanceMethod yX7_init) := by decide +kernel
theorem v_122 : lw_tbl[122]? = some (Cond.methodLink "OptionBlockPlanner" 3 ⟨"java/lang/Object", "<init>", "()V"⟩) := by decide +kernel
theorem v_123 : lw_tbl[123]? = some (Cond.instanceMethod ⟨"java/lang/Object", "<init>", "()V"⟩) := by decide +kernel
theorem v_125 : lw_tbl[125]? = some (Cond.classLink "OptionBlockPlanner" 9 "OptionBlockPlanner$Plan") := by decide +kernel
theorem v_126 : lw_tbl[126]? = some (Cond.instantiable "OptionBlockPlanner$Plan" 12) := by decide +kernel
theorem v_127 : lw_tbl[127]? = some (Cond.methodLink "OptionBlockPlanner" 11 yX5_init) := by decide +kernel
theorem v_128 : lw_tbl[128]? = some (Cond.instanceMethod yX5_init) := by decide +kernel
theorem v_130 : lw_tbl[130]? = some (Cond.methodLink "OptionBlockPlanner$Plan" 3 ⟨"java/lang/Object", "<init>", "()V"⟩) := by decide +kernel
theorem v_131 : lw_tbl[131]? = some (Cond.fieldLink "OptionBlockPlanner$Plan" 43 "OptionBlockPlanner$Plan" "subjects" "I") := by decide +kernel
theorem v_132 : lw_tbl[132]? = some (Cond.fieldLinkNest "OptionBlockPlanner" 103 "OptionBlockPlanner$Plan" "subjects" "I" "OptionBlockPlanner") := by decide +kernel
theorem v_133 : lw_tbl[133]? = some (Cond.fieldLinkNest "OptionBlockPlanner$Arrangements" 47 "OptionBlockPlanner$Plan" "subjects" "I" "OptionBlockPlanner") := by decide +kernel
theorem v_134 : lw_tbl[134]? = some (Cond.fieldLinkNest "OptionBlockPlanner$Changes" 121 "OptionBlockPlanner$Plan" "subjects" "I" "OptionBlockPlanner") := by decide +kernel
theorem v_135 : lw_tbl[135]? = some (Cond.fieldLink "OptionBlockPlanner$Plan" 9 "OptionBlockPlanner$Plan" "blocks" "I") := by decide +kernel
theorem v_136 : lw_tbl[136]? = some (Cond.fieldLinkNest "OptionBlockPlanner" 122 "OptionBlockPlanner$Plan" "blocks" "I" "OptionBlockPlanner") := by decide +kernel
theorem v_137 : lw_tbl[137]? = some (Cond.fieldLinkNest "OptionBlockPlanner$Arrangements" 86 "OptionBlockPlanner$Plan" "blocks" "I" "OptionBlockPlanner") := by decide +kernel
theorem v_138 : lw_tbl[138]? = some (Cond.fieldLink "OptionBlockPlanner$Plan" 46 "OptionBlockPlanner$Plan" "pupils" "I") := by decide +kernel
theorem v_139 : lw_tbl[139]? = some (Cond.fieldLinkNest "OptionBlockPlanner$Changes" 45 "OptionBlockPlanner$Plan" "pupils" "I" "OptionBlockPlanner") := by decide +kernel
theorem v_140 : lw_tbl[140]? = some (Cond.fieldLinkNest "OptionBlockPlanner$Arrangements" 64 "OptionBlockPlanner$Plan" "pupils" "I" "OptionBlockPlanner") := by decide +kernel
theorem v_141 : lw_tbl[141]? = some (Cond.fieldLinkNest "OptionBlockPlanner" 150 "OptionBlockPlanner$Plan" "pupils" "I" "OptionBlockPlanner") := by decide +kernel
theorem v_142 : lw_tbl[142]? = some (Cond.fieldLink "OptionBlockPlanner$Plan" 15 "OptionBlockPlanner$Plan" "sizes" "[I") := by decide +kernel
theorem v_143 : lw_tbl[143]? = some (Cond.fieldLinkNest "OptionBlockPlanner" 114 "OptionBlockPlanner$Plan" "sizes" "[I" "OptionBlockPlanner") := by decide +kernel
theorem v_144 : lw_tbl[144]? = some (Cond.fieldLink "OptionBlockPlanner$Plan" 19 "OptionBlockPlanner$Plan" "openSets" "[I") := by decide +kernel
theorem v_145 : lw_tbl[145]? = some (Cond.fieldLink "OptionBlockPlanner$Plan" 22 "OptionBlockPlanner$Plan" "rosters" "[I") := by decide +kernel
theorem v_146 : lw_tbl[146]? = some (Cond.fieldLink "OptionBlockPlanner$Plan" 25 "OptionBlockPlanner$Plan" "wishCounts" "[I") := by decide +kernel
theorem v_147 : lw_tbl[147]? = some (Cond.fieldLinkNest "OptionBlockPlanner$Placements" 33 "OptionBlockPlanner$Plan" "wishCounts" "[I" "OptionBlockPlanner") := by decide +kernel
theorem v_148 : lw_tbl[148]? = some (Cond.fieldLinkNest "OptionBlockPlanner$Changes" 137 "OptionBlockPlanner$Plan" "wishCounts" "[I" "OptionBlockPlanner") := by decide +kernel
theorem v_149 : lw_tbl[149]? = some (Cond.fieldLinkNest "OptionBlockPlanner" 156 "OptionBlockPlanner$Plan" "wishCounts" "[I" "OptionBlockPlanner") := by decide +kernel
theorem v_150 : lw_tbl[150]? = some (Cond.fieldLink "OptionBlockPlanner$Plan" 28 "OptionBlockPlanner$Plan" "wishes" "[I") := by decide +kernel
theorem v_151 : lw_tbl[151]? = some (Cond.fieldLink "OptionBlockPlanner$Plan" 31 "OptionBlockPlanner$Plan" "reserves" "[I") := by decide +kernel
theorem v_152 : lw_tbl[152]? = some (Cond.fieldLinkNest "OptionBlockPlanner$Placements" 50 "OptionBlockPlanner$Plan" "reserves" "[I" "OptionBlockPlanner") := by decide +kernel
theorem v_153 : lw_tbl[153]? = some (Cond.fieldLinkNest "OptionBlockPlanner$Changes" 148 "OptionBlockPlanner$Plan" "reserves" "[I" "OptionBlockPlanner") := by decide +kernel
theorem v_154 : lw_tbl[154]? = some (Cond.fieldLinkNest "OptionBlockPlanner" 162 "OptionBlockPlanner$Plan" "reserves" "[I" "OptionBlockPlanner") := by decide +kernel
theorem v_155 : lw_tbl[155]? = some (Cond.fieldLink "OptionBlockPlanner$Plan" 34 "OptionBlockPlanner$Plan" "chainLength" "I") := by decide +kernel
theorem v_156 : lw_tbl[156]? = some (Cond.fieldLinkNest "OptionBlockPlanner" 230 "OptionBlockPlanner$Plan" "chainLength" "I" "OptionBlockPlanner") := by decide +kernel
theorem v_157 : lw_tbl[157]? = some (Cond.fieldLink "OptionBlockPlanner$Plan" 37 "OptionBlockPlanner$Plan" "chainPupils" "[I") := by decide +kernel
theorem v_158 : lw_tbl[158]? = some (Cond.fieldLinkNest "OptionBlockPlanner" 233 "OptionBlockPlanner$Plan" "chainPupils" "[I" "OptionBlockPlanner") := by decide +kernel
theorem v_159 : lw_tbl[159]? = some (Cond.fieldLink "OptionBlockPlanner$Plan" 40 "OptionBlockPlanner$Plan" "chainBlocks" "[I") := by decide +kernel
theorem v_160 : lw_tbl[160]? = some (Cond.fieldLinkNest "OptionBlockPlanner" 236 "OptionBlockPlanner$Plan" "chainBlocks" "[I" "OptionBlockPlanner") := by decide +kernel
theorem v_186 : lw_tbl[186]? = some (Cond.arrayClass .int) := by decide +kernel
theorem v_187 : lw_tbl[187]? = some (Cond.classLink "OptionBlockPlanner" 16 "OptionBlockPlanner$Placements") := by decide +kernel
theorem v_188 : lw_tbl[188]? = some (Cond.instantiable "OptionBlockPlanner$Placements" 6) := by decide +kernel
theorem v_189 : lw_tbl[189]? = some (Cond.methodLink "OptionBlockPlanner" 18 yX4_init) := by decide +kernel
theorem v_190 : lw_tbl[190]? = some (Cond.instanceMethod yX4_init) := by decide +kernel
theorem v_192 : lw_tbl[192]? = some (Cond.methodLink "OptionBlockPlanner$Placements" 3 ⟨"java/lang/Object", "<init>", "()V"⟩) := by decide +kernel
theorem v_193 : lw_tbl[193]? = some (Cond.fieldLink "OptionBlockPlanner$Placements" 9 "OptionBlockPlanner$Placements" "plan" "LOptionBlockPlanner$Plan;") := by decide +kernel
theorem v_194 : lw_tbl[194]? = some (Cond.fieldLink "OptionBlockPlanner$Placements" 15 "OptionBlockPlanner$Placements" "usable" "[I") := by decide +kernel
theorem v_195 : lw_tbl[195]? = some (Cond.fieldLink "OptionBlockPlanner$Placements" 19 "OptionBlockPlanner$Placements" "tried" "[I") := by decide +kernel
theorem v_196 : lw_tbl[196]? = some (Cond.fieldLink "OptionBlockPlanner$Placements" 22 "OptionBlockPlanner$Placements" "best" "[I") := by decide +kernel
theorem v_197 : lw_tbl[197]? = some (Cond.fieldLink "OptionBlockPlanner$Placements" 78 "OptionBlockPlanner$Placements" "fullScore" "I") := by decide +kernel
theorem v_198 : lw_tbl[198]? = some (Cond.fieldLink "OptionBlockPlanner$Placements" 95 "OptionBlockPlanner$Placements" "bestScore" "I") := by decide +kernel
theorem v_212 : lw_tbl[212]? = some (Cond.classLink "OptionBlockPlanner" 25 "OptionBlockPlanner$Chains") := by decide +kernel
theorem v_213 : lw_tbl[213]? = some (Cond.instantiable "OptionBlockPlanner$Chains" 4) := by decide +kernel
theorem v_214 : lw_tbl[214]? = some (Cond.methodLink "OptionBlockPlanner" 27 yX1_init) := by decide +kernel
theorem v_215 : lw_tbl[215]? = some (Cond.instanceMethod yX1_init) := by decide +kernel
theorem v_217 : lw_tbl[217]? = some (Cond.methodLink "OptionBlockPlanner$Chains" 3 ⟨"java/lang/Object", "<init>", "()V"⟩) := by decide +kernel
theorem v_218 : lw_tbl[218]? = some (Cond.fieldLink "OptionBlockPlanner$Chains" 9 "OptionBlockPlanner$Chains" "plan" "LOptionBlockPlanner$Plan;") := by decide +kernel
theorem v_219 : lw_tbl[219]? = some (Cond.fieldLink "OptionBlockPlanner$Chains" 15 "OptionBlockPlanner$Chains" "rosters" "[I") := by decide +kernel
theorem v_220 : lw_tbl[220]? = some (Cond.fieldLink "OptionBlockPlanner$Chains" 19 "OptionBlockPlanner$Chains" "busy" "[I") := by decide +kernel
theorem v_221 : lw_tbl[221]? = some (Cond.fieldLink "OptionBlockPlanner$Chains" 22 "OptionBlockPlanner$Chains" "distances" "[I") := by decide +kernel
theorem v_231 : lw_tbl[231]? = some (Cond.classLink "OptionBlockPlanner" 32 "OptionBlockPlanner$Arrangements") := by decide +kernel
theorem v_232 : lw_tbl[232]? = some (Cond.instantiable "OptionBlockPlanner$Arrangements" 6) := by decide +kernel
theorem v_233 : lw_tbl[233]? = some (Cond.methodLink "OptionBlockPlanner" 34 yX0_init) := by decide +kernel
theorem v_234 : lw_tbl[234]? = some (Cond.instanceMethod yX0_init) := by decide +kernel
theorem v_236 : lw_tbl[236]? = some (Cond.methodLink "OptionBlockPlanner$Arrangements" 3 ⟨"java/lang/Object", "<init>", "()V"⟩) := by decide +kernel
theorem v_237 : lw_tbl[237]? = some (Cond.fieldLink "OptionBlockPlanner$Arrangements" 9 "OptionBlockPlanner$Arrangements" "plan" "LOptionBlockPlanner$Plan;") := by decide +kernel
theorem v_238 : lw_tbl[238]? = some (Cond.fieldLink "OptionBlockPlanner$Arrangements" 15 "OptionBlockPlanner$Arrangements" "common" "[I") := by decide +kernel
theorem v_239 : lw_tbl[239]? = some (Cond.fieldLink "OptionBlockPlanner$Arrangements" 19 "OptionBlockPlanner$Arrangements" "tried" "[I") := by decide +kernel
theorem v_240 : lw_tbl[240]? = some (Cond.fieldLink "OptionBlockPlanner$Arrangements" 22 "OptionBlockPlanner$Arrangements" "best" "[I") := by decide +kernel
theorem v_241 : lw_tbl[241]? = some (Cond.fieldLink "OptionBlockPlanner$Arrangements" 25 "OptionBlockPlanner$Arrangements" "added" "[I") := by decide +kernel
theorem v_242 : lw_tbl[242]? = some (Cond.fieldLink "OptionBlockPlanner$Arrangements" 31 "OptionBlockPlanner$Arrangements" "fewest" "I") := by decide +kernel
theorem v_256 : lw_tbl[256]? = some (Cond.classLink "OptionBlockPlanner" 39 "OptionBlockPlanner$Changes") := by decide +kernel
theorem v_257 : lw_tbl[257]? = some (Cond.instantiable "OptionBlockPlanner$Changes" 5) := by decide +kernel
theorem v_258 : lw_tbl[258]? = some (Cond.methodLink "OptionBlockPlanner" 41 yX2_init) := by decide +kernel
theorem v_259 : lw_tbl[259]? = some (Cond.instanceMethod yX2_init) := by decide +kernel
theorem v_261 : lw_tbl[261]? = some (Cond.methodLink "OptionBlockPlanner$Changes" 3 ⟨"java/lang/Object", "<init>", "()V"⟩) := by decide +kernel
theorem v_262 : lw_tbl[262]? = some (Cond.fieldLink "OptionBlockPlanner$Changes" 9 "OptionBlockPlanner$Changes" "plan" "LOptionBlockPlanner$Plan;") := by decide +kernel
theorem v_263 : lw_tbl[263]? = some (Cond.fieldLink "OptionBlockPlanner$Changes" 15 "OptionBlockPlanner$Changes" "placements" "LOptionBlockPlanner$Placements;") := by decide +kernel
theorem v_264 : lw_tbl[264]? = some (Cond.fieldLink "OptionBlockPlanner$Changes" 19 "OptionBlockPlanner$Changes" "chains" "LOptionBlockPlanner$Chains;") := by decide +kernel
theorem v_265 : lw_tbl[265]? = some (Cond.fieldLink "OptionBlockPlanner$Changes" 23 "OptionBlockPlanner$Changes" "arrangements" "LOptionBlockPlanner$Arrangements;") := by decide +kernel
theorem v_266 : lw_tbl[266]? = some (Cond.fieldLink "OptionBlockPlanner$Changes" 27 "OptionBlockPlanner$Changes" "lastRefusal" "I") := by decide +kernel
theorem v_267 : lw_tbl[267]? = some (Cond.fieldLinkNest "OptionBlockPlanner" 227 "OptionBlockPlanner$Changes" "lastRefusal" "I" "OptionBlockPlanner") := by decide +kernel
theorem v_279 : lw_tbl[279]? = some (Cond.classLink "OptionBlockPlanner" 48 "OptionBlockPlanner$History") := by decide +kernel
theorem v_280 : lw_tbl[280]? = some (Cond.instantiable "OptionBlockPlanner$History" 3) := by decide +kernel
theorem v_281 : lw_tbl[281]? = some (Cond.methodLink "OptionBlockPlanner" 50 yX3_init) := by decide +kernel
theorem v_282 : lw_tbl[282]? = some (Cond.instanceMethod yX3_init) := by decide +kernel
theorem v_284 : lw_tbl[284]? = some (Cond.methodLink "OptionBlockPlanner$History" 3 ⟨"java/lang/Object", "<init>", "()V"⟩) := by decide +kernel
theorem v_285 : lw_tbl[285]? = some (Cond.classLink "OptionBlockPlanner$History" 9 "OptionBlockPlanner$Plan") := by decide +kernel
theorem v_287 : lw_tbl[287]? = some (Cond.methodLink "OptionBlockPlanner$History" 17 yX5_init) := by decide +kernel
theorem v_288 : lw_tbl[288]? = some (Cond.fieldLink "OptionBlockPlanner$History" 11 "OptionBlockPlanner$History" "kept" "[LOptionBlockPlanner$Plan;") := by decide +kernel
theorem v_289 : lw_tbl[289]? = some (Cond.fieldLink "OptionBlockPlanner$History" 18 "OptionBlockPlanner$History" "next" "I") := by decide +kernel
theorem v_290 : lw_tbl[290]? = some (Cond.fieldLink "OptionBlockPlanner$History" 30 "OptionBlockPlanner$History" "count" "I") := by decide +kernel
theorem v_291 : lw_tbl[291]? = some (Cond.fieldLinkNest "OptionBlockPlanner" 313 "OptionBlockPlanner$History" "count" "I" "OptionBlockPlanner") := by decide +kernel
theorem v_299 : lw_tbl[299]? = some (Cond.classLink "OptionBlockPlanner" 61 "OptionBlockPlanner$Program") := by decide +kernel
theorem v_300 : lw_tbl[300]? = some (Cond.instantiable "OptionBlockPlanner$Program" 5) := by decide +kernel
theorem v_301 : lw_tbl[301]? = some (Cond.methodLink "OptionBlockPlanner" 63 yX6_init) := by decide +kernel
theorem v_302 : lw_tbl[302]? = some (Cond.instanceMethod yX6_init) := by decide +kernel
theorem v_304 : lw_tbl[304]? = some (Cond.methodLink "OptionBlockPlanner$Program" 3 ⟨"java/lang/Object", "<init>", "()V"⟩) := by decide +kernel
theorem v_305 : lw_tbl[305]? = some (Cond.classLink "OptionBlockPlanner$Program" 9 "java/lang/StringBuilder") := by decide +kernel
theorem v_306 : lw_tbl[306]? = some (Cond.instantiable "java/lang/StringBuilder" 4) := by decide +kernel
theorem v_307 : lw_tbl[307]? = some (Cond.methodLink "OptionBlockPlanner$Program" 11 yJ4_init_da8c8) := by decide +kernel
theorem v_308 : lw_tbl[308]? = some (Cond.instanceMethod yJ4_init_da8c8) := by decide +kernel
theorem v_310 : lw_tbl[310]? = some (Cond.methodLink "java/lang/StringBuilder" 1 yJ5_init_d00df) := by decide +kernel
theorem v_311 : lw_tbl[311]? = some (Cond.instanceMethod yJ5_init_d00df) := by decide +kernel
theorem v_313 : lw_tbl[313]? = some (Cond.methodLink "java/lang/AbstractStringBuilder" 3 ⟨"java/lang/Object", "<init>", "()V"⟩) := by decide +kernel
theorem v_314 : lw_tbl[314]? = some (Cond.fieldLink "java/lang/AbstractStringBuilder" 18 "java/lang/String" "COMPACT_STRINGS" "Z") := by decide +kernel
theorem v_316 : lw_tbl[316]? = some (Cond.methodLink "java/lang/AbstractStringBuilder" 26 yJ2_newBytesFor_77867) := by decide +kernel
theorem v_317 : lw_tbl[317]? = some (Cond.static yJ2_newBytesFor_77867) := by decide +kernel
theorem v_319 : lw_tbl[319]? = some (Cond.methodLink "java/lang/StringUTF16" 11 yJ2_newBytesLength_0f7a4) := by decide +kernel
theorem v_320 : lw_tbl[320]? = some (Cond.static yJ2_newBytesLength_0f7a4) := by decide +kernel
theorem v_323 : lw_tbl[323]? = some (Cond.fieldLink "java/lang/AbstractStringBuilder" 15 "java/lang/AbstractStringBuilder" "value" "[B") := by decide +kernel
theorem v_324 : lw_tbl[324]? = some (Cond.fieldLink "java/lang/AbstractStringBuilder" 22 "java/lang/AbstractStringBuilder" "coder" "B") := by decide +kernel
theorem v_325 : lw_tbl[325]? = some (Cond.fieldLink "java/lang/AbstractStringBuilder" 73 "java/lang/AbstractStringBuilder" "maybeLatin1" "Z") := by decide +kernel
theorem v_326 : lw_tbl[326]? = some (Cond.fieldLink "java/lang/String" 1048 "java/lang/AbstractStringBuilder" "maybeLatin1" "Z") := by decide +kernel
theorem v_327 : lw_tbl[327]? = some (Cond.fieldLink "java/lang/AbstractStringBuilder" 79 "java/lang/AbstractStringBuilder" "count" "I") := by decide +kernel
theorem v_337 : lw_tbl[337]? = some (Cond.arrayClass .byte) := by decide +kernel
theorem v_338 : lw_tbl[338]? = some (Cond.fieldLink "OptionBlockPlanner$Program" 12 "OptionBlockPlanner$Program" "text" "Ljava/lang/StringBuilder;") := by decide +kernel
theorem v_339 : lw_tbl[339]? = some (Cond.fieldLinkNest "OptionBlockPlanner" 280 "OptionBlockPlanner$Program" "text" "Ljava/lang/StringBuilder;" "OptionBlockPlanner") := by decide +kernel
theorem v_340 : lw_tbl[340]? = some (Cond.fieldLink "OptionBlockPlanner$Program" 18 "OptionBlockPlanner$Program" "modifications" "[I") := by decide +kernel
theorem v_341 : lw_tbl[341]? = some (Cond.fieldLink "OptionBlockPlanner$Program" 22 "OptionBlockPlanner$Program" "numbers" "[I") := by decide +kernel
theorem v_342 : lw_tbl[342]? = some (Cond.fieldLink "OptionBlockPlanner$Program" 33 "OptionBlockPlanner$Program" "count" "I") := by decide +kernel
theorem v_343 : lw_tbl[343]? = some (Cond.fieldLinkNest "OptionBlockPlanner" 296 "OptionBlockPlanner$Program" "count" "I" "OptionBlockPlanner") := by decide +kernel
theorem v_344 : lw_tbl[344]? = some (Cond.fieldLink "OptionBlockPlanner$Program" 29 "OptionBlockPlanner$Program" "at" "I") := by decide +kernel
theorem v_356 : lw_tbl[356]? = some (Cond.classLink "OptionBlockPlanner" 68 "java/lang/StringBuilder") := by decide +kernel
theorem v_357 : lw_tbl[357]? = some (Cond.methodLink "OptionBlockPlanner" 70 yJ4_init_da8c8) := by decide +kernel
theorem v_358 : lw_tbl[358]? = some (Cond.fieldLink "OptionBlockPlanner" 12 "OptionBlockPlanner" "plan" "LOptionBlockPlanner$Plan;") := by decide +kernel
theorem v_359 : lw_tbl[359]? = some (Cond.fieldLink "OptionBlockPlanner" 21 "OptionBlockPlanner" "placements" "LOptionBlockPlanner$Placements;") := by decide +kernel
theorem v_360 : lw_tbl[360]? = some (Cond.fieldLink "OptionBlockPlanner" 28 "OptionBlockPlanner" "chains" "LOptionBlockPlanner$Chains;") := by decide +kernel
theorem v_361 : lw_tbl[361]? = some (Cond.fieldLink "OptionBlockPlanner" 35 "OptionBlockPlanner" "arrangements" "LOptionBlockPlanner$Arrangements;") := by decide +kernel
theorem v_362 : lw_tbl[362]? = some (Cond.fieldLink "OptionBlockPlanner" 44 "OptionBlockPlanner" "changes" "LOptionBlockPlanner$Changes;") := by decide +kernel
theorem v_363 : lw_tbl[363]? = some (Cond.fieldLink "OptionBlockPlanner" 51 "OptionBlockPlanner" "history" "LOptionBlockPlanner$History;") := by decide +kernel
theorem v_364 : lw_tbl[364]? = some (Cond.fieldLink "OptionBlockPlanner" 55 "OptionBlockPlanner" "snapshot" "LOptionBlockPlanner$Plan;") := by decide +kernel
theorem v_365 : lw_tbl[365]? = some (Cond.fieldLink "OptionBlockPlanner" 58 "OptionBlockPlanner" "beforeProgram" "LOptionBlockPlanner$Plan;") := by decide +kernel
theorem v_366 : lw_tbl[366]? = some (Cond.fieldLink "OptionBlockPlanner" 64 "OptionBlockPlanner" "program" "LOptionBlockPlanner$Program;") := by decide +kernel
theorem v_367 : lw_tbl[367]? = some (Cond.fieldLink "OptionBlockPlanner" 71 "OptionBlockPlanner" "line" "Ljava/lang/StringBuilder;") := by decide +kernel
theorem v_368 : lw_tbl[368]? = some (Cond.fieldLink "OptionBlockPlanner" 319 "OptionBlockPlanner" "saved" "Z") := by decide +kernel
theorem v_369 : lw_tbl[369]? = some (Cond.fieldLink "OptionBlockPlanner" 75 "OptionBlockPlanner" "errorAt" "I") := by decide +kernel
theorem v_370 : lw_tbl[370]? = some (Cond.fieldLink "OptionBlockPlanner" 79 "OptionBlockPlanner" "failedAt" "I") := by decide +kernel
theorem v_371 : lw_tbl[371]? = some (Cond.fieldLink "OptionBlockPlanner" 82 "OptionBlockPlanner" "failure" "I") := by decide +kernel
theorem v_401 : lw_tbl[401]? = some (Cond.methodLink "OptionBlockPlannerLaw" 182 yX7_subjectCount) := by decide +kernel
theorem v_402 : lw_tbl[402]? = some (Cond.instanceMethod yX7_subjectCount) := by decide +kernel
theorem v_403 : lw_tbl[403]? = some (Cond.selects "OptionBlockPlanner" yX7_subjectCount yX7_subjectCount) := by decide +kernel
theorem v_405 : lw_tbl[405]? = some (Cond.methodLink "OptionBlockPlannerLaw" 192 yX7_blockCount) := by decide +kernel
theorem v_406 : lw_tbl[406]? = some (Cond.instanceMethod yX7_blockCount) := by decide +kernel
theorem v_407 : lw_tbl[407]? = some (Cond.selects "OptionBlockPlanner" yX7_blockCount yX7_blockCount) := by decide +kernel
theorem v_409 : lw_tbl[409]? = some (Cond.methodLink "OptionBlockPlannerLaw" 216 yX7_pupilCount) := by decide +kernel
theorem v_410 : lw_tbl[410]? = some (Cond.instanceMethod yX7_pupilCount) := by decide +kernel
theorem v_411 : lw_tbl[411]? = some (Cond.selects "OptionBlockPlanner" yX7_pupilCount yX7_pupilCount) := by decide +kernel
theorem v_413 : lw_tbl[413]? = some (Cond.methodLink "OptionBlockPlannerLaw" 244 yX7_enrolAll) := by decide +kernel
theorem v_414 : lw_tbl[414]? = some (Cond.instanceMethod yX7_enrolAll) := by decide +kernel
theorem v_415 : lw_tbl[415]? = some (Cond.selects "OptionBlockPlanner" yX7_enrolAll yX7_enrolAll) := by decide +kernel
theorem v_417 : lw_tbl[417]? = some (Cond.methodLink "OptionBlockPlanner" 97 yX3_keep) := by decide +kernel
theorem v_418 : lw_tbl[418]? = some (Cond.instanceMethod yX3_keep) := by decide +kernel
theorem v_419 : lw_tbl[419]? = some (Cond.selects "OptionBlockPlanner$History" yX3_keep yX3_keep) := by decide +kernel
theorem v_421 : lw_tbl[421]? = some (Cond.methodLink "OptionBlockPlanner$History" 22 yX3_planIn) := by decide +kernel
theorem v_423 : lw_tbl[423]? = some (Cond.instanceMethod yX3_planIn) := by decide +kernel
theorem v_425 : lw_tbl[425]? = some (Cond.methodLink "OptionBlockPlanner$History" 26 yX5_copyFrom) := by decide +kernel
theorem v_426 : lw_tbl[426]? = some (Cond.instanceMethod yX5_copyFrom) := by decide +kernel
theorem v_427 : lw_tbl[427]? = some (Cond.selects "OptionBlockPlanner$Plan" yX5_copyFrom yX5_copyFrom) := by decide +kernel
theorem v_429 : lw_tbl[429]? = some (Cond.methodLinkNest "OptionBlockPlanner$Plan" 49 yX7_copyRow "OptionBlockPlanner") := by decide +kernel
theorem v_430 : lw_tbl[430]? = some (Cond.static yX7_copyRow) := by decide +kernel
theorem v_432 : lw_tbl[432]? = some (Cond.methodLink "OptionBlockPlanner" 349 yJ9_min_7cf53) := by decide +kernel
theorem v_433 : lw_tbl[433]? = some (Cond.static yJ9_min_7cf53) := by decide +kernel
theorem v_435 : lw_tbl[435]? = some (Cond.methodLink "OptionBlockPlanner" 354 ⟨"java/lang/System", "arraycopy", "(Ljava/lang/Object;ILjava/lang/Object;II)V"⟩) := by decide +kernel
theorem v_436 : lw_tbl[436]? = some (Cond.static ⟨"java/lang/System", "arraycopy", "(Ljava/lang/Object;ILjava/lang/Object;II)V"⟩) := by decide +kernel
theorem v_438 : lw_tbl[438]? = some (Cond.methodLink "OptionBlockPlanner$History" 33 yJ9_min_7cf53) := by decide +kernel
theorem v_439 : lw_tbl[439]? = some (Cond.methodLink "OptionBlockPlanner" 174 yX2_faultOfEnrolling) := by decide +kernel
theorem v_440 : lw_tbl[440]? = some (Cond.instanceMethod yX2_faultOfEnrolling) := by decide +kernel
theorem v_441 : lw_tbl[441]? = some (Cond.selects "OptionBlockPlanner$Changes" yX2_faultOfEnrolling yX2_faultOfEnrolling) := by decide +kernel
theorem v_443 : lw_tbl[443]? = some (Cond.methodLink "OptionBlockPlanner$Changes" 111 yX5_hasPupil) := by decide +kernel
theorem v_444 : lw_tbl[444]? = some (Cond.instanceMethod yX5_hasPupil) := by decide +kernel
theorem v_445 : lw_tbl[445]? = some (Cond.selects "OptionBlockPlanner$Plan" yX5_hasPupil yX5_hasPupil) := by decide +kernel
theorem v_447 : lw_tbl[447]? = some (Cond.methodLink "OptionBlockPlanner$Changes" 151 yX5_lessonsOf) := by decide +kernel
theorem v_448 : lw_tbl[448]? = some (Cond.instanceMethod yX5_lessonsOf) := by decide +kernel
theorem v_449 : lw_tbl[449]? = some (Cond.selects "OptionBlockPlanner$Plan" yX5_lessonsOf yX5_lessonsOf) := by decide +kernel
theorem v_451 : lw_tbl[451]? = some (Cond.methodLink "OptionBlockPlanner$Plan" 96 yX5_busyPupils) := by decide +kernel
theorem v_452 : lw_tbl[452]? = some (Cond.instanceMethod yX5_busyPupils) := by decide +kernel
theorem v_453 : lw_tbl[453]? = some (Cond.selects "OptionBlockPlanner$Plan" yX5_busyPupils yX5_busyPupils) := by decide +kernel
theorem v_455 : lw_tbl[455]? = some (Cond.methodLink "OptionBlockPlanner$Plan" 73 yX5_roster) := by decide +kernel
theorem v_456 : lw_tbl[456]? = some (Cond.instanceMethod yX5_roster) := by decide +kernel
theorem v_457 : lw_tbl[457]? = some (Cond.selects "OptionBlockPlanner$Plan" yX5_roster yX5_roster) := by decide +kernel
theorem v_459 : lw_tbl[459]? = some (Cond.methodLinkNest "OptionBlockPlanner$Plan" 60 yX7_read "OptionBlockPlanner") := by decide +kernel
theorem v_460 : lw_tbl[460]? = some (Cond.static yX7_read) := by decide +kernel
theorem v_462 : lw_tbl[462]? = some (Cond.methodLinkNest "OptionBlockPlanner$Plan" 82 yX7_holds "OptionBlockPlanner") := by decide +kernel
theorem v_463 : lw_tbl[463]? = some (Cond.static yX7_holds) := by decide +kernel
theorem v_465 : lw_tbl[465]? = some (Cond.methodLinkNest "OptionBlockPlanner$Changes" 141 yX7_read "OptionBlockPlanner") := by decide +kernel
theorem v_466 : lw_tbl[466]? = some (Cond.methodLink "OptionBlockPlanner" 177 yX4_giveBest) := by decide +kernel
theorem v_467 : lw_tbl[467]? = some (Cond.instanceMethod yX4_giveBest) := by decide +kernel
theorem v_468 : lw_tbl[468]? = some (Cond.selects "OptionBlockPlanner$Placements" yX4_giveBest yX4_giveBest) := by decide +kernel
theorem v_470 : lw_tbl[470]? = some (Cond.methodLink "OptionBlockPlanner$Placements" 25 yX4_collectRoomy) := by decide +kernel
theorem v_472 : lw_tbl[472]? = some (Cond.instanceMethod yX4_collectRoomy) := by decide +kernel
theorem v_474 : lw_tbl[474]? = some (Cond.methodLinkNest "OptionBlockPlanner$Placements" 38 yX7_read "OptionBlockPlanner") := by decide +kernel
theorem v_475 : lw_tbl[475]? = some (Cond.methodLink "OptionBlockPlanner$Placements" 42 yX5_wish) := by decide +kernel
theorem v_476 : lw_tbl[476]? = some (Cond.instanceMethod yX5_wish) := by decide +kernel
theorem v_477 : lw_tbl[477]? = some (Cond.selects "OptionBlockPlanner$Plan" yX5_wish yX5_wish) := by decide +kernel
theorem v_479 : lw_tbl[479]? = some (Cond.methodLink "OptionBlockPlanner$Placements" 82 yX5_roomyBlocks) := by decide +kernel
theorem v_480 : lw_tbl[480]? = some (Cond.instanceMethod yX5_roomyBlocks) := by decide +kernel
theorem v_481 : lw_tbl[481]? = some (Cond.selects "OptionBlockPlanner$Plan" yX5_roomyBlocks yX5_roomyBlocks) := by decide +kernel
theorem v_483 : lw_tbl[483]? = some (Cond.methodLink "OptionBlockPlanner$Plan" 64 yX5_openBlocks) := by decide +kernel
theorem v_484 : lw_tbl[484]? = some (Cond.instanceMethod yX5_openBlocks) := by decide +kernel
theorem v_485 : lw_tbl[485]? = some (Cond.selects "OptionBlockPlanner$Plan" yX5_openBlocks yX5_openBlocks) := by decide +kernel
theorem v_487 : lw_tbl[487]? = some (Cond.methodLink "OptionBlockPlanner$Plan" 53 yX5_hasSubject) := by decide +kernel
theorem v_488 : lw_tbl[488]? = some (Cond.instanceMethod yX5_hasSubject) := by decide +kernel
theorem v_489 : lw_tbl[489]? = some (Cond.selects "OptionBlockPlanner$Plan" yX5_hasSubject yX5_hasSubject) := by decide +kernel
theorem v_491 : lw_tbl[491]? = some (Cond.methodLink "OptionBlockPlanner$Plan" 68 yJ6_bitCount_0f7a4) := by decide +kernel
theorem v_492 : lw_tbl[492]? = some (Cond.static yJ6_bitCount_0f7a4) := by decide +kernel
theorem v_497 : lw_tbl[497]? = some (Cond.methodLinkNest "OptionBlockPlanner$Placements" 85 yX7_write "OptionBlockPlanner") := by decide +kernel
theorem v_498 : lw_tbl[498]? = some (Cond.static yX7_write) := by decide +kernel
theorem v_500 : lw_tbl[500]? = some (Cond.methodLink "OptionBlockPlanner$Placements" 89 yX4_scoreOf) := by decide +kernel
theorem v_501 : lw_tbl[501]? = some (Cond.static yX4_scoreOf) := by decide +kernel
theorem v_503 : lw_tbl[503]? = some (Cond.methodLink "OptionBlockPlanner$Placements" 29 yX4_findBest) := by decide +kernel
theorem v_505 : lw_tbl[505]? = some (Cond.instanceMethod yX4_findBest) := by decide +kernel
theorem v_507 : lw_tbl[507]? = some (Cond.methodLink "OptionBlockPlanner$Placements" 98 yX4_extend) := by decide +kernel
theorem v_508 : lw_tbl[508]? = some (Cond.static yX4_extend) := by decide +kernel
theorem v_510 : lw_tbl[510]? = some (Cond.methodLink "OptionBlockPlanner$Placements" 102 yX4_keepIfBetter) := by decide +kernel
theorem v_512 : lw_tbl[512]? = some (Cond.instanceMethod yX4_keepIfBetter) := by decide +kernel
theorem v_514 : lw_tbl[514]? = some (Cond.methodLinkNest "OptionBlockPlanner$Placements" 105 yX7_copyRow "OptionBlockPlanner") := by decide +kernel
theorem v_515 : lw_tbl[515]? = some (Cond.methodLinkNest "OptionBlockPlanner$Placements" 69 yX7_holds "OptionBlockPlanner") := by decide +kernel
theorem v_516 : lw_tbl[516]? = some (Cond.methodLink "OptionBlockPlanner$Placements" 46 yX5_enter) := by decide +kernel
theorem v_517 : lw_tbl[517]? = some (Cond.instanceMethod yX5_enter) := by decide +kernel
theorem v_518 : lw_tbl[518]? = some (Cond.selects "OptionBlockPlanner$Plan" yX5_enter yX5_enter) := by decide +kernel
theorem v_520 : lw_tbl[520]? = some (Cond.methodLink "OptionBlockPlanner$Plan" 93 yX5_hasClass) := by decide +kernel
theorem v_521 : lw_tbl[521]? = some (Cond.instanceMethod yX5_hasClass) := by decide +kernel
theorem v_522 : lw_tbl[522]? = some (Cond.selects "OptionBlockPlanner$Plan" yX5_hasClass yX5_hasClass) := by decide +kernel
theorem v_524 : lw_tbl[524]? = some (Cond.methodLink "OptionBlockPlanner$Plan" 57 yX5_hasBlock) := by decide +kernel
theorem v_525 : lw_tbl[525]? = some (Cond.instanceMethod yX5_hasBlock) := by decide +kernel
theorem v_526 : lw_tbl[526]? = some (Cond.selects "OptionBlockPlanner$Plan" yX5_hasBlock yX5_hasBlock) := by decide +kernel
theorem v_528 : lw_tbl[528]? = some (Cond.methodLinkNest "OptionBlockPlanner$Plan" 86 yX7_write "OptionBlockPlanner") := by decide +kernel
theorem v_529 : lw_tbl[529]? = some (Cond.methodLink "OptionBlockPlanner" 180 yX5_attendsWishes) := by decide +kernel
theorem v_530 : lw_tbl[530]? = some (Cond.instanceMethod yX5_attendsWishes) := by decide +kernel
theorem v_531 : lw_tbl[531]? = some (Cond.selects "OptionBlockPlanner$Plan" yX5_attendsWishes yX5_attendsWishes) := by decide +kernel
theorem v_533 : lw_tbl[533]? = some (Cond.methodLink "OptionBlockPlanner$Plan" 99 yX5_wish) := by decide +kernel
theorem v_534 : lw_tbl[534]? = some (Cond.methodLink "OptionBlockPlanner$Plan" 102 yX5_blockTaken) := by decide +kernel
theorem v_535 : lw_tbl[535]? = some (Cond.instanceMethod yX5_blockTaken) := by decide +kernel
theorem v_536 : lw_tbl[536]? = some (Cond.selects "OptionBlockPlanner$Plan" yX5_blockTaken yX5_blockTaken) := by decide +kernel
theorem v_538 : lw_tbl[538]? = some (Cond.methodLink "OptionBlockPlannerLaw" 263 yX7_servedCount) := by decide +kernel
theorem v_539 : lw_tbl[539]? = some (Cond.instanceMethod yX7_servedCount) := by decide +kernel
theorem v_540 : lw_tbl[540]? = some (Cond.selects "OptionBlockPlanner" yX7_servedCount yX7_servedCount) := by decide +kernel
theorem v_542 : lw_tbl[542]? = some (Cond.methodLink "OptionBlockPlannerLaw" 304 yX7_clashCount) := by decide +kernel
theorem v_543 : lw_tbl[543]? = some (Cond.instanceMethod yX7_clashCount) := by decide +kernel
theorem v_544 : lw_tbl[544]? = some (Cond.selects "OptionBlockPlanner" yX7_clashCount yX7_clashCount) := by decide +kernel
theorem v_546 : lw_tbl[546]? = some (Cond.methodLink "OptionBlockPlanner" 246 yX5_clash) := by decide +kernel
theorem v_547 : lw_tbl[547]? = some (Cond.instanceMethod yX5_clash) := by decide +kernel
theorem v_548 : lw_tbl[548]? = some (Cond.selects "OptionBlockPlanner$Plan" yX5_clash yX5_clash) := by decide +kernel
theorem v_550 : lw_tbl[550]? = some (Cond.methodLink "OptionBlockPlanner" 243 yX5_wishersOfBoth) := by decide +kernel
theorem v_551 : lw_tbl[551]? = some (Cond.instanceMethod yX5_wishersOfBoth) := by decide +kernel
theorem v_552 : lw_tbl[552]? = some (Cond.selects "OptionBlockPlanner$Plan" yX5_wishersOfBoth yX5_wishersOfBoth) := by decide +kernel
theorem v_554 : lw_tbl[554]? = some (Cond.methodLink "OptionBlockPlanner$Plan" 90 yX5_wishSet) := by decide +kernel
theorem v_555 : lw_tbl[555]? = some (Cond.instanceMethod yX5_wishSet) := by decide +kernel
theorem v_556 : lw_tbl[556]? = some (Cond.selects "OptionBlockPlanner$Plan" yX5_wishSet yX5_wishSet) := by decide +kernel
theorem v_558 : lw_tbl[558]? = some (Cond.methodLink "OptionBlockPlannerLaw" 308 yX7_leastClashes) := by decide +kernel
theorem v_559 : lw_tbl[559]? = some (Cond.instanceMethod yX7_leastClashes) := by decide +kernel
theorem v_560 : lw_tbl[560]? = some (Cond.selects "OptionBlockPlanner" yX7_leastClashes yX7_leastClashes) := by decide +kernel
theorem v_562 : lw_tbl[562]? = some (Cond.methodLink "OptionBlockPlanner" 249 yX0_findBest) := by decide +kernel
theorem v_563 : lw_tbl[563]? = some (Cond.instanceMethod yX0_findBest) := by decide +kernel
theorem v_564 : lw_tbl[564]? = some (Cond.selects "OptionBlockPlanner$Arrangements" yX0_findBest yX0_findBest) := by decide +kernel
theorem v_566 : lw_tbl[566]? = some (Cond.methodLink "OptionBlockPlanner$Arrangements" 28 yX0_collectCommon) := by decide +kernel
theorem v_568 : lw_tbl[568]? = some (Cond.instanceMethod yX0_collectCommon) := by decide +kernel
theorem v_570 : lw_tbl[570]? = some (Cond.methodLinkNest "OptionBlockPlanner$Arrangements" 60 yX7_write "OptionBlockPlanner") := by decide +kernel
theorem v_571 : lw_tbl[571]? = some (Cond.methodLink "OptionBlockPlanner$Arrangements" 67 yX5_wishSet) := by decide +kernel
theorem v_572 : lw_tbl[572]? = some (Cond.methodLink "OptionBlockPlanner$Arrangements" 71 yX0_countPairs) := by decide +kernel
theorem v_574 : lw_tbl[574]? = some (Cond.instanceMethod yX0_countPairs) := by decide +kernel
theorem v_576 : lw_tbl[576]? = some (Cond.methodLinkNest "OptionBlockPlanner$Arrangements" 75 yX7_holds "OptionBlockPlanner") := by decide +kernel
theorem v_577 : lw_tbl[577]? = some (Cond.methodLinkNest "OptionBlockPlanner$Arrangements" 52 yX7_read "OptionBlockPlanner") := by decide +kernel
theorem v_578 : lw_tbl[578]? = some (Cond.methodLink "OptionBlockPlanner$Arrangements" 35 yX0_settle) := by decide +kernel
theorem v_579 : lw_tbl[579]? = some (Cond.static yX0_settle) := by decide +kernel
theorem v_581 : lw_tbl[581]? = some (Cond.methodLinkNest "OptionBlockPlanner$Arrangements" 79 yX7_copyRow "OptionBlockPlanner") := by decide +kernel
theorem v_582 : lw_tbl[582]? = some (Cond.methodLink "OptionBlockPlanner$Arrangements" 83 yX0_weigh) := by decide +kernel
theorem v_584 : lw_tbl[584]? = some (Cond.instanceMethod yX0_weigh) := by decide +kernel
theorem v_586 : lw_tbl[586]? = some (Cond.methodLink "OptionBlockPlannerLaw" 312 yX7_leastClashesByTrial) := by decide +kernel
theorem v_587 : lw_tbl[587]? = some (Cond.instanceMethod yX7_leastClashesByTrial) := by decide +kernel
theorem v_588 : lw_tbl[588]? = some (Cond.selects "OptionBlockPlanner" yX7_leastClashesByTrial yX7_leastClashesByTrial) := by decide +kernel
theorem v_590 : lw_tbl[590]? = some (Cond.methodLink "OptionBlockPlanner" 252 yX0_fewestByTrial) := by decide +kernel
theorem v_591 : lw_tbl[591]? = some (Cond.instanceMethod yX0_fewestByTrial) := by decide +kernel
theorem v_592 : lw_tbl[592]? = some (Cond.selects "OptionBlockPlanner$Arrangements" yX0_fewestByTrial yX0_fewestByTrial) := by decide +kernel
theorem v_594 : lw_tbl[594]? = some (Cond.methodLink "OptionBlockPlanner$Arrangements" 39 yX0_tryAll) := by decide +kernel
theorem v_595 : lw_tbl[595]? = some (Cond.static yX0_tryAll) := by decide +kernel
theorem v_597 : lw_tbl[597]? = some (Cond.methodLink "OptionBlockPlanner$Arrangements" 89 yJ9_min_7cf53) := by decide +kernel
theorem v_598 : lw_tbl[598]? = some (Cond.methodLink "OptionBlockPlannerLaw" 344 yX7_save) := by decide +kernel
theorem v_599 : lw_tbl[599]? = some (Cond.instanceMethod yX7_save) := by decide +kernel
theorem v_600 : lw_tbl[600]? = some (Cond.selects "OptionBlockPlanner" yX7_save yX7_save) := by decide +kernel
theorem v_602 : lw_tbl[602]? = some (Cond.methodLink "OptionBlockPlanner" 293 yX5_copyFrom) := by decide +kernel
theorem v_603 : lw_tbl[603]? = some (Cond.methodLink "OptionBlockPlannerLaw" 169 yL_addSubject) := by decide +kernel
theorem v_604 : lw_tbl[604]? = some (Cond.static yL_addSubject) := by decide +kernel
theorem v_606 : lw_tbl[606]? = some (Cond.classLink "OptionBlockPlannerLaw" 13 "java/lang/IllegalArgumentException") := by decide +kernel
theorem v_607 : lw_tbl[607]? = some (Cond.classLink "OptionBlockPlannerLaw" 15 "java/lang/IllegalStateException") := by decide +kernel
theorem v_608 : lw_tbl[608]? = some (Cond.methodLink "OptionBlockPlannerLaw" 7 yX7_addSubject) := by decide +kernel
theorem v_609 : lw_tbl[609]? = some (Cond.instanceMethod yX7_addSubject) := by decide +kernel
theorem v_610 : lw_tbl[610]? = some (Cond.selects "OptionBlockPlanner" yX7_addSubject yX7_addSubject) := by decide +kernel
theorem v_612 : lw_tbl[612]? = some (Cond.methodLink "OptionBlockPlanner" 85 yX7_make) := by decide +kernel
theorem v_614 : lw_tbl[614]? = some (Cond.instanceMethod yX7_make) := by decide +kernel
theorem v_616 : lw_tbl[616]? = some (Cond.methodLink "OptionBlockPlanner" 305 yX2_faultOf) := by decide +kernel
theorem v_617 : lw_tbl[617]? = some (Cond.instanceMethod yX2_faultOf) := by decide +kernel
theorem v_618 : lw_tbl[618]? = some (Cond.selects "OptionBlockPlanner$Changes" yX2_faultOf yX2_faultOf) := by decide +kernel
theorem v_620 : lw_tbl[620]? = some (Cond.methodLink "OptionBlockPlanner$Changes" 31 yX2_faultOfNewSubject) := by decide +kernel
theorem v_622 : lw_tbl[622]? = some (Cond.instanceMethod yX2_faultOfNewSubject) := by decide +kernel
theorem v_624 : lw_tbl[624]? = some (Cond.methodLink "OptionBlockPlanner$Changes" 35 yX2_faultOfBlocks) := by decide +kernel
theorem v_626 : lw_tbl[626]? = some (Cond.instanceMethod yX2_faultOfBlocks) := by decide +kernel
theorem v_628 : lw_tbl[628]? = some (Cond.methodLink "OptionBlockPlanner$Changes" 79 yX5_openBlocks) := by decide +kernel
theorem v_629 : lw_tbl[629]? = some (Cond.methodLink "OptionBlockPlanner$Changes" 38 yX2_faultOfOpening) := by decide +kernel
theorem v_631 : lw_tbl[631]? = some (Cond.instanceMethod yX2_faultOfOpening) := by decide +kernel
theorem v_633 : lw_tbl[633]? = some (Cond.methodLink "OptionBlockPlanner$Changes" 127 yX5_hasClass) := by decide +kernel
theorem v_634 : lw_tbl[634]? = some (Cond.methodLinkNest "OptionBlockPlanner$Changes" 131 yX7_holds "OptionBlockPlanner") := by decide +kernel
theorem v_635 : lw_tbl[635]? = some (Cond.methodLink "OptionBlockPlanner$Changes" 42 yX2_faultOfClosing) := by decide +kernel
theorem v_637 : lw_tbl[637]? = some (Cond.instanceMethod yX2_faultOfClosing) := by decide +kernel
theorem v_639 : lw_tbl[639]? = some (Cond.methodLink "OptionBlockPlanner$Changes" 134 yX5_roster) := by decide +kernel
theorem v_640 : lw_tbl[640]? = some (Cond.methodLink "OptionBlockPlanner$Changes" 50 yX2_faultOfWish) := by decide +kernel
theorem v_642 : lw_tbl[642]? = some (Cond.instanceMethod yX2_faultOfWish) := by decide +kernel
theorem v_644 : lw_tbl[644]? = some (Cond.methodLink "OptionBlockPlanner$Changes" 53 yX2_faultOfReserve) := by decide +kernel
theorem v_646 : lw_tbl[646]? = some (Cond.instanceMethod yX2_faultOfReserve) := by decide +kernel
theorem v_648 : lw_tbl[648]? = some (Cond.methodLink "OptionBlockPlanner$Changes" 115 yX5_hasSubject) := by decide +kernel
theorem v_649 : lw_tbl[649]? = some (Cond.methodLink "OptionBlockPlanner$Changes" 145 yX5_wishSet) := by decide +kernel
theorem v_650 : lw_tbl[650]? = some (Cond.methodLink "OptionBlockPlanner$Changes" 56 yX2_faultOfEnrolling) := by decide +kernel
theorem v_651 : lw_tbl[651]? = some (Cond.methodLink "OptionBlockPlanner$Changes" 59 yX2_faultOfJoining) := by decide +kernel
theorem v_653 : lw_tbl[653]? = some (Cond.instanceMethod yX2_faultOfJoining) := by decide +kernel
theorem v_655 : lw_tbl[655]? = some (Cond.methodLink "OptionBlockPlanner$Changes" 154 yX2_faultOfJoiner) := by decide +kernel
theorem v_656 : lw_tbl[656]? = some (Cond.instanceMethod yX2_faultOfJoiner) := by decide +kernel
theorem v_657 : lw_tbl[657]? = some (Cond.selects "OptionBlockPlanner$Changes" yX2_faultOfJoiner yX2_faultOfJoiner) := by decide +kernel
theorem v_659 : lw_tbl[659]? = some (Cond.methodLink "OptionBlockPlanner$Changes" 118 yX5_blockTaken) := by decide +kernel
theorem v_660 : lw_tbl[660]? = some (Cond.methodLink "OptionBlockPlanner$Changes" 157 yX5_freeBlocks) := by decide +kernel
theorem v_661 : lw_tbl[661]? = some (Cond.instanceMethod yX5_freeBlocks) := by decide +kernel
theorem v_662 : lw_tbl[662]? = some (Cond.selects "OptionBlockPlanner$Plan" yX5_freeBlocks yX5_freeBlocks) := by decide +kernel
theorem v_664 : lw_tbl[664]? = some (Cond.methodLink "OptionBlockPlanner$Changes" 160 yX1_fewestMoves) := by decide +kernel
theorem v_665 : lw_tbl[665]? = some (Cond.instanceMethod yX1_fewestMoves) := by decide +kernel
theorem v_666 : lw_tbl[666]? = some (Cond.selects "OptionBlockPlanner$Chains" yX1_fewestMoves yX1_fewestMoves) := by decide +kernel
theorem v_668 : lw_tbl[668]? = some (Cond.methodLink "OptionBlockPlanner$Chains" 25 yX5_roomyBlocks) := by decide +kernel
theorem v_669 : lw_tbl[669]? = some (Cond.methodLink "OptionBlockPlanner$Chains" 31 yX5_roster) := by decide +kernel
theorem v_670 : lw_tbl[670]? = some (Cond.methodLinkNest "OptionBlockPlanner$Chains" 34 yX7_write "OptionBlockPlanner") := by decide +kernel
theorem v_671 : lw_tbl[671]? = some (Cond.methodLink "OptionBlockPlanner$Chains" 38 yX5_busyPupils) := by decide +kernel
theorem v_672 : lw_tbl[672]? = some (Cond.methodLinkNest "OptionBlockPlanner$Chains" 42 yX7_holds "OptionBlockPlanner") := by decide +kernel
theorem v_673 : lw_tbl[673]? = some (Cond.methodLink "OptionBlockPlanner$Chains" 46 yX1_measure) := by decide +kernel
theorem v_675 : lw_tbl[675]? = some (Cond.instanceMethod yX1_measure) := by decide +kernel
theorem v_677 : lw_tbl[677]? = some (Cond.methodLinkNest "OptionBlockPlanner$Chains" 53 yX7_read "OptionBlockPlanner") := by decide +kernel
theorem v_678 : lw_tbl[678]? = some (Cond.methodLink "OptionBlockPlanner$Chains" 70 yX1_nextBlock) := by decide +kernel
theorem v_680 : lw_tbl[680]? = some (Cond.instanceMethod yX1_nextBlock) := by decide +kernel
theorem v_682 : lw_tbl[682]? = some (Cond.methodLink "OptionBlockPlanner$Chains" 50 yX1_nearest) := by decide +kernel
theorem v_684 : lw_tbl[684]? = some (Cond.instanceMethod yX1_nearest) := by decide +kernel
theorem v_686 : lw_tbl[686]? = some (Cond.methodLink "OptionBlockPlanner$Changes" 163 yX2_refusal) := by decide +kernel
theorem v_688 : lw_tbl[688]? = some (Cond.instanceMethod yX2_refusal) := by decide +kernel
theorem v_690 : lw_tbl[690]? = some (Cond.methodLink "OptionBlockPlanner$Changes" 166 yX1_reasonAgainst) := by decide +kernel
theorem v_691 : lw_tbl[691]? = some (Cond.instanceMethod yX1_reasonAgainst) := by decide +kernel
theorem v_692 : lw_tbl[692]? = some (Cond.selects "OptionBlockPlanner$Chains" yX1_reasonAgainst yX1_reasonAgainst) := by decide +kernel
theorem v_694 : lw_tbl[694]? = some (Cond.methodLink "OptionBlockPlanner$Chains" 57 yX5_openBlocks) := by decide +kernel
theorem v_695 : lw_tbl[695]? = some (Cond.methodLink "OptionBlockPlanner$Changes" 62 yX2_faultOfQuitting) := by decide +kernel
theorem v_697 : lw_tbl[697]? = some (Cond.instanceMethod yX2_faultOfQuitting) := by decide +kernel
theorem v_699 : lw_tbl[699]? = some (Cond.methodLink "OptionBlockPlanner$Changes" 65 yX2_faultOfChanging) := by decide +kernel
theorem v_701 : lw_tbl[701]? = some (Cond.instanceMethod yX2_faultOfChanging) := by decide +kernel
theorem v_703 : lw_tbl[703]? = some (Cond.methodLink "OptionBlockPlanner$Changes" 69 yX5_lessonsOfAll) := by decide +kernel
theorem v_704 : lw_tbl[704]? = some (Cond.instanceMethod yX5_lessonsOfAll) := by decide +kernel
theorem v_705 : lw_tbl[705]? = some (Cond.selects "OptionBlockPlanner$Plan" yX5_lessonsOfAll yX5_lessonsOfAll) := by decide +kernel
theorem v_707 : lw_tbl[707]? = some (Cond.methodLink "OptionBlockPlanner" 93 yX7_throwFault) := by decide +kernel
theorem v_708 : lw_tbl[708]? = some (Cond.static yX7_throwFault) := by decide +kernel
theorem v_710 : lw_tbl[710]? = some (Cond.classLink "OptionBlockPlanner" 330 "java/lang/IndexOutOfBoundsException") := by decide +kernel
theorem v_711 : lw_tbl[711]? = some (Cond.instantiable "java/lang/IndexOutOfBoundsException" 6) := by decide +kernel
theorem v_712 : lw_tbl[712]? = some (Cond.castable "java/lang/IndexOutOfBoundsException" "java/lang/IndexOutOfBoundsException") := by decide +kernel
theorem v_719 : lw_tbl[719]? = some (Cond.selects "java/lang/IndexOutOfBoundsException" ⟨"java/lang/Throwable", "fillInStackTrace", "(I)Ljava/lang/Throwable;"⟩ ⟨"java/lang/Throwable", "fillInStackTrace", "(I)Ljava/lang/Throwable;"⟩) := by decide +kernel
theorem v_720 : lw_tbl[720]? = some (Cond.selects "java/lang/IndexOutOfBoundsException" ⟨"java/lang/Throwable", "fillInStackTrace", "()Ljava/lang/Throwable;"⟩ ⟨"java/lang/Throwable", "fillInStackTrace", "()Ljava/lang/Throwable;"⟩) := by decide +kernel
theorem v_731 : lw_tbl[731]? = some (Cond.fieldLink "java/lang/Throwable" 198 "java/lang/Throwable" "backtrace" "Ljava/lang/Object;") := by decide +kernel
theorem v_733 : lw_tbl[733]? = some (Cond.instanceMethod ⟨"java/lang/Throwable", "<init>", "()V"⟩) := by decide +kernel
theorem v_735 : lw_tbl[735]? = some (Cond.methodLink "java/lang/Throwable" 1 ⟨"java/lang/Object", "<init>", "()V"⟩) := by decide +kernel
theorem v_736 : lw_tbl[736]? = some (Cond.fieldLink "java/lang/Throwable" 13 "java/lang/Throwable" "UNASSIGNED_STACK" "[Ljava/lang/StackTraceElement;") := by decide +kernel
theorem v_738 : lw_tbl[738]? = some (Cond.fieldLink "java/lang/Throwable" 20 "java/lang/Throwable" "SUPPRESSED_SENTINEL" "Ljava/util/List;") := by decide +kernel
theorem v_740 : lw_tbl[740]? = some (Cond.methodLink "java/lang/Throwable" 27 ⟨"java/lang/Throwable", "fillInStackTrace", "()Ljava/lang/Throwable;"⟩) := by decide +kernel
theorem v_741 : lw_tbl[741]? = some (Cond.instanceMethod ⟨"java/lang/Throwable", "fillInStackTrace", "()Ljava/lang/Throwable;"⟩) := by decide +kernel
theorem v_743 : lw_tbl[743]? = some (Cond.selects "java/lang/ArithmeticException" ⟨"java/lang/Throwable", "fillInStackTrace", "()Ljava/lang/Throwable;"⟩ ⟨"java/lang/Throwable", "fillInStackTrace", "()Ljava/lang/Throwable;"⟩) := by decide +kernel
theorem v_744 : lw_tbl[744]? = some (Cond.selects "java/lang/ArrayIndexOutOfBoundsException" ⟨"java/lang/Throwable", "fillInStackTrace", "()Ljava/lang/Throwable;"⟩ ⟨"java/lang/Throwable", "fillInStackTrace", "()Ljava/lang/Throwable;"⟩) := by decide +kernel
theorem v_745 : lw_tbl[745]? = some (Cond.selects "java/lang/IllegalArgumentException" ⟨"java/lang/Throwable", "fillInStackTrace", "()Ljava/lang/Throwable;"⟩ ⟨"java/lang/Throwable", "fillInStackTrace", "()Ljava/lang/Throwable;"⟩) := by decide +kernel
theorem v_746 : lw_tbl[746]? = some (Cond.selects "java/lang/IllegalStateException" ⟨"java/lang/Throwable", "fillInStackTrace", "()Ljava/lang/Throwable;"⟩ ⟨"java/lang/Throwable", "fillInStackTrace", "()Ljava/lang/Throwable;"⟩) := by decide +kernel
theorem v_747 : lw_tbl[747]? = some (Cond.selects "java/lang/StringIndexOutOfBoundsException" ⟨"java/lang/Throwable", "fillInStackTrace", "()Ljava/lang/Throwable;"⟩ ⟨"java/lang/Throwable", "fillInStackTrace", "()Ljava/lang/Throwable;"⟩) := by decide +kernel
theorem v_748 : lw_tbl[748]? = some (Cond.selects "java/lang/UnsupportedOperationException" ⟨"java/lang/Throwable", "fillInStackTrace", "()Ljava/lang/Throwable;"⟩ ⟨"java/lang/Throwable", "fillInStackTrace", "()Ljava/lang/Throwable;"⟩) := by decide +kernel
theorem v_749 : lw_tbl[749]? = some (Cond.selects "java/util/NoSuchElementException" ⟨"java/lang/Throwable", "fillInStackTrace", "()Ljava/lang/Throwable;"⟩ ⟨"java/lang/Throwable", "fillInStackTrace", "()Ljava/lang/Throwable;"⟩) := by decide +kernel
theorem v_751 : lw_tbl[751]? = some (Cond.methodLink "java/lang/Throwable" 202 ⟨"java/lang/Throwable", "fillInStackTrace", "(I)Ljava/lang/Throwable;"⟩) := by decide +kernel
theorem v_753 : lw_tbl[753]? = some (Cond.instanceMethod ⟨"java/lang/Throwable", "fillInStackTrace", "(I)Ljava/lang/Throwable;"⟩) := by decide +kernel
theorem v_754 : lw_tbl[754]? = some (Cond.instantiable "java/lang/Throwable" 6) := by decide +kernel
theorem v_756 : lw_tbl[756]? = some (Cond.stringRef "OptionBlockPlanner" 332 "no such number") := by decide +kernel
theorem v_757 : lw_tbl[757]? = some (Cond.methodLink "OptionBlockPlanner" 334 ⟨"java/lang/IndexOutOfBoundsException", "<init>", "(Ljava/lang/String;)V"⟩) := by decide +kernel
theorem v_758 : lw_tbl[758]? = some (Cond.instanceMethod ⟨"java/lang/IndexOutOfBoundsException", "<init>", "(Ljava/lang/String;)V"⟩) := by decide +kernel
theorem v_760 : lw_tbl[760]? = some (Cond.methodLink "java/lang/IndexOutOfBoundsException" 7 ⟨"java/lang/RuntimeException", "<init>", "(Ljava/lang/String;)V"⟩) := by decide +kernel
theorem v_761 : lw_tbl[761]? = some (Cond.instanceMethod ⟨"java/lang/RuntimeException", "<init>", "(Ljava/lang/String;)V"⟩) := by decide +kernel
theorem v_763 : lw_tbl[763]? = some (Cond.methodLink "java/lang/RuntimeException" 7 ⟨"java/lang/Exception", "<init>", "(Ljava/lang/String;)V"⟩) := by decide +kernel
theorem v_764 : lw_tbl[764]? = some (Cond.instanceMethod ⟨"java/lang/Exception", "<init>", "(Ljava/lang/String;)V"⟩) := by decide +kernel
theorem v_766 : lw_tbl[766]? = some (Cond.methodLink "java/lang/Exception" 7 ⟨"java/lang/Throwable", "<init>", "(Ljava/lang/String;)V"⟩) := by decide +kernel
theorem v_767 : lw_tbl[767]? = some (Cond.instanceMethod ⟨"java/lang/Throwable", "<init>", "(Ljava/lang/String;)V"⟩) := by decide +kernel
theorem v_770 : lw_tbl[770]? = some (Cond.fieldLink "java/lang/Throwable" 31 "java/lang/Throwable" "detailMessage" "Ljava/lang/String;") := by decide +kernel
theorem v_771 : lw_tbl[771]? = some (Cond.fieldLink "java/lang/Throwable" 7 "java/lang/Throwable" "cause" "Ljava/lang/Throwable;") := by decide +kernel
theorem v_772 : lw_tbl[772]? = some (Cond.fieldLink "java/lang/Throwable" 17 "java/lang/Throwable" "stackTrace" "[Ljava/lang/StackTraceElement;") := by decide +kernel
theorem v_773 : lw_tbl[773]? = some (Cond.fieldLink "java/lang/Throwable" 24 "java/lang/Throwable" "suppressedExceptions" "Ljava/util/List;") := by decide +kernel
theorem v_782 : lw_tbl[782]? = some (Cond.classLink "OptionBlockPlanner" 275 "java/lang/IllegalArgumentException") := by decide +kernel
theorem v_783 : lw_tbl[783]? = some (Cond.instantiable "java/lang/IllegalArgumentException" 6) := by decide +kernel
theorem v_784 : lw_tbl[784]? = some (Cond.castable "java/lang/IllegalArgumentException" "java/lang/IllegalArgumentException") := by decide +kernel
theorem v_785 : lw_tbl[785]? = some (Cond.selects "java/lang/IllegalArgumentException" ⟨"java/lang/Throwable", "fillInStackTrace", "(I)Ljava/lang/Throwable;"⟩ ⟨"java/lang/Throwable", "fillInStackTrace", "(I)Ljava/lang/Throwable;"⟩) := by decide +kernel
theorem v_791 : lw_tbl[791]? = some (Cond.stringRef "OptionBlockPlanner" 340 "out of range") := by decide +kernel
theorem v_792 : lw_tbl[792]? = some (Cond.methodLink "OptionBlockPlanner" 279 ⟨"java/lang/IllegalArgumentException", "<init>", "(Ljava/lang/String;)V"⟩) := by decide +kernel
theorem v_793 : lw_tbl[793]? = some (Cond.instanceMethod ⟨"java/lang/IllegalArgumentException", "<init>", "(Ljava/lang/String;)V"⟩) := by decide +kernel
theorem v_795 : lw_tbl[795]? = some (Cond.methodLink "java/lang/IllegalArgumentException" 7 ⟨"java/lang/RuntimeException", "<init>", "(Ljava/lang/String;)V"⟩) := by decide +kernel
theorem v_798 : lw_tbl[798]? = some (Cond.classLink "OptionBlockPlanner" 283 "java/lang/IllegalStateException") := by decide +kernel
theorem v_799 : lw_tbl[799]? = some (Cond.instantiable "java/lang/IllegalStateException" 6) := by decide +kernel
theorem v_800 : lw_tbl[800]? = some (Cond.castable "java/lang/IllegalStateException" "java/lang/IllegalStateException") := by decide +kernel
theorem v_801 : lw_tbl[801]? = some (Cond.selects "java/lang/IllegalStateException" ⟨"java/lang/Throwable", "fillInStackTrace", "(I)Ljava/lang/Throwable;"⟩ ⟨"java/lang/Throwable", "fillInStackTrace", "(I)Ljava/lang/Throwable;"⟩) := by decide +kernel
theorem v_807 : lw_tbl[807]? = some (Cond.stringRef "OptionBlockPlanner" 342 "not in this state") := by decide +kernel
theorem v_808 : lw_tbl[808]? = some (Cond.methodLink "OptionBlockPlanner" 287 ⟨"java/lang/IllegalStateException", "<init>", "(Ljava/lang/String;)V"⟩) := by decide +kernel
theorem v_809 : lw_tbl[809]? = some (Cond.instanceMethod ⟨"java/lang/IllegalStateException", "<init>", "(Ljava/lang/String;)V"⟩) := by decide +kernel
theorem v_811 : lw_tbl[811]? = some (Cond.methodLink "java/lang/IllegalStateException" 7 ⟨"java/lang/RuntimeException", "<init>", "(Ljava/lang/String;)V"⟩) := by decide +kernel
theorem v_814 : lw_tbl[814]? = some (Cond.classLink "OptionBlockPlanner" 344 "java/lang/UnsupportedOperationException") := by decide +kernel
theorem v_815 : lw_tbl[815]? = some (Cond.instantiable "java/lang/UnsupportedOperationException" 6) := by decide +kernel
theorem v_816 : lw_tbl[816]? = some (Cond.castable "java/lang/UnsupportedOperationException" "java/lang/UnsupportedOperationException") := by decide +kernel
theorem v_817 : lw_tbl[817]? = some (Cond.selects "java/lang/UnsupportedOperationException" ⟨"java/lang/Throwable", "fillInStackTrace", "(I)Ljava/lang/Throwable;"⟩ ⟨"java/lang/Throwable", "fillInStackTrace", "(I)Ljava/lang/Throwable;"⟩) := by decide +kernel
theorem v_823 : lw_tbl[823]? = some (Cond.stringRef "OptionBlockPlanner" 346 "refused") := by decide +kernel
theorem v_824 : lw_tbl[824]? = some (Cond.methodLink "OptionBlockPlanner" 348 ⟨"java/lang/UnsupportedOperationException", "<init>", "(Ljava/lang/String;)V"⟩) := by decide +kernel
theorem v_825 : lw_tbl[825]? = some (Cond.instanceMethod ⟨"java/lang/UnsupportedOperationException", "<init>", "(Ljava/lang/String;)V"⟩) := by decide +kernel
theorem v_827 : lw_tbl[827]? = some (Cond.methodLink "java/lang/UnsupportedOperationException" 7 ⟨"java/lang/RuntimeException", "<init>", "(Ljava/lang/String;)V"⟩) := by decide +kernel
theorem v_830 : lw_tbl[830]? = some (Cond.methodLink "OptionBlockPlanner" 310 yX2_perform) := by decide +kernel
theorem v_831 : lw_tbl[831]? = some (Cond.instanceMethod yX2_perform) := by decide +kernel
theorem v_832 : lw_tbl[832]? = some (Cond.selects "OptionBlockPlanner$Changes" yX2_perform yX2_perform) := by decide +kernel
theorem v_834 : lw_tbl[834]? = some (Cond.methodLink "OptionBlockPlanner$Changes" 73 yX5_newSubject) := by decide +kernel
theorem v_835 : lw_tbl[835]? = some (Cond.instanceMethod yX5_newSubject) := by decide +kernel
theorem v_836 : lw_tbl[836]? = some (Cond.selects "OptionBlockPlanner$Plan" yX5_newSubject yX5_newSubject) := by decide +kernel
theorem v_838 : lw_tbl[838]? = some (Cond.methodLink "OptionBlockPlanner$Changes" 76 yX5_setBlocks) := by decide +kernel
theorem v_839 : lw_tbl[839]? = some (Cond.instanceMethod yX5_setBlocks) := by decide +kernel
theorem v_840 : lw_tbl[840]? = some (Cond.selects "OptionBlockPlanner$Plan" yX5_setBlocks yX5_setBlocks) := by decide +kernel
theorem v_842 : lw_tbl[842]? = some (Cond.methodLink "OptionBlockPlanner$Changes" 82 yX5_setOpenBlocks) := by decide +kernel
theorem v_843 : lw_tbl[843]? = some (Cond.instanceMethod yX5_setOpenBlocks) := by decide +kernel
theorem v_844 : lw_tbl[844]? = some (Cond.selects "OptionBlockPlanner$Plan" yX5_setOpenBlocks yX5_setOpenBlocks) := by decide +kernel
theorem v_846 : lw_tbl[846]? = some (Cond.methodLink "OptionBlockPlanner$Changes" 85 yX5_newPupil) := by decide +kernel
theorem v_847 : lw_tbl[847]? = some (Cond.instanceMethod yX5_newPupil) := by decide +kernel
theorem v_848 : lw_tbl[848]? = some (Cond.selects "OptionBlockPlanner$Plan" yX5_newPupil yX5_newPupil) := by decide +kernel
theorem v_850 : lw_tbl[850]? = some (Cond.methodLink "OptionBlockPlanner$Changes" 88 yX5_newWish) := by decide +kernel
theorem v_851 : lw_tbl[851]? = some (Cond.instanceMethod yX5_newWish) := by decide +kernel
theorem v_852 : lw_tbl[852]? = some (Cond.selects "OptionBlockPlanner$Plan" yX5_newWish yX5_newWish) := by decide +kernel
theorem v_854 : lw_tbl[854]? = some (Cond.methodLink "OptionBlockPlanner$Changes" 91 yX5_newReserve) := by decide +kernel
theorem v_855 : lw_tbl[855]? = some (Cond.instanceMethod yX5_newReserve) := by decide +kernel
theorem v_856 : lw_tbl[856]? = some (Cond.selects "OptionBlockPlanner$Plan" yX5_newReserve yX5_newReserve) := by decide +kernel
theorem v_858 : lw_tbl[858]? = some (Cond.methodLink "OptionBlockPlanner$Changes" 94 yX4_giveBest) := by decide +kernel
theorem v_859 : lw_tbl[859]? = some (Cond.methodLink "OptionBlockPlanner$Changes" 99 yX1_carryOut) := by decide +kernel
theorem v_860 : lw_tbl[860]? = some (Cond.instanceMethod yX1_carryOut) := by decide +kernel
theorem v_861 : lw_tbl[861]? = some (Cond.selects "OptionBlockPlanner$Chains" yX1_carryOut yX1_carryOut) := by decide +kernel
theorem v_863 : lw_tbl[863]? = some (Cond.methodLink "OptionBlockPlanner$Chains" 64 yX5_freeBlocks) := by decide +kernel
theorem v_864 : lw_tbl[864]? = some (Cond.methodLink "OptionBlockPlanner$Chains" 67 yX1_fewestMoves) := by decide +kernel
theorem v_865 : lw_tbl[865]? = some (Cond.methodLinkNest "OptionBlockPlanner$Chains" 73 yX7_memberAt "OptionBlockPlanner") := by decide +kernel
theorem v_866 : lw_tbl[866]? = some (Cond.static yX7_memberAt) := by decide +kernel
theorem v_868 : lw_tbl[868]? = some (Cond.methodLink "OptionBlockPlanner" 133 yX7_holds) := by decide +kernel
theorem v_869 : lw_tbl[869]? = some (Cond.methodLink "OptionBlockPlanner$Chains" 76 yX5_noteMove) := by decide +kernel
theorem v_870 : lw_tbl[870]? = some (Cond.instanceMethod yX5_noteMove) := by decide +kernel
theorem v_871 : lw_tbl[871]? = some (Cond.selects "OptionBlockPlanner$Plan" yX5_noteMove yX5_noteMove) := by decide +kernel
theorem v_873 : lw_tbl[873]? = some (Cond.methodLink "OptionBlockPlanner$Chains" 80 yX5_makeMoves) := by decide +kernel
theorem v_874 : lw_tbl[874]? = some (Cond.instanceMethod yX5_makeMoves) := by decide +kernel
theorem v_875 : lw_tbl[875]? = some (Cond.selects "OptionBlockPlanner$Plan" yX5_makeMoves yX5_makeMoves) := by decide +kernel
theorem v_877 : lw_tbl[877]? = some (Cond.methodLink "OptionBlockPlanner$Plan" 105 yX5_leave) := by decide +kernel
theorem v_878 : lw_tbl[878]? = some (Cond.instanceMethod yX5_leave) := by decide +kernel
theorem v_879 : lw_tbl[879]? = some (Cond.selects "OptionBlockPlanner$Plan" yX5_leave yX5_leave) := by decide +kernel
theorem v_881 : lw_tbl[881]? = some (Cond.methodLink "OptionBlockPlanner$Plan" 115 yX5_enter) := by decide +kernel
theorem v_882 : lw_tbl[882]? = some (Cond.methodLink "OptionBlockPlanner$Chains" 83 yX5_enter) := by decide +kernel
theorem v_883 : lw_tbl[883]? = some (Cond.methodLink "OptionBlockPlanner$Changes" 104 yX5_dropLesson) := by decide +kernel
theorem v_884 : lw_tbl[884]? = some (Cond.instanceMethod yX5_dropLesson) := by decide +kernel
theorem v_885 : lw_tbl[885]? = some (Cond.selects "OptionBlockPlanner$Plan" yX5_dropLesson yX5_dropLesson) := by decide +kernel
theorem v_887 : lw_tbl[887]? = some (Cond.methodLink "OptionBlockPlanner$Changes" 107 yX0_carryOut) := by decide +kernel
theorem v_888 : lw_tbl[888]? = some (Cond.instanceMethod yX0_carryOut) := by decide +kernel
theorem v_889 : lw_tbl[889]? = some (Cond.selects "OptionBlockPlanner$Arrangements" yX0_carryOut yX0_carryOut) := by decide +kernel
theorem v_891 : lw_tbl[891]? = some (Cond.methodLink "OptionBlockPlanner$Arrangements" 43 yX0_findBest) := by decide +kernel
theorem v_892 : lw_tbl[892]? = some (Cond.methodLink "OptionBlockPlanner$Arrangements" 56 yX5_setOpenBlocks) := by decide +kernel
theorem v_893 : lw_tbl[893]? = some (Cond.methodLink "OptionBlockPlannerLaw" 178 yL_setSize) := by decide +kernel
theorem v_894 : lw_tbl[894]? = some (Cond.static yL_setSize) := by decide +kernel
theorem v_896 : lw_tbl[896]? = some (Cond.classLink "OptionBlockPlannerLaw" 21 "java/lang/IndexOutOfBoundsException") := by decide +kernel
theorem v_897 : lw_tbl[897]? = some (Cond.instantiable "java/lang/ArrayIndexOutOfBoundsException" 6) := by decide +kernel
theorem v_898 : lw_tbl[898]? = some (Cond.instanceMethod yJx00060_init_a7421) := by decide +kernel
theorem v_900 : lw_tbl[900]? = some (Cond.methodLink "java/lang/ArrayIndexOutOfBoundsException" 7 ⟨"java/lang/IndexOutOfBoundsException", "<init>", "(Ljava/lang/String;)V"⟩) := by decide +kernel
theorem v_908 : lw_tbl[908]? = some (Cond.castable "java/lang/ArrayIndexOutOfBoundsException" "java/lang/ArrayIndexOutOfBoundsException") := by decide +kernel
theorem v_911 : lw_tbl[911]? = some (Cond.selects "java/lang/ArrayIndexOutOfBoundsException" ⟨"java/lang/Throwable", "fillInStackTrace", "(I)Ljava/lang/Throwable;"⟩ ⟨"java/lang/Throwable", "fillInStackTrace", "(I)Ljava/lang/Throwable;"⟩) := by decide +kernel
theorem v_912 : lw_tbl[912]? = some (Cond.instantiable "java/lang/String" 4) := by decide +kernel
theorem v_917 : lw_tbl[917]? = some (Cond.methodLink "OptionBlockPlannerLaw" 17 yX7_setSize) := by decide +kernel
theorem v_918 : lw_tbl[918]? = some (Cond.instanceMethod yX7_setSize) := by decide +kernel
theorem v_919 : lw_tbl[919]? = some (Cond.selects "OptionBlockPlanner" yX7_setSize yX7_setSize) := by decide +kernel
theorem v_921 : lw_tbl[921]? = some (Cond.methodLink "OptionBlockPlanner" 89 yX2_faultOfResizing) := by decide +kernel
theorem v_922 : lw_tbl[922]? = some (Cond.instanceMethod yX2_faultOfResizing) := by decide +kernel
theorem v_923 : lw_tbl[923]? = some (Cond.selects "OptionBlockPlanner$Changes" yX2_faultOfResizing yX2_faultOfResizing) := by decide +kernel
theorem v_925 : lw_tbl[925]? = some (Cond.methodLink "OptionBlockPlanner$Changes" 124 yX5_largestClass) := by decide +kernel
theorem v_926 : lw_tbl[926]? = some (Cond.instanceMethod yX5_largestClass) := by decide +kernel
theorem v_927 : lw_tbl[927]? = some (Cond.selects "OptionBlockPlanner$Plan" yX5_largestClass yX5_largestClass) := by decide +kernel
theorem v_929 : lw_tbl[929]? = some (Cond.methodLink "OptionBlockPlanner$Plan" 77 yJ9_max_7cf53) := by decide +kernel
theorem v_930 : lw_tbl[930]? = some (Cond.static yJ9_max_7cf53) := by decide +kernel
theorem v_932 : lw_tbl[932]? = some (Cond.methodLink "OptionBlockPlanner" 100 yX5_resize) := by decide +kernel
theorem v_933 : lw_tbl[933]? = some (Cond.instanceMethod yX5_resize) := by decide +kernel
theorem v_934 : lw_tbl[934]? = some (Cond.selects "OptionBlockPlanner$Plan" yX5_resize yX5_resize) := by decide +kernel
theorem v_936 : lw_tbl[936]? = some (Cond.methodLink "OptionBlockPlannerLaw" 186 yL_sizeOf) := by decide +kernel
theorem v_937 : lw_tbl[937]? = some (Cond.static yL_sizeOf) := by decide +kernel
theorem v_939 : lw_tbl[939]? = some (Cond.methodLink "OptionBlockPlannerLaw" 23 yX7_sizeOf) := by decide +kernel
theorem v_940 : lw_tbl[940]? = some (Cond.instanceMethod yX7_sizeOf) := by decide +kernel
theorem v_941 : lw_tbl[941]? = some (Cond.selects "OptionBlockPlanner" yX7_sizeOf yX7_sizeOf) := by decide +kernel
theorem v_943 : lw_tbl[943]? = some (Cond.methodLink "OptionBlockPlanner" 106 yX5_hasSubject) := by decide +kernel
theorem v_944 : lw_tbl[944]? = some (Cond.methodLink "OptionBlockPlanner" 110 yX7_needIndex) := by decide +kernel
theorem v_945 : lw_tbl[945]? = some (Cond.static yX7_needIndex) := by decide +kernel
theorem v_947 : lw_tbl[947]? = some (Cond.methodLink "OptionBlockPlanner" 118 yX7_read) := by decide +kernel
theorem v_948 : lw_tbl[948]? = some (Cond.methodLink "OptionBlockPlannerLaw" 189 yL_setBlockCount) := by decide +kernel
theorem v_949 : lw_tbl[949]? = some (Cond.static yL_setBlockCount) := by decide +kernel
theorem v_951 : lw_tbl[951]? = some (Cond.methodLink "OptionBlockPlannerLaw" 26 yX7_setBlockCount) := by decide +kernel
theorem v_952 : lw_tbl[952]? = some (Cond.instanceMethod yX7_setBlockCount) := by decide +kernel
theorem v_953 : lw_tbl[953]? = some (Cond.selects "OptionBlockPlanner" yX7_setBlockCount yX7_setBlockCount) := by decide +kernel
theorem v_955 : lw_tbl[955]? = some (Cond.methodLink "OptionBlockPlannerLaw" 196 yL_openClass) := by decide +kernel
theorem v_956 : lw_tbl[956]? = some (Cond.static yL_openClass) := by decide +kernel
theorem v_958 : lw_tbl[958]? = some (Cond.methodLink "OptionBlockPlannerLaw" 29 yX7_openClass) := by decide +kernel
theorem v_959 : lw_tbl[959]? = some (Cond.instanceMethod yX7_openClass) := by decide +kernel
theorem v_960 : lw_tbl[960]? = some (Cond.selects "OptionBlockPlanner" yX7_openClass yX7_openClass) := by decide +kernel
theorem v_962 : lw_tbl[962]? = some (Cond.methodLink "OptionBlockPlannerLaw" 199 yL_closeClass) := by decide +kernel
theorem v_963 : lw_tbl[963]? = some (Cond.static yL_closeClass) := by decide +kernel
theorem v_965 : lw_tbl[965]? = some (Cond.methodLink "OptionBlockPlannerLaw" 32 yX7_closeClass) := by decide +kernel
theorem v_966 : lw_tbl[966]? = some (Cond.instanceMethod yX7_closeClass) := by decide +kernel
theorem v_967 : lw_tbl[967]? = some (Cond.selects "OptionBlockPlanner" yX7_closeClass yX7_closeClass) := by decide +kernel
theorem v_969 : lw_tbl[969]? = some (Cond.methodLink "OptionBlockPlannerLaw" 202 yL_isOpen) := by decide +kernel
theorem v_970 : lw_tbl[970]? = some (Cond.static yL_isOpen) := by decide +kernel
theorem v_972 : lw_tbl[972]? = some (Cond.methodLink "OptionBlockPlannerLaw" 35 yX7_isOpen) := by decide +kernel
theorem v_973 : lw_tbl[973]? = some (Cond.instanceMethod yX7_isOpen) := by decide +kernel
theorem v_974 : lw_tbl[974]? = some (Cond.selects "OptionBlockPlanner" yX7_isOpen yX7_isOpen) := by decide +kernel
theorem v_976 : lw_tbl[976]? = some (Cond.methodLink "OptionBlockPlanner" 125 yX5_hasClass) := by decide +kernel
theorem v_977 : lw_tbl[977]? = some (Cond.methodLink "OptionBlockPlanner" 129 yX5_openBlocks) := by decide +kernel
theorem v_978 : lw_tbl[978]? = some (Cond.methodLink "OptionBlockPlannerLaw" 205 yL_pupilsInClass) := by decide +kernel
theorem v_979 : lw_tbl[979]? = some (Cond.static yL_pupilsInClass) := by decide +kernel
theorem v_981 : lw_tbl[981]? = some (Cond.methodLink "OptionBlockPlannerLaw" 39 yX7_pupilsInClass) := by decide +kernel
theorem v_982 : lw_tbl[982]? = some (Cond.instanceMethod yX7_pupilsInClass) := by decide +kernel
theorem v_983 : lw_tbl[983]? = some (Cond.selects "OptionBlockPlanner" yX7_pupilsInClass yX7_pupilsInClass) := by decide +kernel
theorem v_985 : lw_tbl[985]? = some (Cond.methodLink "OptionBlockPlanner" 136 yX5_roster) := by decide +kernel
theorem v_986 : lw_tbl[986]? = some (Cond.methodLink "OptionBlockPlanner" 139 yJ6_bitCount_0f7a4) := by decide +kernel
theorem v_987 : lw_tbl[987]? = some (Cond.methodLink "OptionBlockPlannerLaw" 208 yL_pupilInClass) := by decide +kernel
theorem v_988 : lw_tbl[988]? = some (Cond.static yL_pupilInClass) := by decide +kernel
theorem v_990 : lw_tbl[990]? = some (Cond.classLink "OptionBlockPlannerLaw" 46 "java/util/NoSuchElementException") := by decide +kernel
theorem v_991 : lw_tbl[991]? = some (Cond.methodLink "OptionBlockPlannerLaw" 42 yX7_pupilInClass) := by decide +kernel
theorem v_992 : lw_tbl[992]? = some (Cond.instanceMethod yX7_pupilInClass) := by decide +kernel
theorem v_993 : lw_tbl[993]? = some (Cond.selects "OptionBlockPlanner" yX7_pupilInClass yX7_pupilInClass) := by decide +kernel
theorem v_995 : lw_tbl[995]? = some (Cond.methodLink "OptionBlockPlanner" 144 yX7_needElement) := by decide +kernel
theorem v_996 : lw_tbl[996]? = some (Cond.static yX7_needElement) := by decide +kernel
theorem v_998 : lw_tbl[998]? = some (Cond.classLink "OptionBlockPlanner" 335 "java/util/NoSuchElementException") := by decide +kernel
theorem v_999 : lw_tbl[999]? = some (Cond.instantiable "java/util/NoSuchElementException" 6) := by decide +kernel
theorem v_1000 : lw_tbl[1000]? = some (Cond.castable "java/util/NoSuchElementException" "java/util/NoSuchElementException") := by decide +kernel
theorem v_1001 : lw_tbl[1001]? = some (Cond.selects "java/util/NoSuchElementException" ⟨"java/lang/Throwable", "fillInStackTrace", "(I)Ljava/lang/Throwable;"⟩ ⟨"java/lang/Throwable", "fillInStackTrace", "(I)Ljava/lang/Throwable;"⟩) := by decide +kernel
theorem v_1007 : lw_tbl[1007]? = some (Cond.stringRef "OptionBlockPlanner" 337 "there is none") := by decide +kernel
theorem v_1008 : lw_tbl[1008]? = some (Cond.methodLink "OptionBlockPlanner" 339 ⟨"java/util/NoSuchElementException", "<init>", "(Ljava/lang/String;)V"⟩) := by decide +kernel
theorem v_1009 : lw_tbl[1009]? = some (Cond.instanceMethod ⟨"java/util/NoSuchElementException", "<init>", "(Ljava/lang/String;)V"⟩) := by decide +kernel
theorem v_1011 : lw_tbl[1011]? = some (Cond.methodLink "java/util/NoSuchElementException" 13 ⟨"java/lang/RuntimeException", "<init>", "(Ljava/lang/String;)V"⟩) := by decide +kernel
theorem v_1014 : lw_tbl[1014]? = some (Cond.methodLink "OptionBlockPlanner" 147 yX7_memberAt) := by decide +kernel
theorem v_1015 : lw_tbl[1015]? = some (Cond.methodLink "OptionBlockPlannerLaw" 212 yL_addPupil) := by decide +kernel
theorem v_1016 : lw_tbl[1016]? = some (Cond.static yL_addPupil) := by decide +kernel
theorem v_1018 : lw_tbl[1018]? = some (Cond.methodLink "OptionBlockPlannerLaw" 48 yX7_addPupil) := by decide +kernel
theorem v_1019 : lw_tbl[1019]? = some (Cond.instanceMethod yX7_addPupil) := by decide +kernel
theorem v_1020 : lw_tbl[1020]? = some (Cond.selects "OptionBlockPlanner" yX7_addPupil yX7_addPupil) := by decide +kernel
theorem v_1022 : lw_tbl[1022]? = some (Cond.methodLink "OptionBlockPlannerLaw" 220 yL_addWish) := by decide +kernel
theorem v_1023 : lw_tbl[1023]? = some (Cond.static yL_addWish) := by decide +kernel
theorem v_1025 : lw_tbl[1025]? = some (Cond.methodLink "OptionBlockPlannerLaw" 52 yX7_addWish) := by decide +kernel
theorem v_1026 : lw_tbl[1026]? = some (Cond.instanceMethod yX7_addWish) := by decide +kernel
theorem v_1027 : lw_tbl[1027]? = some (Cond.selects "OptionBlockPlanner" yX7_addWish yX7_addWish) := by decide +kernel
theorem v_1029 : lw_tbl[1029]? = some (Cond.methodLink "OptionBlockPlannerLaw" 223 yL_setReserve) := by decide +kernel
theorem v_1030 : lw_tbl[1030]? = some (Cond.static yL_setReserve) := by decide +kernel
theorem v_1032 : lw_tbl[1032]? = some (Cond.methodLink "OptionBlockPlannerLaw" 55 yX7_setReserve) := by decide +kernel
theorem v_1033 : lw_tbl[1033]? = some (Cond.instanceMethod yX7_setReserve) := by decide +kernel
theorem v_1034 : lw_tbl[1034]? = some (Cond.selects "OptionBlockPlanner" yX7_setReserve yX7_setReserve) := by decide +kernel
theorem v_1036 : lw_tbl[1036]? = some (Cond.methodLink "OptionBlockPlannerLaw" 226 yL_wishCount) := by decide +kernel
theorem v_1037 : lw_tbl[1037]? = some (Cond.static yL_wishCount) := by decide +kernel
theorem v_1039 : lw_tbl[1039]? = some (Cond.methodLink "OptionBlockPlannerLaw" 58 yX7_wishCount) := by decide +kernel
theorem v_1040 : lw_tbl[1040]? = some (Cond.instanceMethod yX7_wishCount) := by decide +kernel
theorem v_1041 : lw_tbl[1041]? = some (Cond.selects "OptionBlockPlanner" yX7_wishCount yX7_wishCount) := by decide +kernel
theorem v_1043 : lw_tbl[1043]? = some (Cond.methodLink "OptionBlockPlanner" 153 yX5_hasPupil) := by decide +kernel
theorem v_1044 : lw_tbl[1044]? = some (Cond.methodLink "OptionBlockPlannerLaw" 229 yL_wishAt) := by decide +kernel
theorem v_1045 : lw_tbl[1045]? = some (Cond.static yL_wishAt) := by decide +kernel
theorem v_1047 : lw_tbl[1047]? = some (Cond.methodLink "OptionBlockPlannerLaw" 61 yX7_wishAt) := by decide +kernel
theorem v_1048 : lw_tbl[1048]? = some (Cond.instanceMethod yX7_wishAt) := by decide +kernel
theorem v_1049 : lw_tbl[1049]? = some (Cond.selects "OptionBlockPlanner" yX7_wishAt yX7_wishAt) := by decide +kernel
theorem v_1051 : lw_tbl[1051]? = some (Cond.methodLink "OptionBlockPlanner" 159 yX5_wish) := by decide +kernel
theorem v_1052 : lw_tbl[1052]? = some (Cond.methodLink "OptionBlockPlannerLaw" 232 yL_reserveOf) := by decide +kernel
theorem v_1053 : lw_tbl[1053]? = some (Cond.static yL_reserveOf) := by decide +kernel
theorem v_1055 : lw_tbl[1055]? = some (Cond.methodLink "OptionBlockPlannerLaw" 64 yX7_reserveOf) := by decide +kernel
theorem v_1056 : lw_tbl[1056]? = some (Cond.instanceMethod yX7_reserveOf) := by decide +kernel
theorem v_1057 : lw_tbl[1057]? = some (Cond.selects "OptionBlockPlanner" yX7_reserveOf yX7_reserveOf) := by decide +kernel
theorem v_1059 : lw_tbl[1059]? = some (Cond.methodLink "OptionBlockPlannerLaw" 235 yL_subjectIn) := by decide +kernel
theorem v_1060 : lw_tbl[1060]? = some (Cond.static yL_subjectIn) := by decide +kernel
theorem v_1062 : lw_tbl[1062]? = some (Cond.methodLink "OptionBlockPlannerLaw" 67 yX7_subjectIn) := by decide +kernel
theorem v_1063 : lw_tbl[1063]? = some (Cond.instanceMethod yX7_subjectIn) := by decide +kernel
theorem v_1064 : lw_tbl[1064]? = some (Cond.selects "OptionBlockPlanner" yX7_subjectIn yX7_subjectIn) := by decide +kernel
theorem v_1066 : lw_tbl[1066]? = some (Cond.methodLink "OptionBlockPlanner" 165 yX5_hasBlock) := by decide +kernel
theorem v_1067 : lw_tbl[1067]? = some (Cond.methodLink "OptionBlockPlanner" 168 yX5_lesson) := by decide +kernel
theorem v_1068 : lw_tbl[1068]? = some (Cond.instanceMethod yX5_lesson) := by decide +kernel
theorem v_1069 : lw_tbl[1069]? = some (Cond.selects "OptionBlockPlanner$Plan" yX5_lesson yX5_lesson) := by decide +kernel
theorem v_1071 : lw_tbl[1071]? = some (Cond.methodLink "OptionBlockPlannerLaw" 238 yL_blockOf) := by decide +kernel
theorem v_1072 : lw_tbl[1072]? = some (Cond.static yL_blockOf) := by decide +kernel
theorem v_1074 : lw_tbl[1074]? = some (Cond.methodLink "OptionBlockPlannerLaw" 70 yX7_blockOf) := by decide +kernel
theorem v_1075 : lw_tbl[1075]? = some (Cond.instanceMethod yX7_blockOf) := by decide +kernel
theorem v_1076 : lw_tbl[1076]? = some (Cond.selects "OptionBlockPlanner" yX7_blockOf yX7_blockOf) := by decide +kernel
theorem v_1078 : lw_tbl[1078]? = some (Cond.methodLink "OptionBlockPlanner" 171 yX5_blockTaken) := by decide +kernel
theorem v_1079 : lw_tbl[1079]? = some (Cond.methodLink "OptionBlockPlannerLaw" 241 yL_enrol) := by decide +kernel
theorem v_1080 : lw_tbl[1080]? = some (Cond.static yL_enrol) := by decide +kernel
theorem v_1082 : lw_tbl[1082]? = some (Cond.methodLink "OptionBlockPlannerLaw" 73 yX7_enrol) := by decide +kernel
theorem v_1083 : lw_tbl[1083]? = some (Cond.instanceMethod yX7_enrol) := by decide +kernel
theorem v_1084 : lw_tbl[1084]? = some (Cond.selects "OptionBlockPlanner" yX7_enrol yX7_enrol) := by decide +kernel
theorem v_1086 : lw_tbl[1086]? = some (Cond.methodLink "OptionBlockPlannerLaw" 248 yL_withdraw) := by decide +kernel
theorem v_1087 : lw_tbl[1087]? = some (Cond.static yL_withdraw) := by decide +kernel
theorem v_1089 : lw_tbl[1089]? = some (Cond.methodLink "OptionBlockPlannerLaw" 76 yX7_withdraw) := by decide +kernel
theorem v_1090 : lw_tbl[1090]? = some (Cond.instanceMethod yX7_withdraw) := by decide +kernel
theorem v_1091 : lw_tbl[1091]? = some (Cond.selects "OptionBlockPlanner" yX7_withdraw yX7_withdraw) := by decide +kernel
theorem v_1093 : lw_tbl[1093]? = some (Cond.methodLink "OptionBlockPlanner" 183 yX2_faultOfWithdrawing) := by decide +kernel
theorem v_1094 : lw_tbl[1094]? = some (Cond.instanceMethod yX2_faultOfWithdrawing) := by decide +kernel
theorem v_1095 : lw_tbl[1095]? = some (Cond.selects "OptionBlockPlanner$Changes" yX2_faultOfWithdrawing yX2_faultOfWithdrawing) := by decide +kernel
theorem v_1097 : lw_tbl[1097]? = some (Cond.methodLink "OptionBlockPlanner" 186 yX5_dropLessons) := by decide +kernel
theorem v_1098 : lw_tbl[1098]? = some (Cond.instanceMethod yX5_dropLessons) := by decide +kernel
theorem v_1099 : lw_tbl[1099]? = some (Cond.selects "OptionBlockPlanner$Plan" yX5_dropLessons yX5_dropLessons) := by decide +kernel
theorem v_1101 : lw_tbl[1101]? = some (Cond.methodLink "OptionBlockPlanner$Plan" 109 yX5_lessonsOf) := by decide +kernel
theorem v_1102 : lw_tbl[1102]? = some (Cond.methodLink "OptionBlockPlanner$Plan" 112 yX5_lesson) := by decide +kernel
theorem v_1103 : lw_tbl[1103]? = some (Cond.methodLink "OptionBlockPlannerLaw" 251 yL_bestValue) := by decide +kernel
theorem v_1104 : lw_tbl[1104]? = some (Cond.static yL_bestValue) := by decide +kernel
theorem v_1106 : lw_tbl[1106]? = some (Cond.methodLink "OptionBlockPlannerLaw" 79 yX7_bestValue) := by decide +kernel
theorem v_1107 : lw_tbl[1107]? = some (Cond.instanceMethod yX7_bestValue) := by decide +kernel
theorem v_1108 : lw_tbl[1108]? = some (Cond.selects "OptionBlockPlanner" yX7_bestValue yX7_bestValue) := by decide +kernel
theorem v_1110 : lw_tbl[1110]? = some (Cond.methodLink "OptionBlockPlanner" 189 yX4_valueBySearch) := by decide +kernel
theorem v_1111 : lw_tbl[1111]? = some (Cond.instanceMethod yX4_valueBySearch) := by decide +kernel
theorem v_1112 : lw_tbl[1112]? = some (Cond.selects "OptionBlockPlanner$Placements" yX4_valueBySearch yX4_valueBySearch) := by decide +kernel
theorem v_1114 : lw_tbl[1114]? = some (Cond.methodLink "OptionBlockPlannerLaw" 254 yL_bestValueBySets) := by decide +kernel
theorem v_1115 : lw_tbl[1115]? = some (Cond.static yL_bestValueBySets) := by decide +kernel
theorem v_1117 : lw_tbl[1117]? = some (Cond.methodLink "OptionBlockPlannerLaw" 82 yX7_bestValueBySets) := by decide +kernel
theorem v_1118 : lw_tbl[1118]? = some (Cond.instanceMethod yX7_bestValueBySets) := by decide +kernel
theorem v_1119 : lw_tbl[1119]? = some (Cond.selects "OptionBlockPlanner" yX7_bestValueBySets yX7_bestValueBySets) := by decide +kernel
theorem v_1121 : lw_tbl[1121]? = some (Cond.methodLink "OptionBlockPlanner" 192 yX4_valueBySets) := by decide +kernel
theorem v_1122 : lw_tbl[1122]? = some (Cond.instanceMethod yX4_valueBySets) := by decide +kernel
theorem v_1123 : lw_tbl[1123]? = some (Cond.selects "OptionBlockPlanner$Placements" yX4_valueBySets yX4_valueBySets) := by decide +kernel
theorem v_1125 : lw_tbl[1125]? = some (Cond.methodLink "OptionBlockPlanner$Placements" 53 yX4_setsUsedFor) := by decide +kernel
theorem v_1127 : lw_tbl[1127]? = some (Cond.instanceMethod yX4_setsUsedFor) := by decide +kernel
theorem v_1129 : lw_tbl[1129]? = some (Cond.methodLink "OptionBlockPlanner$Placements" 109 yX4_setsWithOneOf) := by decide +kernel
theorem v_1130 : lw_tbl[1130]? = some (Cond.static yX4_setsWithOneOf) := by decide +kernel
theorem v_1132 : lw_tbl[1132]? = some (Cond.methodLink "OptionBlockPlannerLaw" 257 yL_canServe) := by decide +kernel
theorem v_1133 : lw_tbl[1133]? = some (Cond.static yL_canServe) := by decide +kernel
theorem v_1135 : lw_tbl[1135]? = some (Cond.methodLink "OptionBlockPlannerLaw" 85 yX7_canServe) := by decide +kernel
theorem v_1136 : lw_tbl[1136]? = some (Cond.instanceMethod yX7_canServe) := by decide +kernel
theorem v_1137 : lw_tbl[1137]? = some (Cond.selects "OptionBlockPlanner" yX7_canServe yX7_canServe) := by decide +kernel
theorem v_1139 : lw_tbl[1139]? = some (Cond.methodLink "OptionBlockPlanner" 195 yX4_servesBySearch) := by decide +kernel
theorem v_1140 : lw_tbl[1140]? = some (Cond.instanceMethod yX4_servesBySearch) := by decide +kernel
theorem v_1141 : lw_tbl[1141]? = some (Cond.selects "OptionBlockPlanner$Placements" yX4_servesBySearch yX4_servesBySearch) := by decide +kernel
theorem v_1143 : lw_tbl[1143]? = some (Cond.methodLink "OptionBlockPlanner$Placements" 57 yX4_collectOpen) := by decide +kernel
theorem v_1145 : lw_tbl[1145]? = some (Cond.instanceMethod yX4_collectOpen) := by decide +kernel
theorem v_1147 : lw_tbl[1147]? = some (Cond.methodLink "OptionBlockPlanner$Placements" 92 yX5_openBlocks) := by decide +kernel
theorem v_1148 : lw_tbl[1148]? = some (Cond.methodLink "OptionBlockPlanner$Placements" 60 yX4_serve) := by decide +kernel
theorem v_1149 : lw_tbl[1149]? = some (Cond.static yX4_serve) := by decide +kernel
theorem v_1151 : lw_tbl[1151]? = some (Cond.methodLink "OptionBlockPlannerLaw" 260 yL_canServeByCounting) := by decide +kernel
theorem v_1152 : lw_tbl[1152]? = some (Cond.static yL_canServeByCounting) := by decide +kernel
theorem v_1154 : lw_tbl[1154]? = some (Cond.methodLink "OptionBlockPlannerLaw" 89 yX7_canServeByCounting) := by decide +kernel
theorem v_1155 : lw_tbl[1155]? = some (Cond.instanceMethod yX7_canServeByCounting) := by decide +kernel
theorem v_1156 : lw_tbl[1156]? = some (Cond.selects "OptionBlockPlanner" yX7_canServeByCounting yX7_canServeByCounting) := by decide +kernel
theorem v_1158 : lw_tbl[1158]? = some (Cond.methodLink "OptionBlockPlanner" 198 yX4_servesByCounting) := by decide +kernel
theorem v_1159 : lw_tbl[1159]? = some (Cond.instanceMethod yX4_servesByCounting) := by decide +kernel
theorem v_1160 : lw_tbl[1160]? = some (Cond.selects "OptionBlockPlanner$Placements" yX4_servesByCounting yX4_servesByCounting) := by decide +kernel
theorem v_1162 : lw_tbl[1162]? = some (Cond.methodLink "OptionBlockPlanner$Placements" 64 yJ9_max_7cf53) := by decide +kernel
theorem v_1163 : lw_tbl[1163]? = some (Cond.methodLink "OptionBlockPlanner$Placements" 73 yJ6_bitCount_0f7a4) := by decide +kernel
theorem v_1164 : lw_tbl[1164]? = some (Cond.methodLink "OptionBlockPlannerLaw" 267 yL_meanClassSize) := by decide +kernel
theorem v_1165 : lw_tbl[1165]? = some (Cond.static yL_meanClassSize) := by decide +kernel
theorem v_1167 : lw_tbl[1167]? = some (Cond.classLink "OptionBlockPlannerLaw" 96 "java/lang/ArithmeticException") := by decide +kernel
theorem v_1168 : lw_tbl[1168]? = some (Cond.instantiable "java/lang/ArithmeticException" 6) := by decide +kernel
theorem v_1169 : lw_tbl[1169]? = some (Cond.instanceMethod ⟨"java/lang/ArithmeticException", "<init>", "(Ljava/lang/String;)V"⟩) := by decide +kernel
theorem v_1171 : lw_tbl[1171]? = some (Cond.methodLink "java/lang/ArithmeticException" 7 ⟨"java/lang/RuntimeException", "<init>", "(Ljava/lang/String;)V"⟩) := by decide +kernel
theorem v_1179 : lw_tbl[1179]? = some (Cond.castable "java/lang/ArithmeticException" "java/lang/ArithmeticException") := by decide +kernel
theorem v_1180 : lw_tbl[1180]? = some (Cond.selects "java/lang/ArithmeticException" ⟨"java/lang/Throwable", "fillInStackTrace", "(I)Ljava/lang/Throwable;"⟩ ⟨"java/lang/Throwable", "fillInStackTrace", "(I)Ljava/lang/Throwable;"⟩) := by decide +kernel
theorem v_1181 : lw_tbl[1181]? = some (Cond.methodLink "OptionBlockPlannerLaw" 92 yX7_meanClassSize) := by decide +kernel
theorem v_1182 : lw_tbl[1182]? = some (Cond.instanceMethod yX7_meanClassSize) := by decide +kernel
theorem v_1183 : lw_tbl[1183]? = some (Cond.selects "OptionBlockPlanner" yX7_meanClassSize yX7_meanClassSize) := by decide +kernel
theorem v_1185 : lw_tbl[1185]? = some (Cond.methodLink "OptionBlockPlanner" 201 yX5_openClasses) := by decide +kernel
theorem v_1186 : lw_tbl[1186]? = some (Cond.instanceMethod yX5_openClasses) := by decide +kernel
theorem v_1187 : lw_tbl[1187]? = some (Cond.selects "OptionBlockPlanner$Plan" yX5_openClasses yX5_openClasses) := by decide +kernel
theorem v_1189 : lw_tbl[1189]? = some (Cond.classLink "OptionBlockPlanner" 205 "java/lang/ArithmeticException") := by decide +kernel
theorem v_1190 : lw_tbl[1190]? = some (Cond.stringRef "OptionBlockPlanner" 207 "no class is open") := by decide +kernel
theorem v_1191 : lw_tbl[1191]? = some (Cond.methodLink "OptionBlockPlanner" 209 ⟨"java/lang/ArithmeticException", "<init>", "(Ljava/lang/String;)V"⟩) := by decide +kernel
theorem v_1192 : lw_tbl[1192]? = some (Cond.methodLink "OptionBlockPlanner" 212 yX5_lessonsOfAll) := by decide +kernel
theorem v_1193 : lw_tbl[1193]? = some (Cond.methodLink "OptionBlockPlannerLaw" 271 yL_movesFor) := by decide +kernel
theorem v_1194 : lw_tbl[1194]? = some (Cond.static yL_movesFor) := by decide +kernel
theorem v_1196 : lw_tbl[1196]? = some (Cond.methodLink "OptionBlockPlannerLaw" 98 yX7_movesFor) := by decide +kernel
theorem v_1197 : lw_tbl[1197]? = some (Cond.instanceMethod yX7_movesFor) := by decide +kernel
theorem v_1198 : lw_tbl[1198]? = some (Cond.selects "OptionBlockPlanner" yX7_movesFor yX7_movesFor) := by decide +kernel
theorem v_1200 : lw_tbl[1200]? = some (Cond.methodLink "OptionBlockPlanner" 215 yX2_faultOfJoiner) := by decide +kernel
theorem v_1201 : lw_tbl[1201]? = some (Cond.methodLink "OptionBlockPlanner" 218 yX5_freeBlocks) := by decide +kernel
theorem v_1202 : lw_tbl[1202]? = some (Cond.methodLink "OptionBlockPlanner" 221 yX1_fewestMoves) := by decide +kernel
theorem v_1203 : lw_tbl[1203]? = some (Cond.methodLink "OptionBlockPlannerLaw" 274 yL_movesByTrial) := by decide +kernel
theorem v_1204 : lw_tbl[1204]? = some (Cond.static yL_movesByTrial) := by decide +kernel
theorem v_1206 : lw_tbl[1206]? = some (Cond.methodLink "OptionBlockPlannerLaw" 101 yX7_movesByTrial) := by decide +kernel
theorem v_1207 : lw_tbl[1207]? = some (Cond.instanceMethod yX7_movesByTrial) := by decide +kernel
theorem v_1208 : lw_tbl[1208]? = some (Cond.selects "OptionBlockPlanner" yX7_movesByTrial yX7_movesByTrial) := by decide +kernel
theorem v_1210 : lw_tbl[1210]? = some (Cond.methodLink "OptionBlockPlanner" 224 yX1_fewestMovesByTrial) := by decide +kernel
theorem v_1211 : lw_tbl[1211]? = some (Cond.instanceMethod yX1_fewestMovesByTrial) := by decide +kernel
theorem v_1212 : lw_tbl[1212]? = some (Cond.selects "OptionBlockPlanner$Chains" yX1_fewestMovesByTrial yX1_fewestMovesByTrial) := by decide +kernel
theorem v_1214 : lw_tbl[1214]? = some (Cond.methodLink "OptionBlockPlanner$Chains" 60 yX1_leadsToRoom) := by decide +kernel
theorem v_1215 : lw_tbl[1215]? = some (Cond.static yX1_leadsToRoom) := by decide +kernel
theorem v_1217 : lw_tbl[1217]? = some (Cond.methodLink "OptionBlockPlannerLaw" 277 yL_join) := by decide +kernel
theorem v_1218 : lw_tbl[1218]? = some (Cond.static yL_join) := by decide +kernel
theorem v_1220 : lw_tbl[1220]? = some (Cond.classLink "OptionBlockPlannerLaw" 107 "java/lang/UnsupportedOperationException") := by decide +kernel
theorem v_1221 : lw_tbl[1221]? = some (Cond.methodLink "OptionBlockPlannerLaw" 104 yX7_join) := by decide +kernel
theorem v_1222 : lw_tbl[1222]? = some (Cond.instanceMethod yX7_join) := by decide +kernel
theorem v_1223 : lw_tbl[1223]? = some (Cond.selects "OptionBlockPlanner" yX7_join yX7_join) := by decide +kernel
theorem v_1225 : lw_tbl[1225]? = some (Cond.methodLink "OptionBlockPlannerLaw" 280 yL_quit) := by decide +kernel
theorem v_1226 : lw_tbl[1226]? = some (Cond.static yL_quit) := by decide +kernel
theorem v_1228 : lw_tbl[1228]? = some (Cond.methodLink "OptionBlockPlannerLaw" 109 yX7_quit) := by decide +kernel
theorem v_1229 : lw_tbl[1229]? = some (Cond.instanceMethod yX7_quit) := by decide +kernel
theorem v_1230 : lw_tbl[1230]? = some (Cond.selects "OptionBlockPlanner" yX7_quit yX7_quit) := by decide +kernel
theorem v_1232 : lw_tbl[1232]? = some (Cond.methodLink "OptionBlockPlannerLaw" 283 yL_change) := by decide +kernel
theorem v_1233 : lw_tbl[1233]? = some (Cond.static yL_change) := by decide +kernel
theorem v_1235 : lw_tbl[1235]? = some (Cond.methodLink "OptionBlockPlannerLaw" 112 yX7_change) := by decide +kernel
theorem v_1236 : lw_tbl[1236]? = some (Cond.instanceMethod yX7_change) := by decide +kernel
theorem v_1237 : lw_tbl[1237]? = some (Cond.selects "OptionBlockPlanner" yX7_change yX7_change) := by decide +kernel
theorem v_1239 : lw_tbl[1239]? = some (Cond.methodLink "OptionBlockPlannerLaw" 286 yL_refusalReason) := by decide +kernel
theorem v_1240 : lw_tbl[1240]? = some (Cond.static yL_refusalReason) := by decide +kernel
theorem v_1242 : lw_tbl[1242]? = some (Cond.methodLink "OptionBlockPlannerLaw" 115 yX7_refusalReason) := by decide +kernel
theorem v_1243 : lw_tbl[1243]? = some (Cond.instanceMethod yX7_refusalReason) := by decide +kernel
theorem v_1244 : lw_tbl[1244]? = some (Cond.selects "OptionBlockPlanner" yX7_refusalReason yX7_refusalReason) := by decide +kernel
theorem v_1246 : lw_tbl[1246]? = some (Cond.methodLink "OptionBlockPlannerLaw" 289 yL_chainMoves) := by decide +kernel
theorem v_1247 : lw_tbl[1247]? = some (Cond.static yL_chainMoves) := by decide +kernel
theorem v_1249 : lw_tbl[1249]? = some (Cond.methodLink "OptionBlockPlannerLaw" 118 yX7_chainMoves) := by decide +kernel
theorem v_1250 : lw_tbl[1250]? = some (Cond.instanceMethod yX7_chainMoves) := by decide +kernel
theorem v_1251 : lw_tbl[1251]? = some (Cond.selects "OptionBlockPlanner" yX7_chainMoves yX7_chainMoves) := by decide +kernel
theorem v_1253 : lw_tbl[1253]? = some (Cond.methodLink "OptionBlockPlannerLaw" 292 yL_chainPupil) := by decide +kernel
theorem v_1254 : lw_tbl[1254]? = some (Cond.static yL_chainPupil) := by decide +kernel
theorem v_1256 : lw_tbl[1256]? = some (Cond.methodLink "OptionBlockPlannerLaw" 121 yX7_chainPupil) := by decide +kernel
theorem v_1257 : lw_tbl[1257]? = some (Cond.instanceMethod yX7_chainPupil) := by decide +kernel
theorem v_1258 : lw_tbl[1258]? = some (Cond.selects "OptionBlockPlanner" yX7_chainPupil yX7_chainPupil) := by decide +kernel
theorem v_1260 : lw_tbl[1260]? = some (Cond.methodLink "OptionBlockPlannerLaw" 295 yL_chainBlock) := by decide +kernel
theorem v_1261 : lw_tbl[1261]? = some (Cond.static yL_chainBlock) := by decide +kernel
theorem v_1263 : lw_tbl[1263]? = some (Cond.methodLink "OptionBlockPlannerLaw" 124 yX7_chainBlock) := by decide +kernel
theorem v_1264 : lw_tbl[1264]? = some (Cond.instanceMethod yX7_chainBlock) := by decide +kernel
theorem v_1265 : lw_tbl[1265]? = some (Cond.selects "OptionBlockPlanner" yX7_chainBlock yX7_chainBlock) := by decide +kernel
theorem v_1267 : lw_tbl[1267]? = some (Cond.methodLink "OptionBlockPlannerLaw" 298 yL_commonWishes) := by decide +kernel
theorem v_1268 : lw_tbl[1268]? = some (Cond.static yL_commonWishes) := by decide +kernel
theorem v_1270 : lw_tbl[1270]? = some (Cond.methodLink "OptionBlockPlannerLaw" 127 yX7_commonWishes) := by decide +kernel
theorem v_1271 : lw_tbl[1271]? = some (Cond.instanceMethod yX7_commonWishes) := by decide +kernel
theorem v_1272 : lw_tbl[1272]? = some (Cond.selects "OptionBlockPlanner" yX7_commonWishes yX7_commonWishes) := by decide +kernel
theorem v_1274 : lw_tbl[1274]? = some (Cond.methodLink "OptionBlockPlanner" 239 yX7_needPair) := by decide +kernel
theorem v_1276 : lw_tbl[1276]? = some (Cond.instanceMethod yX7_needPair) := by decide +kernel
theorem v_1278 : lw_tbl[1278]? = some (Cond.stringRef "OptionBlockPlanner" 328 "twice the same subject") := by decide +kernel
theorem v_1279 : lw_tbl[1279]? = some (Cond.methodLink "OptionBlockPlannerLaw" 301 yL_doClash) := by decide +kernel
theorem v_1280 : lw_tbl[1280]? = some (Cond.static yL_doClash) := by decide +kernel
theorem v_1282 : lw_tbl[1282]? = some (Cond.methodLink "OptionBlockPlannerLaw" 130 yX7_doClash) := by decide +kernel
theorem v_1283 : lw_tbl[1283]? = some (Cond.instanceMethod yX7_doClash) := by decide +kernel
theorem v_1284 : lw_tbl[1284]? = some (Cond.selects "OptionBlockPlanner" yX7_doClash yX7_doClash) := by decide +kernel
theorem v_1286 : lw_tbl[1286]? = some (Cond.methodLink "OptionBlockPlannerLaw" 316 yL_arrange) := by decide +kernel
theorem v_1287 : lw_tbl[1287]? = some (Cond.static yL_arrange) := by decide +kernel
theorem v_1289 : lw_tbl[1289]? = some (Cond.methodLink "OptionBlockPlannerLaw" 133 yX7_arrange) := by decide +kernel
theorem v_1290 : lw_tbl[1290]? = some (Cond.instanceMethod yX7_arrange) := by decide +kernel
theorem v_1291 : lw_tbl[1291]? = some (Cond.selects "OptionBlockPlanner" yX7_arrange yX7_arrange) := by decide +kernel
theorem v_1293 : lw_tbl[1293]? = some (Cond.methodLink "OptionBlockPlannerLaw" 319 yL_writeTimetable) := by decide +kernel
theorem v_1294 : lw_tbl[1294]? = some (Cond.static yL_writeTimetable) := by decide +kernel
theorem v_1296 : lw_tbl[1296]? = some (Cond.methodLink "OptionBlockPlannerLaw" 136 yX7_writeTimetable) := by decide +kernel
theorem v_1297 : lw_tbl[1297]? = some (Cond.instanceMethod yX7_writeTimetable) := by decide +kernel
theorem v_1298 : lw_tbl[1298]? = some (Cond.selects "OptionBlockPlanner" yX7_writeTimetable yX7_writeTimetable) := by decide +kernel
theorem v_1300 : lw_tbl[1300]? = some (Cond.methodLink "OptionBlockPlanner" 255 yJ4_setLength_d00df) := by decide +kernel
theorem v_1301 : lw_tbl[1301]? = some (Cond.instanceMethod yJ4_setLength_d00df) := by decide +kernel
theorem v_1302 : lw_tbl[1302]? = some (Cond.selects "java/lang/StringBuilder" yJ4_setLength_d00df yJ4_setLength_d00df) := by decide +kernel
theorem v_1304 : lw_tbl[1304]? = some (Cond.methodLink "java/lang/StringBuilder" 333 yJ5_setLength_d00df) := by decide +kernel
theorem v_1305 : lw_tbl[1305]? = some (Cond.instanceMethod yJ5_setLength_d00df) := by decide +kernel
theorem v_1307 : lw_tbl[1307]? = some (Cond.classLink "java/lang/AbstractStringBuilder" 129 "java/lang/StringIndexOutOfBoundsException") := by decide +kernel
theorem v_1308 : lw_tbl[1308]? = some (Cond.instantiable "java/lang/StringIndexOutOfBoundsException" 6) := by decide +kernel
theorem v_1309 : lw_tbl[1309]? = some (Cond.methodLink "java/lang/AbstractStringBuilder" 131 yJx7c733_init_d00df) := by decide +kernel
theorem v_1310 : lw_tbl[1310]? = some (Cond.instanceMethod yJx7c733_init_d00df) := by decide +kernel
theorem v_1312 : lw_tbl[1312]? = some (Cond.classLink "java/lang/StringIndexOutOfBoundsException" 10 "java/lang/StringBuilder") := by decide +kernel
theorem v_1313 : lw_tbl[1313]? = some (Cond.methodLink "java/lang/StringIndexOutOfBoundsException" 12 yJ4_init_da8c8) := by decide +kernel
theorem v_1314 : lw_tbl[1314]? = some (Cond.stringRef "java/lang/StringIndexOutOfBoundsException" 13 "String index out of range: ") := by decide +kernel
theorem v_1315 : lw_tbl[1315]? = some (Cond.methodLink "java/lang/StringIndexOutOfBoundsException" 15 yJ4_append_15ec4) := by decide +kernel
theorem v_1316 : lw_tbl[1316]? = some (Cond.instanceMethod yJ4_append_15ec4) := by decide +kernel
theorem v_1317 : lw_tbl[1317]? = some (Cond.selects "java/lang/StringBuilder" yJ4_append_15ec4 yJ4_append_15ec4) := by decide +kernel
theorem v_1319 : lw_tbl[1319]? = some (Cond.methodLink "java/lang/StringBuilder" 29 yJ5_append_cf1ce) := by decide +kernel
theorem v_1320 : lw_tbl[1320]? = some (Cond.instanceMethod yJ5_append_cf1ce) := by decide +kernel
theorem v_1322 : lw_tbl[1322]? = some (Cond.methodLink "java/lang/AbstractStringBuilder" 204 yJ5_appendNull_278bc) := by decide +kernel
theorem v_1324 : lw_tbl[1324]? = some (Cond.instanceMethod yJ5_appendNull_278bc) := by decide +kernel
theorem v_1326 : lw_tbl[1326]? = some (Cond.methodLink "java/lang/AbstractStringBuilder" 100 yJ5_ensureCapacityInternal_d00df) := by decide +kernel
theorem v_1328 : lw_tbl[1328]? = some (Cond.instanceMethod yJ5_ensureCapacityInternal_d00df) := by decide +kernel
theorem v_1330 : lw_tbl[1330]? = some (Cond.methodLink "java/lang/AbstractStringBuilder" 104 yJ5_newCapacity_0f7a4) := by decide +kernel
theorem v_1332 : lw_tbl[1332]? = some (Cond.instanceMethod yJ5_newCapacity_0f7a4) := by decide +kernel
theorem v_1334 : lw_tbl[1334]? = some (Cond.methodLink "java/lang/AbstractStringBuilder" 114 yJ8_newLength_cabcc) := by decide +kernel
theorem v_1335 : lw_tbl[1335]? = some (Cond.static yJ8_newLength_cabcc) := by decide +kernel
theorem v_1337 : lw_tbl[1337]? = some (Cond.methodLink "jdk/internal/util/ArraysSupport" 194 yJ9_max_7cf53) := by decide +kernel
theorem v_1339 : lw_tbl[1339]? = some (Cond.methodLink "jdk/internal/util/ArraysSupport" 201 yJ8_hugeLength_7cf53) := by decide +kernel
theorem v_1340 : lw_tbl[1340]? = some (Cond.static yJ8_hugeLength_7cf53) := by decide +kernel
theorem v_1343 : lw_tbl[1343]? = some (Cond.methodLink "java/lang/AbstractStringBuilder" 108 yJ7_copyOf_9075b) := by decide +kernel
theorem v_1344 : lw_tbl[1344]? = some (Cond.static yJ7_copyOf_9075b) := by decide +kernel
theorem v_1346 : lw_tbl[1346]? = some (Cond.methodLink "java/util/Arrays" 310 ⟨"[B", "clone", "()Ljava/lang/Object;"⟩) := by decide +kernel
theorem v_1349 : lw_tbl[1349]? = some (Cond.instanceMethod ⟨"java/lang/Object", "clone", "()Ljava/lang/Object;"⟩) := by decide +kernel
theorem v_1350 : lw_tbl[1350]? = some (Cond.selects "[B" ⟨"[B", "clone", "()Ljava/lang/Object;"⟩ ⟨"java/lang/Object", "clone", "()Ljava/lang/Object;"⟩) := by decide +kernel
theorem v_1351 : lw_tbl[1351]? = some (Cond.castable "[B" "java/lang/Cloneable") := by decide +kernel
theorem v_1352 : lw_tbl[1352]? = some (Cond.classLink "java/util/Arrays" 311 "[B") := by decide +kernel
theorem v_1353 : lw_tbl[1353]? = some (Cond.methodLink "java/util/Arrays" 304 yJ9_min_7cf53) := by decide +kernel
theorem v_1354 : lw_tbl[1354]? = some (Cond.methodLink "java/util/Arrays" 150 ⟨"java/lang/System", "arraycopy", "(Ljava/lang/Object;ILjava/lang/Object;II)V"⟩) := by decide +kernel
theorem v_1355 : lw_tbl[1355]? = some (Cond.methodLink "java/lang/AbstractStringBuilder" 83 yJ5_isLatin1_aae02) := by decide +kernel
theorem v_1356 : lw_tbl[1356]? = some (Cond.instanceMethod yJ5_isLatin1_aae02) := by decide +kernel
theorem v_1358 : lw_tbl[1358]? = some (Cond.selects "java/lang/StringBuilder" yJ5_isLatin1_aae02 yJ5_isLatin1_aae02) := by decide +kernel
theorem v_1360 : lw_tbl[1360]? = some (Cond.methodLink "java/lang/AbstractStringBuilder" 226 yJ2_putCharsAt_cd4e5) := by decide +kernel
theorem v_1361 : lw_tbl[1361]? = some (Cond.static yJ2_putCharsAt_cd4e5) := by decide +kernel
theorem v_1363 : lw_tbl[1363]? = some (Cond.methodLink "java/lang/StringUTF16" 96 yJ2_checkBoundsBeginEnd_d044e) := by decide +kernel
theorem v_1364 : lw_tbl[1364]? = some (Cond.static yJ2_checkBoundsBeginEnd_d044e) := by decide +kernel
theorem v_1366 : lw_tbl[1366]? = some (Cond.methodLink "java/lang/StringUTF16" 48 yJ2_length_9d52b) := by decide +kernel
theorem v_1367 : lw_tbl[1367]? = some (Cond.static yJ2_length_9d52b) := by decide +kernel
theorem v_1369 : lw_tbl[1369]? = some (Cond.methodLink "java/lang/StringUTF16" 241 yJ0_checkBoundsBeginEnd_23922) := by decide +kernel
theorem v_1370 : lw_tbl[1370]? = some (Cond.static yJ0_checkBoundsBeginEnd_23922) := by decide +kernel
theorem v_1372 : lw_tbl[1372]? = some (Cond.fieldLink "java/lang/String" 1053 "jdk/internal/util/Preconditions" "SIOOBE_FORMATTER" "Ljava/util/function/BiFunction;") := by decide +kernel
theorem v_1374 : lw_tbl[1374]? = some (Cond.methodLink "java/lang/String" 1062 yJ3_checkFromToIndex_8c36e) := by decide +kernel
theorem v_1375 : lw_tbl[1375]? = some (Cond.static yJ3_checkFromToIndex_8c36e) := by decide +kernel
theorem v_1377 : lw_tbl[1377]? = some (Cond.methodLink "java/lang/StringUTF16" 111 yJ2_putChar_b72d1) := by decide +kernel
theorem v_1378 : lw_tbl[1378]? = some (Cond.static yJ2_putChar_b72d1) := by decide +kernel
theorem v_1380 : lw_tbl[1380]? = some (Cond.fieldLink "java/lang/StringUTF16" 44 "java/lang/StringUTF16" "$assertionsDisabled" "Z") := by decide +kernel
theorem v_1382 : lw_tbl[1382]? = some (Cond.fieldLink "java/lang/StringUTF16" 59 "java/lang/StringUTF16" "HI_BYTE_SHIFT" "I") := by decide +kernel
theorem v_1384 : lw_tbl[1384]? = some (Cond.fieldLink "java/lang/StringUTF16" 63 "java/lang/StringUTF16" "LO_BYTE_SHIFT" "I") := by decide +kernel
theorem v_1386 : lw_tbl[1386]? = some (Cond.methodLink "java/lang/AbstractStringBuilder" 32 yJ0_length_8abf5) := by decide +kernel
theorem v_1387 : lw_tbl[1387]? = some (Cond.instanceMethod yJ0_length_8abf5) := by decide +kernel
theorem v_1388 : lw_tbl[1388]? = some (Cond.selects "java/lang/String" yJ0_length_8abf5 yJ0_length_8abf5) := by decide +kernel
theorem v_1390 : lw_tbl[1390]? = some (Cond.methodLink "java/lang/String" 335 yJ0_coder_7d493) := by decide +kernel
theorem v_1391 : lw_tbl[1391]? = some (Cond.instanceMethod yJ0_coder_7d493) := by decide +kernel
theorem v_1392 : lw_tbl[1392]? = some (Cond.selects "java/lang/String" yJ0_coder_7d493 yJ0_coder_7d493) := by decide +kernel
theorem v_1394 : lw_tbl[1394]? = some (Cond.fieldLink "java/lang/String" 38 "java/lang/String" "COMPACT_STRINGS" "Z") := by decide +kernel
theorem v_1395 : lw_tbl[1395]? = some (Cond.methodLink "java/lang/AbstractStringBuilder" 208 yJ5_putStringAt_47b60) := by decide +kernel
theorem v_1397 : lw_tbl[1397]? = some (Cond.instanceMethod yJ5_putStringAt_47b60) := by decide +kernel
theorem v_1399 : lw_tbl[1399]? = some (Cond.methodLink "java/lang/AbstractStringBuilder" 397 yJ5_inflateIfNeededFor_a7421) := by decide +kernel
theorem v_1401 : lw_tbl[1401]? = some (Cond.instanceMethod yJ5_inflateIfNeededFor_a7421) := by decide +kernel
theorem v_1403 : lw_tbl[1403]? = some (Cond.methodLink "java/lang/AbstractStringBuilder" 40 yJ0_coder_7d493) := by decide +kernel
theorem v_1404 : lw_tbl[1404]? = some (Cond.methodLink "java/lang/AbstractStringBuilder" 195 yJ5_inflate_da8c8) := by decide +kernel
theorem v_1406 : lw_tbl[1406]? = some (Cond.instanceMethod yJ5_inflate_da8c8) := by decide +kernel
theorem v_1408 : lw_tbl[1408]? = some (Cond.methodLink "java/lang/AbstractStringBuilder" 125 yJ1_inflate_0e8fd) := by decide +kernel
theorem v_1409 : lw_tbl[1409]? = some (Cond.static yJ1_inflate_0e8fd) := by decide +kernel
theorem v_1411 : lw_tbl[1411]? = some (Cond.methodLink "java/lang/StringLatin1" 240 yJ2_inflate_0e8fd) := by decide +kernel
theorem v_1412 : lw_tbl[1412]? = some (Cond.static yJ2_inflate_0e8fd) := by decide +kernel
theorem v_1414 : lw_tbl[1414]? = some (Cond.methodLink "java/lang/StringUTF16" 173 yJ2_checkBoundsOffCount_d044e) := by decide +kernel
theorem v_1415 : lw_tbl[1415]? = some (Cond.static yJ2_checkBoundsOffCount_d044e) := by decide +kernel
theorem v_1417 : lw_tbl[1417]? = some (Cond.methodLink "java/lang/StringUTF16" 419 yJ0_checkBoundsOffCount_cabcc) := by decide +kernel
theorem v_1418 : lw_tbl[1418]? = some (Cond.static yJ0_checkBoundsOffCount_cabcc) := by decide +kernel
theorem v_1420 : lw_tbl[1420]? = some (Cond.methodLink "java/lang/String" 1065 yJ3_checkFromIndexSize_8c36e) := by decide +kernel
theorem v_1421 : lw_tbl[1421]? = some (Cond.static yJ3_checkFromIndexSize_8c36e) := by decide +kernel
theorem v_1423 : lw_tbl[1423]? = some (Cond.methodLink "java/lang/AbstractStringBuilder" 399 yJ0_getBytes_840e7) := by decide +kernel
theorem v_1424 : lw_tbl[1424]? = some (Cond.instanceMethod yJ0_getBytes_840e7) := by decide +kernel
theorem v_1425 : lw_tbl[1425]? = some (Cond.selects "java/lang/String" yJ0_getBytes_840e7 yJ0_getBytes_840e7) := by decide +kernel
theorem v_1427 : lw_tbl[1427]? = some (Cond.methodLink "java/lang/String" 212 ⟨"java/lang/System", "arraycopy", "(Ljava/lang/Object;ILjava/lang/Object;II)V"⟩) := by decide +kernel
theorem v_1428 : lw_tbl[1428]? = some (Cond.methodLink "java/lang/String" 106 yJ1_inflate_0e8fd) := by decide +kernel
theorem v_1429 : lw_tbl[1429]? = some (Cond.methodLink "java/lang/StringIndexOutOfBoundsException" 19 yJ4_append_bf812) := by decide +kernel
theorem v_1430 : lw_tbl[1430]? = some (Cond.instanceMethod yJ4_append_bf812) := by decide +kernel
theorem v_1431 : lw_tbl[1431]? = some (Cond.selects "java/lang/StringBuilder" yJ4_append_bf812 yJ4_append_bf812) := by decide +kernel
theorem v_1433 : lw_tbl[1433]? = some (Cond.methodLink "java/lang/StringBuilder" 53 yJ5_append_c97b9) := by decide +kernel
theorem v_1434 : lw_tbl[1434]? = some (Cond.instanceMethod yJ5_append_c97b9) := by decide +kernel
theorem v_1436 : lw_tbl[1436]? = some (Cond.methodLink "java/lang/AbstractStringBuilder" 245 yJ6_stringSize_0f7a4) := by decide +kernel
theorem v_1437 : lw_tbl[1437]? = some (Cond.static yJ6_stringSize_0f7a4) := by decide +kernel
theorem v_1439 : lw_tbl[1439]? = some (Cond.methodLink "java/lang/AbstractStringBuilder" 248 yJ6_getChars_ba4f3) := by decide +kernel
theorem v_1440 : lw_tbl[1440]? = some (Cond.static yJ6_getChars_ba4f3) := by decide +kernel
theorem v_1442 : lw_tbl[1442]? = some (Cond.fieldLink "java/lang/Integer" 83 "java/lang/Integer" "DigitOnes" "[B") := by decide +kernel
theorem v_1444 : lw_tbl[1444]? = some (Cond.fieldLink "java/lang/Integer" 87 "java/lang/Integer" "DigitTens" "[B") := by decide +kernel
theorem v_1446 : lw_tbl[1446]? = some (Cond.methodLink "java/lang/AbstractStringBuilder" 251 yJ2_getChars_46870) := by decide +kernel
theorem v_1447 : lw_tbl[1447]? = some (Cond.static yJ2_getChars_46870) := by decide +kernel
theorem v_1449 : lw_tbl[1449]? = some (Cond.methodLink "java/lang/StringUTF16" 393 yJ2_getChars_ba4f3) := by decide +kernel
theorem v_1450 : lw_tbl[1450]? = some (Cond.static yJ2_getChars_ba4f3) := by decide +kernel
theorem v_1452 : lw_tbl[1452]? = some (Cond.fieldLink "java/lang/StringUTF16" 403 "java/lang/Integer" "DigitOnes" "[B") := by decide +kernel
theorem v_1453 : lw_tbl[1453]? = some (Cond.fieldLink "java/lang/StringUTF16" 407 "java/lang/Integer" "DigitTens" "[B") := by decide +kernel
theorem v_1454 : lw_tbl[1454]? = some (Cond.methodLink "java/lang/StringIndexOutOfBoundsException" 22 yJ4_toString_0e30d) := by decide +kernel
theorem v_1455 : lw_tbl[1455]? = some (Cond.instanceMethod yJ4_toString_0e30d) := by decide +kernel
theorem v_1456 : lw_tbl[1456]? = some (Cond.selects "java/lang/StringBuilder" yJ4_toString_0e30d yJ4_toString_0e30d) := by decide +kernel
theorem v_1458 : lw_tbl[1458]? = some (Cond.classLink "java/lang/StringBuilder" 18 "java/lang/String") := by decide +kernel
theorem v_1459 : lw_tbl[1459]? = some (Cond.methodLink "java/lang/StringBuilder" 137 yJ0_init_81219) := by decide +kernel
theorem v_1460 : lw_tbl[1460]? = some (Cond.instanceMethod yJ0_init_81219) := by decide +kernel
theorem v_1462 : lw_tbl[1462]? = some (Cond.methodLink "java/lang/String" 489 yJ0_init_db425) := by decide +kernel
theorem v_1463 : lw_tbl[1463]? = some (Cond.instanceMethod yJ0_init_db425) := by decide +kernel
theorem v_1465 : lw_tbl[1465]? = some (Cond.methodLink "java/lang/String" 1 ⟨"java/lang/Object", "<init>", "()V"⟩) := by decide +kernel
theorem v_1466 : lw_tbl[1466]? = some (Cond.methodLink "java/lang/String" 552 yJ5_getValue_6d5f1) := by decide +kernel
theorem v_1467 : lw_tbl[1467]? = some (Cond.instanceMethod yJ5_getValue_6d5f1) := by decide +kernel
theorem v_1469 : lw_tbl[1469]? = some (Cond.selects "java/lang/StringBuilder" yJ5_getValue_6d5f1 yJ5_getValue_6d5f1) := by decide +kernel
theorem v_1471 : lw_tbl[1471]? = some (Cond.methodLink "java/lang/String" 549 yJ5_length_8abf5) := by decide +kernel
theorem v_1472 : lw_tbl[1472]? = some (Cond.instanceMethod yJ5_length_8abf5) := by decide +kernel
theorem v_1474 : lw_tbl[1474]? = some (Cond.selects "java/lang/StringBuilder" yJ5_length_8abf5 yJ4_length_8abf5) := by decide +kernel
theorem v_1475 : lw_tbl[1475]? = some (Cond.instanceMethod yJ4_length_8abf5) := by decide +kernel
theorem v_1477 : lw_tbl[1477]? = some (Cond.methodLink "java/lang/StringBuilder" 343 yJ5_length_8abf5) := by decide +kernel
theorem v_1479 : lw_tbl[1479]? = some (Cond.methodLink "java/lang/String" 1047 yJ5_isLatin1_aae02) := by decide +kernel
theorem v_1480 : lw_tbl[1480]? = some (Cond.methodLink "java/lang/String" 54 yJ7_copyOfRange_39247) := by decide +kernel
theorem v_1481 : lw_tbl[1481]? = some (Cond.static yJ7_copyOfRange_39247) := by decide +kernel
theorem v_1483 : lw_tbl[1483]? = some (Cond.methodLink "java/util/Arrays" 339 yJ7_copyOfRangeByte_39247) := by decide +kernel
theorem v_1484 : lw_tbl[1484]? = some (Cond.static yJ7_copyOfRangeByte_39247) := by decide +kernel
theorem v_1486 : lw_tbl[1486]? = some (Cond.methodLink "java/util/Arrays" 343 yJ7_checkLength_df160) := by decide +kernel
theorem v_1487 : lw_tbl[1487]? = some (Cond.static yJ7_checkLength_df160) := by decide +kernel
theorem v_1489 : lw_tbl[1489]? = some (Cond.classLink "java/util/Arrays" 43 "java/lang/IllegalArgumentException") := by decide +kernel
theorem v_1490 : lw_tbl[1490]? = some (Cond.classLink "java/util/Arrays" 45 "java/lang/StringBuilder") := by decide +kernel
theorem v_1491 : lw_tbl[1491]? = some (Cond.methodLink "java/util/Arrays" 47 yJ4_init_da8c8) := by decide +kernel
theorem v_1492 : lw_tbl[1492]? = some (Cond.methodLink "java/util/Arrays" 54 yJ4_append_bf812) := by decide +kernel
theorem v_1493 : lw_tbl[1493]? = some (Cond.stringRef "java/util/Arrays" 337 " > ") := by decide +kernel
theorem v_1494 : lw_tbl[1494]? = some (Cond.methodLink "java/util/Arrays" 50 yJ4_append_15ec4) := by decide +kernel
theorem v_1495 : lw_tbl[1495]? = some (Cond.methodLink "java/util/Arrays" 61 yJ4_toString_0e30d) := by decide +kernel
theorem v_1496 : lw_tbl[1496]? = some (Cond.methodLink "java/util/Arrays" 65 ⟨"java/lang/IllegalArgumentException", "<init>", "(Ljava/lang/String;)V"⟩) := by decide +kernel
theorem v_1497 : lw_tbl[1497]? = some (Cond.methodLink "java/lang/String" 1051 yJ2_compress_39247) := by decide +kernel
theorem v_1498 : lw_tbl[1498]? = some (Cond.static yJ2_compress_39247) := by decide +kernel
theorem v_1500 : lw_tbl[1500]? = some (Cond.methodLink "java/lang/StringUTF16" 123 yJ2_compress_5af95) := by decide +kernel
theorem v_1501 : lw_tbl[1501]? = some (Cond.static yJ2_compress_5af95) := by decide +kernel
theorem v_1503 : lw_tbl[1503]? = some (Cond.methodLink "java/lang/StringUTF16" 71 yJ2_getChar_3b067) := by decide +kernel
theorem v_1504 : lw_tbl[1504]? = some (Cond.static yJ2_getChar_3b067) := by decide +kernel
theorem v_1506 : lw_tbl[1506]? = some (Cond.methodLink "java/lang/StringUTF16" 126 yJ7_copyOfRange_39247) := by decide +kernel
theorem v_1507 : lw_tbl[1507]? = some (Cond.methodLink "java/lang/String" 47 yJ2_coderFromArrayLen_85cad) := by decide +kernel
theorem v_1508 : lw_tbl[1508]? = some (Cond.static yJ2_coderFromArrayLen_85cad) := by decide +kernel
theorem v_1510 : lw_tbl[1510]? = some (Cond.fieldLink "java/lang/String" 9 "java/lang/String" "value" "[B") := by decide +kernel
theorem v_1511 : lw_tbl[1511]? = some (Cond.fieldLink "java/lang/String" 15 "java/lang/String" "coder" "B") := by decide +kernel
theorem v_1517 : lw_tbl[1517]? = some (Cond.methodLink "java/lang/StringIndexOutOfBoundsException" 7 ⟨"java/lang/IndexOutOfBoundsException", "<init>", "(Ljava/lang/String;)V"⟩) := by decide +kernel
theorem v_1525 : lw_tbl[1525]? = some (Cond.methodLink "java/lang/AbstractStringBuilder" 133 yJ1_fillNull_b72d1) := by decide +kernel
theorem v_1526 : lw_tbl[1526]? = some (Cond.static yJ1_fillNull_b72d1) := by decide +kernel
theorem v_1528 : lw_tbl[1528]? = some (Cond.methodLink "java/lang/StringLatin1" 236 yJ7_fill_eb02e) := by decide +kernel
theorem v_1529 : lw_tbl[1529]? = some (Cond.static yJ7_fill_eb02e) := by decide +kernel
theorem v_1531 : lw_tbl[1531]? = some (Cond.methodLink "java/util/Arrays" 13 yJ7_rangeCheck_23922) := by decide +kernel
theorem v_1532 : lw_tbl[1532]? = some (Cond.static yJ7_rangeCheck_23922) := by decide +kernel
theorem v_1534 : lw_tbl[1534]? = some (Cond.stringRef "java/util/Arrays" 48 "fromIndex(") := by decide +kernel
theorem v_1535 : lw_tbl[1535]? = some (Cond.stringRef "java/util/Arrays" 57 ") > toIndex(") := by decide +kernel
theorem v_1536 : lw_tbl[1536]? = some (Cond.stringRef "java/util/Arrays" 59 ")") := by decide +kernel
theorem v_1537 : lw_tbl[1537]? = some (Cond.classLink "java/util/Arrays" 68 "java/lang/ArrayIndexOutOfBoundsException") := by decide +kernel
theorem v_1538 : lw_tbl[1538]? = some (Cond.methodLink "java/util/Arrays" 70 yJx00060_init_d00df) := by decide +kernel
theorem v_1539 : lw_tbl[1539]? = some (Cond.instanceMethod yJx00060_init_d00df) := by decide +kernel
theorem v_1541 : lw_tbl[1541]? = some (Cond.classLink "java/lang/ArrayIndexOutOfBoundsException" 10 "java/lang/StringBuilder") := by decide +kernel
theorem v_1542 : lw_tbl[1542]? = some (Cond.methodLink "java/lang/ArrayIndexOutOfBoundsException" 12 yJ4_init_da8c8) := by decide +kernel
theorem v_1543 : lw_tbl[1543]? = some (Cond.stringRef "java/lang/ArrayIndexOutOfBoundsException" 13 "Array index out of range: ") := by decide +kernel
theorem v_1544 : lw_tbl[1544]? = some (Cond.methodLink "java/lang/ArrayIndexOutOfBoundsException" 15 yJ4_append_15ec4) := by decide +kernel
theorem v_1545 : lw_tbl[1545]? = some (Cond.methodLink "java/lang/ArrayIndexOutOfBoundsException" 19 yJ4_append_bf812) := by decide +kernel
theorem v_1546 : lw_tbl[1546]? = some (Cond.methodLink "java/lang/ArrayIndexOutOfBoundsException" 22 yJ4_toString_0e30d) := by decide +kernel
theorem v_1547 : lw_tbl[1547]? = some (Cond.methodLink "java/lang/AbstractStringBuilder" 137 yJ2_fillNull_b72d1) := by decide +kernel
theorem v_1548 : lw_tbl[1548]? = some (Cond.static yJ2_fillNull_b72d1) := by decide +kernel
theorem v_1550 : lw_tbl[1550]? = some (Cond.methodLink "java/lang/StringUTF16" 380 yJ7_fill_eb02e) := by decide +kernel
theorem v_1551 : lw_tbl[1551]? = some (Cond.methodLink "OptionBlockPlanner" 258 yJ4_append_bf812) := by decide +kernel
theorem v_1552 : lw_tbl[1552]? = some (Cond.methodLink "OptionBlockPlanner" 262 yJ4_append_cf468) := by decide +kernel
theorem v_1553 : lw_tbl[1553]? = some (Cond.instanceMethod yJ4_append_cf468) := by decide +kernel
theorem v_1554 : lw_tbl[1554]? = some (Cond.selects "java/lang/StringBuilder" yJ4_append_cf468 yJ4_append_cf468) := by decide +kernel
theorem v_1556 : lw_tbl[1556]? = some (Cond.methodLink "java/lang/StringBuilder" 50 yJ5_append_3fe6f) := by decide +kernel
theorem v_1557 : lw_tbl[1557]? = some (Cond.instanceMethod yJ5_append_3fe6f) := by decide +kernel
theorem v_1559 : lw_tbl[1559]? = some (Cond.methodLink "java/lang/AbstractStringBuilder" 191 yJ1_canEncode_fc78d) := by decide +kernel
theorem v_1560 : lw_tbl[1560]? = some (Cond.static yJ1_canEncode_fc78d) := by decide +kernel
theorem v_1562 : lw_tbl[1562]? = some (Cond.methodLink "java/lang/AbstractStringBuilder" 197 yJ2_putCharSB_b72d1) := by decide +kernel
theorem v_1563 : lw_tbl[1563]? = some (Cond.static yJ2_putCharSB_b72d1) := by decide +kernel
theorem v_1565 : lw_tbl[1565]? = some (Cond.methodLink "java/lang/StringUTF16" 67 yJ2_checkIndex_2214a) := by decide +kernel
theorem v_1566 : lw_tbl[1566]? = some (Cond.static yJ2_checkIndex_2214a) := by decide +kernel
theorem v_1568 : lw_tbl[1568]? = some (Cond.methodLink "java/lang/StringUTF16" 414 yJ0_checkIndex_df160) := by decide +kernel
theorem v_1569 : lw_tbl[1569]? = some (Cond.static yJ0_checkIndex_df160) := by decide +kernel
theorem v_1571 : lw_tbl[1571]? = some (Cond.methodLink "java/lang/String" 1059 yJ3_checkIndex_8e157) := by decide +kernel
theorem v_1572 : lw_tbl[1572]? = some (Cond.static yJ3_checkIndex_8e157) := by decide +kernel
theorem v_1574 : lw_tbl[1574]? = some (Cond.methodLink "OptionBlockPlanner" 265 yX7_writeLesson) := by decide +kernel
theorem v_1576 : lw_tbl[1576]? = some (Cond.instanceMethod yX7_writeLesson) := by decide +kernel
theorem v_1578 : lw_tbl[1578]? = some (Cond.methodLink "OptionBlockPlanner" 268 yJ4_length_8abf5) := by decide +kernel
theorem v_1579 : lw_tbl[1579]? = some (Cond.methodLink "OptionBlockPlannerLaw" 322 yL_lineAt) := by decide +kernel
theorem v_1580 : lw_tbl[1580]? = some (Cond.static yL_lineAt) := by decide +kernel
theorem v_1582 : lw_tbl[1582]? = some (Cond.methodLink "OptionBlockPlannerLaw" 139 yX7_lineAt) := by decide +kernel
theorem v_1583 : lw_tbl[1583]? = some (Cond.instanceMethod yX7_lineAt) := by decide +kernel
theorem v_1584 : lw_tbl[1584]? = some (Cond.selects "OptionBlockPlanner" yX7_lineAt yX7_lineAt) := by decide +kernel
theorem v_1586 : lw_tbl[1586]? = some (Cond.methodLink "OptionBlockPlanner" 271 yJ4_charAt_5068e) := by decide +kernel
theorem v_1587 : lw_tbl[1587]? = some (Cond.instanceMethod yJ4_charAt_5068e) := by decide +kernel
theorem v_1588 : lw_tbl[1588]? = some (Cond.selects "java/lang/StringBuilder" yJ4_charAt_5068e yJ4_charAt_5068e) := by decide +kernel
theorem v_1590 : lw_tbl[1590]? = some (Cond.methodLink "java/lang/StringBuilder" 329 yJ5_charAt_5068e) := by decide +kernel
theorem v_1591 : lw_tbl[1591]? = some (Cond.instanceMethod yJ5_charAt_5068e) := by decide +kernel
theorem v_1593 : lw_tbl[1593]? = some (Cond.methodLink "java/lang/AbstractStringBuilder" 138 yJ9_min_7cf53) := by decide +kernel
theorem v_1594 : lw_tbl[1594]? = some (Cond.methodLink "java/lang/AbstractStringBuilder" 144 yJ0_checkIndex_df160) := by decide +kernel
theorem v_1595 : lw_tbl[1595]? = some (Cond.methodLink "java/lang/AbstractStringBuilder" 148 yJ2_getChar_3b067) := by decide +kernel
theorem v_1596 : lw_tbl[1596]? = some (Cond.methodLink "OptionBlockPlannerLaw" 325 yL_type) := by decide +kernel
theorem v_1597 : lw_tbl[1597]? = some (Cond.static yL_type) := by decide +kernel
theorem v_1599 : lw_tbl[1599]? = some (Cond.methodLink "OptionBlockPlannerLaw" 143 yX7_type) := by decide +kernel
theorem v_1600 : lw_tbl[1600]? = some (Cond.instanceMethod yX7_type) := by decide +kernel
theorem v_1601 : lw_tbl[1601]? = some (Cond.selects "OptionBlockPlanner" yX7_type yX7_type) := by decide +kernel
theorem v_1603 : lw_tbl[1603]? = some (Cond.stringRef "OptionBlockPlanner" 277 "a character that cannot be typed") := by decide +kernel
theorem v_1604 : lw_tbl[1604]? = some (Cond.stringRef "OptionBlockPlanner" 285 "the buffer is full") := by decide +kernel
theorem v_1605 : lw_tbl[1605]? = some (Cond.methodLink "OptionBlockPlannerLaw" 329 yL_execute) := by decide +kernel
theorem v_1606 : lw_tbl[1606]? = some (Cond.static yL_execute) := by decide +kernel
theorem v_1608 : lw_tbl[1608]? = some (Cond.methodLink "OptionBlockPlannerLaw" 147 yX7_execute) := by decide +kernel
theorem v_1609 : lw_tbl[1609]? = some (Cond.instanceMethod yX7_execute) := by decide +kernel
theorem v_1610 : lw_tbl[1610]? = some (Cond.selects "OptionBlockPlanner" yX7_execute yX7_execute) := by decide +kernel
theorem v_1612 : lw_tbl[1612]? = some (Cond.methodLink "OptionBlockPlanner" 288 yX6_parse) := by decide +kernel
theorem v_1613 : lw_tbl[1613]? = some (Cond.instanceMethod yX6_parse) := by decide +kernel
theorem v_1614 : lw_tbl[1614]? = some (Cond.selects "OptionBlockPlanner$Program" yX6_parse yX6_parse) := by decide +kernel
theorem v_1616 : lw_tbl[1616]? = some (Cond.methodLink "OptionBlockPlanner$Program" 36 yX6_readCommand) := by decide +kernel
theorem v_1618 : lw_tbl[1618]? = some (Cond.instanceMethod yX6_readCommand) := by decide +kernel
theorem v_1620 : lw_tbl[1620]? = some (Cond.methodLink "OptionBlockPlanner$Program" 48 yX6_formOf) := by decide +kernel
theorem v_1621 : lw_tbl[1621]? = some (Cond.static yX6_formOf) := by decide +kernel
theorem v_1623 : lw_tbl[1623]? = some (Cond.stringRef "OptionBlockPlanner$Program" 81 "subject #") := by decide +kernel
theorem v_1624 : lw_tbl[1624]? = some (Cond.stringRef "OptionBlockPlanner$Program" 83 "blocks #") := by decide +kernel
theorem v_1625 : lw_tbl[1625]? = some (Cond.stringRef "OptionBlockPlanner$Program" 85 "open # #") := by decide +kernel
theorem v_1626 : lw_tbl[1626]? = some (Cond.stringRef "OptionBlockPlanner$Program" 87 "close # #") := by decide +kernel
theorem v_1627 : lw_tbl[1627]? = some (Cond.stringRef "OptionBlockPlanner$Program" 89 "pupil") := by decide +kernel
theorem v_1628 : lw_tbl[1628]? = some (Cond.stringRef "OptionBlockPlanner$Program" 91 "wish @ #") := by decide +kernel
theorem v_1629 : lw_tbl[1629]? = some (Cond.stringRef "OptionBlockPlanner$Program" 93 "reserve @ #") := by decide +kernel
theorem v_1630 : lw_tbl[1630]? = some (Cond.stringRef "OptionBlockPlanner$Program" 95 "enrol @") := by decide +kernel
theorem v_1631 : lw_tbl[1631]? = some (Cond.stringRef "OptionBlockPlanner$Program" 97 "join @ #") := by decide +kernel
theorem v_1632 : lw_tbl[1632]? = some (Cond.stringRef "OptionBlockPlanner$Program" 99 "quit @ #") := by decide +kernel
theorem v_1633 : lw_tbl[1633]? = some (Cond.stringRef "OptionBlockPlanner$Program" 101 "change @ # #") := by decide +kernel
theorem v_1634 : lw_tbl[1634]? = some (Cond.stringRef "OptionBlockPlanner$Program" 103 "arrange") := by decide +kernel
theorem v_1635 : lw_tbl[1635]? = some (Cond.methodLink "OptionBlockPlanner$Program" 52 yX6_matches) := by decide +kernel
theorem v_1637 : lw_tbl[1637]? = some (Cond.instanceMethod yX6_matches) := by decide +kernel
theorem v_1639 : lw_tbl[1639]? = some (Cond.methodLink "OptionBlockPlanner$Program" 66 yJ0_length_8abf5) := by decide +kernel
theorem v_1640 : lw_tbl[1640]? = some (Cond.methodLink "OptionBlockPlanner$Program" 69 yJ0_charAt_5068e) := by decide +kernel
theorem v_1641 : lw_tbl[1641]? = some (Cond.instanceMethod yJ0_charAt_5068e) := by decide +kernel
theorem v_1642 : lw_tbl[1642]? = some (Cond.selects "java/lang/String" yJ0_charAt_5068e yJ0_charAt_5068e) := by decide +kernel
theorem v_1644 : lw_tbl[1644]? = some (Cond.methodLink "java/lang/String" 492 yJ0_isLatin1_aae02) := by decide +kernel
theorem v_1645 : lw_tbl[1645]? = some (Cond.instanceMethod yJ0_isLatin1_aae02) := by decide +kernel
theorem v_1646 : lw_tbl[1646]? = some (Cond.selects "java/lang/String" yJ0_isLatin1_aae02 yJ0_isLatin1_aae02) := by decide +kernel
theorem v_1648 : lw_tbl[1648]? = some (Cond.methodLink "java/lang/String" 495 yJ1_charAt_3b067) := by decide +kernel
theorem v_1649 : lw_tbl[1649]? = some (Cond.static yJ1_charAt_3b067) := by decide +kernel
theorem v_1651 : lw_tbl[1651]? = some (Cond.methodLink "java/lang/StringLatin1" 9 yJ0_checkIndex_df160) := by decide +kernel
theorem v_1652 : lw_tbl[1652]? = some (Cond.methodLink "java/lang/String" 498 yJ2_charAt_3b067) := by decide +kernel
theorem v_1653 : lw_tbl[1653]? = some (Cond.static yJ2_charAt_3b067) := by decide +kernel
theorem v_1655 : lw_tbl[1655]? = some (Cond.methodLink "OptionBlockPlanner$Program" 73 yX6_readNumber) := by decide +kernel
theorem v_1657 : lw_tbl[1657]? = some (Cond.instanceMethod yX6_readNumber) := by decide +kernel
theorem v_1659 : lw_tbl[1659]? = some (Cond.methodLink "OptionBlockPlanner$Program" 77 yX6_digitHere) := by decide +kernel
theorem v_1661 : lw_tbl[1661]? = some (Cond.instanceMethod yX6_digitHere) := by decide +kernel
theorem v_1663 : lw_tbl[1663]? = some (Cond.methodLink "OptionBlockPlanner$Program" 40 yJ4_length_8abf5) := by decide +kernel
theorem v_1664 : lw_tbl[1664]? = some (Cond.methodLink "OptionBlockPlanner$Program" 80 yJ4_charAt_5068e) := by decide +kernel
theorem v_1665 : lw_tbl[1665]? = some (Cond.methodLinkNest "OptionBlockPlanner$Program" 56 yX7_write "OptionBlockPlanner") := by decide +kernel
theorem v_1666 : lw_tbl[1666]? = some (Cond.methodLink "OptionBlockPlanner$Program" 44 yX6_skip) := by decide +kernel
theorem v_1668 : lw_tbl[1668]? = some (Cond.instanceMethod yX6_skip) := by decide +kernel
theorem v_1670 : lw_tbl[1670]? = some (Cond.methodLink "OptionBlockPlanner$Program" 60 yJ9_max_7cf53) := by decide +kernel
theorem v_1671 : lw_tbl[1671]? = some (Cond.stringRef "OptionBlockPlanner" 291 "the program is malformed") := by decide +kernel
theorem v_1672 : lw_tbl[1672]? = some (Cond.methodLink "OptionBlockPlanner" 299 yX6_modification) := by decide +kernel
theorem v_1673 : lw_tbl[1673]? = some (Cond.instanceMethod yX6_modification) := by decide +kernel
theorem v_1674 : lw_tbl[1674]? = some (Cond.selects "OptionBlockPlanner$Program" yX6_modification yX6_modification) := by decide +kernel
theorem v_1676 : lw_tbl[1676]? = some (Cond.methodLinkNest "OptionBlockPlanner$Program" 25 yX7_read "OptionBlockPlanner") := by decide +kernel
theorem v_1677 : lw_tbl[1677]? = some (Cond.methodLink "OptionBlockPlanner" 302 yX6_number) := by decide +kernel
theorem v_1678 : lw_tbl[1678]? = some (Cond.instanceMethod yX6_number) := by decide +kernel
theorem v_1679 : lw_tbl[1679]? = some (Cond.selects "OptionBlockPlanner$Program" yX6_number yX6_number) := by decide +kernel
theorem v_1681 : lw_tbl[1681]? = some (Cond.stringRef "OptionBlockPlanner" 308 "a command failed") := by decide +kernel
theorem v_1682 : lw_tbl[1682]? = some (Cond.methodLink "OptionBlockPlannerLaw" 332 yL_errorPosition) := by decide +kernel
theorem v_1683 : lw_tbl[1683]? = some (Cond.static yL_errorPosition) := by decide +kernel
theorem v_1685 : lw_tbl[1685]? = some (Cond.methodLink "OptionBlockPlannerLaw" 150 yX7_errorPosition) := by decide +kernel
theorem v_1686 : lw_tbl[1686]? = some (Cond.instanceMethod yX7_errorPosition) := by decide +kernel
theorem v_1687 : lw_tbl[1687]? = some (Cond.selects "OptionBlockPlanner" yX7_errorPosition yX7_errorPosition) := by decide +kernel
theorem v_1689 : lw_tbl[1689]? = some (Cond.methodLink "OptionBlockPlannerLaw" 335 yL_failedCommand) := by decide +kernel
theorem v_1690 : lw_tbl[1690]? = some (Cond.static yL_failedCommand) := by decide +kernel
theorem v_1692 : lw_tbl[1692]? = some (Cond.methodLink "OptionBlockPlannerLaw" 153 yX7_failedCommand) := by decide +kernel
theorem v_1693 : lw_tbl[1693]? = some (Cond.instanceMethod yX7_failedCommand) := by decide +kernel
theorem v_1694 : lw_tbl[1694]? = some (Cond.selects "OptionBlockPlanner" yX7_failedCommand yX7_failedCommand) := by decide +kernel
theorem v_1696 : lw_tbl[1696]? = some (Cond.methodLink "OptionBlockPlannerLaw" 338 yL_failureKind) := by decide +kernel
theorem v_1697 : lw_tbl[1697]? = some (Cond.static yL_failureKind) := by decide +kernel
theorem v_1699 : lw_tbl[1699]? = some (Cond.methodLink "OptionBlockPlannerLaw" 156 yX7_failureKind) := by decide +kernel
theorem v_1700 : lw_tbl[1700]? = some (Cond.instanceMethod yX7_failureKind) := by decide +kernel
theorem v_1701 : lw_tbl[1701]? = some (Cond.selects "OptionBlockPlanner" yX7_failureKind yX7_failureKind) := by decide +kernel
theorem v_1703 : lw_tbl[1703]? = some (Cond.methodLink "OptionBlockPlannerLaw" 341 yL_undo) := by decide +kernel
theorem v_1704 : lw_tbl[1704]? = some (Cond.static yL_undo) := by decide +kernel
theorem v_1706 : lw_tbl[1706]? = some (Cond.methodLink "OptionBlockPlannerLaw" 159 yX7_undo) := by decide +kernel
theorem v_1707 : lw_tbl[1707]? = some (Cond.instanceMethod yX7_undo) := by decide +kernel
theorem v_1708 : lw_tbl[1708]? = some (Cond.selects "OptionBlockPlanner" yX7_undo yX7_undo) := by decide +kernel
theorem v_1710 : lw_tbl[1710]? = some (Cond.stringRef "OptionBlockPlanner" 314 "nothing can be undone") := by decide +kernel
theorem v_1711 : lw_tbl[1711]? = some (Cond.methodLink "OptionBlockPlanner" 316 yX3_bringBack) := by decide +kernel
theorem v_1712 : lw_tbl[1712]? = some (Cond.instanceMethod yX3_bringBack) := by decide +kernel
theorem v_1713 : lw_tbl[1713]? = some (Cond.selects "OptionBlockPlanner$History" yX3_bringBack yX3_bringBack) := by decide +kernel
theorem v_1715 : lw_tbl[1715]? = some (Cond.methodLink "OptionBlockPlannerLaw" 348 yL_restore) := by decide +kernel
theorem v_1716 : lw_tbl[1716]? = some (Cond.static yL_restore) := by decide +kernel
theorem v_1718 : lw_tbl[1718]? = some (Cond.methodLink "OptionBlockPlannerLaw" 162 yX7_restore) := by decide +kernel
theorem v_1719 : lw_tbl[1719]? = some (Cond.instanceMethod yX7_restore) := by decide +kernel
theorem v_1720 : lw_tbl[1720]? = some (Cond.selects "OptionBlockPlanner" yX7_restore yX7_restore) := by decide +kernel
theorem v_1722 : lw_tbl[1722]? = some (Cond.stringRef "OptionBlockPlanner" 323 "there is no snapshot") := by decide +kernel
theorem v_1723 : lw_tbl[1723]? = some (Cond.methodLink "OptionBlockPlanner" 325 yX3_forget) := by decide +kernel
theorem v_1724 : lw_tbl[1724]? = some (Cond.instanceMethod yX3_forget) := by decide +kernel
theorem v_1725 : lw_tbl[1725]? = some (Cond.selects "OptionBlockPlanner$History" yX3_forget yX3_forget) := by decide +kernel
theorem v_1727 : lw_tbl[1727]? = some (Cond.classLink "OptionBlockPlannerLaw" 166 "OptionBlockPlannerModel") := by decide +kernel
theorem v_1728 : lw_tbl[1728]? = some (Cond.instantiable "OptionBlockPlannerModel" 31) := by decide +kernel
theorem v_1729 : lw_tbl[1729]? = some (Cond.methodLink "OptionBlockPlannerLaw" 168 yX8_init) := by decide +kernel
theorem v_1730 : lw_tbl[1730]? = some (Cond.instanceMethod yX8_init) := by decide +kernel
theorem v_1732 : lw_tbl[1732]? = some (Cond.methodLink "OptionBlockPlannerModel" 1 ⟨"java/lang/Object", "<init>", "()V"⟩) := by decide +kernel
theorem v_1733 : lw_tbl[1733]? = some (Cond.classLink "OptionBlockPlannerModel" 57 "java/lang/String") := by decide +kernel
theorem v_1735 : lw_tbl[1735]? = some (Cond.stringRef "OptionBlockPlannerModel" 59 "subject D") := by decide +kernel
theorem v_1736 : lw_tbl[1736]? = some (Cond.stringRef "OptionBlockPlannerModel" 61 "blocks D") := by decide +kernel
theorem v_1737 : lw_tbl[1737]? = some (Cond.stringRef "OptionBlockPlannerModel" 63 "open D D") := by decide +kernel
theorem v_1738 : lw_tbl[1738]? = some (Cond.stringRef "OptionBlockPlannerModel" 65 "close D D") := by decide +kernel
theorem v_1739 : lw_tbl[1739]? = some (Cond.stringRef "OptionBlockPlannerModel" 67 "pupil") := by decide +kernel
theorem v_1740 : lw_tbl[1740]? = some (Cond.stringRef "OptionBlockPlannerModel" 69 "wish N D") := by decide +kernel
theorem v_1741 : lw_tbl[1741]? = some (Cond.stringRef "OptionBlockPlannerModel" 71 "reserve N D") := by decide +kernel
theorem v_1742 : lw_tbl[1742]? = some (Cond.stringRef "OptionBlockPlannerModel" 73 "enrol N") := by decide +kernel
theorem v_1743 : lw_tbl[1743]? = some (Cond.stringRef "OptionBlockPlannerModel" 75 "join N D") := by decide +kernel
theorem v_1744 : lw_tbl[1744]? = some (Cond.stringRef "OptionBlockPlannerModel" 77 "quit N D") := by decide +kernel
theorem v_1745 : lw_tbl[1745]? = some (Cond.stringRef "OptionBlockPlannerModel" 79 "change N D D") := by decide +kernel
theorem v_1746 : lw_tbl[1746]? = some (Cond.stringRef "OptionBlockPlannerModel" 81 "arrange") := by decide +kernel
theorem v_1747 : lw_tbl[1747]? = some (Cond.fieldLink "OptionBlockPlannerModel" 7 "OptionBlockPlannerModel" "row" "[I") := by decide +kernel
theorem v_1748 : lw_tbl[1748]? = some (Cond.fieldLink "OptionBlockPlannerModel" 13 "OptionBlockPlannerModel" "ahead" "[I") := by decide +kernel
theorem v_1749 : lw_tbl[1749]? = some (Cond.fieldLink "OptionBlockPlannerModel" 16 "OptionBlockPlannerModel" "saved" "[I") := by decide +kernel
theorem v_1750 : lw_tbl[1750]? = some (Cond.fieldLink "OptionBlockPlannerModel" 19 "OptionBlockPlannerModel" "program" "[I") := by decide +kernel
theorem v_1751 : lw_tbl[1751]? = some (Cond.fieldLink "OptionBlockPlannerModel" 22 "OptionBlockPlannerModel" "undone" "[I") := by decide +kernel
theorem v_1752 : lw_tbl[1752]? = some (Cond.fieldLink "OptionBlockPlannerModel" 110 "OptionBlockPlannerModel" "undos" "I") := by decide +kernel
theorem v_1753 : lw_tbl[1753]? = some (Cond.fieldLink "OptionBlockPlannerModel" 116 "OptionBlockPlannerModel" "isSaved" "Z") := by decide +kernel
theorem v_1754 : lw_tbl[1754]? = some (Cond.fieldLink "OptionBlockPlannerModel" 96 "OptionBlockPlannerModel" "thrown" "I") := by decide +kernel
theorem v_1755 : lw_tbl[1755]? = some (Cond.fieldLink "OptionBlockPlannerModel" 103 "OptionBlockPlannerModel" "kind" "I") := by decide +kernel
theorem v_1756 : lw_tbl[1756]? = some (Cond.fieldLink "OptionBlockPlannerModel" 249 "OptionBlockPlannerModel" "reason" "I") := by decide +kernel
theorem v_1757 : lw_tbl[1757]? = some (Cond.fieldLink "OptionBlockPlannerModel" 25 "OptionBlockPlannerModel" "position" "I") := by decide +kernel
theorem v_1758 : lw_tbl[1758]? = some (Cond.fieldLink "OptionBlockPlannerModel" 29 "OptionBlockPlannerModel" "command" "I") := by decide +kernel
theorem v_1759 : lw_tbl[1759]? = some (Cond.fieldLink "OptionBlockPlannerModel" 315 "OptionBlockPlannerModel" "failure" "I") := by decide +kernel
theorem v_1760 : lw_tbl[1760]? = some (Cond.fieldLink "OptionBlockPlannerModel" 32 "OptionBlockPlannerModel" "line" "[C") := by decide +kernel
theorem v_1761 : lw_tbl[1761]? = some (Cond.fieldLink "OptionBlockPlannerModel" 36 "OptionBlockPlannerModel" "buffer" "[C") := by decide +kernel
theorem v_1762 : lw_tbl[1762]? = some (Cond.fieldLink "OptionBlockPlannerModel" 276 "OptionBlockPlannerModel" "lineLong" "I") := by decide +kernel
theorem v_1763 : lw_tbl[1763]? = some (Cond.fieldLink "OptionBlockPlannerModel" 283 "OptionBlockPlannerModel" "typed" "I") := by decide +kernel
theorem v_1764 : lw_tbl[1764]? = some (Cond.fieldLink "OptionBlockPlannerModel" 39 "OptionBlockPlannerModel" "at" "[I") := by decide +kernel
theorem v_1765 : lw_tbl[1765]? = some (Cond.fieldLink "OptionBlockPlannerModel" 42 "OptionBlockPlannerModel" "best" "[I") := by decide +kernel
theorem v_1766 : lw_tbl[1766]? = some (Cond.fieldLink "OptionBlockPlannerModel" 198 "OptionBlockPlannerModel" "bestWorth" "I") := by decide +kernel
theorem v_1767 : lw_tbl[1767]? = some (Cond.fieldLink "OptionBlockPlannerModel" 45 "OptionBlockPlannerModel" "stop" "[I") := by decide +kernel
theorem v_1768 : lw_tbl[1768]? = some (Cond.fieldLink "OptionBlockPlannerModel" 48 "OptionBlockPlannerModel" "shared" "[I") := by decide +kernel
theorem v_1769 : lw_tbl[1769]? = some (Cond.fieldLink "OptionBlockPlannerModel" 51 "OptionBlockPlannerModel" "block" "[I") := by decide +kernel
theorem v_1770 : lw_tbl[1770]? = some (Cond.fieldLink "OptionBlockPlannerModel" 54 "OptionBlockPlannerModel" "arranged" "[I") := by decide +kernel
theorem v_1771 : lw_tbl[1771]? = some (Cond.fieldLink "OptionBlockPlannerModel" 83 "OptionBlockPlannerModel" "forms" "[Ljava/lang/String;") := by decide +kernel
theorem v_1772 : lw_tbl[1772]? = some (Cond.fieldLink "OptionBlockPlannerModel" 87 "OptionBlockPlannerModel" "act" "[I") := by decide +kernel
theorem v_1773 : lw_tbl[1773]? = some (Cond.fieldLink "OptionBlockPlannerModel" 90 "OptionBlockPlannerModel" "number" "[I") := by decide +kernel
theorem v_1774 : lw_tbl[1774]? = some (Cond.fieldLink "OptionBlockPlannerModel" 93 "OptionBlockPlannerModel" "read" "[I") := by decide +kernel
theorem v_1775 : lw_tbl[1775]? = some (Cond.fieldLink "OptionBlockPlannerModel" 286 "OptionBlockPlannerModel" "textLong" "I") := by decide +kernel
theorem v_1776 : lw_tbl[1776]? = some (Cond.fieldLink "OptionBlockPlannerModel" 302 "OptionBlockPlannerModel" "acts" "I") := by decide +kernel
theorem v_1777 : lw_tbl[1777]? = some (Cond.fieldLink "OptionBlockPlannerModel" 299 "OptionBlockPlannerModel" "stopped" "I") := by decide +kernel
theorem v_1841 : lw_tbl[1841]? = some (Cond.arrayClass .char) := by decide +kernel
theorem v_1842 : lw_tbl[1842]? = some (Cond.methodLink "OptionBlockPlannerLaw" 175 yX8_thrown) := by decide +kernel
theorem v_1843 : lw_tbl[1843]? = some (Cond.instanceMethod yX8_thrown) := by decide +kernel
theorem v_1844 : lw_tbl[1844]? = some (Cond.selects "OptionBlockPlannerModel" yX8_thrown yX8_thrown) := by decide +kernel
theorem v_1846 : lw_tbl[1846]? = some (Cond.methodLink "OptionBlockPlannerLaw" 343 yX8_undo) := by decide +kernel
theorem v_1847 : lw_tbl[1847]? = some (Cond.instanceMethod yX8_undo) := by decide +kernel
theorem v_1848 : lw_tbl[1848]? = some (Cond.selects "OptionBlockPlannerModel" yX8_undo yX8_undo) := by decide +kernel
theorem v_1850 : lw_tbl[1850]? = some (Cond.methodLink "OptionBlockPlannerModel" 106 yX8_fails) := by decide +kernel
theorem v_1852 : lw_tbl[1852]? = some (Cond.instanceMethod yX8_fails) := by decide +kernel
theorem v_1854 : lw_tbl[1854]? = some (Cond.methodLink "OptionBlockPlannerModel" 113 yX8_tells) := by decide +kernel
theorem v_1856 : lw_tbl[1856]? = some (Cond.instanceMethod yX8_tells) := by decide +kernel
theorem v_1858 : lw_tbl[1858]? = some (Cond.methodLink "OptionBlockPlannerLaw" 347 yX8_save) := by decide +kernel
theorem v_1859 : lw_tbl[1859]? = some (Cond.instanceMethod yX8_save) := by decide +kernel
theorem v_1860 : lw_tbl[1860]? = some (Cond.selects "OptionBlockPlannerModel" yX8_save yX8_save) := by decide +kernel
theorem v_1862 : lw_tbl[1862]? = some (Cond.methodLink "OptionBlockPlannerModel" 99 yX8_copies) := by decide +kernel
theorem v_1863 : lw_tbl[1863]? = some (Cond.static yX8_copies) := by decide +kernel
theorem v_1865 : lw_tbl[1865]? = some (Cond.methodLink "OptionBlockPlannerLaw" 350 yX8_restore) := by decide +kernel
theorem v_1866 : lw_tbl[1866]? = some (Cond.instanceMethod yX8_restore) := by decide +kernel
theorem v_1867 : lw_tbl[1867]? = some (Cond.selects "OptionBlockPlannerModel" yX8_restore yX8_restore) := by decide +kernel
theorem v_1869 : lw_tbl[1869]? = some (Cond.methodLink "OptionBlockPlannerLaw" 174 yX8_addSubject) := by decide +kernel
theorem v_1870 : lw_tbl[1870]? = some (Cond.instanceMethod yX8_addSubject) := by decide +kernel
theorem v_1871 : lw_tbl[1871]? = some (Cond.selects "OptionBlockPlannerModel" yX8_addSubject yX8_addSubject) := by decide +kernel
theorem v_1873 : lw_tbl[1873]? = some (Cond.methodLink "OptionBlockPlannerModel" 134 yX8_begins) := by decide +kernel
theorem v_1875 : lw_tbl[1875]? = some (Cond.instanceMethod yX8_begins) := by decide +kernel
theorem v_1877 : lw_tbl[1877]? = some (Cond.methodLink "OptionBlockPlannerModel" 137 yX8_addSubjectNow) := by decide +kernel
theorem v_1879 : lw_tbl[1879]? = some (Cond.instanceMethod yX8_addSubjectNow) := by decide +kernel
theorem v_1881 : lw_tbl[1881]? = some (Cond.methodLink "OptionBlockPlannerModel" 120 yX8_in) := by decide +kernel
theorem v_1882 : lw_tbl[1882]? = some (Cond.static yX8_in) := by decide +kernel
theorem v_1884 : lw_tbl[1884]? = some (Cond.methodLink "OptionBlockPlannerModel" 131 yX8_bad) := by decide +kernel
theorem v_1886 : lw_tbl[1886]? = some (Cond.instanceMethod yX8_bad) := by decide +kernel
theorem v_1888 : lw_tbl[1888]? = some (Cond.methodLink "OptionBlockPlannerModel" 140 yX8_ends) := by decide +kernel
theorem v_1890 : lw_tbl[1890]? = some (Cond.instanceMethod yX8_ends) := by decide +kernel
theorem v_1892 : lw_tbl[1892]? = some (Cond.methodLink "OptionBlockPlannerLaw" 181 yX8_setSize) := by decide +kernel
theorem v_1893 : lw_tbl[1893]? = some (Cond.instanceMethod yX8_setSize) := by decide +kernel
theorem v_1894 : lw_tbl[1894]? = some (Cond.selects "OptionBlockPlannerModel" yX8_setSize yX8_setSize) := by decide +kernel
theorem v_1896 : lw_tbl[1896]? = some (Cond.methodLink "OptionBlockPlannerModel" 151 yX8_setSizeNow) := by decide +kernel
theorem v_1898 : lw_tbl[1898]? = some (Cond.instanceMethod yX8_setSizeNow) := by decide +kernel
theorem v_1900 : lw_tbl[1900]? = some (Cond.methodLink "OptionBlockPlannerModel" 144 yX8_isSubject) := by decide +kernel
theorem v_1902 : lw_tbl[1902]? = some (Cond.instanceMethod yX8_isSubject) := by decide +kernel
theorem v_1904 : lw_tbl[1904]? = some (Cond.methodLink "OptionBlockPlannerModel" 148 yX8_inClass) := by decide +kernel
theorem v_1906 : lw_tbl[1906]? = some (Cond.instanceMethod yX8_inClass) := by decide +kernel
theorem v_1908 : lw_tbl[1908]? = some (Cond.methodLink "OptionBlockPlannerModel" 124 yX8_subjectOf) := by decide +kernel
theorem v_1910 : lw_tbl[1910]? = some (Cond.instanceMethod yX8_subjectOf) := by decide +kernel
theorem v_1912 : lw_tbl[1912]? = some (Cond.methodLink "OptionBlockPlannerLaw" 185 yX8_subjectCount) := by decide +kernel
theorem v_1913 : lw_tbl[1913]? = some (Cond.instanceMethod yX8_subjectCount) := by decide +kernel
theorem v_1914 : lw_tbl[1914]? = some (Cond.selects "OptionBlockPlannerModel" yX8_subjectCount yX8_subjectCount) := by decide +kernel
theorem v_1916 : lw_tbl[1916]? = some (Cond.methodLink "OptionBlockPlannerLaw" 188 yX8_sizeOf) := by decide +kernel
theorem v_1917 : lw_tbl[1917]? = some (Cond.instanceMethod yX8_sizeOf) := by decide +kernel
theorem v_1918 : lw_tbl[1918]? = some (Cond.selects "OptionBlockPlannerModel" yX8_sizeOf yX8_sizeOf) := by decide +kernel
theorem v_1920 : lw_tbl[1920]? = some (Cond.methodLink "OptionBlockPlannerLaw" 191 yX8_setBlockCount) := by decide +kernel
theorem v_1921 : lw_tbl[1921]? = some (Cond.instanceMethod yX8_setBlockCount) := by decide +kernel
theorem v_1922 : lw_tbl[1922]? = some (Cond.selects "OptionBlockPlannerModel" yX8_setBlockCount yX8_setBlockCount) := by decide +kernel
theorem v_1924 : lw_tbl[1924]? = some (Cond.methodLink "OptionBlockPlannerModel" 158 yX8_setBlockCountNow) := by decide +kernel
theorem v_1926 : lw_tbl[1926]? = some (Cond.instanceMethod yX8_setBlockCountNow) := by decide +kernel
theorem v_1928 : lw_tbl[1928]? = some (Cond.methodLink "OptionBlockPlannerModel" 154 yX8_hasOpen) := by decide +kernel
theorem v_1930 : lw_tbl[1930]? = some (Cond.instanceMethod yX8_hasOpen) := by decide +kernel
theorem v_1932 : lw_tbl[1932]? = some (Cond.methodLink "OptionBlockPlannerLaw" 195 yX8_blockCount) := by decide +kernel
theorem v_1933 : lw_tbl[1933]? = some (Cond.instanceMethod yX8_blockCount) := by decide +kernel
theorem v_1934 : lw_tbl[1934]? = some (Cond.selects "OptionBlockPlannerModel" yX8_blockCount yX8_blockCount) := by decide +kernel
theorem v_1936 : lw_tbl[1936]? = some (Cond.methodLink "OptionBlockPlannerLaw" 198 yX8_openClass) := by decide +kernel
theorem v_1937 : lw_tbl[1937]? = some (Cond.instanceMethod yX8_openClass) := by decide +kernel
theorem v_1938 : lw_tbl[1938]? = some (Cond.selects "OptionBlockPlannerModel" yX8_openClass yX8_openClass) := by decide +kernel
theorem v_1940 : lw_tbl[1940]? = some (Cond.methodLink "OptionBlockPlannerModel" 167 yX8_openClassNow) := by decide +kernel
theorem v_1942 : lw_tbl[1942]? = some (Cond.instanceMethod yX8_openClassNow) := by decide +kernel
theorem v_1944 : lw_tbl[1944]? = some (Cond.methodLink "OptionBlockPlannerModel" 161 yX8_isBlock) := by decide +kernel
theorem v_1946 : lw_tbl[1946]? = some (Cond.instanceMethod yX8_isBlock) := by decide +kernel
theorem v_1948 : lw_tbl[1948]? = some (Cond.methodLink "OptionBlockPlannerModel" 164 yX8_openOf) := by decide +kernel
theorem v_1950 : lw_tbl[1950]? = some (Cond.instanceMethod yX8_openOf) := by decide +kernel
theorem v_1952 : lw_tbl[1952]? = some (Cond.methodLink "OptionBlockPlannerLaw" 201 yX8_closeClass) := by decide +kernel
theorem v_1953 : lw_tbl[1953]? = some (Cond.instanceMethod yX8_closeClass) := by decide +kernel
theorem v_1954 : lw_tbl[1954]? = some (Cond.selects "OptionBlockPlannerModel" yX8_closeClass yX8_closeClass) := by decide +kernel
theorem v_1956 : lw_tbl[1956]? = some (Cond.methodLink "OptionBlockPlannerModel" 170 yX8_closeClassNow) := by decide +kernel
theorem v_1958 : lw_tbl[1958]? = some (Cond.instanceMethod yX8_closeClassNow) := by decide +kernel
theorem v_1960 : lw_tbl[1960]? = some (Cond.methodLink "OptionBlockPlannerLaw" 204 yX8_isOpen) := by decide +kernel
theorem v_1961 : lw_tbl[1961]? = some (Cond.instanceMethod yX8_isOpen) := by decide +kernel
theorem v_1962 : lw_tbl[1962]? = some (Cond.selects "OptionBlockPlannerModel" yX8_isOpen yX8_isOpen) := by decide +kernel
theorem v_1964 : lw_tbl[1964]? = some (Cond.methodLink "OptionBlockPlannerLaw" 207 yX8_pupilsInClass) := by decide +kernel
theorem v_1965 : lw_tbl[1965]? = some (Cond.instanceMethod yX8_pupilsInClass) := by decide +kernel
theorem v_1966 : lw_tbl[1966]? = some (Cond.selects "OptionBlockPlannerModel" yX8_pupilsInClass yX8_pupilsInClass) := by decide +kernel
theorem v_1968 : lw_tbl[1968]? = some (Cond.methodLink "OptionBlockPlannerLaw" 211 yX8_pupilInClass) := by decide +kernel
theorem v_1969 : lw_tbl[1969]? = some (Cond.instanceMethod yX8_pupilInClass) := by decide +kernel
theorem v_1970 : lw_tbl[1970]? = some (Cond.selects "OptionBlockPlannerModel" yX8_pupilInClass yX8_pupilInClass) := by decide +kernel
theorem v_1972 : lw_tbl[1972]? = some (Cond.methodLink "OptionBlockPlannerLaw" 215 yX8_addPupil) := by decide +kernel
theorem v_1973 : lw_tbl[1973]? = some (Cond.instanceMethod yX8_addPupil) := by decide +kernel
theorem v_1974 : lw_tbl[1974]? = some (Cond.selects "OptionBlockPlannerModel" yX8_addPupil yX8_addPupil) := by decide +kernel
theorem v_1976 : lw_tbl[1976]? = some (Cond.methodLink "OptionBlockPlannerModel" 173 yX8_addPupilNow) := by decide +kernel
theorem v_1978 : lw_tbl[1978]? = some (Cond.instanceMethod yX8_addPupilNow) := by decide +kernel
theorem v_1980 : lw_tbl[1980]? = some (Cond.methodLink "OptionBlockPlannerLaw" 219 yX8_pupilCount) := by decide +kernel
theorem v_1981 : lw_tbl[1981]? = some (Cond.instanceMethod yX8_pupilCount) := by decide +kernel
theorem v_1982 : lw_tbl[1982]? = some (Cond.selects "OptionBlockPlannerModel" yX8_pupilCount yX8_pupilCount) := by decide +kernel
theorem v_1984 : lw_tbl[1984]? = some (Cond.methodLink "OptionBlockPlannerLaw" 222 yX8_addWish) := by decide +kernel
theorem v_1985 : lw_tbl[1985]? = some (Cond.instanceMethod yX8_addWish) := by decide +kernel
theorem v_1986 : lw_tbl[1986]? = some (Cond.selects "OptionBlockPlannerModel" yX8_addWish yX8_addWish) := by decide +kernel
theorem v_1988 : lw_tbl[1988]? = some (Cond.methodLink "OptionBlockPlannerModel" 183 yX8_addWishNow) := by decide +kernel
theorem v_1990 : lw_tbl[1990]? = some (Cond.instanceMethod yX8_addWishNow) := by decide +kernel
theorem v_1992 : lw_tbl[1992]? = some (Cond.methodLink "OptionBlockPlannerModel" 177 yX8_isPupil) := by decide +kernel
theorem v_1994 : lw_tbl[1994]? = some (Cond.instanceMethod yX8_isPupil) := by decide +kernel
theorem v_1996 : lw_tbl[1996]? = some (Cond.methodLink "OptionBlockPlannerModel" 180 yX8_isWish) := by decide +kernel
theorem v_1998 : lw_tbl[1998]? = some (Cond.instanceMethod yX8_isWish) := by decide +kernel
theorem v_2000 : lw_tbl[2000]? = some (Cond.methodLink "OptionBlockPlannerModel" 128 yX8_wish) := by decide +kernel
theorem v_2002 : lw_tbl[2002]? = some (Cond.instanceMethod yX8_wish) := by decide +kernel
theorem v_2004 : lw_tbl[2004]? = some (Cond.methodLink "OptionBlockPlannerLaw" 225 yX8_setReserve) := by decide +kernel
theorem v_2005 : lw_tbl[2005]? = some (Cond.instanceMethod yX8_setReserve) := by decide +kernel
theorem v_2006 : lw_tbl[2006]? = some (Cond.selects "OptionBlockPlannerModel" yX8_setReserve yX8_setReserve) := by decide +kernel
theorem v_2008 : lw_tbl[2008]? = some (Cond.methodLink "OptionBlockPlannerModel" 186 yX8_setReserveNow) := by decide +kernel
theorem v_2010 : lw_tbl[2010]? = some (Cond.instanceMethod yX8_setReserveNow) := by decide +kernel
theorem v_2012 : lw_tbl[2012]? = some (Cond.methodLink "OptionBlockPlannerLaw" 228 yX8_wishCount) := by decide +kernel
theorem v_2013 : lw_tbl[2013]? = some (Cond.instanceMethod yX8_wishCount) := by decide +kernel
theorem v_2014 : lw_tbl[2014]? = some (Cond.selects "OptionBlockPlannerModel" yX8_wishCount yX8_wishCount) := by decide +kernel
theorem v_2016 : lw_tbl[2016]? = some (Cond.methodLink "OptionBlockPlannerLaw" 231 yX8_wishAt) := by decide +kernel
theorem v_2017 : lw_tbl[2017]? = some (Cond.instanceMethod yX8_wishAt) := by decide +kernel
theorem v_2018 : lw_tbl[2018]? = some (Cond.selects "OptionBlockPlannerModel" yX8_wishAt yX8_wishAt) := by decide +kernel
theorem v_2020 : lw_tbl[2020]? = some (Cond.methodLink "OptionBlockPlannerLaw" 234 yX8_reserveOf) := by decide +kernel
theorem v_2021 : lw_tbl[2021]? = some (Cond.instanceMethod yX8_reserveOf) := by decide +kernel
theorem v_2022 : lw_tbl[2022]? = some (Cond.selects "OptionBlockPlannerModel" yX8_reserveOf yX8_reserveOf) := by decide +kernel
theorem v_2024 : lw_tbl[2024]? = some (Cond.methodLink "OptionBlockPlannerLaw" 237 yX8_subjectIn) := by decide +kernel
theorem v_2025 : lw_tbl[2025]? = some (Cond.instanceMethod yX8_subjectIn) := by decide +kernel
theorem v_2026 : lw_tbl[2026]? = some (Cond.selects "OptionBlockPlannerModel" yX8_subjectIn yX8_subjectIn) := by decide +kernel
theorem v_2028 : lw_tbl[2028]? = some (Cond.methodLink "OptionBlockPlannerLaw" 240 yX8_blockOf) := by decide +kernel
theorem v_2029 : lw_tbl[2029]? = some (Cond.instanceMethod yX8_blockOf) := by decide +kernel
theorem v_2030 : lw_tbl[2030]? = some (Cond.selects "OptionBlockPlannerModel" yX8_blockOf yX8_blockOf) := by decide +kernel
theorem v_2032 : lw_tbl[2032]? = some (Cond.methodLink "OptionBlockPlannerModel" 189 yX8_blockOfSubject) := by decide +kernel
theorem v_2034 : lw_tbl[2034]? = some (Cond.instanceMethod yX8_blockOfSubject) := by decide +kernel
theorem v_2036 : lw_tbl[2036]? = some (Cond.methodLink "OptionBlockPlannerLaw" 243 yX8_enrol) := by decide +kernel
theorem v_2037 : lw_tbl[2037]? = some (Cond.instanceMethod yX8_enrol) := by decide +kernel
theorem v_2038 : lw_tbl[2038]? = some (Cond.selects "OptionBlockPlannerModel" yX8_enrol yX8_enrol) := by decide +kernel
theorem v_2040 : lw_tbl[2040]? = some (Cond.methodLink "OptionBlockPlannerModel" 211 yX8_enrolNow) := by decide +kernel
theorem v_2042 : lw_tbl[2042]? = some (Cond.instanceMethod yX8_enrolNow) := by decide +kernel
theorem v_2044 : lw_tbl[2044]? = some (Cond.methodLink "OptionBlockPlannerModel" 204 yX8_classesOf) := by decide +kernel
theorem v_2046 : lw_tbl[2046]? = some (Cond.instanceMethod yX8_classesOf) := by decide +kernel
theorem v_2048 : lw_tbl[2048]? = some (Cond.methodLink "OptionBlockPlannerModel" 207 yX8_findsPlacement) := by decide +kernel
theorem v_2050 : lw_tbl[2050]? = some (Cond.instanceMethod yX8_findsPlacement) := by decide +kernel
theorem v_2052 : lw_tbl[2052]? = some (Cond.methodLink "OptionBlockPlannerModel" 201 yX8_worth) := by decide +kernel
theorem v_2054 : lw_tbl[2054]? = some (Cond.instanceMethod yX8_worth) := by decide +kernel
theorem v_2056 : lw_tbl[2056]? = some (Cond.methodLink "OptionBlockPlannerModel" 192 yX8_hasRoom) := by decide +kernel
theorem v_2058 : lw_tbl[2058]? = some (Cond.instanceMethod yX8_hasRoom) := by decide +kernel
theorem v_2060 : lw_tbl[2060]? = some (Cond.methodLink "OptionBlockPlannerModel" 195 yX8_lacksWish) := by decide +kernel
theorem v_2062 : lw_tbl[2062]? = some (Cond.instanceMethod yX8_lacksWish) := by decide +kernel
theorem v_2064 : lw_tbl[2064]? = some (Cond.methodLink "OptionBlockPlannerLaw" 247 yX8_enrolAll) := by decide +kernel
theorem v_2065 : lw_tbl[2065]? = some (Cond.instanceMethod yX8_enrolAll) := by decide +kernel
theorem v_2066 : lw_tbl[2066]? = some (Cond.selects "OptionBlockPlannerModel" yX8_enrolAll yX8_enrolAll) := by decide +kernel
theorem v_2068 : lw_tbl[2068]? = some (Cond.methodLink "OptionBlockPlannerModel" 214 yX8_isServed) := by decide +kernel
theorem v_2070 : lw_tbl[2070]? = some (Cond.instanceMethod yX8_isServed) := by decide +kernel
theorem v_2072 : lw_tbl[2072]? = some (Cond.methodLink "OptionBlockPlannerLaw" 250 yX8_withdraw) := by decide +kernel
theorem v_2073 : lw_tbl[2073]? = some (Cond.instanceMethod yX8_withdraw) := by decide +kernel
theorem v_2074 : lw_tbl[2074]? = some (Cond.selects "OptionBlockPlannerModel" yX8_withdraw yX8_withdraw) := by decide +kernel
theorem v_2076 : lw_tbl[2076]? = some (Cond.methodLink "OptionBlockPlannerModel" 217 yX8_withdrawNow) := by decide +kernel
theorem v_2078 : lw_tbl[2078]? = some (Cond.instanceMethod yX8_withdrawNow) := by decide +kernel
theorem v_2080 : lw_tbl[2080]? = some (Cond.methodLink "OptionBlockPlannerLaw" 253 yX8_bestValue) := by decide +kernel
theorem v_2081 : lw_tbl[2081]? = some (Cond.instanceMethod yX8_bestValue) := by decide +kernel
theorem v_2082 : lw_tbl[2082]? = some (Cond.selects "OptionBlockPlannerModel" yX8_bestValue yX8_bestValue) := by decide +kernel
theorem v_2084 : lw_tbl[2084]? = some (Cond.methodLink "OptionBlockPlannerLaw" 256 yX8_bestValueBySets) := by decide +kernel
theorem v_2085 : lw_tbl[2085]? = some (Cond.instanceMethod yX8_bestValueBySets) := by decide +kernel
theorem v_2086 : lw_tbl[2086]? = some (Cond.selects "OptionBlockPlannerModel" yX8_bestValueBySets yX8_bestValueBySets) := by decide +kernel
theorem v_2088 : lw_tbl[2088]? = some (Cond.methodLink "OptionBlockPlannerModel" 224 yX8_canPlace) := by decide +kernel
theorem v_2090 : lw_tbl[2090]? = some (Cond.instanceMethod yX8_canPlace) := by decide +kernel
theorem v_2092 : lw_tbl[2092]? = some (Cond.methodLink "OptionBlockPlannerModel" 220 yX8_more) := by decide +kernel
theorem v_2094 : lw_tbl[2094]? = some (Cond.instanceMethod yX8_more) := by decide +kernel
theorem v_2096 : lw_tbl[2096]? = some (Cond.methodLink "OptionBlockPlannerLaw" 259 yX8_canServe) := by decide +kernel
theorem v_2097 : lw_tbl[2097]? = some (Cond.instanceMethod yX8_canServe) := by decide +kernel
theorem v_2098 : lw_tbl[2098]? = some (Cond.selects "OptionBlockPlannerModel" yX8_canServe yX8_canServe) := by decide +kernel
theorem v_2100 : lw_tbl[2100]? = some (Cond.methodLink "OptionBlockPlannerModel" 228 yX8_isServable) := by decide +kernel
theorem v_2102 : lw_tbl[2102]? = some (Cond.instanceMethod yX8_isServable) := by decide +kernel
theorem v_2104 : lw_tbl[2104]? = some (Cond.methodLink "OptionBlockPlannerLaw" 262 yX8_canServeByCounting) := by decide +kernel
theorem v_2105 : lw_tbl[2105]? = some (Cond.instanceMethod yX8_canServeByCounting) := by decide +kernel
theorem v_2106 : lw_tbl[2106]? = some (Cond.selects "OptionBlockPlannerModel" yX8_canServeByCounting yX8_canServeByCounting) := by decide +kernel
theorem v_2108 : lw_tbl[2108]? = some (Cond.methodLink "OptionBlockPlannerLaw" 266 yX8_servedCount) := by decide +kernel
theorem v_2109 : lw_tbl[2109]? = some (Cond.instanceMethod yX8_servedCount) := by decide +kernel
theorem v_2110 : lw_tbl[2110]? = some (Cond.selects "OptionBlockPlannerModel" yX8_servedCount yX8_servedCount) := by decide +kernel
theorem v_2112 : lw_tbl[2112]? = some (Cond.methodLink "OptionBlockPlannerLaw" 270 yX8_meanClassSize) := by decide +kernel
theorem v_2113 : lw_tbl[2113]? = some (Cond.instanceMethod yX8_meanClassSize) := by decide +kernel
theorem v_2114 : lw_tbl[2114]? = some (Cond.selects "OptionBlockPlannerModel" yX8_meanClassSize yX8_meanClassSize) := by decide +kernel
theorem v_2116 : lw_tbl[2116]? = some (Cond.methodLink "OptionBlockPlannerLaw" 273 yX8_movesFor) := by decide +kernel
theorem v_2117 : lw_tbl[2117]? = some (Cond.instanceMethod yX8_movesFor) := by decide +kernel
theorem v_2118 : lw_tbl[2118]? = some (Cond.selects "OptionBlockPlannerModel" yX8_movesFor yX8_movesFor) := by decide +kernel
theorem v_2120 : lw_tbl[2120]? = some (Cond.methodLink "OptionBlockPlannerModel" 243 yX8_asksMoves) := by decide +kernel
theorem v_2122 : lw_tbl[2122]? = some (Cond.instanceMethod yX8_asksMoves) := by decide +kernel
theorem v_2124 : lw_tbl[2124]? = some (Cond.methodLink "OptionBlockPlannerModel" 240 yX8_findsChain) := by decide +kernel
theorem v_2126 : lw_tbl[2126]? = some (Cond.instanceMethod yX8_findsChain) := by decide +kernel
theorem v_2128 : lw_tbl[2128]? = some (Cond.methodLink "OptionBlockPlannerModel" 237 yX8_isChain) := by decide +kernel
theorem v_2130 : lw_tbl[2130]? = some (Cond.instanceMethod yX8_isChain) := by decide +kernel
theorem v_2132 : lw_tbl[2132]? = some (Cond.methodLink "OptionBlockPlannerModel" 231 yX8_isEntry) := by decide +kernel
theorem v_2134 : lw_tbl[2134]? = some (Cond.instanceMethod yX8_isEntry) := by decide +kernel
theorem v_2136 : lw_tbl[2136]? = some (Cond.methodLink "OptionBlockPlannerModel" 234 yX8_mover) := by decide +kernel
theorem v_2138 : lw_tbl[2138]? = some (Cond.instanceMethod yX8_mover) := by decide +kernel
theorem v_2140 : lw_tbl[2140]? = some (Cond.methodLink "OptionBlockPlannerLaw" 276 yX8_movesByTrial) := by decide +kernel
theorem v_2141 : lw_tbl[2141]? = some (Cond.instanceMethod yX8_movesByTrial) := by decide +kernel
theorem v_2142 : lw_tbl[2142]? = some (Cond.selects "OptionBlockPlannerModel" yX8_movesByTrial yX8_movesByTrial) := by decide +kernel
theorem v_2144 : lw_tbl[2144]? = some (Cond.methodLink "OptionBlockPlannerLaw" 279 yX8_join) := by decide +kernel
theorem v_2145 : lw_tbl[2145]? = some (Cond.instanceMethod yX8_join) := by decide +kernel
theorem v_2146 : lw_tbl[2146]? = some (Cond.selects "OptionBlockPlannerModel" yX8_join yX8_join) := by decide +kernel
theorem v_2148 : lw_tbl[2148]? = some (Cond.methodLink "OptionBlockPlannerModel" 252 yX8_joinNow) := by decide +kernel
theorem v_2150 : lw_tbl[2150]? = some (Cond.instanceMethod yX8_joinNow) := by decide +kernel
theorem v_2152 : lw_tbl[2152]? = some (Cond.methodLink "OptionBlockPlannerModel" 246 yX8_whyRefused) := by decide +kernel
theorem v_2154 : lw_tbl[2154]? = some (Cond.instanceMethod yX8_whyRefused) := by decide +kernel
theorem v_2156 : lw_tbl[2156]? = some (Cond.methodLink "OptionBlockPlannerLaw" 282 yX8_quit) := by decide +kernel
theorem v_2157 : lw_tbl[2157]? = some (Cond.instanceMethod yX8_quit) := by decide +kernel
theorem v_2158 : lw_tbl[2158]? = some (Cond.selects "OptionBlockPlannerModel" yX8_quit yX8_quit) := by decide +kernel
theorem v_2160 : lw_tbl[2160]? = some (Cond.methodLink "OptionBlockPlannerModel" 255 yX8_quitNow) := by decide +kernel
theorem v_2162 : lw_tbl[2162]? = some (Cond.instanceMethod yX8_quitNow) := by decide +kernel
theorem v_2164 : lw_tbl[2164]? = some (Cond.methodLink "OptionBlockPlannerLaw" 285 yX8_change) := by decide +kernel
theorem v_2165 : lw_tbl[2165]? = some (Cond.instanceMethod yX8_change) := by decide +kernel
theorem v_2166 : lw_tbl[2166]? = some (Cond.selects "OptionBlockPlannerModel" yX8_change yX8_change) := by decide +kernel
theorem v_2168 : lw_tbl[2168]? = some (Cond.methodLink "OptionBlockPlannerModel" 258 yX8_changeNow) := by decide +kernel
theorem v_2170 : lw_tbl[2170]? = some (Cond.instanceMethod yX8_changeNow) := by decide +kernel
theorem v_2172 : lw_tbl[2172]? = some (Cond.methodLink "OptionBlockPlannerLaw" 288 yX8_refusalReason) := by decide +kernel
theorem v_2173 : lw_tbl[2173]? = some (Cond.instanceMethod yX8_refusalReason) := by decide +kernel
theorem v_2174 : lw_tbl[2174]? = some (Cond.selects "OptionBlockPlannerModel" yX8_refusalReason yX8_refusalReason) := by decide +kernel
theorem v_2176 : lw_tbl[2176]? = some (Cond.methodLink "OptionBlockPlannerLaw" 291 yX8_chainMoves) := by decide +kernel
theorem v_2177 : lw_tbl[2177]? = some (Cond.instanceMethod yX8_chainMoves) := by decide +kernel
theorem v_2178 : lw_tbl[2178]? = some (Cond.selects "OptionBlockPlannerModel" yX8_chainMoves yX8_chainMoves) := by decide +kernel
theorem v_2180 : lw_tbl[2180]? = some (Cond.methodLink "OptionBlockPlannerLaw" 294 yX8_chainPupil) := by decide +kernel
theorem v_2181 : lw_tbl[2181]? = some (Cond.instanceMethod yX8_chainPupil) := by decide +kernel
theorem v_2182 : lw_tbl[2182]? = some (Cond.selects "OptionBlockPlannerModel" yX8_chainPupil yX8_chainPupil) := by decide +kernel
theorem v_2184 : lw_tbl[2184]? = some (Cond.methodLink "OptionBlockPlannerLaw" 297 yX8_chainBlock) := by decide +kernel
theorem v_2185 : lw_tbl[2185]? = some (Cond.instanceMethod yX8_chainBlock) := by decide +kernel
theorem v_2186 : lw_tbl[2186]? = some (Cond.selects "OptionBlockPlannerModel" yX8_chainBlock yX8_chainBlock) := by decide +kernel
theorem v_2188 : lw_tbl[2188]? = some (Cond.methodLink "OptionBlockPlannerLaw" 300 yX8_commonWishes) := by decide +kernel
theorem v_2189 : lw_tbl[2189]? = some (Cond.instanceMethod yX8_commonWishes) := by decide +kernel
theorem v_2190 : lw_tbl[2190]? = some (Cond.selects "OptionBlockPlannerModel" yX8_commonWishes yX8_commonWishes) := by decide +kernel
theorem v_2192 : lw_tbl[2192]? = some (Cond.methodLink "OptionBlockPlannerModel" 261 yX8_wrongPair) := by decide +kernel
theorem v_2194 : lw_tbl[2194]? = some (Cond.instanceMethod yX8_wrongPair) := by decide +kernel
theorem v_2196 : lw_tbl[2196]? = some (Cond.methodLink "OptionBlockPlannerModel" 264 yX8_common) := by decide +kernel
theorem v_2198 : lw_tbl[2198]? = some (Cond.instanceMethod yX8_common) := by decide +kernel
theorem v_2200 : lw_tbl[2200]? = some (Cond.methodLink "OptionBlockPlannerLaw" 303 yX8_doClash) := by decide +kernel
theorem v_2201 : lw_tbl[2201]? = some (Cond.instanceMethod yX8_doClash) := by decide +kernel
theorem v_2202 : lw_tbl[2202]? = some (Cond.selects "OptionBlockPlannerModel" yX8_doClash yX8_doClash) := by decide +kernel
theorem v_2204 : lw_tbl[2204]? = some (Cond.methodLink "OptionBlockPlannerModel" 267 yX8_clash) := by decide +kernel
theorem v_2206 : lw_tbl[2206]? = some (Cond.instanceMethod yX8_clash) := by decide +kernel
theorem v_2208 : lw_tbl[2208]? = some (Cond.methodLink "OptionBlockPlannerLaw" 307 yX8_clashCount) := by decide +kernel
theorem v_2209 : lw_tbl[2209]? = some (Cond.instanceMethod yX8_clashCount) := by decide +kernel
theorem v_2210 : lw_tbl[2210]? = some (Cond.selects "OptionBlockPlannerModel" yX8_clashCount yX8_clashCount) := by decide +kernel
theorem v_2212 : lw_tbl[2212]? = some (Cond.methodLink "OptionBlockPlannerLaw" 311 yX8_leastClashes) := by decide +kernel
theorem v_2213 : lw_tbl[2213]? = some (Cond.instanceMethod yX8_leastClashes) := by decide +kernel
theorem v_2214 : lw_tbl[2214]? = some (Cond.selects "OptionBlockPlannerModel" yX8_leastClashes yX8_leastClashes) := by decide +kernel
theorem v_2216 : lw_tbl[2216]? = some (Cond.methodLink "OptionBlockPlannerModel" 270 yX8_findsArrangement) := by decide +kernel
theorem v_2218 : lw_tbl[2218]? = some (Cond.instanceMethod yX8_findsArrangement) := by decide +kernel
theorem v_2220 : lw_tbl[2220]? = some (Cond.methodLink "OptionBlockPlannerLaw" 315 yX8_leastClashesByTrial) := by decide +kernel
theorem v_2221 : lw_tbl[2221]? = some (Cond.instanceMethod yX8_leastClashesByTrial) := by decide +kernel
theorem v_2222 : lw_tbl[2222]? = some (Cond.selects "OptionBlockPlannerModel" yX8_leastClashesByTrial yX8_leastClashesByTrial) := by decide +kernel
theorem v_2224 : lw_tbl[2224]? = some (Cond.methodLink "OptionBlockPlannerLaw" 318 yX8_arrange) := by decide +kernel
theorem v_2225 : lw_tbl[2225]? = some (Cond.instanceMethod yX8_arrange) := by decide +kernel
theorem v_2226 : lw_tbl[2226]? = some (Cond.selects "OptionBlockPlannerModel" yX8_arrange yX8_arrange) := by decide +kernel
theorem v_2228 : lw_tbl[2228]? = some (Cond.methodLink "OptionBlockPlannerModel" 273 yX8_arrangeNow) := by decide +kernel
theorem v_2230 : lw_tbl[2230]? = some (Cond.instanceMethod yX8_arrangeNow) := by decide +kernel
theorem v_2232 : lw_tbl[2232]? = some (Cond.methodLink "OptionBlockPlannerLaw" 321 yX8_writeTimetable) := by decide +kernel
theorem v_2233 : lw_tbl[2233]? = some (Cond.instanceMethod yX8_writeTimetable) := by decide +kernel
theorem v_2234 : lw_tbl[2234]? = some (Cond.selects "OptionBlockPlannerModel" yX8_writeTimetable yX8_writeTimetable) := by decide +kernel
theorem v_2236 : lw_tbl[2236]? = some (Cond.methodLink "OptionBlockPlannerModel" 279 yX8_writes) := by decide +kernel
theorem v_2238 : lw_tbl[2238]? = some (Cond.instanceMethod yX8_writes) := by decide +kernel
theorem v_2240 : lw_tbl[2240]? = some (Cond.methodLink "OptionBlockPlannerLaw" 324 yX8_lineAt) := by decide +kernel
theorem v_2241 : lw_tbl[2241]? = some (Cond.instanceMethod yX8_lineAt) := by decide +kernel
theorem v_2242 : lw_tbl[2242]? = some (Cond.selects "OptionBlockPlannerModel" yX8_lineAt yX8_lineAt) := by decide +kernel
theorem v_2244 : lw_tbl[2244]? = some (Cond.methodLink "OptionBlockPlannerLaw" 328 yX8_type) := by decide +kernel
theorem v_2245 : lw_tbl[2245]? = some (Cond.instanceMethod yX8_type) := by decide +kernel
theorem v_2246 : lw_tbl[2246]? = some (Cond.selects "OptionBlockPlannerModel" yX8_type yX8_type) := by decide +kernel
theorem v_2248 : lw_tbl[2248]? = some (Cond.methodLink "OptionBlockPlannerLaw" 331 yX8_execute) := by decide +kernel
theorem v_2249 : lw_tbl[2249]? = some (Cond.instanceMethod yX8_execute) := by decide +kernel
theorem v_2250 : lw_tbl[2250]? = some (Cond.selects "OptionBlockPlannerModel" yX8_execute yX8_execute) := by decide +kernel
theorem v_2252 : lw_tbl[2252]? = some (Cond.methodLink "OptionBlockPlannerModel" 309 yX8_parses) := by decide +kernel
theorem v_2254 : lw_tbl[2254]? = some (Cond.instanceMethod yX8_parses) := by decide +kernel
theorem v_2256 : lw_tbl[2256]? = some (Cond.methodLink "OptionBlockPlannerModel" 305 yX8_reads) := by decide +kernel
theorem v_2258 : lw_tbl[2258]? = some (Cond.instanceMethod yX8_reads) := by decide +kernel
theorem v_2260 : lw_tbl[2260]? = some (Cond.methodLink "OptionBlockPlannerModel" 289 yJ0_length_8abf5) := by decide +kernel
theorem v_2261 : lw_tbl[2261]? = some (Cond.methodLink "OptionBlockPlannerModel" 292 yJ0_charAt_5068e) := by decide +kernel
theorem v_2262 : lw_tbl[2262]? = some (Cond.methodLink "OptionBlockPlannerModel" 296 yX8_isDigit) := by decide +kernel
theorem v_2264 : lw_tbl[2264]? = some (Cond.instanceMethod yX8_isDigit) := by decide +kernel
theorem v_2266 : lw_tbl[2266]? = some (Cond.methodLink "OptionBlockPlannerModel" 312 yX8_acts) := by decide +kernel
theorem v_2268 : lw_tbl[2268]? = some (Cond.instanceMethod yX8_acts) := by decide +kernel
theorem v_2270 : lw_tbl[2270]? = some (Cond.methodLink "OptionBlockPlannerLaw" 334 yX8_errorPosition) := by decide +kernel
theorem v_2271 : lw_tbl[2271]? = some (Cond.instanceMethod yX8_errorPosition) := by decide +kernel
theorem v_2272 : lw_tbl[2272]? = some (Cond.selects "OptionBlockPlannerModel" yX8_errorPosition yX8_errorPosition) := by decide +kernel
theorem v_2274 : lw_tbl[2274]? = some (Cond.methodLink "OptionBlockPlannerLaw" 337 yX8_failedCommand) := by decide +kernel
theorem v_2275 : lw_tbl[2275]? = some (Cond.instanceMethod yX8_failedCommand) := by decide +kernel
theorem v_2276 : lw_tbl[2276]? = some (Cond.selects "OptionBlockPlannerModel" yX8_failedCommand yX8_failedCommand) := by decide +kernel
theorem v_2278 : lw_tbl[2278]? = some (Cond.methodLink "OptionBlockPlannerLaw" 340 yX8_failureKind) := by decide +kernel
theorem v_2279 : lw_tbl[2279]? = some (Cond.instanceMethod yX8_failureKind) := by decide +kernel
theorem v_2280 : lw_tbl[2280]? = some (Cond.selects "OptionBlockPlannerModel" yX8_failureKind yX8_failureKind) := by decide +kernel
theorem v_2282 : lw_tbl[2282]? = some (Cond.arrayClass .long) := by decide +kernel
theorem v_2283 : lw_tbl[2283]? = some (Cond.arrayClass .double) := by decide +kernel
theorem v_2295 : lw_tbl[2295]? = some (Cond.selects "java/lang/StringBuilder" yJ4_length_8abf5 yJ4_length_8abf5) := by decide +kernel
theorem v_2297 : lw_tbl[2297]? = some (Cond.castable "java/lang/ArrayIndexOutOfBoundsException" "java/lang/IndexOutOfBoundsException") := by decide +kernel
theorem v_2298 : lw_tbl[2298]? = some (Cond.castable "java/lang/StringIndexOutOfBoundsException" "java/lang/IndexOutOfBoundsException") := by decide +kernel
theorem v_2299 : lw_tbl[2299]? = some (Cond.castable "OptionBlockPlanner" "java/lang/Object") := by decide +kernel
theorem v_2300 : lw_tbl[2300]? = some (Cond.castable "OptionBlockPlanner$Plan" "java/lang/Object") := by decide +kernel
theorem v_2301 : lw_tbl[2301]? = some (Cond.castable "OptionBlockPlanner$Placements" "java/lang/Object") := by decide +kernel
theorem v_2302 : lw_tbl[2302]? = some (Cond.castable "OptionBlockPlanner$Chains" "java/lang/Object") := by decide +kernel
theorem v_2303 : lw_tbl[2303]? = some (Cond.castable "OptionBlockPlanner$Arrangements" "java/lang/Object") := by decide +kernel
theorem v_2304 : lw_tbl[2304]? = some (Cond.castable "OptionBlockPlanner$Changes" "java/lang/Object") := by decide +kernel
theorem v_2305 : lw_tbl[2305]? = some (Cond.castable "OptionBlockPlanner$History" "java/lang/Object") := by decide +kernel
theorem v_2306 : lw_tbl[2306]? = some (Cond.castable "OptionBlockPlanner$Program" "java/lang/Object") := by decide +kernel
theorem v_2307 : lw_tbl[2307]? = some (Cond.castable "java/lang/StringBuilder" "java/lang/Object") := by decide +kernel
theorem v_2308 : lw_tbl[2308]? = some (Cond.castable "OptionBlockPlannerModel" "java/lang/Object") := by decide +kernel
theorem v_2309 : lw_tbl[2309]? = some (Cond.castable "java/lang/IndexOutOfBoundsException" "java/lang/Object") := by decide +kernel
theorem v_2310 : lw_tbl[2310]? = some (Cond.castable "java/lang/IllegalArgumentException" "java/lang/Object") := by decide +kernel
theorem v_2311 : lw_tbl[2311]? = some (Cond.castable "java/lang/IllegalStateException" "java/lang/Object") := by decide +kernel
theorem v_2312 : lw_tbl[2312]? = some (Cond.castable "java/lang/UnsupportedOperationException" "java/lang/Object") := by decide +kernel
theorem v_2313 : lw_tbl[2313]? = some (Cond.castable "java/lang/ArrayIndexOutOfBoundsException" "java/lang/Object") := by decide +kernel
theorem v_2314 : lw_tbl[2314]? = some (Cond.castable "java/util/NoSuchElementException" "java/lang/Object") := by decide +kernel
theorem v_2315 : lw_tbl[2315]? = some (Cond.castable "java/lang/ArithmeticException" "java/lang/Object") := by decide +kernel
theorem v_2316 : lw_tbl[2316]? = some (Cond.castable "java/lang/StringIndexOutOfBoundsException" "java/lang/Object") := by decide +kernel
theorem v_2317 : lw_tbl[2317]? = some (Cond.castable "java/lang/String" "java/lang/Object") := by decide +kernel
theorem v_2318 : lw_tbl[2318]? = some (Cond.castable "java/lang/Throwable" "java/lang/Object") := by decide +kernel
theorem v_235 : lw_tbl[235]? = some (.code yX0_init cX0_init 2 none) := by decide +kernel
theorem vy_X0_init : (yX0_init.cls ≠ "java/lang/invoke/MethodHandle" ∧ yX0_init.cls ≠ "java/lang/invoke/VarHandle") ∧ (parseMethodDescriptor yX0_init.desc).map (fun d => d.parameters.length) = some 1 := ⟨by decide +kernel, by decide +kernel⟩
theorem v_565 : lw_tbl[565]? = some (.code yX0_findBest cX0_findBest 1 ((some .int))) := by decide +kernel
theorem vy_X0_findBest : (yX0_findBest.cls ≠ "java/lang/invoke/MethodHandle" ∧ yX0_findBest.cls ≠ "java/lang/invoke/VarHandle") ∧ (parseMethodDescriptor yX0_findBest.desc).map (fun d => d.parameters.length) = some 0 := ⟨by decide +kernel, by decide +kernel⟩
theorem v_593 : lw_tbl[593]? = some (.code yX0_fewestByTrial cX0_fewestByTrial 1 ((some .int))) := by decide +kernel
theorem vy_X0_fewestByTrial : (yX0_fewestByTrial.cls ≠ "java/lang/invoke/MethodHandle" ∧ yX0_fewestByTrial.cls ≠ "java/lang/invoke/VarHandle") ∧ (parseMethodDescriptor yX0_fewestByTrial.desc).map (fun d => d.parameters.length) = some 0 := ⟨by decide +kernel, by decide +kernel⟩
theorem v_890 : lw_tbl[890]? = some (.code yX0_carryOut cX0_carryOut 3 ((some .int))) := by decide +kernel
theorem vy_X0_carryOut : (yX0_carryOut.cls ≠ "java/lang/invoke/MethodHandle" ∧ yX0_carryOut.cls ≠ "java/lang/invoke/VarHandle") ∧ (parseMethodDescriptor yX0_carryOut.desc).map (fun d => d.parameters.length) = some 0 := ⟨by decide +kernel, by decide +kernel⟩
theorem v_569 : lw_tbl[569]? = some (.code yX0_collectCommon cX0_collectCommon 2 none) := by decide +kernel
theorem vy_X0_collectCommon : (yX0_collectCommon.cls ≠ "java/lang/invoke/MethodHandle" ∧ yX0_collectCommon.cls ≠ "java/lang/invoke/VarHandle") ∧ (parseMethodDescriptor yX0_collectCommon.desc).map (fun d => d.parameters.length) = some 0 := ⟨by decide +kernel, by decide +kernel⟩
theorem v_575 : lw_tbl[575]? = some (.code yX0_countPairs cX0_countPairs 5 none) := by decide +kernel
theorem vy_X0_countPairs : (yX0_countPairs.cls ≠ "java/lang/invoke/MethodHandle" ∧ yX0_countPairs.cls ≠ "java/lang/invoke/VarHandle") ∧ (parseMethodDescriptor yX0_countPairs.desc).map (fun d => d.parameters.length) = some 1 := ⟨by decide +kernel, by decide +kernel⟩
theorem v_580 : lw_tbl[580]? = some (.code yX0_settle cX0_settle 4 none) := by decide +kernel
theorem vy_X0_settle : (yX0_settle.cls ≠ "java/lang/invoke/MethodHandle" ∧ yX0_settle.cls ≠ "java/lang/invoke/VarHandle") ∧ (parseMethodDescriptor yX0_settle.desc).map (fun d => d.parameters.length) = some 3 := ⟨by decide +kernel, by decide +kernel⟩
theorem v_596 : lw_tbl[596]? = some (.code yX0_tryAll cX0_tryAll 6 ((some .int))) := by decide +kernel
theorem vy_X0_tryAll : (yX0_tryAll.cls ≠ "java/lang/invoke/MethodHandle" ∧ yX0_tryAll.cls ≠ "java/lang/invoke/VarHandle") ∧ (parseMethodDescriptor yX0_tryAll.desc).map (fun d => d.parameters.length) = some 3 := ⟨by decide +kernel, by decide +kernel⟩
theorem v_585 : lw_tbl[585]? = some (.code yX0_weigh cX0_weigh 5 none) := by decide +kernel
theorem vy_X0_weigh : (yX0_weigh.cls ≠ "java/lang/invoke/MethodHandle" ∧ yX0_weigh.cls ≠ "java/lang/invoke/VarHandle") ∧ (parseMethodDescriptor yX0_weigh.desc).map (fun d => d.parameters.length) = some 1 := ⟨by decide +kernel, by decide +kernel⟩
theorem v_216 : lw_tbl[216]? = some (.code yX1_init cX1_init 2 none) := by decide +kernel
theorem vy_X1_init : (yX1_init.cls ≠ "java/lang/invoke/MethodHandle" ∧ yX1_init.cls ≠ "java/lang/invoke/VarHandle") ∧ (parseMethodDescriptor yX1_init.desc).map (fun d => d.parameters.length) = some 1 := ⟨by decide +kernel, by decide +kernel⟩
theorem v_667 : lw_tbl[667]? = some (.code yX1_fewestMoves cX1_fewestMoves 5 ((some .int))) := by decide +kernel
theorem vy_X1_fewestMoves : (yX1_fewestMoves.cls ≠ "java/lang/invoke/MethodHandle" ∧ yX1_fewestMoves.cls ≠ "java/lang/invoke/VarHandle") ∧ (parseMethodDescriptor yX1_fewestMoves.desc).map (fun d => d.parameters.length) = some 2 := ⟨by decide +kernel, by decide +kernel⟩
theorem v_1213 : lw_tbl[1213]? = some (.code yX1_fewestMovesByTrial cX1_fewestMovesByTrial 6 ((some .int))) := by decide +kernel
theorem vy_X1_fewestMovesByTrial : (yX1_fewestMovesByTrial.cls ≠ "java/lang/invoke/MethodHandle" ∧ yX1_fewestMovesByTrial.cls ≠ "java/lang/invoke/VarHandle") ∧ (parseMethodDescriptor yX1_fewestMovesByTrial.desc).map (fun d => d.parameters.length) = some 2 := ⟨by decide +kernel, by decide +kernel⟩
theorem v_693 : lw_tbl[693]? = some (.code yX1_reasonAgainst cX1_reasonAgainst 4 ((some .int))) := by decide +kernel
theorem vy_X1_reasonAgainst : (yX1_reasonAgainst.cls ≠ "java/lang/invoke/MethodHandle" ∧ yX1_reasonAgainst.cls ≠ "java/lang/invoke/VarHandle") ∧ (parseMethodDescriptor yX1_reasonAgainst.desc).map (fun d => d.parameters.length) = some 2 := ⟨by decide +kernel, by decide +kernel⟩
theorem v_862 : lw_tbl[862]? = some (.code yX1_carryOut cX1_carryOut 9 ((some .int))) := by decide +kernel
theorem vy_X1_carryOut : (yX1_carryOut.cls ≠ "java/lang/invoke/MethodHandle" ∧ yX1_carryOut.cls ≠ "java/lang/invoke/VarHandle") ∧ (parseMethodDescriptor yX1_carryOut.desc).map (fun d => d.parameters.length) = some 2 := ⟨by decide +kernel, by decide +kernel⟩
theorem v_676 : lw_tbl[676]? = some (.code yX1_measure cX1_measure 3 none) := by decide +kernel
theorem vy_X1_measure : (yX1_measure.cls ≠ "java/lang/invoke/MethodHandle" ∧ yX1_measure.cls ≠ "java/lang/invoke/VarHandle") ∧ (parseMethodDescriptor yX1_measure.desc).map (fun d => d.parameters.length) = some 1 := ⟨by decide +kernel, by decide +kernel⟩
theorem v_681 : lw_tbl[681]? = some (.code yX1_nextBlock cX1_nextBlock 5 ((some .int))) := by decide +kernel
theorem vy_X1_nextBlock : (yX1_nextBlock.cls ≠ "java/lang/invoke/MethodHandle" ∧ yX1_nextBlock.cls ≠ "java/lang/invoke/VarHandle") ∧ (parseMethodDescriptor yX1_nextBlock.desc).map (fun d => d.parameters.length) = some 2 := ⟨by decide +kernel, by decide +kernel⟩
theorem v_685 : lw_tbl[685]? = some (.code yX1_nearest cX1_nearest 6 ((some .int))) := by decide +kernel
theorem vy_X1_nearest : (yX1_nearest.cls ≠ "java/lang/invoke/MethodHandle" ∧ yX1_nearest.cls ≠ "java/lang/invoke/VarHandle") ∧ (parseMethodDescriptor yX1_nearest.desc).map (fun d => d.parameters.length) = some 1 := ⟨by decide +kernel, by decide +kernel⟩
theorem v_1216 : lw_tbl[1216]? = some (.code yX1_leadsToRoom cX1_leadsToRoom 8 ((some .boolean))) := by decide +kernel
theorem vy_X1_leadsToRoom : (yX1_leadsToRoom.cls ≠ "java/lang/invoke/MethodHandle" ∧ yX1_leadsToRoom.cls ≠ "java/lang/invoke/VarHandle") ∧ (parseMethodDescriptor yX1_leadsToRoom.desc).map (fun d => d.parameters.length) = some 5 := ⟨by decide +kernel, by decide +kernel⟩
theorem v_260 : lw_tbl[260]? = some (.code yX2_init cX2_init 5 none) := by decide +kernel
theorem vy_X2_init : (yX2_init.cls ≠ "java/lang/invoke/MethodHandle" ∧ yX2_init.cls ≠ "java/lang/invoke/VarHandle") ∧ (parseMethodDescriptor yX2_init.desc).map (fun d => d.parameters.length) = some 4 := ⟨by decide +kernel, by decide +kernel⟩
theorem v_619 : lw_tbl[619]? = some (.code yX2_faultOf cX2_faultOf 5 ((some .int))) := by decide +kernel
theorem vy_X2_faultOf : (yX2_faultOf.cls ≠ "java/lang/invoke/MethodHandle" ∧ yX2_faultOf.cls ≠ "java/lang/invoke/VarHandle") ∧ (parseMethodDescriptor yX2_faultOf.desc).map (fun d => d.parameters.length) = some 4 := ⟨by decide +kernel, by decide +kernel⟩
theorem v_833 : lw_tbl[833]? = some (.code yX2_perform cX2_perform 5 ((some .int))) := by decide +kernel
theorem vy_X2_perform : (yX2_perform.cls ≠ "java/lang/invoke/MethodHandle" ∧ yX2_perform.cls ≠ "java/lang/invoke/VarHandle") ∧ (parseMethodDescriptor yX2_perform.desc).map (fun d => d.parameters.length) = some 4 := ⟨by decide +kernel, by decide +kernel⟩
theorem v_658 : lw_tbl[658]? = some (.code yX2_faultOfJoiner cX2_faultOfJoiner 3 ((some .int))) := by decide +kernel
theorem vy_X2_faultOfJoiner : (yX2_faultOfJoiner.cls ≠ "java/lang/invoke/MethodHandle" ∧ yX2_faultOfJoiner.cls ≠ "java/lang/invoke/VarHandle") ∧ (parseMethodDescriptor yX2_faultOfJoiner.desc).map (fun d => d.parameters.length) = some 2 := ⟨by decide +kernel, by decide +kernel⟩
theorem v_623 : lw_tbl[623]? = some (.code yX2_faultOfNewSubject cX2_faultOfNewSubject 2 ((some .int))) := by decide +kernel
theorem vy_X2_faultOfNewSubject : (yX2_faultOfNewSubject.cls ≠ "java/lang/invoke/MethodHandle" ∧ yX2_faultOfNewSubject.cls ≠ "java/lang/invoke/VarHandle") ∧ (parseMethodDescriptor yX2_faultOfNewSubject.desc).map (fun d => d.parameters.length) = some 1 := ⟨by decide +kernel, by decide +kernel⟩
theorem v_924 : lw_tbl[924]? = some (.code yX2_faultOfResizing cX2_faultOfResizing 3 ((some .int))) := by decide +kernel
theorem vy_X2_faultOfResizing : (yX2_faultOfResizing.cls ≠ "java/lang/invoke/MethodHandle" ∧ yX2_faultOfResizing.cls ≠ "java/lang/invoke/VarHandle") ∧ (parseMethodDescriptor yX2_faultOfResizing.desc).map (fun d => d.parameters.length) = some 2 := ⟨by decide +kernel, by decide +kernel⟩
theorem v_627 : lw_tbl[627]? = some (.code yX2_faultOfBlocks cX2_faultOfBlocks 3 ((some .int))) := by decide +kernel
theorem vy_X2_faultOfBlocks : (yX2_faultOfBlocks.cls ≠ "java/lang/invoke/MethodHandle" ∧ yX2_faultOfBlocks.cls ≠ "java/lang/invoke/VarHandle") ∧ (parseMethodDescriptor yX2_faultOfBlocks.desc).map (fun d => d.parameters.length) = some 1 := ⟨by decide +kernel, by decide +kernel⟩
theorem v_632 : lw_tbl[632]? = some (.code yX2_faultOfOpening cX2_faultOfOpening 3 ((some .int))) := by decide +kernel
theorem vy_X2_faultOfOpening : (yX2_faultOfOpening.cls ≠ "java/lang/invoke/MethodHandle" ∧ yX2_faultOfOpening.cls ≠ "java/lang/invoke/VarHandle") ∧ (parseMethodDescriptor yX2_faultOfOpening.desc).map (fun d => d.parameters.length) = some 2 := ⟨by decide +kernel, by decide +kernel⟩
theorem v_638 : lw_tbl[638]? = some (.code yX2_faultOfClosing cX2_faultOfClosing 4 ((some .int))) := by decide +kernel
theorem vy_X2_faultOfClosing : (yX2_faultOfClosing.cls ≠ "java/lang/invoke/MethodHandle" ∧ yX2_faultOfClosing.cls ≠ "java/lang/invoke/VarHandle") ∧ (parseMethodDescriptor yX2_faultOfClosing.desc).map (fun d => d.parameters.length) = some 2 := ⟨by decide +kernel, by decide +kernel⟩
theorem v_643 : lw_tbl[643]? = some (.code yX2_faultOfWish cX2_faultOfWish 4 ((some .int))) := by decide +kernel
theorem vy_X2_faultOfWish : (yX2_faultOfWish.cls ≠ "java/lang/invoke/MethodHandle" ∧ yX2_faultOfWish.cls ≠ "java/lang/invoke/VarHandle") ∧ (parseMethodDescriptor yX2_faultOfWish.desc).map (fun d => d.parameters.length) = some 2 := ⟨by decide +kernel, by decide +kernel⟩
theorem v_647 : lw_tbl[647]? = some (.code yX2_faultOfReserve cX2_faultOfReserve 3 ((some .int))) := by decide +kernel
theorem vy_X2_faultOfReserve : (yX2_faultOfReserve.cls ≠ "java/lang/invoke/MethodHandle" ∧ yX2_faultOfReserve.cls ≠ "java/lang/invoke/VarHandle") ∧ (parseMethodDescriptor yX2_faultOfReserve.desc).map (fun d => d.parameters.length) = some 2 := ⟨by decide +kernel, by decide +kernel⟩
theorem v_442 : lw_tbl[442]? = some (.code yX2_faultOfEnrolling cX2_faultOfEnrolling 2 ((some .int))) := by decide +kernel
theorem vy_X2_faultOfEnrolling : (yX2_faultOfEnrolling.cls ≠ "java/lang/invoke/MethodHandle" ∧ yX2_faultOfEnrolling.cls ≠ "java/lang/invoke/VarHandle") ∧ (parseMethodDescriptor yX2_faultOfEnrolling.desc).map (fun d => d.parameters.length) = some 1 := ⟨by decide +kernel, by decide +kernel⟩
theorem v_1096 : lw_tbl[1096]? = some (.code yX2_faultOfWithdrawing cX2_faultOfWithdrawing 2 ((some .int))) := by decide +kernel
theorem vy_X2_faultOfWithdrawing : (yX2_faultOfWithdrawing.cls ≠ "java/lang/invoke/MethodHandle" ∧ yX2_faultOfWithdrawing.cls ≠ "java/lang/invoke/VarHandle") ∧ (parseMethodDescriptor yX2_faultOfWithdrawing.desc).map (fun d => d.parameters.length) = some 1 := ⟨by decide +kernel, by decide +kernel⟩
theorem v_654 : lw_tbl[654]? = some (.code yX2_faultOfJoining cX2_faultOfJoining 5 ((some .int))) := by decide +kernel
theorem vy_X2_faultOfJoining : (yX2_faultOfJoining.cls ≠ "java/lang/invoke/MethodHandle" ∧ yX2_faultOfJoining.cls ≠ "java/lang/invoke/VarHandle") ∧ (parseMethodDescriptor yX2_faultOfJoining.desc).map (fun d => d.parameters.length) = some 2 := ⟨by decide +kernel, by decide +kernel⟩
theorem v_698 : lw_tbl[698]? = some (.code yX2_faultOfQuitting cX2_faultOfQuitting 3 ((some .int))) := by decide +kernel
theorem vy_X2_faultOfQuitting : (yX2_faultOfQuitting.cls ≠ "java/lang/invoke/MethodHandle" ∧ yX2_faultOfQuitting.cls ≠ "java/lang/invoke/VarHandle") ∧ (parseMethodDescriptor yX2_faultOfQuitting.desc).map (fun d => d.parameters.length) = some 2 := ⟨by decide +kernel, by decide +kernel⟩
theorem v_702 : lw_tbl[702]? = some (.code yX2_faultOfChanging cX2_faultOfChanging 6 ((some .int))) := by decide +kernel
theorem vy_X2_faultOfChanging : (yX2_faultOfChanging.cls ≠ "java/lang/invoke/MethodHandle" ∧ yX2_faultOfChanging.cls ≠ "java/lang/invoke/VarHandle") ∧ (parseMethodDescriptor yX2_faultOfChanging.desc).map (fun d => d.parameters.length) = some 3 := ⟨by decide +kernel, by decide +kernel⟩
theorem v_689 : lw_tbl[689]? = some (.code yX2_refusal cX2_refusal 3 ((some .int))) := by decide +kernel
theorem vy_X2_refusal : (yX2_refusal.cls ≠ "java/lang/invoke/MethodHandle" ∧ yX2_refusal.cls ≠ "java/lang/invoke/VarHandle") ∧ (parseMethodDescriptor yX2_refusal.desc).map (fun d => d.parameters.length) = some 2 := ⟨by decide +kernel, by decide +kernel⟩
theorem v_283 : lw_tbl[283]? = some (.code yX3_init cX3_init 2 none) := by decide +kernel
theorem vy_X3_init : (yX3_init.cls ≠ "java/lang/invoke/MethodHandle" ∧ yX3_init.cls ≠ "java/lang/invoke/VarHandle") ∧ (parseMethodDescriptor yX3_init.desc).map (fun d => d.parameters.length) = some 0 := ⟨by decide +kernel, by decide +kernel⟩
theorem v_420 : lw_tbl[420]? = some (.code yX3_keep cX3_keep 3 none) := by decide +kernel
theorem vy_X3_keep : (yX3_keep.cls ≠ "java/lang/invoke/MethodHandle" ∧ yX3_keep.cls ≠ "java/lang/invoke/VarHandle") ∧ (parseMethodDescriptor yX3_keep.desc).map (fun d => d.parameters.length) = some 1 := ⟨by decide +kernel, by decide +kernel⟩
theorem v_1714 : lw_tbl[1714]? = some (.code yX3_bringBack cX3_bringBack 4 none) := by decide +kernel
theorem vy_X3_bringBack : (yX3_bringBack.cls ≠ "java/lang/invoke/MethodHandle" ∧ yX3_bringBack.cls ≠ "java/lang/invoke/VarHandle") ∧ (parseMethodDescriptor yX3_bringBack.desc).map (fun d => d.parameters.length) = some 1 := ⟨by decide +kernel, by decide +kernel⟩
theorem v_1726 : lw_tbl[1726]? = some (.code yX3_forget cX3_forget 1 none) := by decide +kernel
theorem vy_X3_forget : (yX3_forget.cls ≠ "java/lang/invoke/MethodHandle" ∧ yX3_forget.cls ≠ "java/lang/invoke/VarHandle") ∧ (parseMethodDescriptor yX3_forget.desc).map (fun d => d.parameters.length) = some 0 := ⟨by decide +kernel, by decide +kernel⟩
theorem v_424 : lw_tbl[424]? = some (.code yX3_planIn cX3_planIn 2 ((some (.object "OptionBlockPlanner$Plan")))) := by decide +kernel
theorem vy_X3_planIn : (yX3_planIn.cls ≠ "java/lang/invoke/MethodHandle" ∧ yX3_planIn.cls ≠ "java/lang/invoke/VarHandle") ∧ (parseMethodDescriptor yX3_planIn.desc).map (fun d => d.parameters.length) = some 1 := ⟨by decide +kernel, by decide +kernel⟩
theorem v_191 : lw_tbl[191]? = some (.code yX4_init cX4_init 2 none) := by decide +kernel
theorem vy_X4_init : (yX4_init.cls ≠ "java/lang/invoke/MethodHandle" ∧ yX4_init.cls ≠ "java/lang/invoke/VarHandle") ∧ (parseMethodDescriptor yX4_init.desc).map (fun d => d.parameters.length) = some 1 := ⟨by decide +kernel, by decide +kernel⟩
theorem v_1113 : lw_tbl[1113]? = some (.code yX4_valueBySearch cX4_valueBySearch 2 ((some .int))) := by decide +kernel
theorem vy_X4_valueBySearch : (yX4_valueBySearch.cls ≠ "java/lang/invoke/MethodHandle" ∧ yX4_valueBySearch.cls ≠ "java/lang/invoke/VarHandle") ∧ (parseMethodDescriptor yX4_valueBySearch.desc).map (fun d => d.parameters.length) = some 1 := ⟨by decide +kernel, by decide +kernel⟩
theorem v_469 : lw_tbl[469]? = some (.code yX4_giveBest cX4_giveBest 5 ((some .int))) := by decide +kernel
theorem vy_X4_giveBest : (yX4_giveBest.cls ≠ "java/lang/invoke/MethodHandle" ∧ yX4_giveBest.cls ≠ "java/lang/invoke/VarHandle") ∧ (parseMethodDescriptor yX4_giveBest.desc).map (fun d => d.parameters.length) = some 1 := ⟨by decide +kernel, by decide +kernel⟩
theorem v_1124 : lw_tbl[1124]? = some (.code yX4_valueBySets cX4_valueBySets 3 ((some .int))) := by decide +kernel
theorem vy_X4_valueBySets : (yX4_valueBySets.cls ≠ "java/lang/invoke/MethodHandle" ∧ yX4_valueBySets.cls ≠ "java/lang/invoke/VarHandle") ∧ (parseMethodDescriptor yX4_valueBySets.desc).map (fun d => d.parameters.length) = some 1 := ⟨by decide +kernel, by decide +kernel⟩
theorem v_1142 : lw_tbl[1142]? = some (.code yX4_servesBySearch cX4_servesBySearch 2 ((some .boolean))) := by decide +kernel
theorem vy_X4_servesBySearch : (yX4_servesBySearch.cls ≠ "java/lang/invoke/MethodHandle" ∧ yX4_servesBySearch.cls ≠ "java/lang/invoke/VarHandle") ∧ (parseMethodDescriptor yX4_servesBySearch.desc).map (fun d => d.parameters.length) = some 1 := ⟨by decide +kernel, by decide +kernel⟩
theorem v_1161 : lw_tbl[1161]? = some (.code yX4_servesByCounting cX4_servesByCounting 6 ((some .boolean))) := by decide +kernel
theorem vy_X4_servesByCounting : (yX4_servesByCounting.cls ≠ "java/lang/invoke/MethodHandle" ∧ yX4_servesByCounting.cls ≠ "java/lang/invoke/VarHandle") ∧ (parseMethodDescriptor yX4_servesByCounting.desc).map (fun d => d.parameters.length) = some 1 := ⟨by decide +kernel, by decide +kernel⟩
theorem v_473 : lw_tbl[473]? = some (.code yX4_collectRoomy cX4_collectRoomy 5 none) := by decide +kernel
theorem vy_X4_collectRoomy : (yX4_collectRoomy.cls ≠ "java/lang/invoke/MethodHandle" ∧ yX4_collectRoomy.cls ≠ "java/lang/invoke/VarHandle") ∧ (parseMethodDescriptor yX4_collectRoomy.desc).map (fun d => d.parameters.length) = some 1 := ⟨by decide +kernel, by decide +kernel⟩
theorem v_1146 : lw_tbl[1146]? = some (.code yX4_collectOpen cX4_collectOpen 4 none) := by decide +kernel
theorem vy_X4_collectOpen : (yX4_collectOpen.cls ≠ "java/lang/invoke/MethodHandle" ∧ yX4_collectOpen.cls ≠ "java/lang/invoke/VarHandle") ∧ (parseMethodDescriptor yX4_collectOpen.desc).map (fun d => d.parameters.length) = some 1 := ⟨by decide +kernel, by decide +kernel⟩
theorem v_506 : lw_tbl[506]? = some (.code yX4_findBest cX4_findBest 1 ((some .int))) := by decide +kernel
theorem vy_X4_findBest : (yX4_findBest.cls ≠ "java/lang/invoke/MethodHandle" ∧ yX4_findBest.cls ≠ "java/lang/invoke/VarHandle") ∧ (parseMethodDescriptor yX4_findBest.desc).map (fun d => d.parameters.length) = some 0 := ⟨by decide +kernel, by decide +kernel⟩
theorem v_502 : lw_tbl[502]? = some (.code yX4_scoreOf cX4_scoreOf 1 ((some .int))) := by decide +kernel
theorem vy_X4_scoreOf : (yX4_scoreOf.cls ≠ "java/lang/invoke/MethodHandle" ∧ yX4_scoreOf.cls ≠ "java/lang/invoke/VarHandle") ∧ (parseMethodDescriptor yX4_scoreOf.desc).map (fun d => d.parameters.length) = some 1 := ⟨by decide +kernel, by decide +kernel⟩
theorem v_509 : lw_tbl[509]? = some (.code yX4_extend cX4_extend 7 none) := by decide +kernel
theorem vy_X4_extend : (yX4_extend.cls ≠ "java/lang/invoke/MethodHandle" ∧ yX4_extend.cls ≠ "java/lang/invoke/VarHandle") ∧ (parseMethodDescriptor yX4_extend.desc).map (fun d => d.parameters.length) = some 4 := ⟨by decide +kernel, by decide +kernel⟩
theorem v_513 : lw_tbl[513]? = some (.code yX4_keepIfBetter cX4_keepIfBetter 2 none) := by decide +kernel
theorem vy_X4_keepIfBetter : (yX4_keepIfBetter.cls ≠ "java/lang/invoke/MethodHandle" ∧ yX4_keepIfBetter.cls ≠ "java/lang/invoke/VarHandle") ∧ (parseMethodDescriptor yX4_keepIfBetter.desc).map (fun d => d.parameters.length) = some 1 := ⟨by decide +kernel, by decide +kernel⟩
theorem v_1128 : lw_tbl[1128]? = some (.code yX4_setsUsedFor cX4_setsUsedFor 4 ((some .int))) := by decide +kernel
theorem vy_X4_setsUsedFor : (yX4_setsUsedFor.cls ≠ "java/lang/invoke/MethodHandle" ∧ yX4_setsUsedFor.cls ≠ "java/lang/invoke/VarHandle") ∧ (parseMethodDescriptor yX4_setsUsedFor.desc).map (fun d => d.parameters.length) = some 1 := ⟨by decide +kernel, by decide +kernel⟩
theorem v_1131 : lw_tbl[1131]? = some (.code yX4_setsWithOneOf cX4_setsWithOneOf 5 ((some .int))) := by decide +kernel
theorem vy_X4_setsWithOneOf : (yX4_setsWithOneOf.cls ≠ "java/lang/invoke/MethodHandle" ∧ yX4_setsWithOneOf.cls ≠ "java/lang/invoke/VarHandle") ∧ (parseMethodDescriptor yX4_setsWithOneOf.desc).map (fun d => d.parameters.length) = some 2 := ⟨by decide +kernel, by decide +kernel⟩
theorem v_1150 : lw_tbl[1150]? = some (.code yX4_serve cX4_serve 5 ((some .boolean))) := by decide +kernel
theorem vy_X4_serve : (yX4_serve.cls ≠ "java/lang/invoke/MethodHandle" ∧ yX4_serve.cls ≠ "java/lang/invoke/VarHandle") ∧ (parseMethodDescriptor yX4_serve.desc).map (fun d => d.parameters.length) = some 4 := ⟨by decide +kernel, by decide +kernel⟩
theorem v_129 : lw_tbl[129]? = some (.code yX5_init cX5_init 1 none) := by decide +kernel
theorem vy_X5_init : (yX5_init.cls ≠ "java/lang/invoke/MethodHandle" ∧ yX5_init.cls ≠ "java/lang/invoke/VarHandle") ∧ (parseMethodDescriptor yX5_init.desc).map (fun d => d.parameters.length) = some 0 := ⟨by decide +kernel, by decide +kernel⟩
theorem v_428 : lw_tbl[428]? = some (.code yX5_copyFrom cX5_copyFrom 2 none) := by decide +kernel
theorem vy_X5_copyFrom : (yX5_copyFrom.cls ≠ "java/lang/invoke/MethodHandle" ∧ yX5_copyFrom.cls ≠ "java/lang/invoke/VarHandle") ∧ (parseMethodDescriptor yX5_copyFrom.desc).map (fun d => d.parameters.length) = some 1 := ⟨by decide +kernel, by decide +kernel⟩
theorem v_490 : lw_tbl[490]? = some (.code yX5_hasSubject cX5_hasSubject 2 ((some .boolean))) := by decide +kernel
theorem vy_X5_hasSubject : (yX5_hasSubject.cls ≠ "java/lang/invoke/MethodHandle" ∧ yX5_hasSubject.cls ≠ "java/lang/invoke/VarHandle") ∧ (parseMethodDescriptor yX5_hasSubject.desc).map (fun d => d.parameters.length) = some 1 := ⟨by decide +kernel, by decide +kernel⟩
theorem v_527 : lw_tbl[527]? = some (.code yX5_hasBlock cX5_hasBlock 2 ((some .boolean))) := by decide +kernel
theorem vy_X5_hasBlock : (yX5_hasBlock.cls ≠ "java/lang/invoke/MethodHandle" ∧ yX5_hasBlock.cls ≠ "java/lang/invoke/VarHandle") ∧ (parseMethodDescriptor yX5_hasBlock.desc).map (fun d => d.parameters.length) = some 1 := ⟨by decide +kernel, by decide +kernel⟩
theorem v_523 : lw_tbl[523]? = some (.code yX5_hasClass cX5_hasClass 3 ((some .boolean))) := by decide +kernel
theorem vy_X5_hasClass : (yX5_hasClass.cls ≠ "java/lang/invoke/MethodHandle" ∧ yX5_hasClass.cls ≠ "java/lang/invoke/VarHandle") ∧ (parseMethodDescriptor yX5_hasClass.desc).map (fun d => d.parameters.length) = some 2 := ⟨by decide +kernel, by decide +kernel⟩
theorem v_486 : lw_tbl[486]? = some (.code yX5_openBlocks cX5_openBlocks 2 ((some .int))) := by decide +kernel
theorem vy_X5_openBlocks : (yX5_openBlocks.cls ≠ "java/lang/invoke/MethodHandle" ∧ yX5_openBlocks.cls ≠ "java/lang/invoke/VarHandle") ∧ (parseMethodDescriptor yX5_openBlocks.desc).map (fun d => d.parameters.length) = some 1 := ⟨by decide +kernel, by decide +kernel⟩
theorem v_1188 : lw_tbl[1188]? = some (.code yX5_openClasses cX5_openClasses 3 ((some .int))) := by decide +kernel
theorem vy_X5_openClasses : (yX5_openClasses.cls ≠ "java/lang/invoke/MethodHandle" ∧ yX5_openClasses.cls ≠ "java/lang/invoke/VarHandle") ∧ (parseMethodDescriptor yX5_openClasses.desc).map (fun d => d.parameters.length) = some 0 := ⟨by decide +kernel, by decide +kernel⟩
theorem v_458 : lw_tbl[458]? = some (.code yX5_roster cX5_roster 4 ((some .int))) := by decide +kernel
theorem vy_X5_roster : (yX5_roster.cls ≠ "java/lang/invoke/MethodHandle" ∧ yX5_roster.cls ≠ "java/lang/invoke/VarHandle") ∧ (parseMethodDescriptor yX5_roster.desc).map (fun d => d.parameters.length) = some 2 := ⟨by decide +kernel, by decide +kernel⟩
theorem v_928 : lw_tbl[928]? = some (.code yX5_largestClass cX5_largestClass 4 ((some .int))) := by decide +kernel
theorem vy_X5_largestClass : (yX5_largestClass.cls ≠ "java/lang/invoke/MethodHandle" ∧ yX5_largestClass.cls ≠ "java/lang/invoke/VarHandle") ∧ (parseMethodDescriptor yX5_largestClass.desc).map (fun d => d.parameters.length) = some 1 := ⟨by decide +kernel, by decide +kernel⟩
theorem v_482 : lw_tbl[482]? = some (.code yX5_roomyBlocks cX5_roomyBlocks 7 ((some .int))) := by decide +kernel
theorem vy_X5_roomyBlocks : (yX5_roomyBlocks.cls ≠ "java/lang/invoke/MethodHandle" ∧ yX5_roomyBlocks.cls ≠ "java/lang/invoke/VarHandle") ∧ (parseMethodDescriptor yX5_roomyBlocks.desc).map (fun d => d.parameters.length) = some 2 := ⟨by decide +kernel, by decide +kernel⟩
theorem v_549 : lw_tbl[549]? = some (.code yX5_clash cX5_clash 5 ((some .boolean))) := by decide +kernel
theorem vy_X5_clash : (yX5_clash.cls ≠ "java/lang/invoke/MethodHandle" ∧ yX5_clash.cls ≠ "java/lang/invoke/VarHandle") ∧ (parseMethodDescriptor yX5_clash.desc).map (fun d => d.parameters.length) = some 2 := ⟨by decide +kernel, by decide +kernel⟩
theorem v_837 : lw_tbl[837]? = some (.code yX5_newSubject cX5_newSubject 2 ((some .int))) := by decide +kernel
theorem vy_X5_newSubject : (yX5_newSubject.cls ≠ "java/lang/invoke/MethodHandle" ∧ yX5_newSubject.cls ≠ "java/lang/invoke/VarHandle") ∧ (parseMethodDescriptor yX5_newSubject.desc).map (fun d => d.parameters.length) = some 1 := ⟨by decide +kernel, by decide +kernel⟩
theorem v_935 : lw_tbl[935]? = some (.code yX5_resize cX5_resize 4 ((some .int))) := by decide +kernel
theorem vy_X5_resize : (yX5_resize.cls ≠ "java/lang/invoke/MethodHandle" ∧ yX5_resize.cls ≠ "java/lang/invoke/VarHandle") ∧ (parseMethodDescriptor yX5_resize.desc).map (fun d => d.parameters.length) = some 2 := ⟨by decide +kernel, by decide +kernel⟩
theorem v_841 : lw_tbl[841]? = some (.code yX5_setBlocks cX5_setBlocks 3 ((some .int))) := by decide +kernel
theorem vy_X5_setBlocks : (yX5_setBlocks.cls ≠ "java/lang/invoke/MethodHandle" ∧ yX5_setBlocks.cls ≠ "java/lang/invoke/VarHandle") ∧ (parseMethodDescriptor yX5_setBlocks.desc).map (fun d => d.parameters.length) = some 1 := ⟨by decide +kernel, by decide +kernel⟩
theorem v_845 : lw_tbl[845]? = some (.code yX5_setOpenBlocks cX5_setOpenBlocks 3 ((some .int))) := by decide +kernel
theorem vy_X5_setOpenBlocks : (yX5_setOpenBlocks.cls ≠ "java/lang/invoke/MethodHandle" ∧ yX5_setOpenBlocks.cls ≠ "java/lang/invoke/VarHandle") ∧ (parseMethodDescriptor yX5_setOpenBlocks.desc).map (fun d => d.parameters.length) = some 2 := ⟨by decide +kernel, by decide +kernel⟩
theorem v_446 : lw_tbl[446]? = some (.code yX5_hasPupil cX5_hasPupil 2 ((some .boolean))) := by decide +kernel
theorem vy_X5_hasPupil : (yX5_hasPupil.cls ≠ "java/lang/invoke/MethodHandle" ∧ yX5_hasPupil.cls ≠ "java/lang/invoke/VarHandle") ∧ (parseMethodDescriptor yX5_hasPupil.desc).map (fun d => d.parameters.length) = some 1 := ⟨by decide +kernel, by decide +kernel⟩
theorem v_478 : lw_tbl[478]? = some (.code yX5_wish cX5_wish 3 ((some .int))) := by decide +kernel
theorem vy_X5_wish : (yX5_wish.cls ≠ "java/lang/invoke/MethodHandle" ∧ yX5_wish.cls ≠ "java/lang/invoke/VarHandle") ∧ (parseMethodDescriptor yX5_wish.desc).map (fun d => d.parameters.length) = some 2 := ⟨by decide +kernel, by decide +kernel⟩
theorem v_557 : lw_tbl[557]? = some (.code yX5_wishSet cX5_wishSet 5 ((some .int))) := by decide +kernel
theorem vy_X5_wishSet : (yX5_wishSet.cls ≠ "java/lang/invoke/MethodHandle" ∧ yX5_wishSet.cls ≠ "java/lang/invoke/VarHandle") ∧ (parseMethodDescriptor yX5_wishSet.desc).map (fun d => d.parameters.length) = some 1 := ⟨by decide +kernel, by decide +kernel⟩
theorem v_553 : lw_tbl[553]? = some (.code yX5_wishersOfBoth cX5_wishersOfBoth 6 ((some .int))) := by decide +kernel
theorem vy_X5_wishersOfBoth : (yX5_wishersOfBoth.cls ≠ "java/lang/invoke/MethodHandle" ∧ yX5_wishersOfBoth.cls ≠ "java/lang/invoke/VarHandle") ∧ (parseMethodDescriptor yX5_wishersOfBoth.desc).map (fun d => d.parameters.length) = some 2 := ⟨by decide +kernel, by decide +kernel⟩
theorem v_849 : lw_tbl[849]? = some (.code yX5_newPupil cX5_newPupil 1 ((some .int))) := by decide +kernel
theorem vy_X5_newPupil : (yX5_newPupil.cls ≠ "java/lang/invoke/MethodHandle" ∧ yX5_newPupil.cls ≠ "java/lang/invoke/VarHandle") ∧ (parseMethodDescriptor yX5_newPupil.desc).map (fun d => d.parameters.length) = some 0 := ⟨by decide +kernel, by decide +kernel⟩
theorem v_853 : lw_tbl[853]? = some (.code yX5_newWish cX5_newWish 4 ((some .int))) := by decide +kernel
theorem vy_X5_newWish : (yX5_newWish.cls ≠ "java/lang/invoke/MethodHandle" ∧ yX5_newWish.cls ≠ "java/lang/invoke/VarHandle") ∧ (parseMethodDescriptor yX5_newWish.desc).map (fun d => d.parameters.length) = some 2 := ⟨by decide +kernel, by decide +kernel⟩
theorem v_857 : lw_tbl[857]? = some (.code yX5_newReserve cX5_newReserve 4 ((some .int))) := by decide +kernel
theorem vy_X5_newReserve : (yX5_newReserve.cls ≠ "java/lang/invoke/MethodHandle" ∧ yX5_newReserve.cls ≠ "java/lang/invoke/VarHandle") ∧ (parseMethodDescriptor yX5_newReserve.desc).map (fun d => d.parameters.length) = some 2 := ⟨by decide +kernel, by decide +kernel⟩
theorem v_519 : lw_tbl[519]? = some (.code yX5_enter cX5_enter 4 none) := by decide +kernel
theorem vy_X5_enter : (yX5_enter.cls ≠ "java/lang/invoke/MethodHandle" ∧ yX5_enter.cls ≠ "java/lang/invoke/VarHandle") ∧ (parseMethodDescriptor yX5_enter.desc).map (fun d => d.parameters.length) = some 3 := ⟨by decide +kernel, by decide +kernel⟩
theorem v_880 : lw_tbl[880]? = some (.code yX5_leave cX5_leave 4 none) := by decide +kernel
theorem vy_X5_leave : (yX5_leave.cls ≠ "java/lang/invoke/MethodHandle" ∧ yX5_leave.cls ≠ "java/lang/invoke/VarHandle") ∧ (parseMethodDescriptor yX5_leave.desc).map (fun d => d.parameters.length) = some 3 := ⟨by decide +kernel, by decide +kernel⟩
theorem v_1070 : lw_tbl[1070]? = some (.code yX5_lesson cX5_lesson 4 ((some .int))) := by decide +kernel
theorem vy_X5_lesson : (yX5_lesson.cls ≠ "java/lang/invoke/MethodHandle" ∧ yX5_lesson.cls ≠ "java/lang/invoke/VarHandle") ∧ (parseMethodDescriptor yX5_lesson.desc).map (fun d => d.parameters.length) = some 2 := ⟨by decide +kernel, by decide +kernel⟩
theorem v_537 : lw_tbl[537]? = some (.code yX5_blockTaken cX5_blockTaken 4 ((some .int))) := by decide +kernel
theorem vy_X5_blockTaken : (yX5_blockTaken.cls ≠ "java/lang/invoke/MethodHandle" ∧ yX5_blockTaken.cls ≠ "java/lang/invoke/VarHandle") ∧ (parseMethodDescriptor yX5_blockTaken.desc).map (fun d => d.parameters.length) = some 2 := ⟨by decide +kernel, by decide +kernel⟩
theorem v_454 : lw_tbl[454]? = some (.code yX5_busyPupils cX5_busyPupils 4 ((some .int))) := by decide +kernel
theorem vy_X5_busyPupils : (yX5_busyPupils.cls ≠ "java/lang/invoke/MethodHandle" ∧ yX5_busyPupils.cls ≠ "java/lang/invoke/VarHandle") ∧ (parseMethodDescriptor yX5_busyPupils.desc).map (fun d => d.parameters.length) = some 1 := ⟨by decide +kernel, by decide +kernel⟩
theorem v_663 : lw_tbl[663]? = some (.code yX5_freeBlocks cX5_freeBlocks 4 ((some .int))) := by decide +kernel
theorem vy_X5_freeBlocks : (yX5_freeBlocks.cls ≠ "java/lang/invoke/MethodHandle" ∧ yX5_freeBlocks.cls ≠ "java/lang/invoke/VarHandle") ∧ (parseMethodDescriptor yX5_freeBlocks.desc).map (fun d => d.parameters.length) = some 1 := ⟨by decide +kernel, by decide +kernel⟩
theorem v_450 : lw_tbl[450]? = some (.code yX5_lessonsOf cX5_lessonsOf 4 ((some .int))) := by decide +kernel
theorem vy_X5_lessonsOf : (yX5_lessonsOf.cls ≠ "java/lang/invoke/MethodHandle" ∧ yX5_lessonsOf.cls ≠ "java/lang/invoke/VarHandle") ∧ (parseMethodDescriptor yX5_lessonsOf.desc).map (fun d => d.parameters.length) = some 1 := ⟨by decide +kernel, by decide +kernel⟩
theorem v_706 : lw_tbl[706]? = some (.code yX5_lessonsOfAll cX5_lessonsOfAll 3 ((some .int))) := by decide +kernel
theorem vy_X5_lessonsOfAll : (yX5_lessonsOfAll.cls ≠ "java/lang/invoke/MethodHandle" ∧ yX5_lessonsOfAll.cls ≠ "java/lang/invoke/VarHandle") ∧ (parseMethodDescriptor yX5_lessonsOfAll.desc).map (fun d => d.parameters.length) = some 0 := ⟨by decide +kernel, by decide +kernel⟩
theorem v_532 : lw_tbl[532]? = some (.code yX5_attendsWishes cX5_attendsWishes 4 ((some .boolean))) := by decide +kernel
theorem vy_X5_attendsWishes : (yX5_attendsWishes.cls ≠ "java/lang/invoke/MethodHandle" ∧ yX5_attendsWishes.cls ≠ "java/lang/invoke/VarHandle") ∧ (parseMethodDescriptor yX5_attendsWishes.desc).map (fun d => d.parameters.length) = some 1 := ⟨by decide +kernel, by decide +kernel⟩
theorem v_886 : lw_tbl[886]? = some (.code yX5_dropLesson cX5_dropLesson 4 ((some .int))) := by decide +kernel
theorem vy_X5_dropLesson : (yX5_dropLesson.cls ≠ "java/lang/invoke/MethodHandle" ∧ yX5_dropLesson.cls ≠ "java/lang/invoke/VarHandle") ∧ (parseMethodDescriptor yX5_dropLesson.desc).map (fun d => d.parameters.length) = some 2 := ⟨by decide +kernel, by decide +kernel⟩
theorem v_1100 : lw_tbl[1100]? = some (.code yX5_dropLessons cX5_dropLessons 4 ((some .int))) := by decide +kernel
theorem vy_X5_dropLessons : (yX5_dropLessons.cls ≠ "java/lang/invoke/MethodHandle" ∧ yX5_dropLessons.cls ≠ "java/lang/invoke/VarHandle") ∧ (parseMethodDescriptor yX5_dropLessons.desc).map (fun d => d.parameters.length) = some 1 := ⟨by decide +kernel, by decide +kernel⟩
theorem v_872 : lw_tbl[872]? = some (.code yX5_noteMove cX5_noteMove 4 none) := by decide +kernel
theorem vy_X5_noteMove : (yX5_noteMove.cls ≠ "java/lang/invoke/MethodHandle" ∧ yX5_noteMove.cls ≠ "java/lang/invoke/VarHandle") ∧ (parseMethodDescriptor yX5_noteMove.desc).map (fun d => d.parameters.length) = some 3 := ⟨by decide +kernel, by decide +kernel⟩
theorem v_876 : lw_tbl[876]? = some (.code yX5_makeMoves cX5_makeMoves 7 none) := by decide +kernel
theorem vy_X5_makeMoves : (yX5_makeMoves.cls ≠ "java/lang/invoke/MethodHandle" ∧ yX5_makeMoves.cls ≠ "java/lang/invoke/VarHandle") ∧ (parseMethodDescriptor yX5_makeMoves.desc).map (fun d => d.parameters.length) = some 3 := ⟨by decide +kernel, by decide +kernel⟩
theorem v_303 : lw_tbl[303]? = some (.code yX6_init cX6_init 1 none) := by decide +kernel
theorem vy_X6_init : (yX6_init.cls ≠ "java/lang/invoke/MethodHandle" ∧ yX6_init.cls ≠ "java/lang/invoke/VarHandle") ∧ (parseMethodDescriptor yX6_init.desc).map (fun d => d.parameters.length) = some 0 := ⟨by decide +kernel, by decide +kernel⟩
theorem v_1675 : lw_tbl[1675]? = some (.code yX6_modification cX6_modification 2 ((some .int))) := by decide +kernel
theorem vy_X6_modification : (yX6_modification.cls ≠ "java/lang/invoke/MethodHandle" ∧ yX6_modification.cls ≠ "java/lang/invoke/VarHandle") ∧ (parseMethodDescriptor yX6_modification.desc).map (fun d => d.parameters.length) = some 1 := ⟨by decide +kernel, by decide +kernel⟩
theorem v_1680 : lw_tbl[1680]? = some (.code yX6_number cX6_number 3 ((some .int))) := by decide +kernel
theorem vy_X6_number : (yX6_number.cls ≠ "java/lang/invoke/MethodHandle" ∧ yX6_number.cls ≠ "java/lang/invoke/VarHandle") ∧ (parseMethodDescriptor yX6_number.desc).map (fun d => d.parameters.length) = some 2 := ⟨by decide +kernel, by decide +kernel⟩
theorem v_1615 : lw_tbl[1615]? = some (.code yX6_parse cX6_parse 1 ((some .int))) := by decide +kernel
theorem vy_X6_parse : (yX6_parse.cls ≠ "java/lang/invoke/MethodHandle" ∧ yX6_parse.cls ≠ "java/lang/invoke/VarHandle") ∧ (parseMethodDescriptor yX6_parse.desc).map (fun d => d.parameters.length) = some 0 := ⟨by decide +kernel, by decide +kernel⟩
theorem v_1619 : lw_tbl[1619]? = some (.code yX6_readCommand cX6_readCommand 5 ((some .boolean))) := by decide +kernel
theorem vy_X6_readCommand : (yX6_readCommand.cls ≠ "java/lang/invoke/MethodHandle" ∧ yX6_readCommand.cls ≠ "java/lang/invoke/VarHandle") ∧ (parseMethodDescriptor yX6_readCommand.desc).map (fun d => d.parameters.length) = some 1 := ⟨by decide +kernel, by decide +kernel⟩
theorem v_1638 : lw_tbl[1638]? = some (.code yX6_matches cX6_matches 7 ((some .boolean))) := by decide +kernel
theorem vy_X6_matches : (yX6_matches.cls ≠ "java/lang/invoke/MethodHandle" ∧ yX6_matches.cls ≠ "java/lang/invoke/VarHandle") ∧ (parseMethodDescriptor yX6_matches.desc).map (fun d => d.parameters.length) = some 2 := ⟨by decide +kernel, by decide +kernel⟩
theorem v_1658 : lw_tbl[1658]? = some (.code yX6_readNumber cX6_readNumber 5 ((some .boolean))) := by decide +kernel
theorem vy_X6_readNumber : (yX6_readNumber.cls ≠ "java/lang/invoke/MethodHandle" ∧ yX6_readNumber.cls ≠ "java/lang/invoke/VarHandle") ∧ (parseMethodDescriptor yX6_readNumber.desc).map (fun d => d.parameters.length) = some 2 := ⟨by decide +kernel, by decide +kernel⟩
theorem v_1662 : lw_tbl[1662]? = some (.code yX6_digitHere cX6_digitHere 2 ((some .int))) := by decide +kernel
theorem vy_X6_digitHere : (yX6_digitHere.cls ≠ "java/lang/invoke/MethodHandle" ∧ yX6_digitHere.cls ≠ "java/lang/invoke/VarHandle") ∧ (parseMethodDescriptor yX6_digitHere.desc).map (fun d => d.parameters.length) = some 0 := ⟨by decide +kernel, by decide +kernel⟩
theorem v_1669 : lw_tbl[1669]? = some (.code yX6_skip cX6_skip 3 ((some .boolean))) := by decide +kernel
theorem vy_X6_skip : (yX6_skip.cls ≠ "java/lang/invoke/MethodHandle" ∧ yX6_skip.cls ≠ "java/lang/invoke/VarHandle") ∧ (parseMethodDescriptor yX6_skip.desc).map (fun d => d.parameters.length) = some 1 := ⟨by decide +kernel, by decide +kernel⟩
theorem v_1622 : lw_tbl[1622]? = some (.code yX6_formOf cX6_formOf 1 ((some (.object "java/lang/String")))) := by decide +kernel
theorem vy_X6_formOf : (yX6_formOf.cls ≠ "java/lang/invoke/MethodHandle" ∧ yX6_formOf.cls ≠ "java/lang/invoke/VarHandle") ∧ (parseMethodDescriptor yX6_formOf.desc).map (fun d => d.parameters.length) = some 1 := ⟨by decide +kernel, by decide +kernel⟩
theorem v_121 : lw_tbl[121]? = some (.code yX7_init cX7_init 1 none) := by decide +kernel
theorem vy_X7_init : (yX7_init.cls ≠ "java/lang/invoke/MethodHandle" ∧ yX7_init.cls ≠ "java/lang/invoke/VarHandle") ∧ (parseMethodDescriptor yX7_init.desc).map (fun d => d.parameters.length) = some 0 := ⟨by decide +kernel, by decide +kernel⟩
theorem v_611 : lw_tbl[611]? = some (.code yX7_addSubject cX7_addSubject 2 ((some .int))) := by decide +kernel
theorem vy_X7_addSubject : (yX7_addSubject.cls ≠ "java/lang/invoke/MethodHandle" ∧ yX7_addSubject.cls ≠ "java/lang/invoke/VarHandle") ∧ (parseMethodDescriptor yX7_addSubject.desc).map (fun d => d.parameters.length) = some 1 := ⟨by decide +kernel, by decide +kernel⟩
theorem v_920 : lw_tbl[920]? = some (.code yX7_setSize cX7_setSize 3 ((some .int))) := by decide +kernel
theorem vy_X7_setSize : (yX7_setSize.cls ≠ "java/lang/invoke/MethodHandle" ∧ yX7_setSize.cls ≠ "java/lang/invoke/VarHandle") ∧ (parseMethodDescriptor yX7_setSize.desc).map (fun d => d.parameters.length) = some 2 := ⟨by decide +kernel, by decide +kernel⟩
theorem v_404 : lw_tbl[404]? = some (.code yX7_subjectCount cX7_subjectCount 1 ((some .int))) := by decide +kernel
theorem vy_X7_subjectCount : (yX7_subjectCount.cls ≠ "java/lang/invoke/MethodHandle" ∧ yX7_subjectCount.cls ≠ "java/lang/invoke/VarHandle") ∧ (parseMethodDescriptor yX7_subjectCount.desc).map (fun d => d.parameters.length) = some 0 := ⟨by decide +kernel, by decide +kernel⟩
theorem v_942 : lw_tbl[942]? = some (.code yX7_sizeOf cX7_sizeOf 2 ((some .int))) := by decide +kernel
theorem vy_X7_sizeOf : (yX7_sizeOf.cls ≠ "java/lang/invoke/MethodHandle" ∧ yX7_sizeOf.cls ≠ "java/lang/invoke/VarHandle") ∧ (parseMethodDescriptor yX7_sizeOf.desc).map (fun d => d.parameters.length) = some 1 := ⟨by decide +kernel, by decide +kernel⟩
theorem v_954 : lw_tbl[954]? = some (.code yX7_setBlockCount cX7_setBlockCount 2 ((some .int))) := by decide +kernel
theorem vy_X7_setBlockCount : (yX7_setBlockCount.cls ≠ "java/lang/invoke/MethodHandle" ∧ yX7_setBlockCount.cls ≠ "java/lang/invoke/VarHandle") ∧ (parseMethodDescriptor yX7_setBlockCount.desc).map (fun d => d.parameters.length) = some 1 := ⟨by decide +kernel, by decide +kernel⟩
theorem v_408 : lw_tbl[408]? = some (.code yX7_blockCount cX7_blockCount 1 ((some .int))) := by decide +kernel
theorem vy_X7_blockCount : (yX7_blockCount.cls ≠ "java/lang/invoke/MethodHandle" ∧ yX7_blockCount.cls ≠ "java/lang/invoke/VarHandle") ∧ (parseMethodDescriptor yX7_blockCount.desc).map (fun d => d.parameters.length) = some 0 := ⟨by decide +kernel, by decide +kernel⟩
theorem v_961 : lw_tbl[961]? = some (.code yX7_openClass cX7_openClass 3 ((some .int))) := by decide +kernel
theorem vy_X7_openClass : (yX7_openClass.cls ≠ "java/lang/invoke/MethodHandle" ∧ yX7_openClass.cls ≠ "java/lang/invoke/VarHandle") ∧ (parseMethodDescriptor yX7_openClass.desc).map (fun d => d.parameters.length) = some 2 := ⟨by decide +kernel, by decide +kernel⟩
theorem v_968 : lw_tbl[968]? = some (.code yX7_closeClass cX7_closeClass 3 ((some .int))) := by decide +kernel
theorem vy_X7_closeClass : (yX7_closeClass.cls ≠ "java/lang/invoke/MethodHandle" ∧ yX7_closeClass.cls ≠ "java/lang/invoke/VarHandle") ∧ (parseMethodDescriptor yX7_closeClass.desc).map (fun d => d.parameters.length) = some 2 := ⟨by decide +kernel, by decide +kernel⟩
theorem v_975 : lw_tbl[975]? = some (.code yX7_isOpen cX7_isOpen 3 ((some .boolean))) := by decide +kernel
theorem vy_X7_isOpen : (yX7_isOpen.cls ≠ "java/lang/invoke/MethodHandle" ∧ yX7_isOpen.cls ≠ "java/lang/invoke/VarHandle") ∧ (parseMethodDescriptor yX7_isOpen.desc).map (fun d => d.parameters.length) = some 2 := ⟨by decide +kernel, by decide +kernel⟩
theorem v_984 : lw_tbl[984]? = some (.code yX7_pupilsInClass cX7_pupilsInClass 3 ((some .int))) := by decide +kernel
theorem vy_X7_pupilsInClass : (yX7_pupilsInClass.cls ≠ "java/lang/invoke/MethodHandle" ∧ yX7_pupilsInClass.cls ≠ "java/lang/invoke/VarHandle") ∧ (parseMethodDescriptor yX7_pupilsInClass.desc).map (fun d => d.parameters.length) = some 2 := ⟨by decide +kernel, by decide +kernel⟩
theorem v_994 : lw_tbl[994]? = some (.code yX7_pupilInClass cX7_pupilInClass 5 ((some .int))) := by decide +kernel
theorem vy_X7_pupilInClass : (yX7_pupilInClass.cls ≠ "java/lang/invoke/MethodHandle" ∧ yX7_pupilInClass.cls ≠ "java/lang/invoke/VarHandle") ∧ (parseMethodDescriptor yX7_pupilInClass.desc).map (fun d => d.parameters.length) = some 3 := ⟨by decide +kernel, by decide +kernel⟩
theorem v_1021 : lw_tbl[1021]? = some (.code yX7_addPupil cX7_addPupil 1 ((some .int))) := by decide +kernel
theorem vy_X7_addPupil : (yX7_addPupil.cls ≠ "java/lang/invoke/MethodHandle" ∧ yX7_addPupil.cls ≠ "java/lang/invoke/VarHandle") ∧ (parseMethodDescriptor yX7_addPupil.desc).map (fun d => d.parameters.length) = some 0 := ⟨by decide +kernel, by decide +kernel⟩
theorem v_412 : lw_tbl[412]? = some (.code yX7_pupilCount cX7_pupilCount 1 ((some .int))) := by decide +kernel
theorem vy_X7_pupilCount : (yX7_pupilCount.cls ≠ "java/lang/invoke/MethodHandle" ∧ yX7_pupilCount.cls ≠ "java/lang/invoke/VarHandle") ∧ (parseMethodDescriptor yX7_pupilCount.desc).map (fun d => d.parameters.length) = some 0 := ⟨by decide +kernel, by decide +kernel⟩
theorem v_1028 : lw_tbl[1028]? = some (.code yX7_addWish cX7_addWish 3 ((some .int))) := by decide +kernel
theorem vy_X7_addWish : (yX7_addWish.cls ≠ "java/lang/invoke/MethodHandle" ∧ yX7_addWish.cls ≠ "java/lang/invoke/VarHandle") ∧ (parseMethodDescriptor yX7_addWish.desc).map (fun d => d.parameters.length) = some 2 := ⟨by decide +kernel, by decide +kernel⟩
theorem v_1035 : lw_tbl[1035]? = some (.code yX7_setReserve cX7_setReserve 3 ((some .int))) := by decide +kernel
theorem vy_X7_setReserve : (yX7_setReserve.cls ≠ "java/lang/invoke/MethodHandle" ∧ yX7_setReserve.cls ≠ "java/lang/invoke/VarHandle") ∧ (parseMethodDescriptor yX7_setReserve.desc).map (fun d => d.parameters.length) = some 2 := ⟨by decide +kernel, by decide +kernel⟩
theorem v_1042 : lw_tbl[1042]? = some (.code yX7_wishCount cX7_wishCount 2 ((some .int))) := by decide +kernel
theorem vy_X7_wishCount : (yX7_wishCount.cls ≠ "java/lang/invoke/MethodHandle" ∧ yX7_wishCount.cls ≠ "java/lang/invoke/VarHandle") ∧ (parseMethodDescriptor yX7_wishCount.desc).map (fun d => d.parameters.length) = some 1 := ⟨by decide +kernel, by decide +kernel⟩
theorem v_1050 : lw_tbl[1050]? = some (.code yX7_wishAt cX7_wishAt 3 ((some .int))) := by decide +kernel
theorem vy_X7_wishAt : (yX7_wishAt.cls ≠ "java/lang/invoke/MethodHandle" ∧ yX7_wishAt.cls ≠ "java/lang/invoke/VarHandle") ∧ (parseMethodDescriptor yX7_wishAt.desc).map (fun d => d.parameters.length) = some 2 := ⟨by decide +kernel, by decide +kernel⟩
theorem v_1058 : lw_tbl[1058]? = some (.code yX7_reserveOf cX7_reserveOf 2 ((some .int))) := by decide +kernel
theorem vy_X7_reserveOf : (yX7_reserveOf.cls ≠ "java/lang/invoke/MethodHandle" ∧ yX7_reserveOf.cls ≠ "java/lang/invoke/VarHandle") ∧ (parseMethodDescriptor yX7_reserveOf.desc).map (fun d => d.parameters.length) = some 1 := ⟨by decide +kernel, by decide +kernel⟩
theorem v_1065 : lw_tbl[1065]? = some (.code yX7_subjectIn cX7_subjectIn 3 ((some .int))) := by decide +kernel
theorem vy_X7_subjectIn : (yX7_subjectIn.cls ≠ "java/lang/invoke/MethodHandle" ∧ yX7_subjectIn.cls ≠ "java/lang/invoke/VarHandle") ∧ (parseMethodDescriptor yX7_subjectIn.desc).map (fun d => d.parameters.length) = some 2 := ⟨by decide +kernel, by decide +kernel⟩
theorem v_1077 : lw_tbl[1077]? = some (.code yX7_blockOf cX7_blockOf 3 ((some .int))) := by decide +kernel
theorem vy_X7_blockOf : (yX7_blockOf.cls ≠ "java/lang/invoke/MethodHandle" ∧ yX7_blockOf.cls ≠ "java/lang/invoke/VarHandle") ∧ (parseMethodDescriptor yX7_blockOf.desc).map (fun d => d.parameters.length) = some 2 := ⟨by decide +kernel, by decide +kernel⟩
theorem v_1085 : lw_tbl[1085]? = some (.code yX7_enrol cX7_enrol 2 ((some .int))) := by decide +kernel
theorem vy_X7_enrol : (yX7_enrol.cls ≠ "java/lang/invoke/MethodHandle" ∧ yX7_enrol.cls ≠ "java/lang/invoke/VarHandle") ∧ (parseMethodDescriptor yX7_enrol.desc).map (fun d => d.parameters.length) = some 1 := ⟨by decide +kernel, by decide +kernel⟩
theorem v_416 : lw_tbl[416]? = some (.code yX7_enrolAll cX7_enrolAll 3 ((some .int))) := by decide +kernel
theorem vy_X7_enrolAll : (yX7_enrolAll.cls ≠ "java/lang/invoke/MethodHandle" ∧ yX7_enrolAll.cls ≠ "java/lang/invoke/VarHandle") ∧ (parseMethodDescriptor yX7_enrolAll.desc).map (fun d => d.parameters.length) = some 0 := ⟨by decide +kernel, by decide +kernel⟩
theorem v_1092 : lw_tbl[1092]? = some (.code yX7_withdraw cX7_withdraw 2 ((some .int))) := by decide +kernel
theorem vy_X7_withdraw : (yX7_withdraw.cls ≠ "java/lang/invoke/MethodHandle" ∧ yX7_withdraw.cls ≠ "java/lang/invoke/VarHandle") ∧ (parseMethodDescriptor yX7_withdraw.desc).map (fun d => d.parameters.length) = some 1 := ⟨by decide +kernel, by decide +kernel⟩
theorem v_1109 : lw_tbl[1109]? = some (.code yX7_bestValue cX7_bestValue 2 ((some .int))) := by decide +kernel
theorem vy_X7_bestValue : (yX7_bestValue.cls ≠ "java/lang/invoke/MethodHandle" ∧ yX7_bestValue.cls ≠ "java/lang/invoke/VarHandle") ∧ (parseMethodDescriptor yX7_bestValue.desc).map (fun d => d.parameters.length) = some 1 := ⟨by decide +kernel, by decide +kernel⟩
theorem v_1120 : lw_tbl[1120]? = some (.code yX7_bestValueBySets cX7_bestValueBySets 2 ((some .int))) := by decide +kernel
theorem vy_X7_bestValueBySets : (yX7_bestValueBySets.cls ≠ "java/lang/invoke/MethodHandle" ∧ yX7_bestValueBySets.cls ≠ "java/lang/invoke/VarHandle") ∧ (parseMethodDescriptor yX7_bestValueBySets.desc).map (fun d => d.parameters.length) = some 1 := ⟨by decide +kernel, by decide +kernel⟩
theorem v_1138 : lw_tbl[1138]? = some (.code yX7_canServe cX7_canServe 2 ((some .boolean))) := by decide +kernel
theorem vy_X7_canServe : (yX7_canServe.cls ≠ "java/lang/invoke/MethodHandle" ∧ yX7_canServe.cls ≠ "java/lang/invoke/VarHandle") ∧ (parseMethodDescriptor yX7_canServe.desc).map (fun d => d.parameters.length) = some 1 := ⟨by decide +kernel, by decide +kernel⟩
theorem v_1157 : lw_tbl[1157]? = some (.code yX7_canServeByCounting cX7_canServeByCounting 2 ((some .boolean))) := by decide +kernel
theorem vy_X7_canServeByCounting : (yX7_canServeByCounting.cls ≠ "java/lang/invoke/MethodHandle" ∧ yX7_canServeByCounting.cls ≠ "java/lang/invoke/VarHandle") ∧ (parseMethodDescriptor yX7_canServeByCounting.desc).map (fun d => d.parameters.length) = some 1 := ⟨by decide +kernel, by decide +kernel⟩
theorem v_541 : lw_tbl[541]? = some (.code yX7_servedCount cX7_servedCount 3 ((some .int))) := by decide +kernel
theorem vy_X7_servedCount : (yX7_servedCount.cls ≠ "java/lang/invoke/MethodHandle" ∧ yX7_servedCount.cls ≠ "java/lang/invoke/VarHandle") ∧ (parseMethodDescriptor yX7_servedCount.desc).map (fun d => d.parameters.length) = some 0 := ⟨by decide +kernel, by decide +kernel⟩
theorem v_1184 : lw_tbl[1184]? = some (.code yX7_meanClassSize cX7_meanClassSize 2 ((some .double))) := by decide +kernel
theorem vy_X7_meanClassSize : (yX7_meanClassSize.cls ≠ "java/lang/invoke/MethodHandle" ∧ yX7_meanClassSize.cls ≠ "java/lang/invoke/VarHandle") ∧ (parseMethodDescriptor yX7_meanClassSize.desc).map (fun d => d.parameters.length) = some 0 := ⟨by decide +kernel, by decide +kernel⟩
theorem v_1199 : lw_tbl[1199]? = some (.code yX7_movesFor cX7_movesFor 4 ((some .int))) := by decide +kernel
theorem vy_X7_movesFor : (yX7_movesFor.cls ≠ "java/lang/invoke/MethodHandle" ∧ yX7_movesFor.cls ≠ "java/lang/invoke/VarHandle") ∧ (parseMethodDescriptor yX7_movesFor.desc).map (fun d => d.parameters.length) = some 2 := ⟨by decide +kernel, by decide +kernel⟩
theorem v_1209 : lw_tbl[1209]? = some (.code yX7_movesByTrial cX7_movesByTrial 4 ((some .int))) := by decide +kernel
theorem vy_X7_movesByTrial : (yX7_movesByTrial.cls ≠ "java/lang/invoke/MethodHandle" ∧ yX7_movesByTrial.cls ≠ "java/lang/invoke/VarHandle") ∧ (parseMethodDescriptor yX7_movesByTrial.desc).map (fun d => d.parameters.length) = some 2 := ⟨by decide +kernel, by decide +kernel⟩
theorem v_1224 : lw_tbl[1224]? = some (.code yX7_join cX7_join 3 ((some .int))) := by decide +kernel
theorem vy_X7_join : (yX7_join.cls ≠ "java/lang/invoke/MethodHandle" ∧ yX7_join.cls ≠ "java/lang/invoke/VarHandle") ∧ (parseMethodDescriptor yX7_join.desc).map (fun d => d.parameters.length) = some 2 := ⟨by decide +kernel, by decide +kernel⟩
theorem v_1231 : lw_tbl[1231]? = some (.code yX7_quit cX7_quit 3 ((some .int))) := by decide +kernel
theorem vy_X7_quit : (yX7_quit.cls ≠ "java/lang/invoke/MethodHandle" ∧ yX7_quit.cls ≠ "java/lang/invoke/VarHandle") ∧ (parseMethodDescriptor yX7_quit.desc).map (fun d => d.parameters.length) = some 2 := ⟨by decide +kernel, by decide +kernel⟩
theorem v_1238 : lw_tbl[1238]? = some (.code yX7_change cX7_change 4 ((some .int))) := by decide +kernel
theorem vy_X7_change : (yX7_change.cls ≠ "java/lang/invoke/MethodHandle" ∧ yX7_change.cls ≠ "java/lang/invoke/VarHandle") ∧ (parseMethodDescriptor yX7_change.desc).map (fun d => d.parameters.length) = some 3 := ⟨by decide +kernel, by decide +kernel⟩
theorem v_1245 : lw_tbl[1245]? = some (.code yX7_refusalReason cX7_refusalReason 1 ((some .int))) := by decide +kernel
theorem vy_X7_refusalReason : (yX7_refusalReason.cls ≠ "java/lang/invoke/MethodHandle" ∧ yX7_refusalReason.cls ≠ "java/lang/invoke/VarHandle") ∧ (parseMethodDescriptor yX7_refusalReason.desc).map (fun d => d.parameters.length) = some 0 := ⟨by decide +kernel, by decide +kernel⟩
theorem v_1252 : lw_tbl[1252]? = some (.code yX7_chainMoves cX7_chainMoves 1 ((some .int))) := by decide +kernel
theorem vy_X7_chainMoves : (yX7_chainMoves.cls ≠ "java/lang/invoke/MethodHandle" ∧ yX7_chainMoves.cls ≠ "java/lang/invoke/VarHandle") ∧ (parseMethodDescriptor yX7_chainMoves.desc).map (fun d => d.parameters.length) = some 0 := ⟨by decide +kernel, by decide +kernel⟩
theorem v_1259 : lw_tbl[1259]? = some (.code yX7_chainPupil cX7_chainPupil 2 ((some .int))) := by decide +kernel
theorem vy_X7_chainPupil : (yX7_chainPupil.cls ≠ "java/lang/invoke/MethodHandle" ∧ yX7_chainPupil.cls ≠ "java/lang/invoke/VarHandle") ∧ (parseMethodDescriptor yX7_chainPupil.desc).map (fun d => d.parameters.length) = some 1 := ⟨by decide +kernel, by decide +kernel⟩
theorem v_1266 : lw_tbl[1266]? = some (.code yX7_chainBlock cX7_chainBlock 2 ((some .int))) := by decide +kernel
theorem vy_X7_chainBlock : (yX7_chainBlock.cls ≠ "java/lang/invoke/MethodHandle" ∧ yX7_chainBlock.cls ≠ "java/lang/invoke/VarHandle") ∧ (parseMethodDescriptor yX7_chainBlock.desc).map (fun d => d.parameters.length) = some 1 := ⟨by decide +kernel, by decide +kernel⟩
theorem v_1273 : lw_tbl[1273]? = some (.code yX7_commonWishes cX7_commonWishes 3 ((some .int))) := by decide +kernel
theorem vy_X7_commonWishes : (yX7_commonWishes.cls ≠ "java/lang/invoke/MethodHandle" ∧ yX7_commonWishes.cls ≠ "java/lang/invoke/VarHandle") ∧ (parseMethodDescriptor yX7_commonWishes.desc).map (fun d => d.parameters.length) = some 2 := ⟨by decide +kernel, by decide +kernel⟩
theorem v_1285 : lw_tbl[1285]? = some (.code yX7_doClash cX7_doClash 3 ((some .boolean))) := by decide +kernel
theorem vy_X7_doClash : (yX7_doClash.cls ≠ "java/lang/invoke/MethodHandle" ∧ yX7_doClash.cls ≠ "java/lang/invoke/VarHandle") ∧ (parseMethodDescriptor yX7_doClash.desc).map (fun d => d.parameters.length) = some 2 := ⟨by decide +kernel, by decide +kernel⟩
theorem v_545 : lw_tbl[545]? = some (.code yX7_clashCount cX7_clashCount 4 ((some .int))) := by decide +kernel
theorem vy_X7_clashCount : (yX7_clashCount.cls ≠ "java/lang/invoke/MethodHandle" ∧ yX7_clashCount.cls ≠ "java/lang/invoke/VarHandle") ∧ (parseMethodDescriptor yX7_clashCount.desc).map (fun d => d.parameters.length) = some 0 := ⟨by decide +kernel, by decide +kernel⟩
theorem v_561 : lw_tbl[561]? = some (.code yX7_leastClashes cX7_leastClashes 1 ((some .int))) := by decide +kernel
theorem vy_X7_leastClashes : (yX7_leastClashes.cls ≠ "java/lang/invoke/MethodHandle" ∧ yX7_leastClashes.cls ≠ "java/lang/invoke/VarHandle") ∧ (parseMethodDescriptor yX7_leastClashes.desc).map (fun d => d.parameters.length) = some 0 := ⟨by decide +kernel, by decide +kernel⟩
theorem v_589 : lw_tbl[589]? = some (.code yX7_leastClashesByTrial cX7_leastClashesByTrial 1 ((some .int))) := by decide +kernel
theorem vy_X7_leastClashesByTrial : (yX7_leastClashesByTrial.cls ≠ "java/lang/invoke/MethodHandle" ∧ yX7_leastClashesByTrial.cls ≠ "java/lang/invoke/VarHandle") ∧ (parseMethodDescriptor yX7_leastClashesByTrial.desc).map (fun d => d.parameters.length) = some 0 := ⟨by decide +kernel, by decide +kernel⟩
theorem v_1292 : lw_tbl[1292]? = some (.code yX7_arrange cX7_arrange 1 ((some .int))) := by decide +kernel
theorem vy_X7_arrange : (yX7_arrange.cls ≠ "java/lang/invoke/MethodHandle" ∧ yX7_arrange.cls ≠ "java/lang/invoke/VarHandle") ∧ (parseMethodDescriptor yX7_arrange.desc).map (fun d => d.parameters.length) = some 0 := ⟨by decide +kernel, by decide +kernel⟩
theorem v_1299 : lw_tbl[1299]? = some (.code yX7_writeTimetable cX7_writeTimetable 3 ((some .int))) := by decide +kernel
theorem vy_X7_writeTimetable : (yX7_writeTimetable.cls ≠ "java/lang/invoke/MethodHandle" ∧ yX7_writeTimetable.cls ≠ "java/lang/invoke/VarHandle") ∧ (parseMethodDescriptor yX7_writeTimetable.desc).map (fun d => d.parameters.length) = some 1 := ⟨by decide +kernel, by decide +kernel⟩
theorem v_1585 : lw_tbl[1585]? = some (.code yX7_lineAt cX7_lineAt 2 ((some .char))) := by decide +kernel
theorem vy_X7_lineAt : (yX7_lineAt.cls ≠ "java/lang/invoke/MethodHandle" ∧ yX7_lineAt.cls ≠ "java/lang/invoke/VarHandle") ∧ (parseMethodDescriptor yX7_lineAt.desc).map (fun d => d.parameters.length) = some 1 := ⟨by decide +kernel, by decide +kernel⟩
theorem v_1602 : lw_tbl[1602]? = some (.code yX7_type cX7_type 2 ((some .int))) := by decide +kernel
theorem vy_X7_type : (yX7_type.cls ≠ "java/lang/invoke/MethodHandle" ∧ yX7_type.cls ≠ "java/lang/invoke/VarHandle") ∧ (parseMethodDescriptor yX7_type.desc).map (fun d => d.parameters.length) = some 1 := ⟨by decide +kernel, by decide +kernel⟩
theorem v_1611 : lw_tbl[1611]? = some (.code yX7_execute cX7_execute 8 ((some .int))) := by decide +kernel
theorem vy_X7_execute : (yX7_execute.cls ≠ "java/lang/invoke/MethodHandle" ∧ yX7_execute.cls ≠ "java/lang/invoke/VarHandle") ∧ (parseMethodDescriptor yX7_execute.desc).map (fun d => d.parameters.length) = some 0 := ⟨by decide +kernel, by decide +kernel⟩
theorem v_1688 : lw_tbl[1688]? = some (.code yX7_errorPosition cX7_errorPosition 1 ((some .int))) := by decide +kernel
theorem vy_X7_errorPosition : (yX7_errorPosition.cls ≠ "java/lang/invoke/MethodHandle" ∧ yX7_errorPosition.cls ≠ "java/lang/invoke/VarHandle") ∧ (parseMethodDescriptor yX7_errorPosition.desc).map (fun d => d.parameters.length) = some 0 := ⟨by decide +kernel, by decide +kernel⟩
theorem v_1695 : lw_tbl[1695]? = some (.code yX7_failedCommand cX7_failedCommand 1 ((some .int))) := by decide +kernel
theorem vy_X7_failedCommand : (yX7_failedCommand.cls ≠ "java/lang/invoke/MethodHandle" ∧ yX7_failedCommand.cls ≠ "java/lang/invoke/VarHandle") ∧ (parseMethodDescriptor yX7_failedCommand.desc).map (fun d => d.parameters.length) = some 0 := ⟨by decide +kernel, by decide +kernel⟩
theorem v_1702 : lw_tbl[1702]? = some (.code yX7_failureKind cX7_failureKind 1 ((some .int))) := by decide +kernel
theorem vy_X7_failureKind : (yX7_failureKind.cls ≠ "java/lang/invoke/MethodHandle" ∧ yX7_failureKind.cls ≠ "java/lang/invoke/VarHandle") ∧ (parseMethodDescriptor yX7_failureKind.desc).map (fun d => d.parameters.length) = some 0 := ⟨by decide +kernel, by decide +kernel⟩
theorem v_1709 : lw_tbl[1709]? = some (.code yX7_undo cX7_undo 1 ((some .int))) := by decide +kernel
theorem vy_X7_undo : (yX7_undo.cls ≠ "java/lang/invoke/MethodHandle" ∧ yX7_undo.cls ≠ "java/lang/invoke/VarHandle") ∧ (parseMethodDescriptor yX7_undo.desc).map (fun d => d.parameters.length) = some 0 := ⟨by decide +kernel, by decide +kernel⟩
theorem v_601 : lw_tbl[601]? = some (.code yX7_save cX7_save 1 ((some .int))) := by decide +kernel
theorem vy_X7_save : (yX7_save.cls ≠ "java/lang/invoke/MethodHandle" ∧ yX7_save.cls ≠ "java/lang/invoke/VarHandle") ∧ (parseMethodDescriptor yX7_save.desc).map (fun d => d.parameters.length) = some 0 := ⟨by decide +kernel, by decide +kernel⟩
theorem v_1721 : lw_tbl[1721]? = some (.code yX7_restore cX7_restore 1 ((some .int))) := by decide +kernel
theorem vy_X7_restore : (yX7_restore.cls ≠ "java/lang/invoke/MethodHandle" ∧ yX7_restore.cls ≠ "java/lang/invoke/VarHandle") ∧ (parseMethodDescriptor yX7_restore.desc).map (fun d => d.parameters.length) = some 0 := ⟨by decide +kernel, by decide +kernel⟩
theorem v_615 : lw_tbl[615]? = some (.code yX7_make cX7_make 5 ((some .int))) := by decide +kernel
theorem vy_X7_make : (yX7_make.cls ≠ "java/lang/invoke/MethodHandle" ∧ yX7_make.cls ≠ "java/lang/invoke/VarHandle") ∧ (parseMethodDescriptor yX7_make.desc).map (fun d => d.parameters.length) = some 4 := ⟨by decide +kernel, by decide +kernel⟩
theorem v_1577 : lw_tbl[1577]? = some (.code yX7_writeLesson cX7_writeLesson 3 none) := by decide +kernel
theorem vy_X7_writeLesson : (yX7_writeLesson.cls ≠ "java/lang/invoke/MethodHandle" ∧ yX7_writeLesson.cls ≠ "java/lang/invoke/VarHandle") ∧ (parseMethodDescriptor yX7_writeLesson.desc).map (fun d => d.parameters.length) = some 2 := ⟨by decide +kernel, by decide +kernel⟩
theorem v_1277 : lw_tbl[1277]? = some (.code yX7_needPair cX7_needPair 3 none) := by decide +kernel
theorem vy_X7_needPair : (yX7_needPair.cls ≠ "java/lang/invoke/MethodHandle" ∧ yX7_needPair.cls ≠ "java/lang/invoke/VarHandle") ∧ (parseMethodDescriptor yX7_needPair.desc).map (fun d => d.parameters.length) = some 2 := ⟨by decide +kernel, by decide +kernel⟩
theorem v_946 : lw_tbl[946]? = some (.code yX7_needIndex cX7_needIndex 1 none) := by decide +kernel
theorem vy_X7_needIndex : (yX7_needIndex.cls ≠ "java/lang/invoke/MethodHandle" ∧ yX7_needIndex.cls ≠ "java/lang/invoke/VarHandle") ∧ (parseMethodDescriptor yX7_needIndex.desc).map (fun d => d.parameters.length) = some 1 := ⟨by decide +kernel, by decide +kernel⟩
theorem v_997 : lw_tbl[997]? = some (.code yX7_needElement cX7_needElement 1 none) := by decide +kernel
theorem vy_X7_needElement : (yX7_needElement.cls ≠ "java/lang/invoke/MethodHandle" ∧ yX7_needElement.cls ≠ "java/lang/invoke/VarHandle") ∧ (parseMethodDescriptor yX7_needElement.desc).map (fun d => d.parameters.length) = some 1 := ⟨by decide +kernel, by decide +kernel⟩
theorem v_709 : lw_tbl[709]? = some (.code yX7_throwFault cX7_throwFault 1 none) := by decide +kernel
theorem vy_X7_throwFault : (yX7_throwFault.cls ≠ "java/lang/invoke/MethodHandle" ∧ yX7_throwFault.cls ≠ "java/lang/invoke/VarHandle") ∧ (parseMethodDescriptor yX7_throwFault.desc).map (fun d => d.parameters.length) = some 1 := ⟨by decide +kernel, by decide +kernel⟩
theorem v_461 : lw_tbl[461]? = some (.code yX7_read cX7_read 2 ((some .int))) := by decide +kernel
theorem vy_X7_read : (yX7_read.cls ≠ "java/lang/invoke/MethodHandle" ∧ yX7_read.cls ≠ "java/lang/invoke/VarHandle") ∧ (parseMethodDescriptor yX7_read.desc).map (fun d => d.parameters.length) = some 2 := ⟨by decide +kernel, by decide +kernel⟩
theorem v_499 : lw_tbl[499]? = some (.code yX7_write cX7_write 3 none) := by decide +kernel
theorem vy_X7_write : (yX7_write.cls ≠ "java/lang/invoke/MethodHandle" ∧ yX7_write.cls ≠ "java/lang/invoke/VarHandle") ∧ (parseMethodDescriptor yX7_write.desc).map (fun d => d.parameters.length) = some 3 := ⟨by decide +kernel, by decide +kernel⟩
theorem v_431 : lw_tbl[431]? = some (.code yX7_copyRow cX7_copyRow 2 none) := by decide +kernel
theorem vy_X7_copyRow : (yX7_copyRow.cls ≠ "java/lang/invoke/MethodHandle" ∧ yX7_copyRow.cls ≠ "java/lang/invoke/VarHandle") ∧ (parseMethodDescriptor yX7_copyRow.desc).map (fun d => d.parameters.length) = some 2 := ⟨by decide +kernel, by decide +kernel⟩
theorem v_464 : lw_tbl[464]? = some (.code yX7_holds cX7_holds 2 ((some .boolean))) := by decide +kernel
theorem vy_X7_holds : (yX7_holds.cls ≠ "java/lang/invoke/MethodHandle" ∧ yX7_holds.cls ≠ "java/lang/invoke/VarHandle") ∧ (parseMethodDescriptor yX7_holds.desc).map (fun d => d.parameters.length) = some 2 := ⟨by decide +kernel, by decide +kernel⟩
theorem v_867 : lw_tbl[867]? = some (.code yX7_memberAt cX7_memberAt 4 ((some .int))) := by decide +kernel
theorem vy_X7_memberAt : (yX7_memberAt.cls ≠ "java/lang/invoke/MethodHandle" ∧ yX7_memberAt.cls ≠ "java/lang/invoke/VarHandle") ∧ (parseMethodDescriptor yX7_memberAt.desc).map (fun d => d.parameters.length) = some 2 := ⟨by decide +kernel, by decide +kernel⟩
theorem v_1731 : lw_tbl[1731]? = some (.code yX8_init cX8_init 1 none) := by decide +kernel
theorem vy_X8_init : (yX8_init.cls ≠ "java/lang/invoke/MethodHandle" ∧ yX8_init.cls ≠ "java/lang/invoke/VarHandle") ∧ (parseMethodDescriptor yX8_init.desc).map (fun d => d.parameters.length) = some 0 := ⟨by decide +kernel, by decide +kernel⟩
theorem v_1845 : lw_tbl[1845]? = some (.code yX8_thrown cX8_thrown 1 ((some .int))) := by decide +kernel
theorem vy_X8_thrown : (yX8_thrown.cls ≠ "java/lang/invoke/MethodHandle" ∧ yX8_thrown.cls ≠ "java/lang/invoke/VarHandle") ∧ (parseMethodDescriptor yX8_thrown.desc).map (fun d => d.parameters.length) = some 0 := ⟨by decide +kernel, by decide +kernel⟩
theorem v_1883 : lw_tbl[1883]? = some (.code yX8_in cX8_in 3 ((some .boolean))) := by decide +kernel
theorem vy_X8_in : (yX8_in.cls ≠ "java/lang/invoke/MethodHandle" ∧ yX8_in.cls ≠ "java/lang/invoke/VarHandle") ∧ (parseMethodDescriptor yX8_in.desc).map (fun d => d.parameters.length) = some 3 := ⟨by decide +kernel, by decide +kernel⟩
theorem v_1864 : lw_tbl[1864]? = some (.code yX8_copies cX8_copies 3 none) := by decide +kernel
theorem vy_X8_copies : (yX8_copies.cls ≠ "java/lang/invoke/MethodHandle" ∧ yX8_copies.cls ≠ "java/lang/invoke/VarHandle") ∧ (parseMethodDescriptor yX8_copies.desc).map (fun d => d.parameters.length) = some 2 := ⟨by decide +kernel, by decide +kernel⟩
theorem v_1853 : lw_tbl[1853]? = some (.code yX8_fails cX8_fails 2 ((some .int))) := by decide +kernel
theorem vy_X8_fails : (yX8_fails.cls ≠ "java/lang/invoke/MethodHandle" ∧ yX8_fails.cls ≠ "java/lang/invoke/VarHandle") ∧ (parseMethodDescriptor yX8_fails.desc).map (fun d => d.parameters.length) = some 1 := ⟨by decide +kernel, by decide +kernel⟩
theorem v_1857 : lw_tbl[1857]? = some (.code yX8_tells cX8_tells 2 ((some .int))) := by decide +kernel
theorem vy_X8_tells : (yX8_tells.cls ≠ "java/lang/invoke/MethodHandle" ∧ yX8_tells.cls ≠ "java/lang/invoke/VarHandle") ∧ (parseMethodDescriptor yX8_tells.desc).map (fun d => d.parameters.length) = some 1 := ⟨by decide +kernel, by decide +kernel⟩
theorem v_1876 : lw_tbl[1876]? = some (.code yX8_begins cX8_begins 1 none) := by decide +kernel
theorem vy_X8_begins : (yX8_begins.cls ≠ "java/lang/invoke/MethodHandle" ∧ yX8_begins.cls ≠ "java/lang/invoke/VarHandle") ∧ (parseMethodDescriptor yX8_begins.desc).map (fun d => d.parameters.length) = some 0 := ⟨by decide +kernel, by decide +kernel⟩
theorem v_1887 : lw_tbl[1887]? = some (.code yX8_bad cX8_bad 2 ((some .int))) := by decide +kernel
theorem vy_X8_bad : (yX8_bad.cls ≠ "java/lang/invoke/MethodHandle" ∧ yX8_bad.cls ≠ "java/lang/invoke/VarHandle") ∧ (parseMethodDescriptor yX8_bad.desc).map (fun d => d.parameters.length) = some 1 := ⟨by decide +kernel, by decide +kernel⟩
theorem v_1891 : lw_tbl[1891]? = some (.code yX8_ends cX8_ends 5 ((some .int))) := by decide +kernel
theorem vy_X8_ends : (yX8_ends.cls ≠ "java/lang/invoke/MethodHandle" ∧ yX8_ends.cls ≠ "java/lang/invoke/VarHandle") ∧ (parseMethodDescriptor yX8_ends.desc).map (fun d => d.parameters.length) = some 3 := ⟨by decide +kernel, by decide +kernel⟩
theorem v_1849 : lw_tbl[1849]? = some (.code yX8_undo cX8_undo 2 ((some .int))) := by decide +kernel
theorem vy_X8_undo : (yX8_undo.cls ≠ "java/lang/invoke/MethodHandle" ∧ yX8_undo.cls ≠ "java/lang/invoke/VarHandle") ∧ (parseMethodDescriptor yX8_undo.desc).map (fun d => d.parameters.length) = some 0 := ⟨by decide +kernel, by decide +kernel⟩
theorem v_1861 : lw_tbl[1861]? = some (.code yX8_save cX8_save 1 ((some .int))) := by decide +kernel
theorem vy_X8_save : (yX8_save.cls ≠ "java/lang/invoke/MethodHandle" ∧ yX8_save.cls ≠ "java/lang/invoke/VarHandle") ∧ (parseMethodDescriptor yX8_save.desc).map (fun d => d.parameters.length) = some 0 := ⟨by decide +kernel, by decide +kernel⟩
theorem v_1868 : lw_tbl[1868]? = some (.code yX8_restore cX8_restore 1 ((some .int))) := by decide +kernel
theorem vy_X8_restore : (yX8_restore.cls ≠ "java/lang/invoke/MethodHandle" ∧ yX8_restore.cls ≠ "java/lang/invoke/VarHandle") ∧ (parseMethodDescriptor yX8_restore.desc).map (fun d => d.parameters.length) = some 0 := ⟨by decide +kernel, by decide +kernel⟩
theorem v_1903 : lw_tbl[1903]? = some (.code yX8_isSubject cX8_isSubject 2 ((some .boolean))) := by decide +kernel
theorem vy_X8_isSubject : (yX8_isSubject.cls ≠ "java/lang/invoke/MethodHandle" ∧ yX8_isSubject.cls ≠ "java/lang/invoke/VarHandle") ∧ (parseMethodDescriptor yX8_isSubject.desc).map (fun d => d.parameters.length) = some 1 := ⟨by decide +kernel, by decide +kernel⟩
theorem v_1947 : lw_tbl[1947]? = some (.code yX8_isBlock cX8_isBlock 2 ((some .boolean))) := by decide +kernel
theorem vy_X8_isBlock : (yX8_isBlock.cls ≠ "java/lang/invoke/MethodHandle" ∧ yX8_isBlock.cls ≠ "java/lang/invoke/VarHandle") ∧ (parseMethodDescriptor yX8_isBlock.desc).map (fun d => d.parameters.length) = some 1 := ⟨by decide +kernel, by decide +kernel⟩
theorem v_1995 : lw_tbl[1995]? = some (.code yX8_isPupil cX8_isPupil 2 ((some .boolean))) := by decide +kernel
theorem vy_X8_isPupil : (yX8_isPupil.cls ≠ "java/lang/invoke/MethodHandle" ∧ yX8_isPupil.cls ≠ "java/lang/invoke/VarHandle") ∧ (parseMethodDescriptor yX8_isPupil.desc).map (fun d => d.parameters.length) = some 1 := ⟨by decide +kernel, by decide +kernel⟩
theorem v_1931 : lw_tbl[1931]? = some (.code yX8_hasOpen cX8_hasOpen 3 ((some .boolean))) := by decide +kernel
theorem vy_X8_hasOpen : (yX8_hasOpen.cls ≠ "java/lang/invoke/MethodHandle" ∧ yX8_hasOpen.cls ≠ "java/lang/invoke/VarHandle") ∧ (parseMethodDescriptor yX8_hasOpen.desc).map (fun d => d.parameters.length) = some 2 := ⟨by decide +kernel, by decide +kernel⟩
theorem v_1911 : lw_tbl[1911]? = some (.code yX8_subjectOf cX8_subjectOf 3 ((some .int))) := by decide +kernel
theorem vy_X8_subjectOf : (yX8_subjectOf.cls ≠ "java/lang/invoke/MethodHandle" ∧ yX8_subjectOf.cls ≠ "java/lang/invoke/VarHandle") ∧ (parseMethodDescriptor yX8_subjectOf.desc).map (fun d => d.parameters.length) = some 2 := ⟨by decide +kernel, by decide +kernel⟩
theorem v_2035 : lw_tbl[2035]? = some (.code yX8_blockOfSubject cX8_blockOfSubject 4 ((some .int))) := by decide +kernel
theorem vy_X8_blockOfSubject : (yX8_blockOfSubject.cls ≠ "java/lang/invoke/MethodHandle" ∧ yX8_blockOfSubject.cls ≠ "java/lang/invoke/VarHandle") ∧ (parseMethodDescriptor yX8_blockOfSubject.desc).map (fun d => d.parameters.length) = some 2 := ⟨by decide +kernel, by decide +kernel⟩
theorem v_1907 : lw_tbl[1907]? = some (.code yX8_inClass cX8_inClass 5 ((some .int))) := by decide +kernel
theorem vy_X8_inClass : (yX8_inClass.cls ≠ "java/lang/invoke/MethodHandle" ∧ yX8_inClass.cls ≠ "java/lang/invoke/VarHandle") ∧ (parseMethodDescriptor yX8_inClass.desc).map (fun d => d.parameters.length) = some 2 := ⟨by decide +kernel, by decide +kernel⟩
theorem v_1951 : lw_tbl[1951]? = some (.code yX8_openOf cX8_openOf 4 ((some .int))) := by decide +kernel
theorem vy_X8_openOf : (yX8_openOf.cls ≠ "java/lang/invoke/MethodHandle" ∧ yX8_openOf.cls ≠ "java/lang/invoke/VarHandle") ∧ (parseMethodDescriptor yX8_openOf.desc).map (fun d => d.parameters.length) = some 1 := ⟨by decide +kernel, by decide +kernel⟩
theorem v_2047 : lw_tbl[2047]? = some (.code yX8_classesOf cX8_classesOf 4 ((some .int))) := by decide +kernel
theorem vy_X8_classesOf : (yX8_classesOf.cls ≠ "java/lang/invoke/MethodHandle" ∧ yX8_classesOf.cls ≠ "java/lang/invoke/VarHandle") ∧ (parseMethodDescriptor yX8_classesOf.desc).map (fun d => d.parameters.length) = some 1 := ⟨by decide +kernel, by decide +kernel⟩
theorem v_2003 : lw_tbl[2003]? = some (.code yX8_wish cX8_wish 3 ((some .int))) := by decide +kernel
theorem vy_X8_wish : (yX8_wish.cls ≠ "java/lang/invoke/MethodHandle" ∧ yX8_wish.cls ≠ "java/lang/invoke/VarHandle") ∧ (parseMethodDescriptor yX8_wish.desc).map (fun d => d.parameters.length) = some 2 := ⟨by decide +kernel, by decide +kernel⟩
theorem v_1999 : lw_tbl[1999]? = some (.code yX8_isWish cX8_isWish 5 ((some .boolean))) := by decide +kernel
theorem vy_X8_isWish : (yX8_isWish.cls ≠ "java/lang/invoke/MethodHandle" ∧ yX8_isWish.cls ≠ "java/lang/invoke/VarHandle") ∧ (parseMethodDescriptor yX8_isWish.desc).map (fun d => d.parameters.length) = some 2 := ⟨by decide +kernel, by decide +kernel⟩
theorem v_1880 : lw_tbl[1880]? = some (.code yX8_addSubjectNow cX8_addSubjectNow 4 ((some .int))) := by decide +kernel
theorem vy_X8_addSubjectNow : (yX8_addSubjectNow.cls ≠ "java/lang/invoke/MethodHandle" ∧ yX8_addSubjectNow.cls ≠ "java/lang/invoke/VarHandle") ∧ (parseMethodDescriptor yX8_addSubjectNow.desc).map (fun d => d.parameters.length) = some 1 := ⟨by decide +kernel, by decide +kernel⟩
theorem v_1872 : lw_tbl[1872]? = some (.code yX8_addSubject cX8_addSubject 2 ((some .int))) := by decide +kernel
theorem vy_X8_addSubject : (yX8_addSubject.cls ≠ "java/lang/invoke/MethodHandle" ∧ yX8_addSubject.cls ≠ "java/lang/invoke/VarHandle") ∧ (parseMethodDescriptor yX8_addSubject.desc).map (fun d => d.parameters.length) = some 1 := ⟨by decide +kernel, by decide +kernel⟩
theorem v_1899 : lw_tbl[1899]? = some (.code yX8_setSizeNow cX8_setSizeNow 4 ((some .int))) := by decide +kernel
theorem vy_X8_setSizeNow : (yX8_setSizeNow.cls ≠ "java/lang/invoke/MethodHandle" ∧ yX8_setSizeNow.cls ≠ "java/lang/invoke/VarHandle") ∧ (parseMethodDescriptor yX8_setSizeNow.desc).map (fun d => d.parameters.length) = some 2 := ⟨by decide +kernel, by decide +kernel⟩
theorem v_1895 : lw_tbl[1895]? = some (.code yX8_setSize cX8_setSize 3 ((some .int))) := by decide +kernel
theorem vy_X8_setSize : (yX8_setSize.cls ≠ "java/lang/invoke/MethodHandle" ∧ yX8_setSize.cls ≠ "java/lang/invoke/VarHandle") ∧ (parseMethodDescriptor yX8_setSize.desc).map (fun d => d.parameters.length) = some 2 := ⟨by decide +kernel, by decide +kernel⟩
theorem v_1915 : lw_tbl[1915]? = some (.code yX8_subjectCount cX8_subjectCount 1 ((some .int))) := by decide +kernel
theorem vy_X8_subjectCount : (yX8_subjectCount.cls ≠ "java/lang/invoke/MethodHandle" ∧ yX8_subjectCount.cls ≠ "java/lang/invoke/VarHandle") ∧ (parseMethodDescriptor yX8_subjectCount.desc).map (fun d => d.parameters.length) = some 0 := ⟨by decide +kernel, by decide +kernel⟩
theorem v_1919 : lw_tbl[1919]? = some (.code yX8_sizeOf cX8_sizeOf 2 ((some .int))) := by decide +kernel
theorem vy_X8_sizeOf : (yX8_sizeOf.cls ≠ "java/lang/invoke/MethodHandle" ∧ yX8_sizeOf.cls ≠ "java/lang/invoke/VarHandle") ∧ (parseMethodDescriptor yX8_sizeOf.desc).map (fun d => d.parameters.length) = some 1 := ⟨by decide +kernel, by decide +kernel⟩
theorem v_1927 : lw_tbl[1927]? = some (.code yX8_setBlockCountNow cX8_setBlockCountNow 4 ((some .int))) := by decide +kernel
theorem vy_X8_setBlockCountNow : (yX8_setBlockCountNow.cls ≠ "java/lang/invoke/MethodHandle" ∧ yX8_setBlockCountNow.cls ≠ "java/lang/invoke/VarHandle") ∧ (parseMethodDescriptor yX8_setBlockCountNow.desc).map (fun d => d.parameters.length) = some 1 := ⟨by decide +kernel, by decide +kernel⟩
theorem v_1923 : lw_tbl[1923]? = some (.code yX8_setBlockCount cX8_setBlockCount 2 ((some .int))) := by decide +kernel
theorem vy_X8_setBlockCount : (yX8_setBlockCount.cls ≠ "java/lang/invoke/MethodHandle" ∧ yX8_setBlockCount.cls ≠ "java/lang/invoke/VarHandle") ∧ (parseMethodDescriptor yX8_setBlockCount.desc).map (fun d => d.parameters.length) = some 1 := ⟨by decide +kernel, by decide +kernel⟩
theorem v_1935 : lw_tbl[1935]? = some (.code yX8_blockCount cX8_blockCount 1 ((some .int))) := by decide +kernel
theorem vy_X8_blockCount : (yX8_blockCount.cls ≠ "java/lang/invoke/MethodHandle" ∧ yX8_blockCount.cls ≠ "java/lang/invoke/VarHandle") ∧ (parseMethodDescriptor yX8_blockCount.desc).map (fun d => d.parameters.length) = some 0 := ⟨by decide +kernel, by decide +kernel⟩
theorem v_1943 : lw_tbl[1943]? = some (.code yX8_openClassNow cX8_openClassNow 3 ((some .int))) := by decide +kernel
theorem vy_X8_openClassNow : (yX8_openClassNow.cls ≠ "java/lang/invoke/MethodHandle" ∧ yX8_openClassNow.cls ≠ "java/lang/invoke/VarHandle") ∧ (parseMethodDescriptor yX8_openClassNow.desc).map (fun d => d.parameters.length) = some 2 := ⟨by decide +kernel, by decide +kernel⟩
theorem v_1939 : lw_tbl[1939]? = some (.code yX8_openClass cX8_openClass 3 ((some .int))) := by decide +kernel
theorem vy_X8_openClass : (yX8_openClass.cls ≠ "java/lang/invoke/MethodHandle" ∧ yX8_openClass.cls ≠ "java/lang/invoke/VarHandle") ∧ (parseMethodDescriptor yX8_openClass.desc).map (fun d => d.parameters.length) = some 2 := ⟨by decide +kernel, by decide +kernel⟩
theorem v_1959 : lw_tbl[1959]? = some (.code yX8_closeClassNow cX8_closeClassNow 3 ((some .int))) := by decide +kernel
theorem vy_X8_closeClassNow : (yX8_closeClassNow.cls ≠ "java/lang/invoke/MethodHandle" ∧ yX8_closeClassNow.cls ≠ "java/lang/invoke/VarHandle") ∧ (parseMethodDescriptor yX8_closeClassNow.desc).map (fun d => d.parameters.length) = some 2 := ⟨by decide +kernel, by decide +kernel⟩
theorem v_1955 : lw_tbl[1955]? = some (.code yX8_closeClass cX8_closeClass 3 ((some .int))) := by decide +kernel
theorem vy_X8_closeClass : (yX8_closeClass.cls ≠ "java/lang/invoke/MethodHandle" ∧ yX8_closeClass.cls ≠ "java/lang/invoke/VarHandle") ∧ (parseMethodDescriptor yX8_closeClass.desc).map (fun d => d.parameters.length) = some 2 := ⟨by decide +kernel, by decide +kernel⟩
theorem v_1963 : lw_tbl[1963]? = some (.code yX8_isOpen cX8_isOpen 3 ((some .boolean))) := by decide +kernel
theorem vy_X8_isOpen : (yX8_isOpen.cls ≠ "java/lang/invoke/MethodHandle" ∧ yX8_isOpen.cls ≠ "java/lang/invoke/VarHandle") ∧ (parseMethodDescriptor yX8_isOpen.desc).map (fun d => d.parameters.length) = some 2 := ⟨by decide +kernel, by decide +kernel⟩
theorem v_1967 : lw_tbl[1967]? = some (.code yX8_pupilsInClass cX8_pupilsInClass 3 ((some .int))) := by decide +kernel
theorem vy_X8_pupilsInClass : (yX8_pupilsInClass.cls ≠ "java/lang/invoke/MethodHandle" ∧ yX8_pupilsInClass.cls ≠ "java/lang/invoke/VarHandle") ∧ (parseMethodDescriptor yX8_pupilsInClass.desc).map (fun d => d.parameters.length) = some 2 := ⟨by decide +kernel, by decide +kernel⟩
theorem v_1971 : lw_tbl[1971]? = some (.code yX8_pupilInClass cX8_pupilInClass 6 ((some .int))) := by decide +kernel
theorem vy_X8_pupilInClass : (yX8_pupilInClass.cls ≠ "java/lang/invoke/MethodHandle" ∧ yX8_pupilInClass.cls ≠ "java/lang/invoke/VarHandle") ∧ (parseMethodDescriptor yX8_pupilInClass.desc).map (fun d => d.parameters.length) = some 3 := ⟨by decide +kernel, by decide +kernel⟩
theorem v_1979 : lw_tbl[1979]? = some (.code yX8_addPupilNow cX8_addPupilNow 3 ((some .int))) := by decide +kernel
theorem vy_X8_addPupilNow : (yX8_addPupilNow.cls ≠ "java/lang/invoke/MethodHandle" ∧ yX8_addPupilNow.cls ≠ "java/lang/invoke/VarHandle") ∧ (parseMethodDescriptor yX8_addPupilNow.desc).map (fun d => d.parameters.length) = some 0 := ⟨by decide +kernel, by decide +kernel⟩
theorem v_1975 : lw_tbl[1975]? = some (.code yX8_addPupil cX8_addPupil 1 ((some .int))) := by decide +kernel
theorem vy_X8_addPupil : (yX8_addPupil.cls ≠ "java/lang/invoke/MethodHandle" ∧ yX8_addPupil.cls ≠ "java/lang/invoke/VarHandle") ∧ (parseMethodDescriptor yX8_addPupil.desc).map (fun d => d.parameters.length) = some 0 := ⟨by decide +kernel, by decide +kernel⟩
theorem v_1983 : lw_tbl[1983]? = some (.code yX8_pupilCount cX8_pupilCount 1 ((some .int))) := by decide +kernel
theorem vy_X8_pupilCount : (yX8_pupilCount.cls ≠ "java/lang/invoke/MethodHandle" ∧ yX8_pupilCount.cls ≠ "java/lang/invoke/VarHandle") ∧ (parseMethodDescriptor yX8_pupilCount.desc).map (fun d => d.parameters.length) = some 0 := ⟨by decide +kernel, by decide +kernel⟩
theorem v_1991 : lw_tbl[1991]? = some (.code yX8_addWishNow cX8_addWishNow 3 ((some .int))) := by decide +kernel
theorem vy_X8_addWishNow : (yX8_addWishNow.cls ≠ "java/lang/invoke/MethodHandle" ∧ yX8_addWishNow.cls ≠ "java/lang/invoke/VarHandle") ∧ (parseMethodDescriptor yX8_addWishNow.desc).map (fun d => d.parameters.length) = some 2 := ⟨by decide +kernel, by decide +kernel⟩
theorem v_1987 : lw_tbl[1987]? = some (.code yX8_addWish cX8_addWish 3 ((some .int))) := by decide +kernel
theorem vy_X8_addWish : (yX8_addWish.cls ≠ "java/lang/invoke/MethodHandle" ∧ yX8_addWish.cls ≠ "java/lang/invoke/VarHandle") ∧ (parseMethodDescriptor yX8_addWish.desc).map (fun d => d.parameters.length) = some 2 := ⟨by decide +kernel, by decide +kernel⟩
theorem v_2011 : lw_tbl[2011]? = some (.code yX8_setReserveNow cX8_setReserveNow 4 ((some .int))) := by decide +kernel
theorem vy_X8_setReserveNow : (yX8_setReserveNow.cls ≠ "java/lang/invoke/MethodHandle" ∧ yX8_setReserveNow.cls ≠ "java/lang/invoke/VarHandle") ∧ (parseMethodDescriptor yX8_setReserveNow.desc).map (fun d => d.parameters.length) = some 2 := ⟨by decide +kernel, by decide +kernel⟩
theorem v_2007 : lw_tbl[2007]? = some (.code yX8_setReserve cX8_setReserve 3 ((some .int))) := by decide +kernel
theorem vy_X8_setReserve : (yX8_setReserve.cls ≠ "java/lang/invoke/MethodHandle" ∧ yX8_setReserve.cls ≠ "java/lang/invoke/VarHandle") ∧ (parseMethodDescriptor yX8_setReserve.desc).map (fun d => d.parameters.length) = some 2 := ⟨by decide +kernel, by decide +kernel⟩
theorem v_2015 : lw_tbl[2015]? = some (.code yX8_wishCount cX8_wishCount 2 ((some .int))) := by decide +kernel
theorem vy_X8_wishCount : (yX8_wishCount.cls ≠ "java/lang/invoke/MethodHandle" ∧ yX8_wishCount.cls ≠ "java/lang/invoke/VarHandle") ∧ (parseMethodDescriptor yX8_wishCount.desc).map (fun d => d.parameters.length) = some 1 := ⟨by decide +kernel, by decide +kernel⟩
theorem v_2019 : lw_tbl[2019]? = some (.code yX8_wishAt cX8_wishAt 3 ((some .int))) := by decide +kernel
theorem vy_X8_wishAt : (yX8_wishAt.cls ≠ "java/lang/invoke/MethodHandle" ∧ yX8_wishAt.cls ≠ "java/lang/invoke/VarHandle") ∧ (parseMethodDescriptor yX8_wishAt.desc).map (fun d => d.parameters.length) = some 2 := ⟨by decide +kernel, by decide +kernel⟩
theorem v_2023 : lw_tbl[2023]? = some (.code yX8_reserveOf cX8_reserveOf 2 ((some .int))) := by decide +kernel
theorem vy_X8_reserveOf : (yX8_reserveOf.cls ≠ "java/lang/invoke/MethodHandle" ∧ yX8_reserveOf.cls ≠ "java/lang/invoke/VarHandle") ∧ (parseMethodDescriptor yX8_reserveOf.desc).map (fun d => d.parameters.length) = some 1 := ⟨by decide +kernel, by decide +kernel⟩
theorem v_2027 : lw_tbl[2027]? = some (.code yX8_subjectIn cX8_subjectIn 3 ((some .int))) := by decide +kernel
theorem vy_X8_subjectIn : (yX8_subjectIn.cls ≠ "java/lang/invoke/MethodHandle" ∧ yX8_subjectIn.cls ≠ "java/lang/invoke/VarHandle") ∧ (parseMethodDescriptor yX8_subjectIn.desc).map (fun d => d.parameters.length) = some 2 := ⟨by decide +kernel, by decide +kernel⟩
theorem v_2031 : lw_tbl[2031]? = some (.code yX8_blockOf cX8_blockOf 3 ((some .int))) := by decide +kernel
theorem vy_X8_blockOf : (yX8_blockOf.cls ≠ "java/lang/invoke/MethodHandle" ∧ yX8_blockOf.cls ≠ "java/lang/invoke/VarHandle") ∧ (parseMethodDescriptor yX8_blockOf.desc).map (fun d => d.parameters.length) = some 2 := ⟨by decide +kernel, by decide +kernel⟩
theorem v_2059 : lw_tbl[2059]? = some (.code yX8_hasRoom cX8_hasRoom 5 ((some .boolean))) := by decide +kernel
theorem vy_X8_hasRoom : (yX8_hasRoom.cls ≠ "java/lang/invoke/MethodHandle" ∧ yX8_hasRoom.cls ≠ "java/lang/invoke/VarHandle") ∧ (parseMethodDescriptor yX8_hasRoom.desc).map (fun d => d.parameters.length) = some 3 := ⟨by decide +kernel, by decide +kernel⟩
theorem v_2055 : lw_tbl[2055]? = some (.code yX8_worth cX8_worth 6 ((some .int))) := by decide +kernel
theorem vy_X8_worth : (yX8_worth.cls ≠ "java/lang/invoke/MethodHandle" ∧ yX8_worth.cls ≠ "java/lang/invoke/VarHandle") ∧ (parseMethodDescriptor yX8_worth.desc).map (fun d => d.parameters.length) = some 1 := ⟨by decide +kernel, by decide +kernel⟩
theorem v_2063 : lw_tbl[2063]? = some (.code yX8_lacksWish cX8_lacksWish 4 ((some .boolean))) := by decide +kernel
theorem vy_X8_lacksWish : (yX8_lacksWish.cls ≠ "java/lang/invoke/MethodHandle" ∧ yX8_lacksWish.cls ≠ "java/lang/invoke/VarHandle") ∧ (parseMethodDescriptor yX8_lacksWish.desc).map (fun d => d.parameters.length) = some 1 := ⟨by decide +kernel, by decide +kernel⟩
theorem v_2051 : lw_tbl[2051]? = some (.code yX8_findsPlacement cX8_findsPlacement 6 none) := by decide +kernel
theorem vy_X8_findsPlacement : (yX8_findsPlacement.cls ≠ "java/lang/invoke/MethodHandle" ∧ yX8_findsPlacement.cls ≠ "java/lang/invoke/VarHandle") ∧ (parseMethodDescriptor yX8_findsPlacement.desc).map (fun d => d.parameters.length) = some 1 := ⟨by decide +kernel, by decide +kernel⟩
theorem v_2043 : lw_tbl[2043]? = some (.code yX8_enrolNow cX8_enrolNow 3 ((some .int))) := by decide +kernel
theorem vy_X8_enrolNow : (yX8_enrolNow.cls ≠ "java/lang/invoke/MethodHandle" ∧ yX8_enrolNow.cls ≠ "java/lang/invoke/VarHandle") ∧ (parseMethodDescriptor yX8_enrolNow.desc).map (fun d => d.parameters.length) = some 1 := ⟨by decide +kernel, by decide +kernel⟩
theorem v_2039 : lw_tbl[2039]? = some (.code yX8_enrol cX8_enrol 2 ((some .int))) := by decide +kernel
theorem vy_X8_enrol : (yX8_enrol.cls ≠ "java/lang/invoke/MethodHandle" ∧ yX8_enrol.cls ≠ "java/lang/invoke/VarHandle") ∧ (parseMethodDescriptor yX8_enrol.desc).map (fun d => d.parameters.length) = some 1 := ⟨by decide +kernel, by decide +kernel⟩
theorem v_2071 : lw_tbl[2071]? = some (.code yX8_isServed cX8_isServed 4 ((some .boolean))) := by decide +kernel
theorem vy_X8_isServed : (yX8_isServed.cls ≠ "java/lang/invoke/MethodHandle" ∧ yX8_isServed.cls ≠ "java/lang/invoke/VarHandle") ∧ (parseMethodDescriptor yX8_isServed.desc).map (fun d => d.parameters.length) = some 1 := ⟨by decide +kernel, by decide +kernel⟩
theorem v_2067 : lw_tbl[2067]? = some (.code yX8_enrolAll cX8_enrolAll 4 ((some .int))) := by decide +kernel
theorem vy_X8_enrolAll : (yX8_enrolAll.cls ≠ "java/lang/invoke/MethodHandle" ∧ yX8_enrolAll.cls ≠ "java/lang/invoke/VarHandle") ∧ (parseMethodDescriptor yX8_enrolAll.desc).map (fun d => d.parameters.length) = some 0 := ⟨by decide +kernel, by decide +kernel⟩
theorem v_2079 : lw_tbl[2079]? = some (.code yX8_withdrawNow cX8_withdrawNow 4 ((some .int))) := by decide +kernel
theorem vy_X8_withdrawNow : (yX8_withdrawNow.cls ≠ "java/lang/invoke/MethodHandle" ∧ yX8_withdrawNow.cls ≠ "java/lang/invoke/VarHandle") ∧ (parseMethodDescriptor yX8_withdrawNow.desc).map (fun d => d.parameters.length) = some 1 := ⟨by decide +kernel, by decide +kernel⟩
theorem v_2075 : lw_tbl[2075]? = some (.code yX8_withdraw cX8_withdraw 2 ((some .int))) := by decide +kernel
theorem vy_X8_withdraw : (yX8_withdraw.cls ≠ "java/lang/invoke/MethodHandle" ∧ yX8_withdraw.cls ≠ "java/lang/invoke/VarHandle") ∧ (parseMethodDescriptor yX8_withdraw.desc).map (fun d => d.parameters.length) = some 1 := ⟨by decide +kernel, by decide +kernel⟩
theorem v_2083 : lw_tbl[2083]? = some (.code yX8_bestValue cX8_bestValue 2 ((some .int))) := by decide +kernel
theorem vy_X8_bestValue : (yX8_bestValue.cls ≠ "java/lang/invoke/MethodHandle" ∧ yX8_bestValue.cls ≠ "java/lang/invoke/VarHandle") ∧ (parseMethodDescriptor yX8_bestValue.desc).map (fun d => d.parameters.length) = some 1 := ⟨by decide +kernel, by decide +kernel⟩
theorem v_2091 : lw_tbl[2091]? = some (.code yX8_canPlace cX8_canPlace 6 ((some .boolean))) := by decide +kernel
theorem vy_X8_canPlace : (yX8_canPlace.cls ≠ "java/lang/invoke/MethodHandle" ∧ yX8_canPlace.cls ≠ "java/lang/invoke/VarHandle") ∧ (parseMethodDescriptor yX8_canPlace.desc).map (fun d => d.parameters.length) = some 3 := ⟨by decide +kernel, by decide +kernel⟩
theorem v_2095 : lw_tbl[2095]? = some (.code yX8_more cX8_more 9 ((some .int))) := by decide +kernel
theorem vy_X8_more : (yX8_more.cls ≠ "java/lang/invoke/MethodHandle" ∧ yX8_more.cls ≠ "java/lang/invoke/VarHandle") ∧ (parseMethodDescriptor yX8_more.desc).map (fun d => d.parameters.length) = some 4 := ⟨by decide +kernel, by decide +kernel⟩
theorem v_2087 : lw_tbl[2087]? = some (.code yX8_bestValueBySets cX8_bestValueBySets 5 ((some .int))) := by decide +kernel
theorem vy_X8_bestValueBySets : (yX8_bestValueBySets.cls ≠ "java/lang/invoke/MethodHandle" ∧ yX8_bestValueBySets.cls ≠ "java/lang/invoke/VarHandle") ∧ (parseMethodDescriptor yX8_bestValueBySets.desc).map (fun d => d.parameters.length) = some 1 := ⟨by decide +kernel, by decide +kernel⟩
theorem v_2103 : lw_tbl[2103]? = some (.code yX8_isServable cX8_isServable 2 ((some .boolean))) := by decide +kernel
theorem vy_X8_isServable : (yX8_isServable.cls ≠ "java/lang/invoke/MethodHandle" ∧ yX8_isServable.cls ≠ "java/lang/invoke/VarHandle") ∧ (parseMethodDescriptor yX8_isServable.desc).map (fun d => d.parameters.length) = some 1 := ⟨by decide +kernel, by decide +kernel⟩
theorem v_2099 : lw_tbl[2099]? = some (.code yX8_canServe cX8_canServe 2 ((some .boolean))) := by decide +kernel
theorem vy_X8_canServe : (yX8_canServe.cls ≠ "java/lang/invoke/MethodHandle" ∧ yX8_canServe.cls ≠ "java/lang/invoke/VarHandle") ∧ (parseMethodDescriptor yX8_canServe.desc).map (fun d => d.parameters.length) = some 1 := ⟨by decide +kernel, by decide +kernel⟩
theorem v_2107 : lw_tbl[2107]? = some (.code yX8_canServeByCounting cX8_canServeByCounting 9 ((some .boolean))) := by decide +kernel
theorem vy_X8_canServeByCounting : (yX8_canServeByCounting.cls ≠ "java/lang/invoke/MethodHandle" ∧ yX8_canServeByCounting.cls ≠ "java/lang/invoke/VarHandle") ∧ (parseMethodDescriptor yX8_canServeByCounting.desc).map (fun d => d.parameters.length) = some 1 := ⟨by decide +kernel, by decide +kernel⟩
theorem v_2111 : lw_tbl[2111]? = some (.code yX8_servedCount cX8_servedCount 3 ((some .int))) := by decide +kernel
theorem vy_X8_servedCount : (yX8_servedCount.cls ≠ "java/lang/invoke/MethodHandle" ∧ yX8_servedCount.cls ≠ "java/lang/invoke/VarHandle") ∧ (parseMethodDescriptor yX8_servedCount.desc).map (fun d => d.parameters.length) = some 0 := ⟨by decide +kernel, by decide +kernel⟩
theorem v_2115 : lw_tbl[2115]? = some (.code yX8_meanClassSize cX8_meanClassSize 4 ((some .double))) := by decide +kernel
theorem vy_X8_meanClassSize : (yX8_meanClassSize.cls ≠ "java/lang/invoke/MethodHandle" ∧ yX8_meanClassSize.cls ≠ "java/lang/invoke/VarHandle") ∧ (parseMethodDescriptor yX8_meanClassSize.desc).map (fun d => d.parameters.length) = some 0 := ⟨by decide +kernel, by decide +kernel⟩
theorem v_2139 : lw_tbl[2139]? = some (.code yX8_mover cX8_mover 5 ((some .int))) := by decide +kernel
theorem vy_X8_mover : (yX8_mover.cls ≠ "java/lang/invoke/MethodHandle" ∧ yX8_mover.cls ≠ "java/lang/invoke/VarHandle") ∧ (parseMethodDescriptor yX8_mover.desc).map (fun d => d.parameters.length) = some 3 := ⟨by decide +kernel, by decide +kernel⟩
theorem v_2135 : lw_tbl[2135]? = some (.code yX8_isEntry cX8_isEntry 4 ((some .boolean))) := by decide +kernel
theorem vy_X8_isEntry : (yX8_isEntry.cls ≠ "java/lang/invoke/MethodHandle" ∧ yX8_isEntry.cls ≠ "java/lang/invoke/VarHandle") ∧ (parseMethodDescriptor yX8_isEntry.desc).map (fun d => d.parameters.length) = some 3 := ⟨by decide +kernel, by decide +kernel⟩
theorem v_2131 : lw_tbl[2131]? = some (.code yX8_isChain cX8_isChain 5 ((some .boolean))) := by decide +kernel
theorem vy_X8_isChain : (yX8_isChain.cls ≠ "java/lang/invoke/MethodHandle" ∧ yX8_isChain.cls ≠ "java/lang/invoke/VarHandle") ∧ (parseMethodDescriptor yX8_isChain.desc).map (fun d => d.parameters.length) = some 3 := ⟨by decide +kernel, by decide +kernel⟩
theorem v_2127 : lw_tbl[2127]? = some (.code yX8_findsChain cX8_findsChain 6 ((some .int))) := by decide +kernel
theorem vy_X8_findsChain : (yX8_findsChain.cls ≠ "java/lang/invoke/MethodHandle" ∧ yX8_findsChain.cls ≠ "java/lang/invoke/VarHandle") ∧ (parseMethodDescriptor yX8_findsChain.desc).map (fun d => d.parameters.length) = some 2 := ⟨by decide +kernel, by decide +kernel⟩
theorem v_2123 : lw_tbl[2123]? = some (.code yX8_asksMoves cX8_asksMoves 4 ((some .int))) := by decide +kernel
theorem vy_X8_asksMoves : (yX8_asksMoves.cls ≠ "java/lang/invoke/MethodHandle" ∧ yX8_asksMoves.cls ≠ "java/lang/invoke/VarHandle") ∧ (parseMethodDescriptor yX8_asksMoves.desc).map (fun d => d.parameters.length) = some 2 := ⟨by decide +kernel, by decide +kernel⟩
theorem v_2119 : lw_tbl[2119]? = some (.code yX8_movesFor cX8_movesFor 3 ((some .int))) := by decide +kernel
theorem vy_X8_movesFor : (yX8_movesFor.cls ≠ "java/lang/invoke/MethodHandle" ∧ yX8_movesFor.cls ≠ "java/lang/invoke/VarHandle") ∧ (parseMethodDescriptor yX8_movesFor.desc).map (fun d => d.parameters.length) = some 2 := ⟨by decide +kernel, by decide +kernel⟩
theorem v_2143 : lw_tbl[2143]? = some (.code yX8_movesByTrial cX8_movesByTrial 3 ((some .int))) := by decide +kernel
theorem vy_X8_movesByTrial : (yX8_movesByTrial.cls ≠ "java/lang/invoke/MethodHandle" ∧ yX8_movesByTrial.cls ≠ "java/lang/invoke/VarHandle") ∧ (parseMethodDescriptor yX8_movesByTrial.desc).map (fun d => d.parameters.length) = some 2 := ⟨by decide +kernel, by decide +kernel⟩
theorem v_2155 : lw_tbl[2155]? = some (.code yX8_whyRefused cX8_whyRefused 5 ((some .int))) := by decide +kernel
theorem vy_X8_whyRefused : (yX8_whyRefused.cls ≠ "java/lang/invoke/MethodHandle" ∧ yX8_whyRefused.cls ≠ "java/lang/invoke/VarHandle") ∧ (parseMethodDescriptor yX8_whyRefused.desc).map (fun d => d.parameters.length) = some 2 := ⟨by decide +kernel, by decide +kernel⟩
theorem v_2151 : lw_tbl[2151]? = some (.code yX8_joinNow cX8_joinNow 6 ((some .int))) := by decide +kernel
theorem vy_X8_joinNow : (yX8_joinNow.cls ≠ "java/lang/invoke/MethodHandle" ∧ yX8_joinNow.cls ≠ "java/lang/invoke/VarHandle") ∧ (parseMethodDescriptor yX8_joinNow.desc).map (fun d => d.parameters.length) = some 2 := ⟨by decide +kernel, by decide +kernel⟩
theorem v_2147 : lw_tbl[2147]? = some (.code yX8_join cX8_join 3 ((some .int))) := by decide +kernel
theorem vy_X8_join : (yX8_join.cls ≠ "java/lang/invoke/MethodHandle" ∧ yX8_join.cls ≠ "java/lang/invoke/VarHandle") ∧ (parseMethodDescriptor yX8_join.desc).map (fun d => d.parameters.length) = some 2 := ⟨by decide +kernel, by decide +kernel⟩
theorem v_2163 : lw_tbl[2163]? = some (.code yX8_quitNow cX8_quitNow 4 ((some .int))) := by decide +kernel
theorem vy_X8_quitNow : (yX8_quitNow.cls ≠ "java/lang/invoke/MethodHandle" ∧ yX8_quitNow.cls ≠ "java/lang/invoke/VarHandle") ∧ (parseMethodDescriptor yX8_quitNow.desc).map (fun d => d.parameters.length) = some 2 := ⟨by decide +kernel, by decide +kernel⟩
theorem v_2159 : lw_tbl[2159]? = some (.code yX8_quit cX8_quit 3 ((some .int))) := by decide +kernel
theorem vy_X8_quit : (yX8_quit.cls ≠ "java/lang/invoke/MethodHandle" ∧ yX8_quit.cls ≠ "java/lang/invoke/VarHandle") ∧ (parseMethodDescriptor yX8_quit.desc).map (fun d => d.parameters.length) = some 2 := ⟨by decide +kernel, by decide +kernel⟩
theorem v_2171 : lw_tbl[2171]? = some (.code yX8_changeNow cX8_changeNow 6 ((some .int))) := by decide +kernel
theorem vy_X8_changeNow : (yX8_changeNow.cls ≠ "java/lang/invoke/MethodHandle" ∧ yX8_changeNow.cls ≠ "java/lang/invoke/VarHandle") ∧ (parseMethodDescriptor yX8_changeNow.desc).map (fun d => d.parameters.length) = some 3 := ⟨by decide +kernel, by decide +kernel⟩
theorem v_2167 : lw_tbl[2167]? = some (.code yX8_change cX8_change 4 ((some .int))) := by decide +kernel
theorem vy_X8_change : (yX8_change.cls ≠ "java/lang/invoke/MethodHandle" ∧ yX8_change.cls ≠ "java/lang/invoke/VarHandle") ∧ (parseMethodDescriptor yX8_change.desc).map (fun d => d.parameters.length) = some 3 := ⟨by decide +kernel, by decide +kernel⟩
theorem v_2175 : lw_tbl[2175]? = some (.code yX8_refusalReason cX8_refusalReason 1 ((some .int))) := by decide +kernel
theorem vy_X8_refusalReason : (yX8_refusalReason.cls ≠ "java/lang/invoke/MethodHandle" ∧ yX8_refusalReason.cls ≠ "java/lang/invoke/VarHandle") ∧ (parseMethodDescriptor yX8_refusalReason.desc).map (fun d => d.parameters.length) = some 0 := ⟨by decide +kernel, by decide +kernel⟩
theorem v_2179 : lw_tbl[2179]? = some (.code yX8_chainMoves cX8_chainMoves 1 ((some .int))) := by decide +kernel
theorem vy_X8_chainMoves : (yX8_chainMoves.cls ≠ "java/lang/invoke/MethodHandle" ∧ yX8_chainMoves.cls ≠ "java/lang/invoke/VarHandle") ∧ (parseMethodDescriptor yX8_chainMoves.desc).map (fun d => d.parameters.length) = some 0 := ⟨by decide +kernel, by decide +kernel⟩
theorem v_2183 : lw_tbl[2183]? = some (.code yX8_chainPupil cX8_chainPupil 2 ((some .int))) := by decide +kernel
theorem vy_X8_chainPupil : (yX8_chainPupil.cls ≠ "java/lang/invoke/MethodHandle" ∧ yX8_chainPupil.cls ≠ "java/lang/invoke/VarHandle") ∧ (parseMethodDescriptor yX8_chainPupil.desc).map (fun d => d.parameters.length) = some 1 := ⟨by decide +kernel, by decide +kernel⟩
theorem v_2187 : lw_tbl[2187]? = some (.code yX8_chainBlock cX8_chainBlock 2 ((some .int))) := by decide +kernel
theorem vy_X8_chainBlock : (yX8_chainBlock.cls ≠ "java/lang/invoke/MethodHandle" ∧ yX8_chainBlock.cls ≠ "java/lang/invoke/VarHandle") ∧ (parseMethodDescriptor yX8_chainBlock.desc).map (fun d => d.parameters.length) = some 1 := ⟨by decide +kernel, by decide +kernel⟩
theorem v_2199 : lw_tbl[2199]? = some (.code yX8_common cX8_common 5 ((some .int))) := by decide +kernel
theorem vy_X8_common : (yX8_common.cls ≠ "java/lang/invoke/MethodHandle" ∧ yX8_common.cls ≠ "java/lang/invoke/VarHandle") ∧ (parseMethodDescriptor yX8_common.desc).map (fun d => d.parameters.length) = some 2 := ⟨by decide +kernel, by decide +kernel⟩
theorem v_2195 : lw_tbl[2195]? = some (.code yX8_wrongPair cX8_wrongPair 3 ((some .int))) := by decide +kernel
theorem vy_X8_wrongPair : (yX8_wrongPair.cls ≠ "java/lang/invoke/MethodHandle" ∧ yX8_wrongPair.cls ≠ "java/lang/invoke/VarHandle") ∧ (parseMethodDescriptor yX8_wrongPair.desc).map (fun d => d.parameters.length) = some 2 := ⟨by decide +kernel, by decide +kernel⟩
theorem v_2191 : lw_tbl[2191]? = some (.code yX8_commonWishes cX8_commonWishes 3 ((some .int))) := by decide +kernel
theorem vy_X8_commonWishes : (yX8_commonWishes.cls ≠ "java/lang/invoke/MethodHandle" ∧ yX8_commonWishes.cls ≠ "java/lang/invoke/VarHandle") ∧ (parseMethodDescriptor yX8_commonWishes.desc).map (fun d => d.parameters.length) = some 2 := ⟨by decide +kernel, by decide +kernel⟩
theorem v_2207 : lw_tbl[2207]? = some (.code yX8_clash cX8_clash 5 ((some .boolean))) := by decide +kernel
theorem vy_X8_clash : (yX8_clash.cls ≠ "java/lang/invoke/MethodHandle" ∧ yX8_clash.cls ≠ "java/lang/invoke/VarHandle") ∧ (parseMethodDescriptor yX8_clash.desc).map (fun d => d.parameters.length) = some 2 := ⟨by decide +kernel, by decide +kernel⟩
theorem v_2203 : lw_tbl[2203]? = some (.code yX8_doClash cX8_doClash 3 ((some .boolean))) := by decide +kernel
theorem vy_X8_doClash : (yX8_doClash.cls ≠ "java/lang/invoke/MethodHandle" ∧ yX8_doClash.cls ≠ "java/lang/invoke/VarHandle") ∧ (parseMethodDescriptor yX8_doClash.desc).map (fun d => d.parameters.length) = some 2 := ⟨by decide +kernel, by decide +kernel⟩
theorem v_2211 : lw_tbl[2211]? = some (.code yX8_clashCount cX8_clashCount 5 ((some .int))) := by decide +kernel
theorem vy_X8_clashCount : (yX8_clashCount.cls ≠ "java/lang/invoke/MethodHandle" ∧ yX8_clashCount.cls ≠ "java/lang/invoke/VarHandle") ∧ (parseMethodDescriptor yX8_clashCount.desc).map (fun d => d.parameters.length) = some 0 := ⟨by decide +kernel, by decide +kernel⟩
theorem v_2219 : lw_tbl[2219]? = some (.code yX8_findsArrangement cX8_findsArrangement 9 ((some .int))) := by decide +kernel
theorem vy_X8_findsArrangement : (yX8_findsArrangement.cls ≠ "java/lang/invoke/MethodHandle" ∧ yX8_findsArrangement.cls ≠ "java/lang/invoke/VarHandle") ∧ (parseMethodDescriptor yX8_findsArrangement.desc).map (fun d => d.parameters.length) = some 0 := ⟨by decide +kernel, by decide +kernel⟩
theorem v_2215 : lw_tbl[2215]? = some (.code yX8_leastClashes cX8_leastClashes 1 ((some .int))) := by decide +kernel
theorem vy_X8_leastClashes : (yX8_leastClashes.cls ≠ "java/lang/invoke/MethodHandle" ∧ yX8_leastClashes.cls ≠ "java/lang/invoke/VarHandle") ∧ (parseMethodDescriptor yX8_leastClashes.desc).map (fun d => d.parameters.length) = some 0 := ⟨by decide +kernel, by decide +kernel⟩
theorem v_2223 : lw_tbl[2223]? = some (.code yX8_leastClashesByTrial cX8_leastClashesByTrial 1 ((some .int))) := by decide +kernel
theorem vy_X8_leastClashesByTrial : (yX8_leastClashesByTrial.cls ≠ "java/lang/invoke/MethodHandle" ∧ yX8_leastClashesByTrial.cls ≠ "java/lang/invoke/VarHandle") ∧ (parseMethodDescriptor yX8_leastClashesByTrial.desc).map (fun d => d.parameters.length) = some 0 := ⟨by decide +kernel, by decide +kernel⟩
theorem v_2231 : lw_tbl[2231]? = some (.code yX8_arrangeNow cX8_arrangeNow 4 ((some .int))) := by decide +kernel
theorem vy_X8_arrangeNow : (yX8_arrangeNow.cls ≠ "java/lang/invoke/MethodHandle" ∧ yX8_arrangeNow.cls ≠ "java/lang/invoke/VarHandle") ∧ (parseMethodDescriptor yX8_arrangeNow.desc).map (fun d => d.parameters.length) = some 0 := ⟨by decide +kernel, by decide +kernel⟩
theorem v_2227 : lw_tbl[2227]? = some (.code yX8_arrange cX8_arrange 1 ((some .int))) := by decide +kernel
theorem vy_X8_arrange : (yX8_arrange.cls ≠ "java/lang/invoke/MethodHandle" ∧ yX8_arrange.cls ≠ "java/lang/invoke/VarHandle") ∧ (parseMethodDescriptor yX8_arrange.desc).map (fun d => d.parameters.length) = some 0 := ⟨by decide +kernel, by decide +kernel⟩
theorem v_2239 : lw_tbl[2239]? = some (.code yX8_writes cX8_writes 2 none) := by decide +kernel
theorem vy_X8_writes : (yX8_writes.cls ≠ "java/lang/invoke/MethodHandle" ∧ yX8_writes.cls ≠ "java/lang/invoke/VarHandle") ∧ (parseMethodDescriptor yX8_writes.desc).map (fun d => d.parameters.length) = some 1 := ⟨by decide +kernel, by decide +kernel⟩
theorem v_2235 : lw_tbl[2235]? = some (.code yX8_writeTimetable cX8_writeTimetable 4 ((some .int))) := by decide +kernel
theorem vy_X8_writeTimetable : (yX8_writeTimetable.cls ≠ "java/lang/invoke/MethodHandle" ∧ yX8_writeTimetable.cls ≠ "java/lang/invoke/VarHandle") ∧ (parseMethodDescriptor yX8_writeTimetable.desc).map (fun d => d.parameters.length) = some 1 := ⟨by decide +kernel, by decide +kernel⟩
theorem v_2243 : lw_tbl[2243]? = some (.code yX8_lineAt cX8_lineAt 2 ((some .char))) := by decide +kernel
theorem vy_X8_lineAt : (yX8_lineAt.cls ≠ "java/lang/invoke/MethodHandle" ∧ yX8_lineAt.cls ≠ "java/lang/invoke/VarHandle") ∧ (parseMethodDescriptor yX8_lineAt.desc).map (fun d => d.parameters.length) = some 1 := ⟨by decide +kernel, by decide +kernel⟩
theorem v_2247 : lw_tbl[2247]? = some (.code yX8_type cX8_type 2 ((some .int))) := by decide +kernel
theorem vy_X8_type : (yX8_type.cls ≠ "java/lang/invoke/MethodHandle" ∧ yX8_type.cls ≠ "java/lang/invoke/VarHandle") ∧ (parseMethodDescriptor yX8_type.desc).map (fun d => d.parameters.length) = some 1 := ⟨by decide +kernel, by decide +kernel⟩
theorem v_2265 : lw_tbl[2265]? = some (.code yX8_isDigit cX8_isDigit 2 ((some .boolean))) := by decide +kernel
theorem vy_X8_isDigit : (yX8_isDigit.cls ≠ "java/lang/invoke/MethodHandle" ∧ yX8_isDigit.cls ≠ "java/lang/invoke/VarHandle") ∧ (parseMethodDescriptor yX8_isDigit.desc).map (fun d => d.parameters.length) = some 1 := ⟨by decide +kernel, by decide +kernel⟩
theorem v_2259 : lw_tbl[2259]? = some (.code yX8_reads cX8_reads 8 ((some .boolean))) := by decide +kernel
theorem vy_X8_reads : (yX8_reads.cls ≠ "java/lang/invoke/MethodHandle" ∧ yX8_reads.cls ≠ "java/lang/invoke/VarHandle") ∧ (parseMethodDescriptor yX8_reads.desc).map (fun d => d.parameters.length) = some 2 := ⟨by decide +kernel, by decide +kernel⟩
theorem v_2255 : lw_tbl[2255]? = some (.code yX8_parses cX8_parses 5 ((some .int))) := by decide +kernel
theorem vy_X8_parses : (yX8_parses.cls ≠ "java/lang/invoke/MethodHandle" ∧ yX8_parses.cls ≠ "java/lang/invoke/VarHandle") ∧ (parseMethodDescriptor yX8_parses.desc).map (fun d => d.parameters.length) = some 0 := ⟨by decide +kernel, by decide +kernel⟩
theorem v_2269 : lw_tbl[2269]? = some (.code yX8_acts cX8_acts 5 ((some .int))) := by decide +kernel
theorem vy_X8_acts : (yX8_acts.cls ≠ "java/lang/invoke/MethodHandle" ∧ yX8_acts.cls ≠ "java/lang/invoke/VarHandle") ∧ (parseMethodDescriptor yX8_acts.desc).map (fun d => d.parameters.length) = some 4 := ⟨by decide +kernel, by decide +kernel⟩
theorem v_2251 : lw_tbl[2251]? = some (.code yX8_execute cX8_execute 4 ((some .int))) := by decide +kernel
theorem vy_X8_execute : (yX8_execute.cls ≠ "java/lang/invoke/MethodHandle" ∧ yX8_execute.cls ≠ "java/lang/invoke/VarHandle") ∧ (parseMethodDescriptor yX8_execute.desc).map (fun d => d.parameters.length) = some 0 := ⟨by decide +kernel, by decide +kernel⟩
theorem v_2273 : lw_tbl[2273]? = some (.code yX8_errorPosition cX8_errorPosition 1 ((some .int))) := by decide +kernel
theorem vy_X8_errorPosition : (yX8_errorPosition.cls ≠ "java/lang/invoke/MethodHandle" ∧ yX8_errorPosition.cls ≠ "java/lang/invoke/VarHandle") ∧ (parseMethodDescriptor yX8_errorPosition.desc).map (fun d => d.parameters.length) = some 0 := ⟨by decide +kernel, by decide +kernel⟩
theorem v_2277 : lw_tbl[2277]? = some (.code yX8_failedCommand cX8_failedCommand 1 ((some .int))) := by decide +kernel
theorem vy_X8_failedCommand : (yX8_failedCommand.cls ≠ "java/lang/invoke/MethodHandle" ∧ yX8_failedCommand.cls ≠ "java/lang/invoke/VarHandle") ∧ (parseMethodDescriptor yX8_failedCommand.desc).map (fun d => d.parameters.length) = some 0 := ⟨by decide +kernel, by decide +kernel⟩
theorem v_2281 : lw_tbl[2281]? = some (.code yX8_failureKind cX8_failureKind 1 ((some .int))) := by decide +kernel
theorem vy_X8_failureKind : (yX8_failureKind.cls ≠ "java/lang/invoke/MethodHandle" ∧ yX8_failureKind.cls ≠ "java/lang/invoke/VarHandle") ∧ (parseMethodDescriptor yX8_failureKind.desc).map (fun d => d.parameters.length) = some 0 := ⟨by decide +kernel, by decide +kernel⟩
theorem v_312 : lw_tbl[312]? = some (.code yJ5_init_d00df cJ5_init_d00df 2 none) := by decide +kernel
theorem vy_J5_init_d00df : (yJ5_init_d00df.cls ≠ "java/lang/invoke/MethodHandle" ∧ yJ5_init_d00df.cls ≠ "java/lang/invoke/VarHandle") ∧ (parseMethodDescriptor yJ5_init_d00df.desc).map (fun d => d.parameters.length) = some 1 := ⟨by decide +kernel, by decide +kernel⟩
theorem v_1478 : lw_tbl[1478]? = some (.code yJ5_length_8abf5 cJ5_length_8abf5 1 ((some .int))) := by decide +kernel
theorem vy_J5_length_8abf5 : (yJ5_length_8abf5.cls ≠ "java/lang/invoke/MethodHandle" ∧ yJ5_length_8abf5.cls ≠ "java/lang/invoke/VarHandle") ∧ (parseMethodDescriptor yJ5_length_8abf5.desc).map (fun d => d.parameters.length) = some 0 := ⟨by decide +kernel, by decide +kernel⟩
theorem v_1329 : lw_tbl[1329]? = some (.code yJ5_ensureCapacityInternal_d00df cJ5_ensureCapacityInternal_d00df 3 none) := by decide +kernel
theorem vy_J5_ensureCapacityInternal_d00df : (yJ5_ensureCapacityInternal_d00df.cls ≠ "java/lang/invoke/MethodHandle" ∧ yJ5_ensureCapacityInternal_d00df.cls ≠ "java/lang/invoke/VarHandle") ∧ (parseMethodDescriptor yJ5_ensureCapacityInternal_d00df.desc).map (fun d => d.parameters.length) = some 1 := ⟨by decide +kernel, by decide +kernel⟩
theorem v_1333 : lw_tbl[1333]? = some (.code yJ5_newCapacity_0f7a4 cJ5_newCapacity_0f7a4 6 ((some .int))) := by decide +kernel
theorem vy_J5_newCapacity_0f7a4 : (yJ5_newCapacity_0f7a4.cls ≠ "java/lang/invoke/MethodHandle" ∧ yJ5_newCapacity_0f7a4.cls ≠ "java/lang/invoke/VarHandle") ∧ (parseMethodDescriptor yJ5_newCapacity_0f7a4.desc).map (fun d => d.parameters.length) = some 1 := ⟨by decide +kernel, by decide +kernel⟩
theorem v_1407 : lw_tbl[1407]? = some (.code yJ5_inflate_da8c8 cJ5_inflate_da8c8 2 none) := by decide +kernel
theorem vy_J5_inflate_da8c8 : (yJ5_inflate_da8c8.cls ≠ "java/lang/invoke/MethodHandle" ∧ yJ5_inflate_da8c8.cls ≠ "java/lang/invoke/VarHandle") ∧ (parseMethodDescriptor yJ5_inflate_da8c8.desc).map (fun d => d.parameters.length) = some 0 := ⟨by decide +kernel, by decide +kernel⟩
theorem v_1306 : lw_tbl[1306]? = some (.code yJ5_setLength_d00df cJ5_setLength_d00df 2 none) := by decide +kernel
theorem vy_J5_setLength_d00df : (yJ5_setLength_d00df.cls ≠ "java/lang/invoke/MethodHandle" ∧ yJ5_setLength_d00df.cls ≠ "java/lang/invoke/VarHandle") ∧ (parseMethodDescriptor yJ5_setLength_d00df.desc).map (fun d => d.parameters.length) = some 1 := ⟨by decide +kernel, by decide +kernel⟩
theorem v_1592 : lw_tbl[1592]? = some (.code yJ5_charAt_5068e cJ5_charAt_5068e 5 ((some .char))) := by decide +kernel
theorem vy_J5_charAt_5068e : (yJ5_charAt_5068e.cls ≠ "java/lang/invoke/MethodHandle" ∧ yJ5_charAt_5068e.cls ≠ "java/lang/invoke/VarHandle") ∧ (parseMethodDescriptor yJ5_charAt_5068e.desc).map (fun d => d.parameters.length) = some 1 := ⟨by decide +kernel, by decide +kernel⟩
theorem v_1321 : lw_tbl[1321]? = some (.code yJ5_append_cf1ce cJ5_append_cf1ce 3 ((some (.object "java/lang/AbstractStringBuilder")))) := by decide +kernel
theorem vy_J5_append_cf1ce : (yJ5_append_cf1ce.cls ≠ "java/lang/invoke/MethodHandle" ∧ yJ5_append_cf1ce.cls ≠ "java/lang/invoke/VarHandle") ∧ (parseMethodDescriptor yJ5_append_cf1ce.desc).map (fun d => d.parameters.length) = some 1 := ⟨by decide +kernel, by decide +kernel⟩
theorem v_1325 : lw_tbl[1325]? = some (.code yJ5_appendNull_278bc cJ5_appendNull_278bc 3 ((some (.object "java/lang/AbstractStringBuilder")))) := by decide +kernel
theorem vy_J5_appendNull_278bc : (yJ5_appendNull_278bc.cls ≠ "java/lang/invoke/MethodHandle" ∧ yJ5_appendNull_278bc.cls ≠ "java/lang/invoke/VarHandle") ∧ (parseMethodDescriptor yJ5_appendNull_278bc.desc).map (fun d => d.parameters.length) = some 0 := ⟨by decide +kernel, by decide +kernel⟩
theorem v_1558 : lw_tbl[1558]? = some (.code yJ5_append_3fe6f cJ5_append_3fe6f 2 ((some (.object "java/lang/AbstractStringBuilder")))) := by decide +kernel
theorem vy_J5_append_3fe6f : (yJ5_append_3fe6f.cls ≠ "java/lang/invoke/MethodHandle" ∧ yJ5_append_3fe6f.cls ≠ "java/lang/invoke/VarHandle") ∧ (parseMethodDescriptor yJ5_append_3fe6f.desc).map (fun d => d.parameters.length) = some 1 := ⟨by decide +kernel, by decide +kernel⟩
theorem v_1435 : lw_tbl[1435]? = some (.code yJ5_append_c97b9 cJ5_append_c97b9 4 ((some (.object "java/lang/AbstractStringBuilder")))) := by decide +kernel
theorem vy_J5_append_c97b9 : (yJ5_append_c97b9.cls ≠ "java/lang/invoke/MethodHandle" ∧ yJ5_append_c97b9.cls ≠ "java/lang/invoke/VarHandle") ∧ (parseMethodDescriptor yJ5_append_c97b9.desc).map (fun d => d.parameters.length) = some 1 := ⟨by decide +kernel, by decide +kernel⟩
theorem v_1470 : lw_tbl[1470]? = some (.code yJ5_getValue_6d5f1 cJ5_getValue_6d5f1 1 ((some (.array .byte)))) := by decide +kernel
theorem vy_J5_getValue_6d5f1 : (yJ5_getValue_6d5f1.cls ≠ "java/lang/invoke/MethodHandle" ∧ yJ5_getValue_6d5f1.cls ≠ "java/lang/invoke/VarHandle") ∧ (parseMethodDescriptor yJ5_getValue_6d5f1.desc).map (fun d => d.parameters.length) = some 0 := ⟨by decide +kernel, by decide +kernel⟩
theorem v_1359 : lw_tbl[1359]? = some (.code yJ5_isLatin1_aae02 cJ5_isLatin1_aae02 1 ((some .boolean))) := by decide +kernel
theorem vy_J5_isLatin1_aae02 : (yJ5_isLatin1_aae02.cls ≠ "java/lang/invoke/MethodHandle" ∧ yJ5_isLatin1_aae02.cls ≠ "java/lang/invoke/VarHandle") ∧ (parseMethodDescriptor yJ5_isLatin1_aae02.desc).map (fun d => d.parameters.length) = some 0 := ⟨by decide +kernel, by decide +kernel⟩
theorem v_1402 : lw_tbl[1402]? = some (.code yJ5_inflateIfNeededFor_a7421 cJ5_inflateIfNeededFor_a7421 2 none) := by decide +kernel
theorem vy_J5_inflateIfNeededFor_a7421 : (yJ5_inflateIfNeededFor_a7421.cls ≠ "java/lang/invoke/MethodHandle" ∧ yJ5_inflateIfNeededFor_a7421.cls ≠ "java/lang/invoke/VarHandle") ∧ (parseMethodDescriptor yJ5_inflateIfNeededFor_a7421.desc).map (fun d => d.parameters.length) = some 1 := ⟨by decide +kernel, by decide +kernel⟩
theorem v_1398 : lw_tbl[1398]? = some (.code yJ5_putStringAt_47b60 cJ5_putStringAt_47b60 3 none) := by decide +kernel
theorem vy_J5_putStringAt_47b60 : (yJ5_putStringAt_47b60.cls ≠ "java/lang/invoke/MethodHandle" ∧ yJ5_putStringAt_47b60.cls ≠ "java/lang/invoke/VarHandle") ∧ (parseMethodDescriptor yJ5_putStringAt_47b60.desc).map (fun d => d.parameters.length) = some 2 := ⟨by decide +kernel, by decide +kernel⟩
theorem v_899 : lw_tbl[899]? = some (.code yJx00060_init_a7421 cJx00060_init_a7421 2 none) := by decide +kernel
theorem vy_Jx00060_init_a7421 : (yJx00060_init_a7421.cls ≠ "java/lang/invoke/MethodHandle" ∧ yJx00060_init_a7421.cls ≠ "java/lang/invoke/VarHandle") ∧ (parseMethodDescriptor yJx00060_init_a7421.desc).map (fun d => d.parameters.length) = some 1 := ⟨by decide +kernel, by decide +kernel⟩
theorem v_1540 : lw_tbl[1540]? = some (.code yJx00060_init_d00df cJx00060_init_d00df 2 none) := by decide +kernel
theorem vy_Jx00060_init_d00df : (yJx00060_init_d00df.cls ≠ "java/lang/invoke/MethodHandle" ∧ yJx00060_init_d00df.cls ≠ "java/lang/invoke/VarHandle") ∧ (parseMethodDescriptor yJx00060_init_d00df.desc).map (fun d => d.parameters.length) = some 1 := ⟨by decide +kernel, by decide +kernel⟩
theorem v_1441 : lw_tbl[1441]? = some (.code yJ6_getChars_ba4f3 cJ6_getChars_ba4f3 7 ((some .int))) := by decide +kernel
theorem vy_J6_getChars_ba4f3 : (yJ6_getChars_ba4f3.cls ≠ "java/lang/invoke/MethodHandle" ∧ yJ6_getChars_ba4f3.cls ≠ "java/lang/invoke/VarHandle") ∧ (parseMethodDescriptor yJ6_getChars_ba4f3.desc).map (fun d => d.parameters.length) = some 3 := ⟨by decide +kernel, by decide +kernel⟩
theorem v_1438 : lw_tbl[1438]? = some (.code yJ6_stringSize_0f7a4 cJ6_stringSize_0f7a4 4 ((some .int))) := by decide +kernel
theorem vy_J6_stringSize_0f7a4 : (yJ6_stringSize_0f7a4.cls ≠ "java/lang/invoke/MethodHandle" ∧ yJ6_stringSize_0f7a4.cls ≠ "java/lang/invoke/VarHandle") ∧ (parseMethodDescriptor yJ6_stringSize_0f7a4.desc).map (fun d => d.parameters.length) = some 1 := ⟨by decide +kernel, by decide +kernel⟩
theorem v_493 : lw_tbl[493]? = some (.code yJ6_bitCount_0f7a4 cJ6_bitCount_0f7a4 1 ((some .int))) := by decide +kernel
theorem vy_J6_bitCount_0f7a4 : (yJ6_bitCount_0f7a4.cls ≠ "java/lang/invoke/MethodHandle" ∧ yJ6_bitCount_0f7a4.cls ≠ "java/lang/invoke/VarHandle") ∧ (parseMethodDescriptor yJ6_bitCount_0f7a4.desc).map (fun d => d.parameters.length) = some 1 := ⟨by decide +kernel, by decide +kernel⟩
theorem v_931 : lw_tbl[931]? = some (.code yJ9_max_7cf53 cJ9_max_7cf53 2 ((some .int))) := by decide +kernel
theorem vy_J9_max_7cf53 : (yJ9_max_7cf53.cls ≠ "java/lang/invoke/MethodHandle" ∧ yJ9_max_7cf53.cls ≠ "java/lang/invoke/VarHandle") ∧ (parseMethodDescriptor yJ9_max_7cf53.desc).map (fun d => d.parameters.length) = some 2 := ⟨by decide +kernel, by decide +kernel⟩
theorem v_434 : lw_tbl[434]? = some (.code yJ9_min_7cf53 cJ9_min_7cf53 2 ((some .int))) := by decide +kernel
theorem vy_J9_min_7cf53 : (yJ9_min_7cf53.cls ≠ "java/lang/invoke/MethodHandle" ∧ yJ9_min_7cf53.cls ≠ "java/lang/invoke/VarHandle") ∧ (parseMethodDescriptor yJ9_min_7cf53.desc).map (fun d => d.parameters.length) = some 2 := ⟨by decide +kernel, by decide +kernel⟩
theorem v_1461 : lw_tbl[1461]? = some (.code yJ0_init_81219 cJ0_init_81219 2 none) := by decide +kernel
theorem vy_J0_init_81219 : (yJ0_init_81219.cls ≠ "java/lang/invoke/MethodHandle" ∧ yJ0_init_81219.cls ≠ "java/lang/invoke/VarHandle") ∧ (parseMethodDescriptor yJ0_init_81219.desc).map (fun d => d.parameters.length) = some 1 := ⟨by decide +kernel, by decide +kernel⟩
theorem v_1389 : lw_tbl[1389]? = some (.code yJ0_length_8abf5 cJ0_length_8abf5 1 ((some .int))) := by decide +kernel
theorem vy_J0_length_8abf5 : (yJ0_length_8abf5.cls ≠ "java/lang/invoke/MethodHandle" ∧ yJ0_length_8abf5.cls ≠ "java/lang/invoke/VarHandle") ∧ (parseMethodDescriptor yJ0_length_8abf5.desc).map (fun d => d.parameters.length) = some 0 := ⟨by decide +kernel, by decide +kernel⟩
theorem v_1643 : lw_tbl[1643]? = some (.code yJ0_charAt_5068e cJ0_charAt_5068e 2 ((some .char))) := by decide +kernel
theorem vy_J0_charAt_5068e : (yJ0_charAt_5068e.cls ≠ "java/lang/invoke/MethodHandle" ∧ yJ0_charAt_5068e.cls ≠ "java/lang/invoke/VarHandle") ∧ (parseMethodDescriptor yJ0_charAt_5068e.desc).map (fun d => d.parameters.length) = some 1 := ⟨by decide +kernel, by decide +kernel⟩
theorem v_1426 : lw_tbl[1426]? = some (.code yJ0_getBytes_840e7 cJ0_getBytes_840e7 4 none) := by decide +kernel
theorem vy_J0_getBytes_840e7 : (yJ0_getBytes_840e7.cls ≠ "java/lang/invoke/MethodHandle" ∧ yJ0_getBytes_840e7.cls ≠ "java/lang/invoke/VarHandle") ∧ (parseMethodDescriptor yJ0_getBytes_840e7.desc).map (fun d => d.parameters.length) = some 3 := ⟨by decide +kernel, by decide +kernel⟩
theorem v_1464 : lw_tbl[1464]? = some (.code yJ0_init_db425 cJ0_init_db425 5 none) := by decide +kernel
theorem vy_J0_init_db425 : (yJ0_init_db425.cls ≠ "java/lang/invoke/MethodHandle" ∧ yJ0_init_db425.cls ≠ "java/lang/invoke/VarHandle") ∧ (parseMethodDescriptor yJ0_init_db425.desc).map (fun d => d.parameters.length) = some 2 := ⟨by decide +kernel, by decide +kernel⟩
theorem v_1393 : lw_tbl[1393]? = some (.code yJ0_coder_7d493 cJ0_coder_7d493 1 ((some .byte))) := by decide +kernel
theorem vy_J0_coder_7d493 : (yJ0_coder_7d493.cls ≠ "java/lang/invoke/MethodHandle" ∧ yJ0_coder_7d493.cls ≠ "java/lang/invoke/VarHandle") ∧ (parseMethodDescriptor yJ0_coder_7d493.desc).map (fun d => d.parameters.length) = some 0 := ⟨by decide +kernel, by decide +kernel⟩
theorem v_1647 : lw_tbl[1647]? = some (.code yJ0_isLatin1_aae02 cJ0_isLatin1_aae02 1 ((some .boolean))) := by decide +kernel
theorem vy_J0_isLatin1_aae02 : (yJ0_isLatin1_aae02.cls ≠ "java/lang/invoke/MethodHandle" ∧ yJ0_isLatin1_aae02.cls ≠ "java/lang/invoke/VarHandle") ∧ (parseMethodDescriptor yJ0_isLatin1_aae02.desc).map (fun d => d.parameters.length) = some 0 := ⟨by decide +kernel, by decide +kernel⟩
theorem v_1570 : lw_tbl[1570]? = some (.code yJ0_checkIndex_df160 cJ0_checkIndex_df160 2 none) := by decide +kernel
theorem vy_J0_checkIndex_df160 : (yJ0_checkIndex_df160.cls ≠ "java/lang/invoke/MethodHandle" ∧ yJ0_checkIndex_df160.cls ≠ "java/lang/invoke/VarHandle") ∧ (parseMethodDescriptor yJ0_checkIndex_df160.desc).map (fun d => d.parameters.length) = some 2 := ⟨by decide +kernel, by decide +kernel⟩
theorem v_1419 : lw_tbl[1419]? = some (.code yJ0_checkBoundsOffCount_cabcc cJ0_checkBoundsOffCount_cabcc 3 ((some .int))) := by decide +kernel
theorem vy_J0_checkBoundsOffCount_cabcc : (yJ0_checkBoundsOffCount_cabcc.cls ≠ "java/lang/invoke/MethodHandle" ∧ yJ0_checkBoundsOffCount_cabcc.cls ≠ "java/lang/invoke/VarHandle") ∧ (parseMethodDescriptor yJ0_checkBoundsOffCount_cabcc.desc).map (fun d => d.parameters.length) = some 3 := ⟨by decide +kernel, by decide +kernel⟩
theorem v_1371 : lw_tbl[1371]? = some (.code yJ0_checkBoundsBeginEnd_23922 cJ0_checkBoundsBeginEnd_23922 3 none) := by decide +kernel
theorem vy_J0_checkBoundsBeginEnd_23922 : (yJ0_checkBoundsBeginEnd_23922.cls ≠ "java/lang/invoke/MethodHandle" ∧ yJ0_checkBoundsBeginEnd_23922.cls ≠ "java/lang/invoke/VarHandle") ∧ (parseMethodDescriptor yJ0_checkBoundsBeginEnd_23922.desc).map (fun d => d.parameters.length) = some 3 := ⟨by decide +kernel, by decide +kernel⟩
theorem v_309 : lw_tbl[309]? = some (.code yJ4_init_da8c8 cJ4_init_da8c8 1 none) := by decide +kernel
theorem vy_J4_init_da8c8 : (yJ4_init_da8c8.cls ≠ "java/lang/invoke/MethodHandle" ∧ yJ4_init_da8c8.cls ≠ "java/lang/invoke/VarHandle") ∧ (parseMethodDescriptor yJ4_init_da8c8.desc).map (fun d => d.parameters.length) = some 0 := ⟨by decide +kernel, by decide +kernel⟩
theorem v_1318 : lw_tbl[1318]? = some (.code yJ4_append_15ec4 cJ4_append_15ec4 2 ((some (.object "java/lang/StringBuilder")))) := by decide +kernel
theorem vy_J4_append_15ec4 : (yJ4_append_15ec4.cls ≠ "java/lang/invoke/MethodHandle" ∧ yJ4_append_15ec4.cls ≠ "java/lang/invoke/VarHandle") ∧ (parseMethodDescriptor yJ4_append_15ec4.desc).map (fun d => d.parameters.length) = some 1 := ⟨by decide +kernel, by decide +kernel⟩
theorem v_1555 : lw_tbl[1555]? = some (.code yJ4_append_cf468 cJ4_append_cf468 2 ((some (.object "java/lang/StringBuilder")))) := by decide +kernel
theorem vy_J4_append_cf468 : (yJ4_append_cf468.cls ≠ "java/lang/invoke/MethodHandle" ∧ yJ4_append_cf468.cls ≠ "java/lang/invoke/VarHandle") ∧ (parseMethodDescriptor yJ4_append_cf468.desc).map (fun d => d.parameters.length) = some 1 := ⟨by decide +kernel, by decide +kernel⟩
theorem v_1432 : lw_tbl[1432]? = some (.code yJ4_append_bf812 cJ4_append_bf812 2 ((some (.object "java/lang/StringBuilder")))) := by decide +kernel
theorem vy_J4_append_bf812 : (yJ4_append_bf812.cls ≠ "java/lang/invoke/MethodHandle" ∧ yJ4_append_bf812.cls ≠ "java/lang/invoke/VarHandle") ∧ (parseMethodDescriptor yJ4_append_bf812.desc).map (fun d => d.parameters.length) = some 1 := ⟨by decide +kernel, by decide +kernel⟩
theorem v_1457 : lw_tbl[1457]? = some (.code yJ4_toString_0e30d cJ4_toString_0e30d 1 ((some (.object "java/lang/String")))) := by decide +kernel
theorem vy_J4_toString_0e30d : (yJ4_toString_0e30d.cls ≠ "java/lang/invoke/MethodHandle" ∧ yJ4_toString_0e30d.cls ≠ "java/lang/invoke/VarHandle") ∧ (parseMethodDescriptor yJ4_toString_0e30d.desc).map (fun d => d.parameters.length) = some 0 := ⟨by decide +kernel, by decide +kernel⟩
theorem v_1589 : lw_tbl[1589]? = some (.code yJ4_charAt_5068e cJ4_charAt_5068e 2 ((some .char))) := by decide +kernel
theorem vy_J4_charAt_5068e : (yJ4_charAt_5068e.cls ≠ "java/lang/invoke/MethodHandle" ∧ yJ4_charAt_5068e.cls ≠ "java/lang/invoke/VarHandle") ∧ (parseMethodDescriptor yJ4_charAt_5068e.desc).map (fun d => d.parameters.length) = some 1 := ⟨by decide +kernel, by decide +kernel⟩
theorem v_1303 : lw_tbl[1303]? = some (.code yJ4_setLength_d00df cJ4_setLength_d00df 2 none) := by decide +kernel
theorem vy_J4_setLength_d00df : (yJ4_setLength_d00df.cls ≠ "java/lang/invoke/MethodHandle" ∧ yJ4_setLength_d00df.cls ≠ "java/lang/invoke/VarHandle") ∧ (parseMethodDescriptor yJ4_setLength_d00df.desc).map (fun d => d.parameters.length) = some 1 := ⟨by decide +kernel, by decide +kernel⟩
theorem v_1476 : lw_tbl[1476]? = some (.code yJ4_length_8abf5 cJ4_length_8abf5 1 ((some .int))) := by decide +kernel
theorem vy_J4_length_8abf5 : (yJ4_length_8abf5.cls ≠ "java/lang/invoke/MethodHandle" ∧ yJ4_length_8abf5.cls ≠ "java/lang/invoke/VarHandle") ∧ (parseMethodDescriptor yJ4_length_8abf5.desc).map (fun d => d.parameters.length) = some 0 := ⟨by decide +kernel, by decide +kernel⟩
theorem v_1311 : lw_tbl[1311]? = some (.code yJx7c733_init_d00df cJx7c733_init_d00df 2 none) := by decide +kernel
theorem vy_Jx7c733_init_d00df : (yJx7c733_init_d00df.cls ≠ "java/lang/invoke/MethodHandle" ∧ yJx7c733_init_d00df.cls ≠ "java/lang/invoke/VarHandle") ∧ (parseMethodDescriptor yJx7c733_init_d00df.desc).map (fun d => d.parameters.length) = some 1 := ⟨by decide +kernel, by decide +kernel⟩
theorem v_1650 : lw_tbl[1650]? = some (.code yJ1_charAt_3b067 cJ1_charAt_3b067 2 ((some .char))) := by decide +kernel
theorem vy_J1_charAt_3b067 : (yJ1_charAt_3b067.cls ≠ "java/lang/invoke/MethodHandle" ∧ yJ1_charAt_3b067.cls ≠ "java/lang/invoke/VarHandle") ∧ (parseMethodDescriptor yJ1_charAt_3b067.desc).map (fun d => d.parameters.length) = some 2 := ⟨by decide +kernel, by decide +kernel⟩
theorem v_1561 : lw_tbl[1561]? = some (.code yJ1_canEncode_fc78d cJ1_canEncode_fc78d 1 ((some .boolean))) := by decide +kernel
theorem vy_J1_canEncode_fc78d : (yJ1_canEncode_fc78d.cls ≠ "java/lang/invoke/MethodHandle" ∧ yJ1_canEncode_fc78d.cls ≠ "java/lang/invoke/VarHandle") ∧ (parseMethodDescriptor yJ1_canEncode_fc78d.desc).map (fun d => d.parameters.length) = some 1 := ⟨by decide +kernel, by decide +kernel⟩
theorem v_1527 : lw_tbl[1527]? = some (.code yJ1_fillNull_b72d1 cJ1_fillNull_b72d1 3 none) := by decide +kernel
theorem vy_J1_fillNull_b72d1 : (yJ1_fillNull_b72d1.cls ≠ "java/lang/invoke/MethodHandle" ∧ yJ1_fillNull_b72d1.cls ≠ "java/lang/invoke/VarHandle") ∧ (parseMethodDescriptor yJ1_fillNull_b72d1.desc).map (fun d => d.parameters.length) = some 3 := ⟨by decide +kernel, by decide +kernel⟩
theorem v_1410 : lw_tbl[1410]? = some (.code yJ1_inflate_0e8fd cJ1_inflate_0e8fd 5 none) := by decide +kernel
theorem vy_J1_inflate_0e8fd : (yJ1_inflate_0e8fd.cls ≠ "java/lang/invoke/MethodHandle" ∧ yJ1_inflate_0e8fd.cls ≠ "java/lang/invoke/VarHandle") ∧ (parseMethodDescriptor yJ1_inflate_0e8fd.desc).map (fun d => d.parameters.length) = some 5 := ⟨by decide +kernel, by decide +kernel⟩
theorem v_318 : lw_tbl[318]? = some (.code yJ2_newBytesFor_77867 cJ2_newBytesFor_77867 1 ((some (.array .byte)))) := by decide +kernel
theorem vy_J2_newBytesFor_77867 : (yJ2_newBytesFor_77867.cls ≠ "java/lang/invoke/MethodHandle" ∧ yJ2_newBytesFor_77867.cls ≠ "java/lang/invoke/VarHandle") ∧ (parseMethodDescriptor yJ2_newBytesFor_77867.desc).map (fun d => d.parameters.length) = some 1 := ⟨by decide +kernel, by decide +kernel⟩
theorem v_321 : lw_tbl[321]? = some (.code yJ2_newBytesLength_0f7a4 cJ2_newBytesLength_0f7a4 1 ((some .int))) := by decide +kernel
theorem vy_J2_newBytesLength_0f7a4 : (yJ2_newBytesLength_0f7a4.cls ≠ "java/lang/invoke/MethodHandle" ∧ yJ2_newBytesLength_0f7a4.cls ≠ "java/lang/invoke/VarHandle") ∧ (parseMethodDescriptor yJ2_newBytesLength_0f7a4.desc).map (fun d => d.parameters.length) = some 1 := ⟨by decide +kernel, by decide +kernel⟩
theorem v_1379 : lw_tbl[1379]? = some (.code yJ2_putChar_b72d1 cJ2_putChar_b72d1 3 none) := by decide +kernel
theorem vy_J2_putChar_b72d1 : (yJ2_putChar_b72d1.cls ≠ "java/lang/invoke/MethodHandle" ∧ yJ2_putChar_b72d1.cls ≠ "java/lang/invoke/VarHandle") ∧ (parseMethodDescriptor yJ2_putChar_b72d1.desc).map (fun d => d.parameters.length) = some 3 := ⟨by decide +kernel, by decide +kernel⟩
theorem v_1505 : lw_tbl[1505]? = some (.code yJ2_getChar_3b067 cJ2_getChar_3b067 2 ((some .char))) := by decide +kernel
theorem vy_J2_getChar_3b067 : (yJ2_getChar_3b067.cls ≠ "java/lang/invoke/MethodHandle" ∧ yJ2_getChar_3b067.cls ≠ "java/lang/invoke/VarHandle") ∧ (parseMethodDescriptor yJ2_getChar_3b067.desc).map (fun d => d.parameters.length) = some 2 := ⟨by decide +kernel, by decide +kernel⟩
theorem v_1368 : lw_tbl[1368]? = some (.code yJ2_length_9d52b cJ2_length_9d52b 1 ((some .int))) := by decide +kernel
theorem vy_J2_length_9d52b : (yJ2_length_9d52b.cls ≠ "java/lang/invoke/MethodHandle" ∧ yJ2_length_9d52b.cls ≠ "java/lang/invoke/VarHandle") ∧ (parseMethodDescriptor yJ2_length_9d52b.desc).map (fun d => d.parameters.length) = some 1 := ⟨by decide +kernel, by decide +kernel⟩
theorem v_1509 : lw_tbl[1509]? = some (.code yJ2_coderFromArrayLen_85cad cJ2_coderFromArrayLen_85cad 2 ((some .byte))) := by decide +kernel
theorem vy_J2_coderFromArrayLen_85cad : (yJ2_coderFromArrayLen_85cad.cls ≠ "java/lang/invoke/MethodHandle" ∧ yJ2_coderFromArrayLen_85cad.cls ≠ "java/lang/invoke/VarHandle") ∧ (parseMethodDescriptor yJ2_coderFromArrayLen_85cad.desc).map (fun d => d.parameters.length) = some 2 := ⟨by decide +kernel, by decide +kernel⟩
theorem v_1499 : lw_tbl[1499]? = some (.code yJ2_compress_39247 cJ2_compress_39247 6 ((some (.array .byte)))) := by decide +kernel
theorem vy_J2_compress_39247 : (yJ2_compress_39247.cls ≠ "java/lang/invoke/MethodHandle" ∧ yJ2_compress_39247.cls ≠ "java/lang/invoke/VarHandle") ∧ (parseMethodDescriptor yJ2_compress_39247.desc).map (fun d => d.parameters.length) = some 3 := ⟨by decide +kernel, by decide +kernel⟩
theorem v_1502 : lw_tbl[1502]? = some (.code yJ2_compress_5af95 cJ2_compress_5af95 7 ((some .int))) := by decide +kernel
theorem vy_J2_compress_5af95 : (yJ2_compress_5af95.cls ≠ "java/lang/invoke/MethodHandle" ∧ yJ2_compress_5af95.cls ≠ "java/lang/invoke/VarHandle") ∧ (parseMethodDescriptor yJ2_compress_5af95.desc).map (fun d => d.parameters.length) = some 5 := ⟨by decide +kernel, by decide +kernel⟩
theorem v_1549 : lw_tbl[1549]? = some (.code yJ2_fillNull_b72d1 cJ2_fillNull_b72d1 3 none) := by decide +kernel
theorem vy_J2_fillNull_b72d1 : (yJ2_fillNull_b72d1.cls ≠ "java/lang/invoke/MethodHandle" ∧ yJ2_fillNull_b72d1.cls ≠ "java/lang/invoke/VarHandle") ∧ (parseMethodDescriptor yJ2_fillNull_b72d1.desc).map (fun d => d.parameters.length) = some 3 := ⟨by decide +kernel, by decide +kernel⟩
theorem v_1564 : lw_tbl[1564]? = some (.code yJ2_putCharSB_b72d1 cJ2_putCharSB_b72d1 3 none) := by decide +kernel
theorem vy_J2_putCharSB_b72d1 : (yJ2_putCharSB_b72d1.cls ≠ "java/lang/invoke/MethodHandle" ∧ yJ2_putCharSB_b72d1.cls ≠ "java/lang/invoke/VarHandle") ∧ (parseMethodDescriptor yJ2_putCharSB_b72d1.desc).map (fun d => d.parameters.length) = some 3 := ⟨by decide +kernel, by decide +kernel⟩
theorem v_1448 : lw_tbl[1448]? = some (.code yJ2_getChars_46870 cJ2_getChars_46870 5 ((some .int))) := by decide +kernel
theorem vy_J2_getChars_46870 : (yJ2_getChars_46870.cls ≠ "java/lang/invoke/MethodHandle" ∧ yJ2_getChars_46870.cls ≠ "java/lang/invoke/VarHandle") ∧ (parseMethodDescriptor yJ2_getChars_46870.desc).map (fun d => d.parameters.length) = some 4 := ⟨by decide +kernel, by decide +kernel⟩
theorem v_1362 : lw_tbl[1362]? = some (.code yJ2_putCharsAt_cd4e5 cJ2_putCharsAt_cd4e5 7 ((some .int))) := by decide +kernel
theorem vy_J2_putCharsAt_cd4e5 : (yJ2_putCharsAt_cd4e5.cls ≠ "java/lang/invoke/MethodHandle" ∧ yJ2_putCharsAt_cd4e5.cls ≠ "java/lang/invoke/VarHandle") ∧ (parseMethodDescriptor yJ2_putCharsAt_cd4e5.desc).map (fun d => d.parameters.length) = some 6 := ⟨by decide +kernel, by decide +kernel⟩
theorem v_1654 : lw_tbl[1654]? = some (.code yJ2_charAt_3b067 cJ2_charAt_3b067 2 ((some .char))) := by decide +kernel
theorem vy_J2_charAt_3b067 : (yJ2_charAt_3b067.cls ≠ "java/lang/invoke/MethodHandle" ∧ yJ2_charAt_3b067.cls ≠ "java/lang/invoke/VarHandle") ∧ (parseMethodDescriptor yJ2_charAt_3b067.desc).map (fun d => d.parameters.length) = some 2 := ⟨by decide +kernel, by decide +kernel⟩
theorem v_1413 : lw_tbl[1413]? = some (.code yJ2_inflate_0e8fd cJ2_inflate_0e8fd 6 none) := by decide +kernel
theorem vy_J2_inflate_0e8fd : (yJ2_inflate_0e8fd.cls ≠ "java/lang/invoke/MethodHandle" ∧ yJ2_inflate_0e8fd.cls ≠ "java/lang/invoke/VarHandle") ∧ (parseMethodDescriptor yJ2_inflate_0e8fd.desc).map (fun d => d.parameters.length) = some 5 := ⟨by decide +kernel, by decide +kernel⟩
theorem v_1451 : lw_tbl[1451]? = some (.code yJ2_getChars_ba4f3 cJ2_getChars_ba4f3 7 ((some .int))) := by decide +kernel
theorem vy_J2_getChars_ba4f3 : (yJ2_getChars_ba4f3.cls ≠ "java/lang/invoke/MethodHandle" ∧ yJ2_getChars_ba4f3.cls ≠ "java/lang/invoke/VarHandle") ∧ (parseMethodDescriptor yJ2_getChars_ba4f3.desc).map (fun d => d.parameters.length) = some 3 := ⟨by decide +kernel, by decide +kernel⟩
theorem v_1567 : lw_tbl[1567]? = some (.code yJ2_checkIndex_2214a cJ2_checkIndex_2214a 2 none) := by decide +kernel
theorem vy_J2_checkIndex_2214a : (yJ2_checkIndex_2214a.cls ≠ "java/lang/invoke/MethodHandle" ∧ yJ2_checkIndex_2214a.cls ≠ "java/lang/invoke/VarHandle") ∧ (parseMethodDescriptor yJ2_checkIndex_2214a.desc).map (fun d => d.parameters.length) = some 2 := ⟨by decide +kernel, by decide +kernel⟩
theorem v_1365 : lw_tbl[1365]? = some (.code yJ2_checkBoundsBeginEnd_d044e cJ2_checkBoundsBeginEnd_d044e 3 none) := by decide +kernel
theorem vy_J2_checkBoundsBeginEnd_d044e : (yJ2_checkBoundsBeginEnd_d044e.cls ≠ "java/lang/invoke/MethodHandle" ∧ yJ2_checkBoundsBeginEnd_d044e.cls ≠ "java/lang/invoke/VarHandle") ∧ (parseMethodDescriptor yJ2_checkBoundsBeginEnd_d044e.desc).map (fun d => d.parameters.length) = some 3 := ⟨by decide +kernel, by decide +kernel⟩
theorem v_1416 : lw_tbl[1416]? = some (.code yJ2_checkBoundsOffCount_d044e cJ2_checkBoundsOffCount_d044e 3 none) := by decide +kernel
theorem vy_J2_checkBoundsOffCount_d044e : (yJ2_checkBoundsOffCount_d044e.cls ≠ "java/lang/invoke/MethodHandle" ∧ yJ2_checkBoundsOffCount_d044e.cls ≠ "java/lang/invoke/VarHandle") ∧ (parseMethodDescriptor yJ2_checkBoundsOffCount_d044e.desc).map (fun d => d.parameters.length) = some 3 := ⟨by decide +kernel, by decide +kernel⟩
theorem v_1533 : lw_tbl[1533]? = some (.code yJ7_rangeCheck_23922 cJ7_rangeCheck_23922 3 none) := by decide +kernel
theorem vy_J7_rangeCheck_23922 : (yJ7_rangeCheck_23922.cls ≠ "java/lang/invoke/MethodHandle" ∧ yJ7_rangeCheck_23922.cls ≠ "java/lang/invoke/VarHandle") ∧ (parseMethodDescriptor yJ7_rangeCheck_23922.desc).map (fun d => d.parameters.length) = some 3 := ⟨by decide +kernel, by decide +kernel⟩
theorem v_1530 : lw_tbl[1530]? = some (.code yJ7_fill_eb02e cJ7_fill_eb02e 5 none) := by decide +kernel
theorem vy_J7_fill_eb02e : (yJ7_fill_eb02e.cls ≠ "java/lang/invoke/MethodHandle" ∧ yJ7_fill_eb02e.cls ≠ "java/lang/invoke/VarHandle") ∧ (parseMethodDescriptor yJ7_fill_eb02e.desc).map (fun d => d.parameters.length) = some 4 := ⟨by decide +kernel, by decide +kernel⟩
theorem v_1345 : lw_tbl[1345]? = some (.code yJ7_copyOf_9075b cJ7_copyOf_9075b 3 ((some (.array .byte)))) := by decide +kernel
theorem vy_J7_copyOf_9075b : (yJ7_copyOf_9075b.cls ≠ "java/lang/invoke/MethodHandle" ∧ yJ7_copyOf_9075b.cls ≠ "java/lang/invoke/VarHandle") ∧ (parseMethodDescriptor yJ7_copyOf_9075b.desc).map (fun d => d.parameters.length) = some 2 := ⟨by decide +kernel, by decide +kernel⟩
theorem v_1488 : lw_tbl[1488]? = some (.code yJ7_checkLength_df160 cJ7_checkLength_df160 2 none) := by decide +kernel
theorem vy_J7_checkLength_df160 : (yJ7_checkLength_df160.cls ≠ "java/lang/invoke/MethodHandle" ∧ yJ7_checkLength_df160.cls ≠ "java/lang/invoke/VarHandle") ∧ (parseMethodDescriptor yJ7_checkLength_df160.desc).map (fun d => d.parameters.length) = some 2 := ⟨by decide +kernel, by decide +kernel⟩
theorem v_1482 : lw_tbl[1482]? = some (.code yJ7_copyOfRange_39247 cJ7_copyOfRange_39247 3 ((some (.array .byte)))) := by decide +kernel
theorem vy_J7_copyOfRange_39247 : (yJ7_copyOfRange_39247.cls ≠ "java/lang/invoke/MethodHandle" ∧ yJ7_copyOfRange_39247.cls ≠ "java/lang/invoke/VarHandle") ∧ (parseMethodDescriptor yJ7_copyOfRange_39247.desc).map (fun d => d.parameters.length) = some 3 := ⟨by decide +kernel, by decide +kernel⟩
theorem v_1485 : lw_tbl[1485]? = some (.code yJ7_copyOfRangeByte_39247 cJ7_copyOfRangeByte_39247 5 ((some (.array .byte)))) := by decide +kernel
theorem vy_J7_copyOfRangeByte_39247 : (yJ7_copyOfRangeByte_39247.cls ≠ "java/lang/invoke/MethodHandle" ∧ yJ7_copyOfRangeByte_39247.cls ≠ "java/lang/invoke/VarHandle") ∧ (parseMethodDescriptor yJ7_copyOfRangeByte_39247.desc).map (fun d => d.parameters.length) = some 3 := ⟨by decide +kernel, by decide +kernel⟩
theorem v_1336 : lw_tbl[1336]? = some (.code yJ8_newLength_cabcc cJ8_newLength_cabcc 4 ((some .int))) := by decide +kernel
theorem vy_J8_newLength_cabcc : (yJ8_newLength_cabcc.cls ≠ "java/lang/invoke/MethodHandle" ∧ yJ8_newLength_cabcc.cls ≠ "java/lang/invoke/VarHandle") ∧ (parseMethodDescriptor yJ8_newLength_cabcc.desc).map (fun d => d.parameters.length) = some 3 := ⟨by decide +kernel, by decide +kernel⟩
theorem v_1341 : lw_tbl[1341]? = some (.code yJ8_hugeLength_7cf53 cJ8_hugeLength_7cf53 3 ((some .int))) := by decide +kernel
theorem vy_J8_hugeLength_7cf53 : (yJ8_hugeLength_7cf53.cls ≠ "java/lang/invoke/MethodHandle" ∧ yJ8_hugeLength_7cf53.cls ≠ "java/lang/invoke/VarHandle") ∧ (parseMethodDescriptor yJ8_hugeLength_7cf53.desc).map (fun d => d.parameters.length) = some 2 := ⟨by decide +kernel, by decide +kernel⟩
theorem v_1573 : lw_tbl[1573]? = some (.code yJ3_checkIndex_8e157 cJ3_checkIndex_8e157 3 ((some .int))) := by decide +kernel
theorem vy_J3_checkIndex_8e157 : (yJ3_checkIndex_8e157.cls ≠ "java/lang/invoke/MethodHandle" ∧ yJ3_checkIndex_8e157.cls ≠ "java/lang/invoke/VarHandle") ∧ (parseMethodDescriptor yJ3_checkIndex_8e157.desc).map (fun d => d.parameters.length) = some 3 := ⟨by decide +kernel, by decide +kernel⟩
theorem v_1376 : lw_tbl[1376]? = some (.code yJ3_checkFromToIndex_8c36e cJ3_checkFromToIndex_8c36e 4 ((some .int))) := by decide +kernel
theorem vy_J3_checkFromToIndex_8c36e : (yJ3_checkFromToIndex_8c36e.cls ≠ "java/lang/invoke/MethodHandle" ∧ yJ3_checkFromToIndex_8c36e.cls ≠ "java/lang/invoke/VarHandle") ∧ (parseMethodDescriptor yJ3_checkFromToIndex_8c36e.desc).map (fun d => d.parameters.length) = some 4 := ⟨by decide +kernel, by decide +kernel⟩
theorem v_1422 : lw_tbl[1422]? = some (.code yJ3_checkFromIndexSize_8c36e cJ3_checkFromIndexSize_8c36e 4 ((some .int))) := by decide +kernel
theorem vy_J3_checkFromIndexSize_8c36e : (yJ3_checkFromIndexSize_8c36e.cls ≠ "java/lang/invoke/MethodHandle" ∧ yJ3_checkFromIndexSize_8c36e.cls ≠ "java/lang/invoke/VarHandle") ∧ (parseMethodDescriptor yJ3_checkFromIndexSize_8c36e.desc).map (fun d => d.parameters.length) = some 4 := ⟨by decide +kernel, by decide +kernel⟩
theorem v_605 : lw_tbl[605]? = some (.codeWith yL_addSubject cL_addSubject 4 ((some .int)) [(0, 9, 12, 13), (0, 9, 15, 15)]) := by decide +kernel
theorem vy_L_addSubject : (yL_addSubject.cls ≠ "java/lang/invoke/MethodHandle" ∧ yL_addSubject.cls ≠ "java/lang/invoke/VarHandle") ∧ (parseMethodDescriptor yL_addSubject.desc).map (fun d => d.parameters.length) = some 3 := ⟨by decide +kernel, by decide +kernel⟩
theorem v_895 : lw_tbl[895]? = some (.codeWith yL_setSize cL_setSize 5 ((some .int)) [(0, 10, 13, 21), (0, 10, 17, 13), (0, 10, 21, 15)]) := by decide +kernel
theorem vy_L_setSize : (yL_setSize.cls ≠ "java/lang/invoke/MethodHandle" ∧ yL_setSize.cls ≠ "java/lang/invoke/VarHandle") ∧ (parseMethodDescriptor yL_setSize.desc).map (fun d => d.parameters.length) = some 4 := ⟨by decide +kernel, by decide +kernel⟩
theorem v_938 : lw_tbl[938]? = some (.codeWith yL_sizeOf cL_sizeOf 4 ((some .int)) [(0, 9, 12, 21)]) := by decide +kernel
theorem vy_L_sizeOf : (yL_sizeOf.cls ≠ "java/lang/invoke/MethodHandle" ∧ yL_sizeOf.cls ≠ "java/lang/invoke/VarHandle") ∧ (parseMethodDescriptor yL_sizeOf.desc).map (fun d => d.parameters.length) = some 3 := ⟨by decide +kernel, by decide +kernel⟩
theorem v_950 : lw_tbl[950]? = some (.codeWith yL_setBlockCount cL_setBlockCount 4 ((some .int)) [(0, 9, 12, 13), (0, 9, 15, 15)]) := by decide +kernel
theorem vy_L_setBlockCount : (yL_setBlockCount.cls ≠ "java/lang/invoke/MethodHandle" ∧ yL_setBlockCount.cls ≠ "java/lang/invoke/VarHandle") ∧ (parseMethodDescriptor yL_setBlockCount.desc).map (fun d => d.parameters.length) = some 3 := ⟨by decide +kernel, by decide +kernel⟩
theorem v_957 : lw_tbl[957]? = some (.codeWith yL_openClass cL_openClass 5 ((some .int)) [(0, 10, 13, 21), (0, 10, 17, 15)]) := by decide +kernel
theorem vy_L_openClass : (yL_openClass.cls ≠ "java/lang/invoke/MethodHandle" ∧ yL_openClass.cls ≠ "java/lang/invoke/VarHandle") ∧ (parseMethodDescriptor yL_openClass.desc).map (fun d => d.parameters.length) = some 4 := ⟨by decide +kernel, by decide +kernel⟩
theorem v_964 : lw_tbl[964]? = some (.codeWith yL_closeClass cL_closeClass 5 ((some .int)) [(0, 10, 13, 21), (0, 10, 17, 15)]) := by decide +kernel
theorem vy_L_closeClass : (yL_closeClass.cls ≠ "java/lang/invoke/MethodHandle" ∧ yL_closeClass.cls ≠ "java/lang/invoke/VarHandle") ∧ (parseMethodDescriptor yL_closeClass.desc).map (fun d => d.parameters.length) = some 4 := ⟨by decide +kernel, by decide +kernel⟩
theorem v_971 : lw_tbl[971]? = some (.codeWith yL_isOpen cL_isOpen 5 ((some .int)) [(0, 17, 20, 21)]) := by decide +kernel
theorem vy_L_isOpen : (yL_isOpen.cls ≠ "java/lang/invoke/MethodHandle" ∧ yL_isOpen.cls ≠ "java/lang/invoke/VarHandle") ∧ (parseMethodDescriptor yL_isOpen.desc).map (fun d => d.parameters.length) = some 4 := ⟨by decide +kernel, by decide +kernel⟩
theorem v_980 : lw_tbl[980]? = some (.codeWith yL_pupilsInClass cL_pupilsInClass 5 ((some .int)) [(0, 10, 13, 21)]) := by decide +kernel
theorem vy_L_pupilsInClass : (yL_pupilsInClass.cls ≠ "java/lang/invoke/MethodHandle" ∧ yL_pupilsInClass.cls ≠ "java/lang/invoke/VarHandle") ∧ (parseMethodDescriptor yL_pupilsInClass.desc).map (fun d => d.parameters.length) = some 4 := ⟨by decide +kernel, by decide +kernel⟩
theorem v_989 : lw_tbl[989]? = some (.codeWith yL_pupilInClass cL_pupilInClass 6 ((some .int)) [(0, 12, 15, 21), (0, 12, 19, 46)]) := by decide +kernel
theorem vy_L_pupilInClass : (yL_pupilInClass.cls ≠ "java/lang/invoke/MethodHandle" ∧ yL_pupilInClass.cls ≠ "java/lang/invoke/VarHandle") ∧ (parseMethodDescriptor yL_pupilInClass.desc).map (fun d => d.parameters.length) = some 5 := ⟨by decide +kernel, by decide +kernel⟩
theorem v_1017 : lw_tbl[1017]? = some (.codeWith yL_addPupil cL_addPupil 3 ((some .int)) [(0, 8, 11, 15)]) := by decide +kernel
theorem vy_L_addPupil : (yL_addPupil.cls ≠ "java/lang/invoke/MethodHandle" ∧ yL_addPupil.cls ≠ "java/lang/invoke/VarHandle") ∧ (parseMethodDescriptor yL_addPupil.desc).map (fun d => d.parameters.length) = some 2 := ⟨by decide +kernel, by decide +kernel⟩
theorem v_1024 : lw_tbl[1024]? = some (.codeWith yL_addWish cL_addWish 5 ((some .int)) [(0, 10, 13, 21), (0, 10, 17, 15)]) := by decide +kernel
theorem vy_L_addWish : (yL_addWish.cls ≠ "java/lang/invoke/MethodHandle" ∧ yL_addWish.cls ≠ "java/lang/invoke/VarHandle") ∧ (parseMethodDescriptor yL_addWish.desc).map (fun d => d.parameters.length) = some 4 := ⟨by decide +kernel, by decide +kernel⟩
theorem v_1031 : lw_tbl[1031]? = some (.codeWith yL_setReserve cL_setReserve 5 ((some .int)) [(0, 10, 13, 21), (0, 10, 17, 15)]) := by decide +kernel
theorem vy_L_setReserve : (yL_setReserve.cls ≠ "java/lang/invoke/MethodHandle" ∧ yL_setReserve.cls ≠ "java/lang/invoke/VarHandle") ∧ (parseMethodDescriptor yL_setReserve.desc).map (fun d => d.parameters.length) = some 4 := ⟨by decide +kernel, by decide +kernel⟩
theorem v_1038 : lw_tbl[1038]? = some (.codeWith yL_wishCount cL_wishCount 4 ((some .int)) [(0, 9, 12, 21)]) := by decide +kernel
theorem vy_L_wishCount : (yL_wishCount.cls ≠ "java/lang/invoke/MethodHandle" ∧ yL_wishCount.cls ≠ "java/lang/invoke/VarHandle") ∧ (parseMethodDescriptor yL_wishCount.desc).map (fun d => d.parameters.length) = some 3 := ⟨by decide +kernel, by decide +kernel⟩
theorem v_1046 : lw_tbl[1046]? = some (.codeWith yL_wishAt cL_wishAt 5 ((some .int)) [(0, 10, 13, 21), (0, 10, 17, 46)]) := by decide +kernel
theorem vy_L_wishAt : (yL_wishAt.cls ≠ "java/lang/invoke/MethodHandle" ∧ yL_wishAt.cls ≠ "java/lang/invoke/VarHandle") ∧ (parseMethodDescriptor yL_wishAt.desc).map (fun d => d.parameters.length) = some 4 := ⟨by decide +kernel, by decide +kernel⟩
theorem v_1054 : lw_tbl[1054]? = some (.codeWith yL_reserveOf cL_reserveOf 4 ((some .int)) [(0, 9, 12, 21)]) := by decide +kernel
theorem vy_L_reserveOf : (yL_reserveOf.cls ≠ "java/lang/invoke/MethodHandle" ∧ yL_reserveOf.cls ≠ "java/lang/invoke/VarHandle") ∧ (parseMethodDescriptor yL_reserveOf.desc).map (fun d => d.parameters.length) = some 3 := ⟨by decide +kernel, by decide +kernel⟩
theorem v_1061 : lw_tbl[1061]? = some (.codeWith yL_subjectIn cL_subjectIn 5 ((some .int)) [(0, 10, 13, 21)]) := by decide +kernel
theorem vy_L_subjectIn : (yL_subjectIn.cls ≠ "java/lang/invoke/MethodHandle" ∧ yL_subjectIn.cls ≠ "java/lang/invoke/VarHandle") ∧ (parseMethodDescriptor yL_subjectIn.desc).map (fun d => d.parameters.length) = some 4 := ⟨by decide +kernel, by decide +kernel⟩
theorem v_1073 : lw_tbl[1073]? = some (.codeWith yL_blockOf cL_blockOf 5 ((some .int)) [(0, 10, 13, 21)]) := by decide +kernel
theorem vy_L_blockOf : (yL_blockOf.cls ≠ "java/lang/invoke/MethodHandle" ∧ yL_blockOf.cls ≠ "java/lang/invoke/VarHandle") ∧ (parseMethodDescriptor yL_blockOf.desc).map (fun d => d.parameters.length) = some 4 := ⟨by decide +kernel, by decide +kernel⟩
theorem v_1081 : lw_tbl[1081]? = some (.codeWith yL_enrol cL_enrol 4 ((some .int)) [(0, 9, 12, 21), (0, 9, 15, 15)]) := by decide +kernel
theorem vy_L_enrol : (yL_enrol.cls ≠ "java/lang/invoke/MethodHandle" ∧ yL_enrol.cls ≠ "java/lang/invoke/VarHandle") ∧ (parseMethodDescriptor yL_enrol.desc).map (fun d => d.parameters.length) = some 3 := ⟨by decide +kernel, by decide +kernel⟩
theorem v_1088 : lw_tbl[1088]? = some (.codeWith yL_withdraw cL_withdraw 4 ((some .int)) [(0, 9, 12, 21), (0, 9, 15, 15)]) := by decide +kernel
theorem vy_L_withdraw : (yL_withdraw.cls ≠ "java/lang/invoke/MethodHandle" ∧ yL_withdraw.cls ≠ "java/lang/invoke/VarHandle") ∧ (parseMethodDescriptor yL_withdraw.desc).map (fun d => d.parameters.length) = some 3 := ⟨by decide +kernel, by decide +kernel⟩
theorem v_1105 : lw_tbl[1105]? = some (.codeWith yL_bestValue cL_bestValue 4 ((some .int)) [(0, 9, 12, 21)]) := by decide +kernel
theorem vy_L_bestValue : (yL_bestValue.cls ≠ "java/lang/invoke/MethodHandle" ∧ yL_bestValue.cls ≠ "java/lang/invoke/VarHandle") ∧ (parseMethodDescriptor yL_bestValue.desc).map (fun d => d.parameters.length) = some 3 := ⟨by decide +kernel, by decide +kernel⟩
theorem v_1116 : lw_tbl[1116]? = some (.codeWith yL_bestValueBySets cL_bestValueBySets 4 ((some .int)) [(0, 9, 12, 21)]) := by decide +kernel
theorem vy_L_bestValueBySets : (yL_bestValueBySets.cls ≠ "java/lang/invoke/MethodHandle" ∧ yL_bestValueBySets.cls ≠ "java/lang/invoke/VarHandle") ∧ (parseMethodDescriptor yL_bestValueBySets.desc).map (fun d => d.parameters.length) = some 3 := ⟨by decide +kernel, by decide +kernel⟩
theorem v_1134 : lw_tbl[1134]? = some (.codeWith yL_canServe cL_canServe 4 ((some .int)) [(0, 16, 19, 21)]) := by decide +kernel
theorem vy_L_canServe : (yL_canServe.cls ≠ "java/lang/invoke/MethodHandle" ∧ yL_canServe.cls ≠ "java/lang/invoke/VarHandle") ∧ (parseMethodDescriptor yL_canServe.desc).map (fun d => d.parameters.length) = some 3 := ⟨by decide +kernel, by decide +kernel⟩
theorem v_1153 : lw_tbl[1153]? = some (.codeWith yL_canServeByCounting cL_canServeByCounting 4 ((some .int)) [(0, 16, 19, 21)]) := by decide +kernel
theorem vy_L_canServeByCounting : (yL_canServeByCounting.cls ≠ "java/lang/invoke/MethodHandle" ∧ yL_canServeByCounting.cls ≠ "java/lang/invoke/VarHandle") ∧ (parseMethodDescriptor yL_canServeByCounting.desc).map (fun d => d.parameters.length) = some 3 := ⟨by decide +kernel, by decide +kernel⟩
theorem v_1166 : lw_tbl[1166]? = some (.codeWith yL_meanClassSize cL_meanClassSize 3 ((some .int)) [(0, 7, 10, 96)]) := by decide +kernel
theorem vy_L_meanClassSize : (yL_meanClassSize.cls ≠ "java/lang/invoke/MethodHandle" ∧ yL_meanClassSize.cls ≠ "java/lang/invoke/VarHandle") ∧ (parseMethodDescriptor yL_meanClassSize.desc).map (fun d => d.parameters.length) = some 2 := ⟨by decide +kernel, by decide +kernel⟩
theorem v_1195 : lw_tbl[1195]? = some (.codeWith yL_movesFor cL_movesFor 5 ((some .int)) [(0, 10, 13, 21), (0, 10, 17, 15), (0, 10, 21, 46)]) := by decide +kernel
theorem vy_L_movesFor : (yL_movesFor.cls ≠ "java/lang/invoke/MethodHandle" ∧ yL_movesFor.cls ≠ "java/lang/invoke/VarHandle") ∧ (parseMethodDescriptor yL_movesFor.desc).map (fun d => d.parameters.length) = some 4 := ⟨by decide +kernel, by decide +kernel⟩
theorem v_1205 : lw_tbl[1205]? = some (.codeWith yL_movesByTrial cL_movesByTrial 5 ((some .int)) [(0, 10, 13, 21), (0, 10, 17, 15), (0, 10, 21, 46)]) := by decide +kernel
theorem vy_L_movesByTrial : (yL_movesByTrial.cls ≠ "java/lang/invoke/MethodHandle" ∧ yL_movesByTrial.cls ≠ "java/lang/invoke/VarHandle") ∧ (parseMethodDescriptor yL_movesByTrial.desc).map (fun d => d.parameters.length) = some 4 := ⟨by decide +kernel, by decide +kernel⟩
theorem v_1219 : lw_tbl[1219]? = some (.codeWith yL_join cL_join 5 ((some .int)) [(0, 10, 13, 21), (0, 10, 17, 15), (0, 10, 21, 107)]) := by decide +kernel
theorem vy_L_join : (yL_join.cls ≠ "java/lang/invoke/MethodHandle" ∧ yL_join.cls ≠ "java/lang/invoke/VarHandle") ∧ (parseMethodDescriptor yL_join.desc).map (fun d => d.parameters.length) = some 4 := ⟨by decide +kernel, by decide +kernel⟩
theorem v_1227 : lw_tbl[1227]? = some (.codeWith yL_quit cL_quit 5 ((some .int)) [(0, 10, 13, 21), (0, 10, 17, 15)]) := by decide +kernel
theorem vy_L_quit : (yL_quit.cls ≠ "java/lang/invoke/MethodHandle" ∧ yL_quit.cls ≠ "java/lang/invoke/VarHandle") ∧ (parseMethodDescriptor yL_quit.desc).map (fun d => d.parameters.length) = some 4 := ⟨by decide +kernel, by decide +kernel⟩
theorem v_1234 : lw_tbl[1234]? = some (.codeWith yL_change cL_change 6 ((some .int)) [(0, 12, 15, 21), (0, 12, 19, 15), (0, 12, 23, 107)]) := by decide +kernel
theorem vy_L_change : (yL_change.cls ≠ "java/lang/invoke/MethodHandle" ∧ yL_change.cls ≠ "java/lang/invoke/VarHandle") ∧ (parseMethodDescriptor yL_change.desc).map (fun d => d.parameters.length) = some 5 := ⟨by decide +kernel, by decide +kernel⟩
theorem v_1241 : lw_tbl[1241]? = some (.codeWith yL_refusalReason cL_refusalReason 3 ((some .int)) [(0, 8, 11, 46)]) := by decide +kernel
theorem vy_L_refusalReason : (yL_refusalReason.cls ≠ "java/lang/invoke/MethodHandle" ∧ yL_refusalReason.cls ≠ "java/lang/invoke/VarHandle") ∧ (parseMethodDescriptor yL_refusalReason.desc).map (fun d => d.parameters.length) = some 2 := ⟨by decide +kernel, by decide +kernel⟩
theorem v_1248 : lw_tbl[1248]? = some (.codeWith yL_chainMoves cL_chainMoves 3 ((some .int)) [(0, 8, 11, 46)]) := by decide +kernel
theorem vy_L_chainMoves : (yL_chainMoves.cls ≠ "java/lang/invoke/MethodHandle" ∧ yL_chainMoves.cls ≠ "java/lang/invoke/VarHandle") ∧ (parseMethodDescriptor yL_chainMoves.desc).map (fun d => d.parameters.length) = some 2 := ⟨by decide +kernel, by decide +kernel⟩
theorem v_1255 : lw_tbl[1255]? = some (.codeWith yL_chainPupil cL_chainPupil 4 ((some .int)) [(0, 9, 12, 46)]) := by decide +kernel
theorem vy_L_chainPupil : (yL_chainPupil.cls ≠ "java/lang/invoke/MethodHandle" ∧ yL_chainPupil.cls ≠ "java/lang/invoke/VarHandle") ∧ (parseMethodDescriptor yL_chainPupil.desc).map (fun d => d.parameters.length) = some 3 := ⟨by decide +kernel, by decide +kernel⟩
theorem v_1262 : lw_tbl[1262]? = some (.codeWith yL_chainBlock cL_chainBlock 4 ((some .int)) [(0, 9, 12, 46)]) := by decide +kernel
theorem vy_L_chainBlock : (yL_chainBlock.cls ≠ "java/lang/invoke/MethodHandle" ∧ yL_chainBlock.cls ≠ "java/lang/invoke/VarHandle") ∧ (parseMethodDescriptor yL_chainBlock.desc).map (fun d => d.parameters.length) = some 3 := ⟨by decide +kernel, by decide +kernel⟩
theorem v_1269 : lw_tbl[1269]? = some (.codeWith yL_commonWishes cL_commonWishes 5 ((some .int)) [(0, 10, 13, 21), (0, 10, 17, 13)]) := by decide +kernel
theorem vy_L_commonWishes : (yL_commonWishes.cls ≠ "java/lang/invoke/MethodHandle" ∧ yL_commonWishes.cls ≠ "java/lang/invoke/VarHandle") ∧ (parseMethodDescriptor yL_commonWishes.desc).map (fun d => d.parameters.length) = some 4 := ⟨by decide +kernel, by decide +kernel⟩
theorem v_1281 : lw_tbl[1281]? = some (.codeWith yL_doClash cL_doClash 5 ((some .int)) [(0, 17, 20, 21), (0, 17, 24, 13)]) := by decide +kernel
theorem vy_L_doClash : (yL_doClash.cls ≠ "java/lang/invoke/MethodHandle" ∧ yL_doClash.cls ≠ "java/lang/invoke/VarHandle") ∧ (parseMethodDescriptor yL_doClash.desc).map (fun d => d.parameters.length) = some 4 := ⟨by decide +kernel, by decide +kernel⟩
theorem v_1288 : lw_tbl[1288]? = some (.codeWith yL_arrange cL_arrange 3 ((some .int)) [(0, 8, 11, 15)]) := by decide +kernel
theorem vy_L_arrange : (yL_arrange.cls ≠ "java/lang/invoke/MethodHandle" ∧ yL_arrange.cls ≠ "java/lang/invoke/VarHandle") ∧ (parseMethodDescriptor yL_arrange.desc).map (fun d => d.parameters.length) = some 2 := ⟨by decide +kernel, by decide +kernel⟩
theorem v_1295 : lw_tbl[1295]? = some (.codeWith yL_writeTimetable cL_writeTimetable 4 ((some .int)) [(0, 9, 12, 21)]) := by decide +kernel
theorem vy_L_writeTimetable : (yL_writeTimetable.cls ≠ "java/lang/invoke/MethodHandle" ∧ yL_writeTimetable.cls ≠ "java/lang/invoke/VarHandle") ∧ (parseMethodDescriptor yL_writeTimetable.desc).map (fun d => d.parameters.length) = some 3 := ⟨by decide +kernel, by decide +kernel⟩
theorem v_1581 : lw_tbl[1581]? = some (.codeWith yL_lineAt cL_lineAt 4 ((some .int)) [(0, 9, 12, 21)]) := by decide +kernel
theorem vy_L_lineAt : (yL_lineAt.cls ≠ "java/lang/invoke/MethodHandle" ∧ yL_lineAt.cls ≠ "java/lang/invoke/VarHandle") ∧ (parseMethodDescriptor yL_lineAt.desc).map (fun d => d.parameters.length) = some 3 := ⟨by decide +kernel, by decide +kernel⟩
theorem v_1598 : lw_tbl[1598]? = some (.codeWith yL_type cL_type 4 ((some .int)) [(0, 9, 12, 13), (0, 9, 15, 15)]) := by decide +kernel
theorem vy_L_type : (yL_type.cls ≠ "java/lang/invoke/MethodHandle" ∧ yL_type.cls ≠ "java/lang/invoke/VarHandle") ∧ (parseMethodDescriptor yL_type.desc).map (fun d => d.parameters.length) = some 3 := ⟨by decide +kernel, by decide +kernel⟩
theorem v_1607 : lw_tbl[1607]? = some (.codeWith yL_execute cL_execute 3 ((some .int)) [(0, 8, 11, 13), (0, 8, 14, 15)]) := by decide +kernel
theorem vy_L_execute : (yL_execute.cls ≠ "java/lang/invoke/MethodHandle" ∧ yL_execute.cls ≠ "java/lang/invoke/VarHandle") ∧ (parseMethodDescriptor yL_execute.desc).map (fun d => d.parameters.length) = some 2 := ⟨by decide +kernel, by decide +kernel⟩
theorem v_1684 : lw_tbl[1684]? = some (.codeWith yL_errorPosition cL_errorPosition 3 ((some .int)) [(0, 8, 11, 46)]) := by decide +kernel
theorem vy_L_errorPosition : (yL_errorPosition.cls ≠ "java/lang/invoke/MethodHandle" ∧ yL_errorPosition.cls ≠ "java/lang/invoke/VarHandle") ∧ (parseMethodDescriptor yL_errorPosition.desc).map (fun d => d.parameters.length) = some 2 := ⟨by decide +kernel, by decide +kernel⟩
theorem v_1691 : lw_tbl[1691]? = some (.codeWith yL_failedCommand cL_failedCommand 3 ((some .int)) [(0, 8, 11, 46)]) := by decide +kernel
theorem vy_L_failedCommand : (yL_failedCommand.cls ≠ "java/lang/invoke/MethodHandle" ∧ yL_failedCommand.cls ≠ "java/lang/invoke/VarHandle") ∧ (parseMethodDescriptor yL_failedCommand.desc).map (fun d => d.parameters.length) = some 2 := ⟨by decide +kernel, by decide +kernel⟩
theorem v_1698 : lw_tbl[1698]? = some (.codeWith yL_failureKind cL_failureKind 3 ((some .int)) [(0, 8, 11, 46)]) := by decide +kernel
theorem vy_L_failureKind : (yL_failureKind.cls ≠ "java/lang/invoke/MethodHandle" ∧ yL_failureKind.cls ≠ "java/lang/invoke/VarHandle") ∧ (parseMethodDescriptor yL_failureKind.desc).map (fun d => d.parameters.length) = some 2 := ⟨by decide +kernel, by decide +kernel⟩
theorem v_1705 : lw_tbl[1705]? = some (.codeWith yL_undo cL_undo 3 ((some .int)) [(0, 8, 11, 15)]) := by decide +kernel
theorem vy_L_undo : (yL_undo.cls ≠ "java/lang/invoke/MethodHandle" ∧ yL_undo.cls ≠ "java/lang/invoke/VarHandle") ∧ (parseMethodDescriptor yL_undo.desc).map (fun d => d.parameters.length) = some 2 := ⟨by decide +kernel, by decide +kernel⟩
theorem v_1717 : lw_tbl[1717]? = some (.codeWith yL_restore cL_restore 3 ((some .int)) [(0, 8, 11, 15)]) := by decide +kernel
theorem vy_L_restore : (yL_restore.cls ≠ "java/lang/invoke/MethodHandle" ∧ yL_restore.cls ≠ "java/lang/invoke/VarHandle") ∧ (parseMethodDescriptor yL_restore.desc).map (fun d => d.parameters.length) = some 2 := ⟨by decide +kernel, by decide +kernel⟩

/-! ===== the words by their places ===== -/
theorem v_4 : lw_tbl[0]? = some (Cond.selects "OptionBlockPlanner$Arrangements" yX0_collectCommon yX0_collectCommon) := by decide +kernel
theorem v_5 : lw_tbl[1]? = some (Cond.selects "OptionBlockPlanner$Arrangements" yX0_countPairs yX0_countPairs) := by decide +kernel
theorem v_6 : lw_tbl[2]? = some (Cond.selects "OptionBlockPlanner$Arrangements" yX0_weigh yX0_weigh) := by decide +kernel
theorem v_7 : lw_tbl[3]? = some (Cond.selects "OptionBlockPlanner" yX7_make yX7_make) := by decide +kernel
theorem v_8 : lw_tbl[4]? = some (Cond.selects "OptionBlockPlanner$Changes" yX2_faultOfNewSubject yX2_faultOfNewSubject) := by decide +kernel
theorem v_9 : lw_tbl[5]? = some (Cond.selects "OptionBlockPlanner$Changes" yX2_faultOfBlocks yX2_faultOfBlocks) := by decide +kernel
theorem v_10 : lw_tbl[6]? = some (Cond.selects "OptionBlockPlanner$Changes" yX2_faultOfOpening yX2_faultOfOpening) := by decide +kernel
theorem v_11 : lw_tbl[7]? = some (Cond.selects "OptionBlockPlanner$Changes" yX2_faultOfClosing yX2_faultOfClosing) := by decide +kernel
theorem v_12 : lw_tbl[8]? = some (Cond.selects "OptionBlockPlanner$Changes" yX2_faultOfWish yX2_faultOfWish) := by decide +kernel
theorem v_13 : lw_tbl[9]? = some (Cond.selects "OptionBlockPlanner$Changes" yX2_faultOfReserve yX2_faultOfReserve) := by decide +kernel
theorem v_14 : lw_tbl[10]? = some (Cond.selects "OptionBlockPlanner$Changes" yX2_faultOfJoining yX2_faultOfJoining) := by decide +kernel
theorem v_15 : lw_tbl[11]? = some (Cond.selects "OptionBlockPlanner$Chains" yX1_measure yX1_measure) := by decide +kernel
theorem v_16 : lw_tbl[12]? = some (Cond.selects "OptionBlockPlanner$Chains" yX1_nextBlock yX1_nextBlock) := by decide +kernel
theorem v_17 : lw_tbl[13]? = some (Cond.selects "OptionBlockPlanner$Chains" yX1_nearest yX1_nearest) := by decide +kernel
theorem v_18 : lw_tbl[14]? = some (Cond.selects "OptionBlockPlanner$Changes" yX2_refusal yX2_refusal) := by decide +kernel
theorem v_19 : lw_tbl[15]? = some (Cond.selects "OptionBlockPlanner$Changes" yX2_faultOfQuitting yX2_faultOfQuitting) := by decide +kernel
theorem v_20 : lw_tbl[16]? = some (Cond.selects "OptionBlockPlanner$Changes" yX2_faultOfChanging yX2_faultOfChanging) := by decide +kernel
theorem v_21 : lw_tbl[17]? = some (Cond.selects "java/lang/Throwable" ⟨"java/lang/Throwable", "fillInStackTrace", "(I)Ljava/lang/Throwable;"⟩ ⟨"java/lang/Throwable", "fillInStackTrace", "(I)Ljava/lang/Throwable;"⟩) := by decide +kernel
theorem v_0 : lw_tbl[18]? = some (Cond.selects "OptionBlockPlanner$History" yX3_planIn yX3_planIn) := by decide +kernel
theorem v_1 : lw_tbl[19]? = some (Cond.selects "OptionBlockPlanner$Placements" yX4_collectRoomy yX4_collectRoomy) := by decide +kernel
theorem v_2 : lw_tbl[20]? = some (Cond.selects "OptionBlockPlanner$Placements" yX4_findBest yX4_findBest) := by decide +kernel
theorem v_3 : lw_tbl[21]? = some (Cond.selects "OptionBlockPlanner$Placements" yX4_keepIfBetter yX4_keepIfBetter) := by decide +kernel
theorem v_22 : lw_tbl[22]? = some (Cond.selects "OptionBlockPlanner$Placements" yX4_setsUsedFor yX4_setsUsedFor) := by decide +kernel
theorem v_23 : lw_tbl[23]? = some (Cond.selects "OptionBlockPlanner$Placements" yX4_collectOpen yX4_collectOpen) := by decide +kernel
theorem v_84 : lw_tbl[24]? = some (Cond.initialized "OptionBlockPlannerLaw") := by decide +kernel
theorem v_85 : lw_tbl[25]? = some (Cond.initialized "OptionBlockPlanner") := by decide +kernel
theorem v_86 : lw_tbl[26]? = some (Cond.initialized "OptionBlockPlanner$Plan") := by decide +kernel
theorem v_87 : lw_tbl[27]? = some (Cond.initialized "OptionBlockPlanner$Placements") := by decide +kernel
theorem v_88 : lw_tbl[28]? = some (Cond.initialized "OptionBlockPlanner$Chains") := by decide +kernel
theorem v_89 : lw_tbl[29]? = some (Cond.initialized "OptionBlockPlanner$Arrangements") := by decide +kernel
theorem v_90 : lw_tbl[30]? = some (Cond.initialized "OptionBlockPlanner$Changes") := by decide +kernel
theorem v_91 : lw_tbl[31]? = some (Cond.initialized "OptionBlockPlanner$History") := by decide +kernel
theorem v_92 : lw_tbl[32]? = some (Cond.initialized "OptionBlockPlanner$Program") := by decide +kernel
theorem v_93 : lw_tbl[33]? = some (Cond.initialized "java/lang/AbstractStringBuilder") := by decide +kernel
theorem v_94 : lw_tbl[34]? = some (Cond.initialized "java/lang/StringBuilder") := by decide +kernel
theorem v_95 : lw_tbl[35]? = some (Cond.initialized "java/lang/String") := by decide +kernel
theorem v_96 : lw_tbl[36]? = some (Cond.initialized "java/lang/StringUTF16") := by decide +kernel
theorem v_99 : lw_tbl[37]? = some (Cond.initialized "java/lang/Integer") := by decide +kernel
theorem v_100 : lw_tbl[38]? = some (Cond.initialized "java/lang/Throwable") := by decide +kernel
theorem v_101 : lw_tbl[39]? = some (Cond.initialized "java/lang/Exception") := by decide +kernel
theorem v_102 : lw_tbl[40]? = some (Cond.initialized "java/lang/RuntimeException") := by decide +kernel
theorem v_103 : lw_tbl[41]? = some (Cond.initialized "java/lang/IndexOutOfBoundsException") := by decide +kernel
theorem v_104 : lw_tbl[42]? = some (Cond.initialized "java/lang/IllegalArgumentException") := by decide +kernel
theorem v_105 : lw_tbl[43]? = some (Cond.initialized "java/lang/IllegalStateException") := by decide +kernel
theorem v_106 : lw_tbl[44]? = some (Cond.initialized "java/lang/UnsupportedOperationException") := by decide +kernel
theorem v_107 : lw_tbl[45]? = some (Cond.initialized "java/lang/Math") := by decide +kernel
theorem v_108 : lw_tbl[46]? = some (Cond.initialized "java/lang/System") := by decide +kernel
theorem v_109 : lw_tbl[47]? = some (Cond.initialized "java/lang/ArrayIndexOutOfBoundsException") := by decide +kernel
theorem v_110 : lw_tbl[48]? = some (Cond.initialized "java/util/NoSuchElementException") := by decide +kernel
theorem v_p49 : lw_tbl[49]? = some (Cond.classLink "OptionBlockPlannerLaw" 15 "OptionBlockPlanner") := by decide +kernel
theorem v_118 : lw_tbl[50]? = some (Cond.instantiable "OptionBlockPlanner" 14) := by decide +kernel
theorem v_p51 : lw_tbl[51]? = some (Cond.methodLink "OptionBlockPlannerLaw" 179 yX7_init) := by decide +kernel
theorem v_120 : lw_tbl[52]? = some (Cond.instanceMethod yX7_init) := by decide +kernel
theorem v_122 : lw_tbl[54]? = some (Cond.methodLink "OptionBlockPlanner" 3 ⟨"java/lang/Object", "<init>", "()V"⟩) := by decide +kernel
theorem v_123 : lw_tbl[55]? = some (Cond.instanceMethod ⟨"java/lang/Object", "<init>", "()V"⟩) := by decide +kernel
theorem v_125 : lw_tbl[57]? = some (Cond.classLink "OptionBlockPlanner" 9 "OptionBlockPlanner$Plan") := by decide +kernel
theorem v_126 : lw_tbl[58]? = some (Cond.instantiable "OptionBlockPlanner$Plan" 12) := by decide +kernel
theorem v_127 : lw_tbl[59]? = some (Cond.methodLink "OptionBlockPlanner" 11 yX5_init) := by decide +kernel
theorem v_128 : lw_tbl[60]? = some (Cond.instanceMethod yX5_init) := by decide +kernel
theorem v_130 : lw_tbl[62]? = some (Cond.methodLink "OptionBlockPlanner$Plan" 3 ⟨"java/lang/Object", "<init>", "()V"⟩) := by decide +kernel
theorem v_131 : lw_tbl[63]? = some (Cond.fieldLink "OptionBlockPlanner$Plan" 43 "OptionBlockPlanner$Plan" "subjects" "I") := by decide +kernel
theorem v_132 : lw_tbl[64]? = some (Cond.fieldLinkNest "OptionBlockPlanner" 103 "OptionBlockPlanner$Plan" "subjects" "I" "OptionBlockPlanner") := by decide +kernel
theorem v_133 : lw_tbl[65]? = some (Cond.fieldLinkNest "OptionBlockPlanner$Arrangements" 47 "OptionBlockPlanner$Plan" "subjects" "I" "OptionBlockPlanner") := by decide +kernel
theorem v_134 : lw_tbl[66]? = some (Cond.fieldLinkNest "OptionBlockPlanner$Changes" 121 "OptionBlockPlanner$Plan" "subjects" "I" "OptionBlockPlanner") := by decide +kernel
theorem v_135 : lw_tbl[67]? = some (Cond.fieldLink "OptionBlockPlanner$Plan" 9 "OptionBlockPlanner$Plan" "blocks" "I") := by decide +kernel
theorem v_136 : lw_tbl[68]? = some (Cond.fieldLinkNest "OptionBlockPlanner" 122 "OptionBlockPlanner$Plan" "blocks" "I" "OptionBlockPlanner") := by decide +kernel
theorem v_137 : lw_tbl[69]? = some (Cond.fieldLinkNest "OptionBlockPlanner$Arrangements" 86 "OptionBlockPlanner$Plan" "blocks" "I" "OptionBlockPlanner") := by decide +kernel
theorem v_138 : lw_tbl[70]? = some (Cond.fieldLink "OptionBlockPlanner$Plan" 46 "OptionBlockPlanner$Plan" "pupils" "I") := by decide +kernel
theorem v_139 : lw_tbl[71]? = some (Cond.fieldLinkNest "OptionBlockPlanner$Changes" 45 "OptionBlockPlanner$Plan" "pupils" "I" "OptionBlockPlanner") := by decide +kernel
theorem v_140 : lw_tbl[72]? = some (Cond.fieldLinkNest "OptionBlockPlanner$Arrangements" 64 "OptionBlockPlanner$Plan" "pupils" "I" "OptionBlockPlanner") := by decide +kernel
theorem v_141 : lw_tbl[73]? = some (Cond.fieldLinkNest "OptionBlockPlanner" 150 "OptionBlockPlanner$Plan" "pupils" "I" "OptionBlockPlanner") := by decide +kernel
theorem v_142 : lw_tbl[74]? = some (Cond.fieldLink "OptionBlockPlanner$Plan" 15 "OptionBlockPlanner$Plan" "sizes" "[I") := by decide +kernel
theorem v_143 : lw_tbl[75]? = some (Cond.fieldLinkNest "OptionBlockPlanner" 114 "OptionBlockPlanner$Plan" "sizes" "[I" "OptionBlockPlanner") := by decide +kernel
theorem v_144 : lw_tbl[76]? = some (Cond.fieldLink "OptionBlockPlanner$Plan" 19 "OptionBlockPlanner$Plan" "openSets" "[I") := by decide +kernel
theorem v_145 : lw_tbl[77]? = some (Cond.fieldLink "OptionBlockPlanner$Plan" 22 "OptionBlockPlanner$Plan" "rosters" "[I") := by decide +kernel
theorem v_146 : lw_tbl[78]? = some (Cond.fieldLink "OptionBlockPlanner$Plan" 25 "OptionBlockPlanner$Plan" "wishCounts" "[I") := by decide +kernel
theorem v_147 : lw_tbl[79]? = some (Cond.fieldLinkNest "OptionBlockPlanner$Placements" 33 "OptionBlockPlanner$Plan" "wishCounts" "[I" "OptionBlockPlanner") := by decide +kernel
theorem v_148 : lw_tbl[80]? = some (Cond.fieldLinkNest "OptionBlockPlanner$Changes" 137 "OptionBlockPlanner$Plan" "wishCounts" "[I" "OptionBlockPlanner") := by decide +kernel
theorem v_150 : lw_tbl[81]? = some (Cond.fieldLink "OptionBlockPlanner$Plan" 28 "OptionBlockPlanner$Plan" "wishes" "[I") := by decide +kernel
theorem v_151 : lw_tbl[82]? = some (Cond.fieldLink "OptionBlockPlanner$Plan" 31 "OptionBlockPlanner$Plan" "reserves" "[I") := by decide +kernel
theorem v_152 : lw_tbl[83]? = some (Cond.fieldLinkNest "OptionBlockPlanner$Placements" 50 "OptionBlockPlanner$Plan" "reserves" "[I" "OptionBlockPlanner") := by decide +kernel
theorem v_153 : lw_tbl[84]? = some (Cond.fieldLinkNest "OptionBlockPlanner$Changes" 148 "OptionBlockPlanner$Plan" "reserves" "[I" "OptionBlockPlanner") := by decide +kernel
theorem v_155 : lw_tbl[85]? = some (Cond.fieldLink "OptionBlockPlanner$Plan" 34 "OptionBlockPlanner$Plan" "chainLength" "I") := by decide +kernel
theorem v_156 : lw_tbl[86]? = some (Cond.fieldLinkNest "OptionBlockPlanner" 230 "OptionBlockPlanner$Plan" "chainLength" "I" "OptionBlockPlanner") := by decide +kernel
theorem v_157 : lw_tbl[87]? = some (Cond.fieldLink "OptionBlockPlanner$Plan" 37 "OptionBlockPlanner$Plan" "chainPupils" "[I") := by decide +kernel
theorem v_158 : lw_tbl[88]? = some (Cond.fieldLinkNest "OptionBlockPlanner" 233 "OptionBlockPlanner$Plan" "chainPupils" "[I" "OptionBlockPlanner") := by decide +kernel
theorem v_159 : lw_tbl[89]? = some (Cond.fieldLink "OptionBlockPlanner$Plan" 40 "OptionBlockPlanner$Plan" "chainBlocks" "[I") := by decide +kernel
theorem v_160 : lw_tbl[90]? = some (Cond.fieldLinkNest "OptionBlockPlanner" 236 "OptionBlockPlanner$Plan" "chainBlocks" "[I" "OptionBlockPlanner") := by decide +kernel
theorem v_186 : lw_tbl[116]? = some (Cond.arrayClass .int) := by decide +kernel
theorem v_187 : lw_tbl[117]? = some (Cond.classLink "OptionBlockPlanner" 16 "OptionBlockPlanner$Placements") := by decide +kernel
theorem v_188 : lw_tbl[118]? = some (Cond.instantiable "OptionBlockPlanner$Placements" 6) := by decide +kernel
theorem v_189 : lw_tbl[119]? = some (Cond.methodLink "OptionBlockPlanner" 18 yX4_init) := by decide +kernel
theorem v_190 : lw_tbl[120]? = some (Cond.instanceMethod yX4_init) := by decide +kernel
theorem v_192 : lw_tbl[122]? = some (Cond.methodLink "OptionBlockPlanner$Placements" 3 ⟨"java/lang/Object", "<init>", "()V"⟩) := by decide +kernel
theorem v_193 : lw_tbl[123]? = some (Cond.fieldLink "OptionBlockPlanner$Placements" 9 "OptionBlockPlanner$Placements" "plan" "LOptionBlockPlanner$Plan;") := by decide +kernel
theorem v_194 : lw_tbl[124]? = some (Cond.fieldLink "OptionBlockPlanner$Placements" 15 "OptionBlockPlanner$Placements" "usable" "[I") := by decide +kernel
theorem v_195 : lw_tbl[125]? = some (Cond.fieldLink "OptionBlockPlanner$Placements" 19 "OptionBlockPlanner$Placements" "tried" "[I") := by decide +kernel
theorem v_196 : lw_tbl[126]? = some (Cond.fieldLink "OptionBlockPlanner$Placements" 22 "OptionBlockPlanner$Placements" "best" "[I") := by decide +kernel
theorem v_197 : lw_tbl[127]? = some (Cond.fieldLink "OptionBlockPlanner$Placements" 78 "OptionBlockPlanner$Placements" "fullScore" "I") := by decide +kernel
theorem v_198 : lw_tbl[128]? = some (Cond.fieldLink "OptionBlockPlanner$Placements" 95 "OptionBlockPlanner$Placements" "bestScore" "I") := by decide +kernel
theorem v_212 : lw_tbl[142]? = some (Cond.classLink "OptionBlockPlanner" 25 "OptionBlockPlanner$Chains") := by decide +kernel
theorem v_213 : lw_tbl[143]? = some (Cond.instantiable "OptionBlockPlanner$Chains" 4) := by decide +kernel
theorem v_214 : lw_tbl[144]? = some (Cond.methodLink "OptionBlockPlanner" 27 yX1_init) := by decide +kernel
theorem v_215 : lw_tbl[145]? = some (Cond.instanceMethod yX1_init) := by decide +kernel
theorem v_217 : lw_tbl[147]? = some (Cond.methodLink "OptionBlockPlanner$Chains" 3 ⟨"java/lang/Object", "<init>", "()V"⟩) := by decide +kernel
theorem v_218 : lw_tbl[148]? = some (Cond.fieldLink "OptionBlockPlanner$Chains" 9 "OptionBlockPlanner$Chains" "plan" "LOptionBlockPlanner$Plan;") := by decide +kernel
theorem v_219 : lw_tbl[149]? = some (Cond.fieldLink "OptionBlockPlanner$Chains" 15 "OptionBlockPlanner$Chains" "rosters" "[I") := by decide +kernel
theorem v_220 : lw_tbl[150]? = some (Cond.fieldLink "OptionBlockPlanner$Chains" 19 "OptionBlockPlanner$Chains" "busy" "[I") := by decide +kernel
theorem v_221 : lw_tbl[151]? = some (Cond.fieldLink "OptionBlockPlanner$Chains" 22 "OptionBlockPlanner$Chains" "distances" "[I") := by decide +kernel
theorem v_231 : lw_tbl[161]? = some (Cond.classLink "OptionBlockPlanner" 32 "OptionBlockPlanner$Arrangements") := by decide +kernel
theorem v_232 : lw_tbl[162]? = some (Cond.instantiable "OptionBlockPlanner$Arrangements" 6) := by decide +kernel
theorem v_233 : lw_tbl[163]? = some (Cond.methodLink "OptionBlockPlanner" 34 yX0_init) := by decide +kernel
theorem v_234 : lw_tbl[164]? = some (Cond.instanceMethod yX0_init) := by decide +kernel
theorem v_236 : lw_tbl[166]? = some (Cond.methodLink "OptionBlockPlanner$Arrangements" 3 ⟨"java/lang/Object", "<init>", "()V"⟩) := by decide +kernel
theorem v_237 : lw_tbl[167]? = some (Cond.fieldLink "OptionBlockPlanner$Arrangements" 9 "OptionBlockPlanner$Arrangements" "plan" "LOptionBlockPlanner$Plan;") := by decide +kernel
theorem v_238 : lw_tbl[168]? = some (Cond.fieldLink "OptionBlockPlanner$Arrangements" 15 "OptionBlockPlanner$Arrangements" "common" "[I") := by decide +kernel
theorem v_239 : lw_tbl[169]? = some (Cond.fieldLink "OptionBlockPlanner$Arrangements" 19 "OptionBlockPlanner$Arrangements" "tried" "[I") := by decide +kernel
theorem v_240 : lw_tbl[170]? = some (Cond.fieldLink "OptionBlockPlanner$Arrangements" 22 "OptionBlockPlanner$Arrangements" "best" "[I") := by decide +kernel
theorem v_241 : lw_tbl[171]? = some (Cond.fieldLink "OptionBlockPlanner$Arrangements" 25 "OptionBlockPlanner$Arrangements" "added" "[I") := by decide +kernel
theorem v_242 : lw_tbl[172]? = some (Cond.fieldLink "OptionBlockPlanner$Arrangements" 31 "OptionBlockPlanner$Arrangements" "fewest" "I") := by decide +kernel
theorem v_256 : lw_tbl[186]? = some (Cond.classLink "OptionBlockPlanner" 39 "OptionBlockPlanner$Changes") := by decide +kernel
theorem v_257 : lw_tbl[187]? = some (Cond.instantiable "OptionBlockPlanner$Changes" 5) := by decide +kernel
theorem v_258 : lw_tbl[188]? = some (Cond.methodLink "OptionBlockPlanner" 41 yX2_init) := by decide +kernel
theorem v_259 : lw_tbl[189]? = some (Cond.instanceMethod yX2_init) := by decide +kernel
theorem v_261 : lw_tbl[191]? = some (Cond.methodLink "OptionBlockPlanner$Changes" 3 ⟨"java/lang/Object", "<init>", "()V"⟩) := by decide +kernel
theorem v_262 : lw_tbl[192]? = some (Cond.fieldLink "OptionBlockPlanner$Changes" 9 "OptionBlockPlanner$Changes" "plan" "LOptionBlockPlanner$Plan;") := by decide +kernel
theorem v_263 : lw_tbl[193]? = some (Cond.fieldLink "OptionBlockPlanner$Changes" 15 "OptionBlockPlanner$Changes" "placements" "LOptionBlockPlanner$Placements;") := by decide +kernel
theorem v_264 : lw_tbl[194]? = some (Cond.fieldLink "OptionBlockPlanner$Changes" 19 "OptionBlockPlanner$Changes" "chains" "LOptionBlockPlanner$Chains;") := by decide +kernel
theorem v_265 : lw_tbl[195]? = some (Cond.fieldLink "OptionBlockPlanner$Changes" 23 "OptionBlockPlanner$Changes" "arrangements" "LOptionBlockPlanner$Arrangements;") := by decide +kernel
theorem v_266 : lw_tbl[196]? = some (Cond.fieldLink "OptionBlockPlanner$Changes" 27 "OptionBlockPlanner$Changes" "lastRefusal" "I") := by decide +kernel
theorem v_267 : lw_tbl[197]? = some (Cond.fieldLinkNest "OptionBlockPlanner" 227 "OptionBlockPlanner$Changes" "lastRefusal" "I" "OptionBlockPlanner") := by decide +kernel
theorem v_279 : lw_tbl[209]? = some (Cond.classLink "OptionBlockPlanner" 48 "OptionBlockPlanner$History") := by decide +kernel
theorem v_280 : lw_tbl[210]? = some (Cond.instantiable "OptionBlockPlanner$History" 3) := by decide +kernel
theorem v_281 : lw_tbl[211]? = some (Cond.methodLink "OptionBlockPlanner" 50 yX3_init) := by decide +kernel
theorem v_282 : lw_tbl[212]? = some (Cond.instanceMethod yX3_init) := by decide +kernel
theorem v_284 : lw_tbl[214]? = some (Cond.methodLink "OptionBlockPlanner$History" 3 ⟨"java/lang/Object", "<init>", "()V"⟩) := by decide +kernel
theorem v_285 : lw_tbl[215]? = some (Cond.classLink "OptionBlockPlanner$History" 9 "OptionBlockPlanner$Plan") := by decide +kernel
theorem v_287 : lw_tbl[217]? = some (Cond.methodLink "OptionBlockPlanner$History" 17 yX5_init) := by decide +kernel
theorem v_288 : lw_tbl[218]? = some (Cond.fieldLink "OptionBlockPlanner$History" 11 "OptionBlockPlanner$History" "kept" "[LOptionBlockPlanner$Plan;") := by decide +kernel
theorem v_289 : lw_tbl[219]? = some (Cond.fieldLink "OptionBlockPlanner$History" 18 "OptionBlockPlanner$History" "next" "I") := by decide +kernel
theorem v_290 : lw_tbl[220]? = some (Cond.fieldLink "OptionBlockPlanner$History" 30 "OptionBlockPlanner$History" "count" "I") := by decide +kernel
theorem v_291 : lw_tbl[221]? = some (Cond.fieldLinkNest "OptionBlockPlanner" 313 "OptionBlockPlanner$History" "count" "I" "OptionBlockPlanner") := by decide +kernel
theorem v_299 : lw_tbl[229]? = some (Cond.classLink "OptionBlockPlanner" 61 "OptionBlockPlanner$Program") := by decide +kernel
theorem v_300 : lw_tbl[230]? = some (Cond.instantiable "OptionBlockPlanner$Program" 5) := by decide +kernel
theorem v_301 : lw_tbl[231]? = some (Cond.methodLink "OptionBlockPlanner" 63 yX6_init) := by decide +kernel
theorem v_302 : lw_tbl[232]? = some (Cond.instanceMethod yX6_init) := by decide +kernel
theorem v_304 : lw_tbl[234]? = some (Cond.methodLink "OptionBlockPlanner$Program" 3 ⟨"java/lang/Object", "<init>", "()V"⟩) := by decide +kernel
theorem v_305 : lw_tbl[235]? = some (Cond.classLink "OptionBlockPlanner$Program" 9 "java/lang/StringBuilder") := by decide +kernel
theorem v_306 : lw_tbl[236]? = some (Cond.instantiable "java/lang/StringBuilder" 4) := by decide +kernel
theorem v_307 : lw_tbl[237]? = some (Cond.methodLink "OptionBlockPlanner$Program" 11 yJ4_init_da8c8) := by decide +kernel
theorem v_308 : lw_tbl[238]? = some (Cond.instanceMethod yJ4_init_da8c8) := by decide +kernel
theorem v_310 : lw_tbl[240]? = some (Cond.methodLink "java/lang/StringBuilder" 1 yJ5_init_d00df) := by decide +kernel
theorem v_311 : lw_tbl[241]? = some (Cond.instanceMethod yJ5_init_d00df) := by decide +kernel
theorem v_313 : lw_tbl[243]? = some (Cond.methodLink "java/lang/AbstractStringBuilder" 3 ⟨"java/lang/Object", "<init>", "()V"⟩) := by decide +kernel
theorem v_314 : lw_tbl[244]? = some (Cond.fieldLink "java/lang/AbstractStringBuilder" 18 "java/lang/String" "COMPACT_STRINGS" "Z") := by decide +kernel
theorem v_316 : lw_tbl[246]? = some (Cond.methodLink "java/lang/AbstractStringBuilder" 26 yJ2_newBytesFor_77867) := by decide +kernel
theorem v_317 : lw_tbl[247]? = some (Cond.static yJ2_newBytesFor_77867) := by decide +kernel
theorem v_319 : lw_tbl[249]? = some (Cond.methodLink "java/lang/StringUTF16" 11 yJ2_newBytesLength_0f7a4) := by decide +kernel
theorem v_320 : lw_tbl[250]? = some (Cond.static yJ2_newBytesLength_0f7a4) := by decide +kernel
theorem v_323 : lw_tbl[253]? = some (Cond.fieldLink "java/lang/AbstractStringBuilder" 15 "java/lang/AbstractStringBuilder" "value" "[B") := by decide +kernel
theorem v_324 : lw_tbl[254]? = some (Cond.fieldLink "java/lang/AbstractStringBuilder" 22 "java/lang/AbstractStringBuilder" "coder" "B") := by decide +kernel
theorem v_337 : lw_tbl[264]? = some (Cond.arrayClass .byte) := by decide +kernel
theorem v_338 : lw_tbl[265]? = some (Cond.fieldLink "OptionBlockPlanner$Program" 12 "OptionBlockPlanner$Program" "text" "Ljava/lang/StringBuilder;") := by decide +kernel
theorem v_340 : lw_tbl[266]? = some (Cond.fieldLink "OptionBlockPlanner$Program" 18 "OptionBlockPlanner$Program" "modifications" "[I") := by decide +kernel
theorem v_341 : lw_tbl[267]? = some (Cond.fieldLink "OptionBlockPlanner$Program" 22 "OptionBlockPlanner$Program" "numbers" "[I") := by decide +kernel
theorem v_356 : lw_tbl[279]? = some (Cond.classLink "OptionBlockPlanner" 68 "java/lang/StringBuilder") := by decide +kernel
theorem v_357 : lw_tbl[280]? = some (Cond.methodLink "OptionBlockPlanner" 70 yJ4_init_da8c8) := by decide +kernel
theorem v_358 : lw_tbl[281]? = some (Cond.fieldLink "OptionBlockPlanner" 12 "OptionBlockPlanner" "plan" "LOptionBlockPlanner$Plan;") := by decide +kernel
theorem v_359 : lw_tbl[282]? = some (Cond.fieldLink "OptionBlockPlanner" 21 "OptionBlockPlanner" "placements" "LOptionBlockPlanner$Placements;") := by decide +kernel
theorem v_360 : lw_tbl[283]? = some (Cond.fieldLink "OptionBlockPlanner" 28 "OptionBlockPlanner" "chains" "LOptionBlockPlanner$Chains;") := by decide +kernel
theorem v_361 : lw_tbl[284]? = some (Cond.fieldLink "OptionBlockPlanner" 35 "OptionBlockPlanner" "arrangements" "LOptionBlockPlanner$Arrangements;") := by decide +kernel
theorem v_362 : lw_tbl[285]? = some (Cond.fieldLink "OptionBlockPlanner" 44 "OptionBlockPlanner" "changes" "LOptionBlockPlanner$Changes;") := by decide +kernel
theorem v_363 : lw_tbl[286]? = some (Cond.fieldLink "OptionBlockPlanner" 51 "OptionBlockPlanner" "history" "LOptionBlockPlanner$History;") := by decide +kernel
theorem v_364 : lw_tbl[287]? = some (Cond.fieldLink "OptionBlockPlanner" 55 "OptionBlockPlanner" "snapshot" "LOptionBlockPlanner$Plan;") := by decide +kernel
theorem v_365 : lw_tbl[288]? = some (Cond.fieldLink "OptionBlockPlanner" 58 "OptionBlockPlanner" "beforeProgram" "LOptionBlockPlanner$Plan;") := by decide +kernel
theorem v_366 : lw_tbl[289]? = some (Cond.fieldLink "OptionBlockPlanner" 64 "OptionBlockPlanner" "program" "LOptionBlockPlanner$Program;") := by decide +kernel
theorem v_367 : lw_tbl[290]? = some (Cond.fieldLink "OptionBlockPlanner" 71 "OptionBlockPlanner" "line" "Ljava/lang/StringBuilder;") := by decide +kernel
theorem v_369 : lw_tbl[291]? = some (Cond.fieldLink "OptionBlockPlanner" 75 "OptionBlockPlanner" "errorAt" "I") := by decide +kernel
theorem v_370 : lw_tbl[292]? = some (Cond.fieldLink "OptionBlockPlanner" 79 "OptionBlockPlanner" "failedAt" "I") := by decide +kernel
theorem v_371 : lw_tbl[293]? = some (Cond.fieldLink "OptionBlockPlanner" 82 "OptionBlockPlanner" "failure" "I") := by decide +kernel
theorem v_p323 : lw_tbl[323]? = some (Cond.methodLink "OptionBlockPlannerLaw" 223 yX7_servedCount) := by decide +kernel
theorem v_539 : lw_tbl[324]? = some (Cond.instanceMethod yX7_servedCount) := by decide +kernel
theorem v_540 : lw_tbl[325]? = some (Cond.selects "OptionBlockPlanner" yX7_servedCount yX7_servedCount) := by decide +kernel
theorem v_529 : lw_tbl[327]? = some (Cond.methodLink "OptionBlockPlanner" 180 yX5_attendsWishes) := by decide +kernel
theorem v_530 : lw_tbl[328]? = some (Cond.instanceMethod yX5_attendsWishes) := by decide +kernel
theorem v_531 : lw_tbl[329]? = some (Cond.selects "OptionBlockPlanner$Plan" yX5_attendsWishes yX5_attendsWishes) := by decide +kernel
theorem v_459 : lw_tbl[331]? = some (Cond.methodLinkNest "OptionBlockPlanner$Plan" 60 yX7_read "OptionBlockPlanner") := by decide +kernel
theorem v_460 : lw_tbl[332]? = some (Cond.static yX7_read) := by decide +kernel
theorem v_533 : lw_tbl[334]? = some (Cond.methodLink "OptionBlockPlanner$Plan" 99 yX5_wish) := by decide +kernel
theorem v_476 : lw_tbl[335]? = some (Cond.instanceMethod yX5_wish) := by decide +kernel
theorem v_477 : lw_tbl[336]? = some (Cond.selects "OptionBlockPlanner$Plan" yX5_wish yX5_wish) := by decide +kernel
theorem v_534 : lw_tbl[338]? = some (Cond.methodLink "OptionBlockPlanner$Plan" 102 yX5_blockTaken) := by decide +kernel
theorem v_535 : lw_tbl[339]? = some (Cond.instanceMethod yX5_blockTaken) := by decide +kernel
theorem v_536 : lw_tbl[340]? = some (Cond.selects "OptionBlockPlanner$Plan" yX5_blockTaken yX5_blockTaken) := by decide +kernel
theorem v_455 : lw_tbl[342]? = some (Cond.methodLink "OptionBlockPlanner$Plan" 73 yX5_roster) := by decide +kernel
theorem v_456 : lw_tbl[343]? = some (Cond.instanceMethod yX5_roster) := by decide +kernel
theorem v_457 : lw_tbl[344]? = some (Cond.selects "OptionBlockPlanner$Plan" yX5_roster yX5_roster) := by decide +kernel
theorem v_462 : lw_tbl[346]? = some (Cond.methodLinkNest "OptionBlockPlanner$Plan" 82 yX7_holds "OptionBlockPlanner") := by decide +kernel
theorem v_463 : lw_tbl[347]? = some (Cond.static yX7_holds) := by decide +kernel
theorem v_p349 : lw_tbl[349]? = some (Cond.methodLink "OptionBlockPlannerLaw" 217 yX7_leastClashes) := by decide +kernel
theorem v_559 : lw_tbl[350]? = some (Cond.instanceMethod yX7_leastClashes) := by decide +kernel
theorem v_560 : lw_tbl[351]? = some (Cond.selects "OptionBlockPlanner" yX7_leastClashes yX7_leastClashes) := by decide +kernel
theorem v_562 : lw_tbl[353]? = some (Cond.methodLink "OptionBlockPlanner" 249 yX0_findBest) := by decide +kernel
theorem v_563 : lw_tbl[354]? = some (Cond.instanceMethod yX0_findBest) := by decide +kernel
theorem v_564 : lw_tbl[355]? = some (Cond.selects "OptionBlockPlanner$Arrangements" yX0_findBest yX0_findBest) := by decide +kernel
theorem v_566 : lw_tbl[357]? = some (Cond.methodLink "OptionBlockPlanner$Arrangements" 28 yX0_collectCommon) := by decide +kernel
theorem v_568 : lw_tbl[359]? = some (Cond.instanceMethod yX0_collectCommon) := by decide +kernel
theorem v_570 : lw_tbl[361]? = some (Cond.methodLinkNest "OptionBlockPlanner$Arrangements" 60 yX7_write "OptionBlockPlanner") := by decide +kernel
theorem v_498 : lw_tbl[362]? = some (Cond.static yX7_write) := by decide +kernel
theorem v_571 : lw_tbl[364]? = some (Cond.methodLink "OptionBlockPlanner$Arrangements" 67 yX5_wishSet) := by decide +kernel
theorem v_555 : lw_tbl[365]? = some (Cond.instanceMethod yX5_wishSet) := by decide +kernel
theorem v_556 : lw_tbl[366]? = some (Cond.selects "OptionBlockPlanner$Plan" yX5_wishSet yX5_wishSet) := by decide +kernel
theorem v_572 : lw_tbl[368]? = some (Cond.methodLink "OptionBlockPlanner$Arrangements" 71 yX0_countPairs) := by decide +kernel
theorem v_574 : lw_tbl[370]? = some (Cond.instanceMethod yX0_countPairs) := by decide +kernel
theorem v_576 : lw_tbl[372]? = some (Cond.methodLinkNest "OptionBlockPlanner$Arrangements" 75 yX7_holds "OptionBlockPlanner") := by decide +kernel
theorem v_577 : lw_tbl[373]? = some (Cond.methodLinkNest "OptionBlockPlanner$Arrangements" 52 yX7_read "OptionBlockPlanner") := by decide +kernel
theorem v_578 : lw_tbl[374]? = some (Cond.methodLink "OptionBlockPlanner$Arrangements" 35 yX0_settle) := by decide +kernel
theorem v_579 : lw_tbl[375]? = some (Cond.static yX0_settle) := by decide +kernel
theorem v_581 : lw_tbl[377]? = some (Cond.methodLinkNest "OptionBlockPlanner$Arrangements" 79 yX7_copyRow "OptionBlockPlanner") := by decide +kernel
theorem v_430 : lw_tbl[378]? = some (Cond.static yX7_copyRow) := by decide +kernel
theorem v_432 : lw_tbl[380]? = some (Cond.methodLink "OptionBlockPlanner" 349 yJ9_min_7cf53) := by decide +kernel
theorem v_433 : lw_tbl[381]? = some (Cond.static yJ9_min_7cf53) := by decide +kernel
theorem v_435 : lw_tbl[383]? = some (Cond.methodLink "OptionBlockPlanner" 354 ⟨"java/lang/System", "arraycopy", "(Ljava/lang/Object;ILjava/lang/Object;II)V"⟩) := by decide +kernel
theorem v_436 : lw_tbl[384]? = some (Cond.static ⟨"java/lang/System", "arraycopy", "(Ljava/lang/Object;ILjava/lang/Object;II)V"⟩) := by decide +kernel
theorem v_582 : lw_tbl[386]? = some (Cond.methodLink "OptionBlockPlanner$Arrangements" 83 yX0_weigh) := by decide +kernel
theorem v_584 : lw_tbl[388]? = some (Cond.instanceMethod yX0_weigh) := by decide +kernel
theorem v_p390 : lw_tbl[390]? = some (Cond.methodLink "OptionBlockPlannerLaw" 220 yX7_leastClashesByTrial) := by decide +kernel
theorem v_587 : lw_tbl[391]? = some (Cond.instanceMethod yX7_leastClashesByTrial) := by decide +kernel
theorem v_588 : lw_tbl[392]? = some (Cond.selects "OptionBlockPlanner" yX7_leastClashesByTrial yX7_leastClashesByTrial) := by decide +kernel
theorem v_590 : lw_tbl[394]? = some (Cond.methodLink "OptionBlockPlanner" 252 yX0_fewestByTrial) := by decide +kernel
theorem v_591 : lw_tbl[395]? = some (Cond.instanceMethod yX0_fewestByTrial) := by decide +kernel
theorem v_592 : lw_tbl[396]? = some (Cond.selects "OptionBlockPlanner$Arrangements" yX0_fewestByTrial yX0_fewestByTrial) := by decide +kernel
theorem v_594 : lw_tbl[398]? = some (Cond.methodLink "OptionBlockPlanner$Arrangements" 39 yX0_tryAll) := by decide +kernel
theorem v_595 : lw_tbl[399]? = some (Cond.static yX0_tryAll) := by decide +kernel
theorem v_597 : lw_tbl[401]? = some (Cond.methodLink "OptionBlockPlanner$Arrangements" 89 yJ9_min_7cf53) := by decide +kernel
theorem v_p402 : lw_tbl[402]? = some (Cond.methodLink "OptionBlockPlannerLaw" 8 yL_cell) := by decide +kernel
theorem v_p403 : lw_tbl[403]? = some (Cond.static yL_cell) := by decide +kernel
theorem v_p406 : lw_tbl[406]? = some (Cond.methodLink "OptionBlockPlannerLaw" 180 yL_pick) := by decide +kernel
theorem v_p407 : lw_tbl[407]? = some (Cond.static yL_pick) := by decide +kernel
theorem v_p409 : lw_tbl[409]? = some (Cond.methodLink "OptionBlockPlannerLaw" 186 yL_addSubject) := by decide +kernel
theorem v_604 : lw_tbl[410]? = some (Cond.static yL_addSubject) := by decide +kernel
theorem v_p412 : lw_tbl[412]? = some (Cond.classLink "OptionBlockPlannerLaw" 20 "java/lang/IllegalArgumentException") := by decide +kernel
theorem v_p413 : lw_tbl[413]? = some (Cond.classLink "OptionBlockPlannerLaw" 22 "java/lang/IllegalStateException") := by decide +kernel
theorem v_p414 : lw_tbl[414]? = some (Cond.methodLink "OptionBlockPlannerLaw" 14 yX7_addSubject) := by decide +kernel
theorem v_609 : lw_tbl[415]? = some (Cond.instanceMethod yX7_addSubject) := by decide +kernel
theorem v_610 : lw_tbl[416]? = some (Cond.selects "OptionBlockPlanner" yX7_addSubject yX7_addSubject) := by decide +kernel
theorem v_612 : lw_tbl[418]? = some (Cond.methodLink "OptionBlockPlanner" 85 yX7_make) := by decide +kernel
theorem v_614 : lw_tbl[420]? = some (Cond.instanceMethod yX7_make) := by decide +kernel
theorem v_616 : lw_tbl[422]? = some (Cond.methodLink "OptionBlockPlanner" 305 yX2_faultOf) := by decide +kernel
theorem v_617 : lw_tbl[423]? = some (Cond.instanceMethod yX2_faultOf) := by decide +kernel
theorem v_618 : lw_tbl[424]? = some (Cond.selects "OptionBlockPlanner$Changes" yX2_faultOf yX2_faultOf) := by decide +kernel
theorem v_620 : lw_tbl[426]? = some (Cond.methodLink "OptionBlockPlanner$Changes" 31 yX2_faultOfNewSubject) := by decide +kernel
theorem v_622 : lw_tbl[428]? = some (Cond.instanceMethod yX2_faultOfNewSubject) := by decide +kernel
theorem v_624 : lw_tbl[430]? = some (Cond.methodLink "OptionBlockPlanner$Changes" 35 yX2_faultOfBlocks) := by decide +kernel
theorem v_626 : lw_tbl[432]? = some (Cond.instanceMethod yX2_faultOfBlocks) := by decide +kernel
theorem v_628 : lw_tbl[434]? = some (Cond.methodLink "OptionBlockPlanner$Changes" 79 yX5_openBlocks) := by decide +kernel
theorem v_484 : lw_tbl[435]? = some (Cond.instanceMethod yX5_openBlocks) := by decide +kernel
theorem v_485 : lw_tbl[436]? = some (Cond.selects "OptionBlockPlanner$Plan" yX5_openBlocks yX5_openBlocks) := by decide +kernel
theorem v_487 : lw_tbl[438]? = some (Cond.methodLink "OptionBlockPlanner$Plan" 53 yX5_hasSubject) := by decide +kernel
theorem v_488 : lw_tbl[439]? = some (Cond.instanceMethod yX5_hasSubject) := by decide +kernel
theorem v_489 : lw_tbl[440]? = some (Cond.selects "OptionBlockPlanner$Plan" yX5_hasSubject yX5_hasSubject) := by decide +kernel
theorem v_629 : lw_tbl[442]? = some (Cond.methodLink "OptionBlockPlanner$Changes" 38 yX2_faultOfOpening) := by decide +kernel
theorem v_631 : lw_tbl[444]? = some (Cond.instanceMethod yX2_faultOfOpening) := by decide +kernel
theorem v_633 : lw_tbl[446]? = some (Cond.methodLink "OptionBlockPlanner$Changes" 127 yX5_hasClass) := by decide +kernel
theorem v_521 : lw_tbl[447]? = some (Cond.instanceMethod yX5_hasClass) := by decide +kernel
theorem v_522 : lw_tbl[448]? = some (Cond.selects "OptionBlockPlanner$Plan" yX5_hasClass yX5_hasClass) := by decide +kernel
theorem v_524 : lw_tbl[450]? = some (Cond.methodLink "OptionBlockPlanner$Plan" 57 yX5_hasBlock) := by decide +kernel
theorem v_525 : lw_tbl[451]? = some (Cond.instanceMethod yX5_hasBlock) := by decide +kernel
theorem v_526 : lw_tbl[452]? = some (Cond.selects "OptionBlockPlanner$Plan" yX5_hasBlock yX5_hasBlock) := by decide +kernel
theorem v_634 : lw_tbl[454]? = some (Cond.methodLinkNest "OptionBlockPlanner$Changes" 131 yX7_holds "OptionBlockPlanner") := by decide +kernel
theorem v_635 : lw_tbl[455]? = some (Cond.methodLink "OptionBlockPlanner$Changes" 42 yX2_faultOfClosing) := by decide +kernel
theorem v_637 : lw_tbl[457]? = some (Cond.instanceMethod yX2_faultOfClosing) := by decide +kernel
theorem v_639 : lw_tbl[459]? = some (Cond.methodLink "OptionBlockPlanner$Changes" 134 yX5_roster) := by decide +kernel
theorem v_640 : lw_tbl[460]? = some (Cond.methodLink "OptionBlockPlanner$Changes" 50 yX2_faultOfWish) := by decide +kernel
theorem v_642 : lw_tbl[462]? = some (Cond.instanceMethod yX2_faultOfWish) := by decide +kernel
theorem v_644 : lw_tbl[464]? = some (Cond.methodLink "OptionBlockPlanner$Changes" 53 yX2_faultOfReserve) := by decide +kernel
theorem v_646 : lw_tbl[466]? = some (Cond.instanceMethod yX2_faultOfReserve) := by decide +kernel
theorem v_443 : lw_tbl[468]? = some (Cond.methodLink "OptionBlockPlanner$Changes" 111 yX5_hasPupil) := by decide +kernel
theorem v_444 : lw_tbl[469]? = some (Cond.instanceMethod yX5_hasPupil) := by decide +kernel
theorem v_445 : lw_tbl[470]? = some (Cond.selects "OptionBlockPlanner$Plan" yX5_hasPupil yX5_hasPupil) := by decide +kernel
theorem v_648 : lw_tbl[472]? = some (Cond.methodLink "OptionBlockPlanner$Changes" 115 yX5_hasSubject) := by decide +kernel
theorem v_649 : lw_tbl[473]? = some (Cond.methodLink "OptionBlockPlanner$Changes" 145 yX5_wishSet) := by decide +kernel
theorem v_465 : lw_tbl[474]? = some (Cond.methodLinkNest "OptionBlockPlanner$Changes" 141 yX7_read "OptionBlockPlanner") := by decide +kernel
theorem v_650 : lw_tbl[475]? = some (Cond.methodLink "OptionBlockPlanner$Changes" 56 yX2_faultOfEnrolling) := by decide +kernel
theorem v_440 : lw_tbl[476]? = some (Cond.instanceMethod yX2_faultOfEnrolling) := by decide +kernel
theorem v_441 : lw_tbl[477]? = some (Cond.selects "OptionBlockPlanner$Changes" yX2_faultOfEnrolling yX2_faultOfEnrolling) := by decide +kernel
theorem v_447 : lw_tbl[479]? = some (Cond.methodLink "OptionBlockPlanner$Changes" 151 yX5_lessonsOf) := by decide +kernel
theorem v_448 : lw_tbl[480]? = some (Cond.instanceMethod yX5_lessonsOf) := by decide +kernel
theorem v_449 : lw_tbl[481]? = some (Cond.selects "OptionBlockPlanner$Plan" yX5_lessonsOf yX5_lessonsOf) := by decide +kernel
theorem v_451 : lw_tbl[483]? = some (Cond.methodLink "OptionBlockPlanner$Plan" 96 yX5_busyPupils) := by decide +kernel
theorem v_452 : lw_tbl[484]? = some (Cond.instanceMethod yX5_busyPupils) := by decide +kernel
theorem v_453 : lw_tbl[485]? = some (Cond.selects "OptionBlockPlanner$Plan" yX5_busyPupils yX5_busyPupils) := by decide +kernel
theorem v_651 : lw_tbl[487]? = some (Cond.methodLink "OptionBlockPlanner$Changes" 59 yX2_faultOfJoining) := by decide +kernel
theorem v_653 : lw_tbl[489]? = some (Cond.instanceMethod yX2_faultOfJoining) := by decide +kernel
theorem v_655 : lw_tbl[491]? = some (Cond.methodLink "OptionBlockPlanner$Changes" 154 yX2_faultOfJoiner) := by decide +kernel
theorem v_656 : lw_tbl[492]? = some (Cond.instanceMethod yX2_faultOfJoiner) := by decide +kernel
theorem v_657 : lw_tbl[493]? = some (Cond.selects "OptionBlockPlanner$Changes" yX2_faultOfJoiner yX2_faultOfJoiner) := by decide +kernel
theorem v_659 : lw_tbl[495]? = some (Cond.methodLink "OptionBlockPlanner$Changes" 118 yX5_blockTaken) := by decide +kernel
theorem v_660 : lw_tbl[496]? = some (Cond.methodLink "OptionBlockPlanner$Changes" 157 yX5_freeBlocks) := by decide +kernel
theorem v_661 : lw_tbl[497]? = some (Cond.instanceMethod yX5_freeBlocks) := by decide +kernel
theorem v_662 : lw_tbl[498]? = some (Cond.selects "OptionBlockPlanner$Plan" yX5_freeBlocks yX5_freeBlocks) := by decide +kernel
theorem v_664 : lw_tbl[500]? = some (Cond.methodLink "OptionBlockPlanner$Changes" 160 yX1_fewestMoves) := by decide +kernel
theorem v_665 : lw_tbl[501]? = some (Cond.instanceMethod yX1_fewestMoves) := by decide +kernel
theorem v_666 : lw_tbl[502]? = some (Cond.selects "OptionBlockPlanner$Chains" yX1_fewestMoves yX1_fewestMoves) := by decide +kernel
theorem v_668 : lw_tbl[504]? = some (Cond.methodLink "OptionBlockPlanner$Chains" 25 yX5_roomyBlocks) := by decide +kernel
theorem v_480 : lw_tbl[505]? = some (Cond.instanceMethod yX5_roomyBlocks) := by decide +kernel
theorem v_481 : lw_tbl[506]? = some (Cond.selects "OptionBlockPlanner$Plan" yX5_roomyBlocks yX5_roomyBlocks) := by decide +kernel
theorem v_483 : lw_tbl[508]? = some (Cond.methodLink "OptionBlockPlanner$Plan" 64 yX5_openBlocks) := by decide +kernel
theorem v_491 : lw_tbl[509]? = some (Cond.methodLink "OptionBlockPlanner$Plan" 68 yJ6_bitCount_0f7a4) := by decide +kernel
theorem v_492 : lw_tbl[510]? = some (Cond.static yJ6_bitCount_0f7a4) := by decide +kernel
theorem v_669 : lw_tbl[515]? = some (Cond.methodLink "OptionBlockPlanner$Chains" 31 yX5_roster) := by decide +kernel
theorem v_670 : lw_tbl[516]? = some (Cond.methodLinkNest "OptionBlockPlanner$Chains" 34 yX7_write "OptionBlockPlanner") := by decide +kernel
theorem v_671 : lw_tbl[517]? = some (Cond.methodLink "OptionBlockPlanner$Chains" 38 yX5_busyPupils) := by decide +kernel
theorem v_672 : lw_tbl[518]? = some (Cond.methodLinkNest "OptionBlockPlanner$Chains" 42 yX7_holds "OptionBlockPlanner") := by decide +kernel
theorem v_673 : lw_tbl[519]? = some (Cond.methodLink "OptionBlockPlanner$Chains" 46 yX1_measure) := by decide +kernel
theorem v_675 : lw_tbl[521]? = some (Cond.instanceMethod yX1_measure) := by decide +kernel
theorem v_677 : lw_tbl[523]? = some (Cond.methodLinkNest "OptionBlockPlanner$Chains" 53 yX7_read "OptionBlockPlanner") := by decide +kernel
theorem v_678 : lw_tbl[524]? = some (Cond.methodLink "OptionBlockPlanner$Chains" 70 yX1_nextBlock) := by decide +kernel
theorem v_680 : lw_tbl[526]? = some (Cond.instanceMethod yX1_nextBlock) := by decide +kernel
theorem v_682 : lw_tbl[528]? = some (Cond.methodLink "OptionBlockPlanner$Chains" 50 yX1_nearest) := by decide +kernel
theorem v_684 : lw_tbl[530]? = some (Cond.instanceMethod yX1_nearest) := by decide +kernel
theorem v_686 : lw_tbl[532]? = some (Cond.methodLink "OptionBlockPlanner$Changes" 163 yX2_refusal) := by decide +kernel
theorem v_688 : lw_tbl[534]? = some (Cond.instanceMethod yX2_refusal) := by decide +kernel
theorem v_690 : lw_tbl[536]? = some (Cond.methodLink "OptionBlockPlanner$Changes" 166 yX1_reasonAgainst) := by decide +kernel
theorem v_691 : lw_tbl[537]? = some (Cond.instanceMethod yX1_reasonAgainst) := by decide +kernel
theorem v_692 : lw_tbl[538]? = some (Cond.selects "OptionBlockPlanner$Chains" yX1_reasonAgainst yX1_reasonAgainst) := by decide +kernel
theorem v_694 : lw_tbl[540]? = some (Cond.methodLink "OptionBlockPlanner$Chains" 57 yX5_openBlocks) := by decide +kernel
theorem v_695 : lw_tbl[541]? = some (Cond.methodLink "OptionBlockPlanner$Changes" 62 yX2_faultOfQuitting) := by decide +kernel
theorem v_697 : lw_tbl[543]? = some (Cond.instanceMethod yX2_faultOfQuitting) := by decide +kernel
theorem v_699 : lw_tbl[545]? = some (Cond.methodLink "OptionBlockPlanner$Changes" 65 yX2_faultOfChanging) := by decide +kernel
theorem v_701 : lw_tbl[547]? = some (Cond.instanceMethod yX2_faultOfChanging) := by decide +kernel
theorem v_703 : lw_tbl[549]? = some (Cond.methodLink "OptionBlockPlanner$Changes" 69 yX5_lessonsOfAll) := by decide +kernel
theorem v_704 : lw_tbl[550]? = some (Cond.instanceMethod yX5_lessonsOfAll) := by decide +kernel
theorem v_705 : lw_tbl[551]? = some (Cond.selects "OptionBlockPlanner$Plan" yX5_lessonsOfAll yX5_lessonsOfAll) := by decide +kernel
theorem v_707 : lw_tbl[553]? = some (Cond.methodLink "OptionBlockPlanner" 93 yX7_throwFault) := by decide +kernel
theorem v_708 : lw_tbl[554]? = some (Cond.static yX7_throwFault) := by decide +kernel
theorem v_710 : lw_tbl[556]? = some (Cond.classLink "OptionBlockPlanner" 330 "java/lang/IndexOutOfBoundsException") := by decide +kernel
theorem v_711 : lw_tbl[557]? = some (Cond.instantiable "java/lang/IndexOutOfBoundsException" 6) := by decide +kernel
theorem v_712 : lw_tbl[558]? = some (Cond.castable "java/lang/IndexOutOfBoundsException" "java/lang/IndexOutOfBoundsException") := by decide +kernel
theorem v_719 : lw_tbl[565]? = some (Cond.selects "java/lang/IndexOutOfBoundsException" ⟨"java/lang/Throwable", "fillInStackTrace", "(I)Ljava/lang/Throwable;"⟩ ⟨"java/lang/Throwable", "fillInStackTrace", "(I)Ljava/lang/Throwable;"⟩) := by decide +kernel
theorem v_720 : lw_tbl[566]? = some (Cond.selects "java/lang/IndexOutOfBoundsException" ⟨"java/lang/Throwable", "fillInStackTrace", "()Ljava/lang/Throwable;"⟩ ⟨"java/lang/Throwable", "fillInStackTrace", "()Ljava/lang/Throwable;"⟩) := by decide +kernel
theorem v_731 : lw_tbl[577]? = some (Cond.fieldLink "java/lang/Throwable" 198 "java/lang/Throwable" "backtrace" "Ljava/lang/Object;") := by decide +kernel
theorem v_733 : lw_tbl[579]? = some (Cond.instanceMethod ⟨"java/lang/Throwable", "<init>", "()V"⟩) := by decide +kernel
theorem v_735 : lw_tbl[581]? = some (Cond.methodLink "java/lang/Throwable" 1 ⟨"java/lang/Object", "<init>", "()V"⟩) := by decide +kernel
theorem v_736 : lw_tbl[582]? = some (Cond.fieldLink "java/lang/Throwable" 13 "java/lang/Throwable" "UNASSIGNED_STACK" "[Ljava/lang/StackTraceElement;") := by decide +kernel
theorem v_738 : lw_tbl[584]? = some (Cond.fieldLink "java/lang/Throwable" 20 "java/lang/Throwable" "SUPPRESSED_SENTINEL" "Ljava/util/List;") := by decide +kernel
theorem v_740 : lw_tbl[586]? = some (Cond.methodLink "java/lang/Throwable" 27 ⟨"java/lang/Throwable", "fillInStackTrace", "()Ljava/lang/Throwable;"⟩) := by decide +kernel
theorem v_741 : lw_tbl[587]? = some (Cond.instanceMethod ⟨"java/lang/Throwable", "fillInStackTrace", "()Ljava/lang/Throwable;"⟩) := by decide +kernel
theorem v_744 : lw_tbl[589]? = some (Cond.selects "java/lang/ArrayIndexOutOfBoundsException" ⟨"java/lang/Throwable", "fillInStackTrace", "()Ljava/lang/Throwable;"⟩ ⟨"java/lang/Throwable", "fillInStackTrace", "()Ljava/lang/Throwable;"⟩) := by decide +kernel
theorem v_745 : lw_tbl[590]? = some (Cond.selects "java/lang/IllegalArgumentException" ⟨"java/lang/Throwable", "fillInStackTrace", "()Ljava/lang/Throwable;"⟩ ⟨"java/lang/Throwable", "fillInStackTrace", "()Ljava/lang/Throwable;"⟩) := by decide +kernel
theorem v_746 : lw_tbl[591]? = some (Cond.selects "java/lang/IllegalStateException" ⟨"java/lang/Throwable", "fillInStackTrace", "()Ljava/lang/Throwable;"⟩ ⟨"java/lang/Throwable", "fillInStackTrace", "()Ljava/lang/Throwable;"⟩) := by decide +kernel
theorem v_748 : lw_tbl[592]? = some (Cond.selects "java/lang/UnsupportedOperationException" ⟨"java/lang/Throwable", "fillInStackTrace", "()Ljava/lang/Throwable;"⟩ ⟨"java/lang/Throwable", "fillInStackTrace", "()Ljava/lang/Throwable;"⟩) := by decide +kernel
theorem v_749 : lw_tbl[593]? = some (Cond.selects "java/util/NoSuchElementException" ⟨"java/lang/Throwable", "fillInStackTrace", "()Ljava/lang/Throwable;"⟩ ⟨"java/lang/Throwable", "fillInStackTrace", "()Ljava/lang/Throwable;"⟩) := by decide +kernel
theorem v_751 : lw_tbl[595]? = some (Cond.methodLink "java/lang/Throwable" 202 ⟨"java/lang/Throwable", "fillInStackTrace", "(I)Ljava/lang/Throwable;"⟩) := by decide +kernel
theorem v_753 : lw_tbl[597]? = some (Cond.instanceMethod ⟨"java/lang/Throwable", "fillInStackTrace", "(I)Ljava/lang/Throwable;"⟩) := by decide +kernel
theorem v_754 : lw_tbl[598]? = some (Cond.instantiable "java/lang/Throwable" 6) := by decide +kernel
theorem v_756 : lw_tbl[600]? = some (Cond.stringRef "OptionBlockPlanner" 332 "no such number") := by decide +kernel
theorem v_757 : lw_tbl[601]? = some (Cond.methodLink "OptionBlockPlanner" 334 ⟨"java/lang/IndexOutOfBoundsException", "<init>", "(Ljava/lang/String;)V"⟩) := by decide +kernel
theorem v_758 : lw_tbl[602]? = some (Cond.instanceMethod ⟨"java/lang/IndexOutOfBoundsException", "<init>", "(Ljava/lang/String;)V"⟩) := by decide +kernel
theorem v_760 : lw_tbl[604]? = some (Cond.methodLink "java/lang/IndexOutOfBoundsException" 7 ⟨"java/lang/RuntimeException", "<init>", "(Ljava/lang/String;)V"⟩) := by decide +kernel
theorem v_761 : lw_tbl[605]? = some (Cond.instanceMethod ⟨"java/lang/RuntimeException", "<init>", "(Ljava/lang/String;)V"⟩) := by decide +kernel
theorem v_763 : lw_tbl[607]? = some (Cond.methodLink "java/lang/RuntimeException" 7 ⟨"java/lang/Exception", "<init>", "(Ljava/lang/String;)V"⟩) := by decide +kernel
theorem v_764 : lw_tbl[608]? = some (Cond.instanceMethod ⟨"java/lang/Exception", "<init>", "(Ljava/lang/String;)V"⟩) := by decide +kernel
theorem v_766 : lw_tbl[610]? = some (Cond.methodLink "java/lang/Exception" 7 ⟨"java/lang/Throwable", "<init>", "(Ljava/lang/String;)V"⟩) := by decide +kernel
theorem v_767 : lw_tbl[611]? = some (Cond.instanceMethod ⟨"java/lang/Throwable", "<init>", "(Ljava/lang/String;)V"⟩) := by decide +kernel
theorem v_770 : lw_tbl[614]? = some (Cond.fieldLink "java/lang/Throwable" 31 "java/lang/Throwable" "detailMessage" "Ljava/lang/String;") := by decide +kernel
theorem v_771 : lw_tbl[615]? = some (Cond.fieldLink "java/lang/Throwable" 7 "java/lang/Throwable" "cause" "Ljava/lang/Throwable;") := by decide +kernel
theorem v_772 : lw_tbl[616]? = some (Cond.fieldLink "java/lang/Throwable" 17 "java/lang/Throwable" "stackTrace" "[Ljava/lang/StackTraceElement;") := by decide +kernel
theorem v_773 : lw_tbl[617]? = some (Cond.fieldLink "java/lang/Throwable" 24 "java/lang/Throwable" "suppressedExceptions" "Ljava/util/List;") := by decide +kernel
theorem v_782 : lw_tbl[626]? = some (Cond.classLink "OptionBlockPlanner" 275 "java/lang/IllegalArgumentException") := by decide +kernel
theorem v_783 : lw_tbl[627]? = some (Cond.instantiable "java/lang/IllegalArgumentException" 6) := by decide +kernel
theorem v_784 : lw_tbl[628]? = some (Cond.castable "java/lang/IllegalArgumentException" "java/lang/IllegalArgumentException") := by decide +kernel
theorem v_785 : lw_tbl[629]? = some (Cond.selects "java/lang/IllegalArgumentException" ⟨"java/lang/Throwable", "fillInStackTrace", "(I)Ljava/lang/Throwable;"⟩ ⟨"java/lang/Throwable", "fillInStackTrace", "(I)Ljava/lang/Throwable;"⟩) := by decide +kernel
theorem v_791 : lw_tbl[635]? = some (Cond.stringRef "OptionBlockPlanner" 340 "out of range") := by decide +kernel
theorem v_792 : lw_tbl[636]? = some (Cond.methodLink "OptionBlockPlanner" 279 ⟨"java/lang/IllegalArgumentException", "<init>", "(Ljava/lang/String;)V"⟩) := by decide +kernel
theorem v_793 : lw_tbl[637]? = some (Cond.instanceMethod ⟨"java/lang/IllegalArgumentException", "<init>", "(Ljava/lang/String;)V"⟩) := by decide +kernel
theorem v_795 : lw_tbl[639]? = some (Cond.methodLink "java/lang/IllegalArgumentException" 7 ⟨"java/lang/RuntimeException", "<init>", "(Ljava/lang/String;)V"⟩) := by decide +kernel
theorem v_798 : lw_tbl[642]? = some (Cond.classLink "OptionBlockPlanner" 283 "java/lang/IllegalStateException") := by decide +kernel
theorem v_799 : lw_tbl[643]? = some (Cond.instantiable "java/lang/IllegalStateException" 6) := by decide +kernel
theorem v_800 : lw_tbl[644]? = some (Cond.castable "java/lang/IllegalStateException" "java/lang/IllegalStateException") := by decide +kernel
theorem v_801 : lw_tbl[645]? = some (Cond.selects "java/lang/IllegalStateException" ⟨"java/lang/Throwable", "fillInStackTrace", "(I)Ljava/lang/Throwable;"⟩ ⟨"java/lang/Throwable", "fillInStackTrace", "(I)Ljava/lang/Throwable;"⟩) := by decide +kernel
theorem v_807 : lw_tbl[651]? = some (Cond.stringRef "OptionBlockPlanner" 342 "not in this state") := by decide +kernel
theorem v_808 : lw_tbl[652]? = some (Cond.methodLink "OptionBlockPlanner" 287 ⟨"java/lang/IllegalStateException", "<init>", "(Ljava/lang/String;)V"⟩) := by decide +kernel
theorem v_809 : lw_tbl[653]? = some (Cond.instanceMethod ⟨"java/lang/IllegalStateException", "<init>", "(Ljava/lang/String;)V"⟩) := by decide +kernel
theorem v_811 : lw_tbl[655]? = some (Cond.methodLink "java/lang/IllegalStateException" 7 ⟨"java/lang/RuntimeException", "<init>", "(Ljava/lang/String;)V"⟩) := by decide +kernel
theorem v_814 : lw_tbl[658]? = some (Cond.classLink "OptionBlockPlanner" 344 "java/lang/UnsupportedOperationException") := by decide +kernel
theorem v_815 : lw_tbl[659]? = some (Cond.instantiable "java/lang/UnsupportedOperationException" 6) := by decide +kernel
theorem v_816 : lw_tbl[660]? = some (Cond.castable "java/lang/UnsupportedOperationException" "java/lang/UnsupportedOperationException") := by decide +kernel
theorem v_817 : lw_tbl[661]? = some (Cond.selects "java/lang/UnsupportedOperationException" ⟨"java/lang/Throwable", "fillInStackTrace", "(I)Ljava/lang/Throwable;"⟩ ⟨"java/lang/Throwable", "fillInStackTrace", "(I)Ljava/lang/Throwable;"⟩) := by decide +kernel
theorem v_823 : lw_tbl[667]? = some (Cond.stringRef "OptionBlockPlanner" 346 "refused") := by decide +kernel
theorem v_824 : lw_tbl[668]? = some (Cond.methodLink "OptionBlockPlanner" 348 ⟨"java/lang/UnsupportedOperationException", "<init>", "(Ljava/lang/String;)V"⟩) := by decide +kernel
theorem v_825 : lw_tbl[669]? = some (Cond.instanceMethod ⟨"java/lang/UnsupportedOperationException", "<init>", "(Ljava/lang/String;)V"⟩) := by decide +kernel
theorem v_827 : lw_tbl[671]? = some (Cond.methodLink "java/lang/UnsupportedOperationException" 7 ⟨"java/lang/RuntimeException", "<init>", "(Ljava/lang/String;)V"⟩) := by decide +kernel
theorem v_417 : lw_tbl[674]? = some (Cond.methodLink "OptionBlockPlanner" 97 yX3_keep) := by decide +kernel
theorem v_418 : lw_tbl[675]? = some (Cond.instanceMethod yX3_keep) := by decide +kernel
theorem v_419 : lw_tbl[676]? = some (Cond.selects "OptionBlockPlanner$History" yX3_keep yX3_keep) := by decide +kernel
theorem v_421 : lw_tbl[678]? = some (Cond.methodLink "OptionBlockPlanner$History" 22 yX3_planIn) := by decide +kernel
theorem v_423 : lw_tbl[680]? = some (Cond.instanceMethod yX3_planIn) := by decide +kernel
theorem v_425 : lw_tbl[682]? = some (Cond.methodLink "OptionBlockPlanner$History" 26 yX5_copyFrom) := by decide +kernel
theorem v_426 : lw_tbl[683]? = some (Cond.instanceMethod yX5_copyFrom) := by decide +kernel
theorem v_427 : lw_tbl[684]? = some (Cond.selects "OptionBlockPlanner$Plan" yX5_copyFrom yX5_copyFrom) := by decide +kernel
theorem v_429 : lw_tbl[686]? = some (Cond.methodLinkNest "OptionBlockPlanner$Plan" 49 yX7_copyRow "OptionBlockPlanner") := by decide +kernel
theorem v_438 : lw_tbl[687]? = some (Cond.methodLink "OptionBlockPlanner$History" 33 yJ9_min_7cf53) := by decide +kernel
theorem v_830 : lw_tbl[688]? = some (Cond.methodLink "OptionBlockPlanner" 310 yX2_perform) := by decide +kernel
theorem v_831 : lw_tbl[689]? = some (Cond.instanceMethod yX2_perform) := by decide +kernel
theorem v_832 : lw_tbl[690]? = some (Cond.selects "OptionBlockPlanner$Changes" yX2_perform yX2_perform) := by decide +kernel
theorem v_834 : lw_tbl[692]? = some (Cond.methodLink "OptionBlockPlanner$Changes" 73 yX5_newSubject) := by decide +kernel
theorem v_835 : lw_tbl[693]? = some (Cond.instanceMethod yX5_newSubject) := by decide +kernel
theorem v_836 : lw_tbl[694]? = some (Cond.selects "OptionBlockPlanner$Plan" yX5_newSubject yX5_newSubject) := by decide +kernel
theorem v_528 : lw_tbl[696]? = some (Cond.methodLinkNest "OptionBlockPlanner$Plan" 86 yX7_write "OptionBlockPlanner") := by decide +kernel
theorem v_838 : lw_tbl[697]? = some (Cond.methodLink "OptionBlockPlanner$Changes" 76 yX5_setBlocks) := by decide +kernel
theorem v_839 : lw_tbl[698]? = some (Cond.instanceMethod yX5_setBlocks) := by decide +kernel
theorem v_840 : lw_tbl[699]? = some (Cond.selects "OptionBlockPlanner$Plan" yX5_setBlocks yX5_setBlocks) := by decide +kernel
theorem v_842 : lw_tbl[701]? = some (Cond.methodLink "OptionBlockPlanner$Changes" 82 yX5_setOpenBlocks) := by decide +kernel
theorem v_843 : lw_tbl[702]? = some (Cond.instanceMethod yX5_setOpenBlocks) := by decide +kernel
theorem v_844 : lw_tbl[703]? = some (Cond.selects "OptionBlockPlanner$Plan" yX5_setOpenBlocks yX5_setOpenBlocks) := by decide +kernel
theorem v_846 : lw_tbl[705]? = some (Cond.methodLink "OptionBlockPlanner$Changes" 85 yX5_newPupil) := by decide +kernel
theorem v_847 : lw_tbl[706]? = some (Cond.instanceMethod yX5_newPupil) := by decide +kernel
theorem v_848 : lw_tbl[707]? = some (Cond.selects "OptionBlockPlanner$Plan" yX5_newPupil yX5_newPupil) := by decide +kernel
theorem v_850 : lw_tbl[709]? = some (Cond.methodLink "OptionBlockPlanner$Changes" 88 yX5_newWish) := by decide +kernel
theorem v_851 : lw_tbl[710]? = some (Cond.instanceMethod yX5_newWish) := by decide +kernel
theorem v_852 : lw_tbl[711]? = some (Cond.selects "OptionBlockPlanner$Plan" yX5_newWish yX5_newWish) := by decide +kernel
theorem v_854 : lw_tbl[713]? = some (Cond.methodLink "OptionBlockPlanner$Changes" 91 yX5_newReserve) := by decide +kernel
theorem v_855 : lw_tbl[714]? = some (Cond.instanceMethod yX5_newReserve) := by decide +kernel
theorem v_856 : lw_tbl[715]? = some (Cond.selects "OptionBlockPlanner$Plan" yX5_newReserve yX5_newReserve) := by decide +kernel
theorem v_858 : lw_tbl[717]? = some (Cond.methodLink "OptionBlockPlanner$Changes" 94 yX4_giveBest) := by decide +kernel
theorem v_467 : lw_tbl[718]? = some (Cond.instanceMethod yX4_giveBest) := by decide +kernel
theorem v_468 : lw_tbl[719]? = some (Cond.selects "OptionBlockPlanner$Placements" yX4_giveBest yX4_giveBest) := by decide +kernel
theorem v_470 : lw_tbl[721]? = some (Cond.methodLink "OptionBlockPlanner$Placements" 25 yX4_collectRoomy) := by decide +kernel
theorem v_472 : lw_tbl[723]? = some (Cond.instanceMethod yX4_collectRoomy) := by decide +kernel
theorem v_474 : lw_tbl[725]? = some (Cond.methodLinkNest "OptionBlockPlanner$Placements" 38 yX7_read "OptionBlockPlanner") := by decide +kernel
theorem v_475 : lw_tbl[726]? = some (Cond.methodLink "OptionBlockPlanner$Placements" 42 yX5_wish) := by decide +kernel
theorem v_479 : lw_tbl[727]? = some (Cond.methodLink "OptionBlockPlanner$Placements" 82 yX5_roomyBlocks) := by decide +kernel
theorem v_497 : lw_tbl[728]? = some (Cond.methodLinkNest "OptionBlockPlanner$Placements" 85 yX7_write "OptionBlockPlanner") := by decide +kernel
theorem v_500 : lw_tbl[729]? = some (Cond.methodLink "OptionBlockPlanner$Placements" 89 yX4_scoreOf) := by decide +kernel
theorem v_501 : lw_tbl[730]? = some (Cond.static yX4_scoreOf) := by decide +kernel
theorem v_503 : lw_tbl[732]? = some (Cond.methodLink "OptionBlockPlanner$Placements" 29 yX4_findBest) := by decide +kernel
theorem v_505 : lw_tbl[734]? = some (Cond.instanceMethod yX4_findBest) := by decide +kernel
theorem v_507 : lw_tbl[736]? = some (Cond.methodLink "OptionBlockPlanner$Placements" 98 yX4_extend) := by decide +kernel
theorem v_508 : lw_tbl[737]? = some (Cond.static yX4_extend) := by decide +kernel
theorem v_510 : lw_tbl[739]? = some (Cond.methodLink "OptionBlockPlanner$Placements" 102 yX4_keepIfBetter) := by decide +kernel
theorem v_512 : lw_tbl[741]? = some (Cond.instanceMethod yX4_keepIfBetter) := by decide +kernel
theorem v_514 : lw_tbl[743]? = some (Cond.methodLinkNest "OptionBlockPlanner$Placements" 105 yX7_copyRow "OptionBlockPlanner") := by decide +kernel
theorem v_515 : lw_tbl[744]? = some (Cond.methodLinkNest "OptionBlockPlanner$Placements" 69 yX7_holds "OptionBlockPlanner") := by decide +kernel
theorem v_516 : lw_tbl[745]? = some (Cond.methodLink "OptionBlockPlanner$Placements" 46 yX5_enter) := by decide +kernel
theorem v_517 : lw_tbl[746]? = some (Cond.instanceMethod yX5_enter) := by decide +kernel
theorem v_518 : lw_tbl[747]? = some (Cond.selects "OptionBlockPlanner$Plan" yX5_enter yX5_enter) := by decide +kernel
theorem v_520 : lw_tbl[749]? = some (Cond.methodLink "OptionBlockPlanner$Plan" 93 yX5_hasClass) := by decide +kernel
theorem v_859 : lw_tbl[750]? = some (Cond.methodLink "OptionBlockPlanner$Changes" 99 yX1_carryOut) := by decide +kernel
theorem v_860 : lw_tbl[751]? = some (Cond.instanceMethod yX1_carryOut) := by decide +kernel
theorem v_861 : lw_tbl[752]? = some (Cond.selects "OptionBlockPlanner$Chains" yX1_carryOut yX1_carryOut) := by decide +kernel
theorem v_863 : lw_tbl[754]? = some (Cond.methodLink "OptionBlockPlanner$Chains" 64 yX5_freeBlocks) := by decide +kernel
theorem v_864 : lw_tbl[755]? = some (Cond.methodLink "OptionBlockPlanner$Chains" 67 yX1_fewestMoves) := by decide +kernel
theorem v_865 : lw_tbl[756]? = some (Cond.methodLinkNest "OptionBlockPlanner$Chains" 73 yX7_memberAt "OptionBlockPlanner") := by decide +kernel
theorem v_866 : lw_tbl[757]? = some (Cond.static yX7_memberAt) := by decide +kernel
theorem v_868 : lw_tbl[759]? = some (Cond.methodLink "OptionBlockPlanner" 133 yX7_holds) := by decide +kernel
theorem v_869 : lw_tbl[760]? = some (Cond.methodLink "OptionBlockPlanner$Chains" 76 yX5_noteMove) := by decide +kernel
theorem v_870 : lw_tbl[761]? = some (Cond.instanceMethod yX5_noteMove) := by decide +kernel
theorem v_871 : lw_tbl[762]? = some (Cond.selects "OptionBlockPlanner$Plan" yX5_noteMove yX5_noteMove) := by decide +kernel
theorem v_873 : lw_tbl[764]? = some (Cond.methodLink "OptionBlockPlanner$Chains" 80 yX5_makeMoves) := by decide +kernel
theorem v_874 : lw_tbl[765]? = some (Cond.instanceMethod yX5_makeMoves) := by decide +kernel
theorem v_875 : lw_tbl[766]? = some (Cond.selects "OptionBlockPlanner$Plan" yX5_makeMoves yX5_makeMoves) := by decide +kernel
theorem v_877 : lw_tbl[768]? = some (Cond.methodLink "OptionBlockPlanner$Plan" 105 yX5_leave) := by decide +kernel
theorem v_878 : lw_tbl[769]? = some (Cond.instanceMethod yX5_leave) := by decide +kernel
theorem v_879 : lw_tbl[770]? = some (Cond.selects "OptionBlockPlanner$Plan" yX5_leave yX5_leave) := by decide +kernel
theorem v_881 : lw_tbl[772]? = some (Cond.methodLink "OptionBlockPlanner$Plan" 115 yX5_enter) := by decide +kernel
theorem v_882 : lw_tbl[773]? = some (Cond.methodLink "OptionBlockPlanner$Chains" 83 yX5_enter) := by decide +kernel
theorem v_883 : lw_tbl[774]? = some (Cond.methodLink "OptionBlockPlanner$Changes" 104 yX5_dropLesson) := by decide +kernel
theorem v_884 : lw_tbl[775]? = some (Cond.instanceMethod yX5_dropLesson) := by decide +kernel
theorem v_885 : lw_tbl[776]? = some (Cond.selects "OptionBlockPlanner$Plan" yX5_dropLesson yX5_dropLesson) := by decide +kernel
theorem v_887 : lw_tbl[778]? = some (Cond.methodLink "OptionBlockPlanner$Changes" 107 yX0_carryOut) := by decide +kernel
theorem v_888 : lw_tbl[779]? = some (Cond.instanceMethod yX0_carryOut) := by decide +kernel
theorem v_889 : lw_tbl[780]? = some (Cond.selects "OptionBlockPlanner$Arrangements" yX0_carryOut yX0_carryOut) := by decide +kernel
theorem v_891 : lw_tbl[782]? = some (Cond.methodLink "OptionBlockPlanner$Arrangements" 43 yX0_findBest) := by decide +kernel
theorem v_892 : lw_tbl[783]? = some (Cond.methodLink "OptionBlockPlanner$Arrangements" 56 yX5_setOpenBlocks) := by decide +kernel
theorem v_p784 : lw_tbl[784]? = some (Cond.methodLink "OptionBlockPlannerLaw" 184 yL_setBlockCount) := by decide +kernel
theorem v_949 : lw_tbl[785]? = some (Cond.static yL_setBlockCount) := by decide +kernel
theorem v_p787 : lw_tbl[787]? = some (Cond.methodLink "OptionBlockPlannerLaw" 29 yX7_setBlockCount) := by decide +kernel
theorem v_952 : lw_tbl[788]? = some (Cond.instanceMethod yX7_setBlockCount) := by decide +kernel
theorem v_953 : lw_tbl[789]? = some (Cond.selects "OptionBlockPlanner" yX7_setBlockCount yX7_setBlockCount) := by decide +kernel
theorem v_p791 : lw_tbl[791]? = some (Cond.methodLink "OptionBlockPlannerLaw" 188 yL_openClass) := by decide +kernel
theorem v_956 : lw_tbl[792]? = some (Cond.static yL_openClass) := by decide +kernel
theorem v_p794 : lw_tbl[794]? = some (Cond.classLink "OptionBlockPlannerLaw" 27 "java/lang/IndexOutOfBoundsException") := by decide +kernel
theorem v_897 : lw_tbl[795]? = some (Cond.instantiable "java/lang/ArrayIndexOutOfBoundsException" 6) := by decide +kernel
theorem v_898 : lw_tbl[796]? = some (Cond.instanceMethod yJx00060_init_a7421) := by decide +kernel
theorem v_900 : lw_tbl[798]? = some (Cond.methodLink "java/lang/ArrayIndexOutOfBoundsException" 7 ⟨"java/lang/IndexOutOfBoundsException", "<init>", "(Ljava/lang/String;)V"⟩) := by decide +kernel
theorem v_908 : lw_tbl[806]? = some (Cond.castable "java/lang/ArrayIndexOutOfBoundsException" "java/lang/ArrayIndexOutOfBoundsException") := by decide +kernel
theorem v_911 : lw_tbl[809]? = some (Cond.selects "java/lang/ArrayIndexOutOfBoundsException" ⟨"java/lang/Throwable", "fillInStackTrace", "(I)Ljava/lang/Throwable;"⟩ ⟨"java/lang/Throwable", "fillInStackTrace", "(I)Ljava/lang/Throwable;"⟩) := by decide +kernel
theorem v_912 : lw_tbl[810]? = some (Cond.instantiable "java/lang/String" 4) := by decide +kernel
theorem v_p815 : lw_tbl[815]? = some (Cond.methodLink "OptionBlockPlannerLaw" 32 yX7_openClass) := by decide +kernel
theorem v_959 : lw_tbl[816]? = some (Cond.instanceMethod yX7_openClass) := by decide +kernel
theorem v_960 : lw_tbl[817]? = some (Cond.selects "OptionBlockPlanner" yX7_openClass yX7_openClass) := by decide +kernel
theorem v_p819 : lw_tbl[819]? = some (Cond.methodLink "OptionBlockPlannerLaw" 190 yL_addPupil) := by decide +kernel
theorem v_1016 : lw_tbl[820]? = some (Cond.static yL_addPupil) := by decide +kernel
theorem v_p822 : lw_tbl[822]? = some (Cond.methodLink "OptionBlockPlannerLaw" 49 yX7_addPupil) := by decide +kernel
theorem v_1019 : lw_tbl[823]? = some (Cond.instanceMethod yX7_addPupil) := by decide +kernel
theorem v_1020 : lw_tbl[824]? = some (Cond.selects "OptionBlockPlanner" yX7_addPupil yX7_addPupil) := by decide +kernel
theorem v_p826 : lw_tbl[826]? = some (Cond.methodLink "OptionBlockPlannerLaw" 192 yL_addWish) := by decide +kernel
theorem v_1023 : lw_tbl[827]? = some (Cond.static yL_addWish) := by decide +kernel
theorem v_p829 : lw_tbl[829]? = some (Cond.methodLink "OptionBlockPlannerLaw" 53 yX7_addWish) := by decide +kernel
theorem v_1026 : lw_tbl[830]? = some (Cond.instanceMethod yX7_addWish) := by decide +kernel
theorem v_1027 : lw_tbl[831]? = some (Cond.selects "OptionBlockPlanner" yX7_addWish yX7_addWish) := by decide +kernel
theorem v_p833 : lw_tbl[833]? = some (Cond.methodLink "OptionBlockPlannerLaw" 194 yL_setReserve) := by decide +kernel
theorem v_1030 : lw_tbl[834]? = some (Cond.static yL_setReserve) := by decide +kernel
theorem v_p836 : lw_tbl[836]? = some (Cond.methodLink "OptionBlockPlannerLaw" 56 yX7_setReserve) := by decide +kernel
theorem v_1033 : lw_tbl[837]? = some (Cond.instanceMethod yX7_setReserve) := by decide +kernel
theorem v_1034 : lw_tbl[838]? = some (Cond.selects "OptionBlockPlanner" yX7_setReserve yX7_setReserve) := by decide +kernel
theorem v_p840 : lw_tbl[840]? = some (Cond.methodLink "OptionBlockPlannerLaw" 122 yL_subjectIn) := by decide +kernel
theorem v_1060 : lw_tbl[841]? = some (Cond.static yL_subjectIn) := by decide +kernel
theorem v_p843 : lw_tbl[843]? = some (Cond.methodLink "OptionBlockPlannerLaw" 59 yX7_subjectIn) := by decide +kernel
theorem v_1063 : lw_tbl[844]? = some (Cond.instanceMethod yX7_subjectIn) := by decide +kernel
theorem v_1064 : lw_tbl[845]? = some (Cond.selects "OptionBlockPlanner" yX7_subjectIn yX7_subjectIn) := by decide +kernel
theorem v_1043 : lw_tbl[847]? = some (Cond.methodLink "OptionBlockPlanner" 153 yX5_hasPupil) := by decide +kernel
theorem v_1066 : lw_tbl[848]? = some (Cond.methodLink "OptionBlockPlanner" 165 yX5_hasBlock) := by decide +kernel
theorem v_944 : lw_tbl[849]? = some (Cond.methodLink "OptionBlockPlanner" 110 yX7_needIndex) := by decide +kernel
theorem v_945 : lw_tbl[850]? = some (Cond.static yX7_needIndex) := by decide +kernel
theorem v_1067 : lw_tbl[852]? = some (Cond.methodLink "OptionBlockPlanner" 168 yX5_lesson) := by decide +kernel
theorem v_1068 : lw_tbl[853]? = some (Cond.instanceMethod yX5_lesson) := by decide +kernel
theorem v_1069 : lw_tbl[854]? = some (Cond.selects "OptionBlockPlanner$Plan" yX5_lesson yX5_lesson) := by decide +kernel
theorem v_p856 : lw_tbl[856]? = some (Cond.methodLink "OptionBlockPlannerLaw" 128 yL_blockOf) := by decide +kernel
theorem v_1072 : lw_tbl[857]? = some (Cond.static yL_blockOf) := by decide +kernel
theorem v_p859 : lw_tbl[859]? = some (Cond.methodLink "OptionBlockPlannerLaw" 62 yX7_blockOf) := by decide +kernel
theorem v_1075 : lw_tbl[860]? = some (Cond.instanceMethod yX7_blockOf) := by decide +kernel
theorem v_1076 : lw_tbl[861]? = some (Cond.selects "OptionBlockPlanner" yX7_blockOf yX7_blockOf) := by decide +kernel
theorem v_943 : lw_tbl[863]? = some (Cond.methodLink "OptionBlockPlanner" 106 yX5_hasSubject) := by decide +kernel
theorem v_1078 : lw_tbl[864]? = some (Cond.methodLink "OptionBlockPlanner" 171 yX5_blockTaken) := by decide +kernel
theorem v_p865 : lw_tbl[865]? = some (Cond.methodLink "OptionBlockPlannerLaw" 200 yL_enrol) := by decide +kernel
theorem v_1080 : lw_tbl[866]? = some (Cond.static yL_enrol) := by decide +kernel
theorem v_p868 : lw_tbl[868]? = some (Cond.methodLink "OptionBlockPlannerLaw" 65 yX7_enrol) := by decide +kernel
theorem v_1083 : lw_tbl[869]? = some (Cond.instanceMethod yX7_enrol) := by decide +kernel
theorem v_1084 : lw_tbl[870]? = some (Cond.selects "OptionBlockPlanner" yX7_enrol yX7_enrol) := by decide +kernel
theorem v_p872 : lw_tbl[872]? = some (Cond.methodLink "OptionBlockPlannerLaw" 212 yL_withdraw) := by decide +kernel
theorem v_1087 : lw_tbl[873]? = some (Cond.static yL_withdraw) := by decide +kernel
theorem v_p875 : lw_tbl[875]? = some (Cond.methodLink "OptionBlockPlannerLaw" 68 yX7_withdraw) := by decide +kernel
theorem v_1090 : lw_tbl[876]? = some (Cond.instanceMethod yX7_withdraw) := by decide +kernel
theorem v_1091 : lw_tbl[877]? = some (Cond.selects "OptionBlockPlanner" yX7_withdraw yX7_withdraw) := by decide +kernel
theorem v_1093 : lw_tbl[879]? = some (Cond.methodLink "OptionBlockPlanner" 183 yX2_faultOfWithdrawing) := by decide +kernel
theorem v_1094 : lw_tbl[880]? = some (Cond.instanceMethod yX2_faultOfWithdrawing) := by decide +kernel
theorem v_1095 : lw_tbl[881]? = some (Cond.selects "OptionBlockPlanner$Changes" yX2_faultOfWithdrawing yX2_faultOfWithdrawing) := by decide +kernel
theorem v_1097 : lw_tbl[883]? = some (Cond.methodLink "OptionBlockPlanner" 186 yX5_dropLessons) := by decide +kernel
theorem v_1098 : lw_tbl[884]? = some (Cond.instanceMethod yX5_dropLessons) := by decide +kernel
theorem v_1099 : lw_tbl[885]? = some (Cond.selects "OptionBlockPlanner$Plan" yX5_dropLessons yX5_dropLessons) := by decide +kernel
theorem v_1101 : lw_tbl[887]? = some (Cond.methodLink "OptionBlockPlanner$Plan" 109 yX5_lessonsOf) := by decide +kernel
theorem v_1102 : lw_tbl[888]? = some (Cond.methodLink "OptionBlockPlanner$Plan" 112 yX5_lesson) := by decide +kernel
theorem v_p889 : lw_tbl[889]? = some (Cond.methodLink "OptionBlockPlannerLaw" 140 yL_bestValue) := by decide +kernel
theorem v_1104 : lw_tbl[890]? = some (Cond.static yL_bestValue) := by decide +kernel
theorem v_p892 : lw_tbl[892]? = some (Cond.methodLink "OptionBlockPlannerLaw" 71 yX7_bestValue) := by decide +kernel
theorem v_1107 : lw_tbl[893]? = some (Cond.instanceMethod yX7_bestValue) := by decide +kernel
theorem v_1108 : lw_tbl[894]? = some (Cond.selects "OptionBlockPlanner" yX7_bestValue yX7_bestValue) := by decide +kernel
theorem v_1110 : lw_tbl[896]? = some (Cond.methodLink "OptionBlockPlanner" 189 yX4_valueBySearch) := by decide +kernel
theorem v_1111 : lw_tbl[897]? = some (Cond.instanceMethod yX4_valueBySearch) := by decide +kernel
theorem v_1112 : lw_tbl[898]? = some (Cond.selects "OptionBlockPlanner$Placements" yX4_valueBySearch yX4_valueBySearch) := by decide +kernel
theorem v_p900 : lw_tbl[900]? = some (Cond.methodLink "OptionBlockPlannerLaw" 210 yL_quit) := by decide +kernel
theorem v_1226 : lw_tbl[901]? = some (Cond.static yL_quit) := by decide +kernel
theorem v_p903 : lw_tbl[903]? = some (Cond.methodLink "OptionBlockPlannerLaw" 95 yX7_quit) := by decide +kernel
theorem v_1229 : lw_tbl[904]? = some (Cond.instanceMethod yX7_quit) := by decide +kernel
theorem v_1230 : lw_tbl[905]? = some (Cond.selects "OptionBlockPlanner" yX7_quit yX7_quit) := by decide +kernel
theorem v_p907 : lw_tbl[907]? = some (Cond.methodLink "OptionBlockPlannerLaw" 214 yL_classes) := by decide +kernel
theorem v_p908 : lw_tbl[908]? = some (Cond.static yL_classes) := by decide +kernel
theorem v_p910 : lw_tbl[910]? = some (Cond.methodLink "OptionBlockPlannerLaw" 125 yX7_subjectCount) := by decide +kernel
theorem v_402 : lw_tbl[911]? = some (Cond.instanceMethod yX7_subjectCount) := by decide +kernel
theorem v_403 : lw_tbl[912]? = some (Cond.selects "OptionBlockPlanner" yX7_subjectCount yX7_subjectCount) := by decide +kernel
theorem v_p914 : lw_tbl[914]? = some (Cond.methodLink "OptionBlockPlannerLaw" 119 yX7_blockCount) := by decide +kernel
theorem v_406 : lw_tbl[915]? = some (Cond.instanceMethod yX7_blockCount) := by decide +kernel
theorem v_407 : lw_tbl[916]? = some (Cond.selects "OptionBlockPlanner" yX7_blockCount yX7_blockCount) := by decide +kernel
theorem v_p918 : lw_tbl[918]? = some (Cond.methodLink "OptionBlockPlannerLaw" 116 yX7_pupilCount) := by decide +kernel
theorem v_410 : lw_tbl[919]? = some (Cond.instanceMethod yX7_pupilCount) := by decide +kernel
theorem v_411 : lw_tbl[920]? = some (Cond.selects "OptionBlockPlanner" yX7_pupilCount yX7_pupilCount) := by decide +kernel
theorem v_p922 : lw_tbl[922]? = some (Cond.methodLink "OptionBlockPlannerLaw" 130 yL_pupilInClass) := by decide +kernel
theorem v_988 : lw_tbl[923]? = some (Cond.static yL_pupilInClass) := by decide +kernel
theorem v_p925 : lw_tbl[925]? = some (Cond.classLink "OptionBlockPlannerLaw" 47 "java/util/NoSuchElementException") := by decide +kernel
theorem v_p926 : lw_tbl[926]? = some (Cond.methodLink "OptionBlockPlannerLaw" 43 yX7_pupilInClass) := by decide +kernel
theorem v_992 : lw_tbl[927]? = some (Cond.instanceMethod yX7_pupilInClass) := by decide +kernel
theorem v_993 : lw_tbl[928]? = some (Cond.selects "OptionBlockPlanner" yX7_pupilInClass yX7_pupilInClass) := by decide +kernel
theorem v_976 : lw_tbl[930]? = some (Cond.methodLink "OptionBlockPlanner" 125 yX5_hasClass) := by decide +kernel
theorem v_985 : lw_tbl[931]? = some (Cond.methodLink "OptionBlockPlanner" 136 yX5_roster) := by decide +kernel
theorem v_986 : lw_tbl[932]? = some (Cond.methodLink "OptionBlockPlanner" 139 yJ6_bitCount_0f7a4) := by decide +kernel
theorem v_995 : lw_tbl[933]? = some (Cond.methodLink "OptionBlockPlanner" 144 yX7_needElement) := by decide +kernel
theorem v_996 : lw_tbl[934]? = some (Cond.static yX7_needElement) := by decide +kernel
theorem v_998 : lw_tbl[936]? = some (Cond.classLink "OptionBlockPlanner" 335 "java/util/NoSuchElementException") := by decide +kernel
theorem v_999 : lw_tbl[937]? = some (Cond.instantiable "java/util/NoSuchElementException" 6) := by decide +kernel
theorem v_1000 : lw_tbl[938]? = some (Cond.castable "java/util/NoSuchElementException" "java/util/NoSuchElementException") := by decide +kernel
theorem v_1001 : lw_tbl[939]? = some (Cond.selects "java/util/NoSuchElementException" ⟨"java/lang/Throwable", "fillInStackTrace", "(I)Ljava/lang/Throwable;"⟩ ⟨"java/lang/Throwable", "fillInStackTrace", "(I)Ljava/lang/Throwable;"⟩) := by decide +kernel
theorem v_1007 : lw_tbl[945]? = some (Cond.stringRef "OptionBlockPlanner" 337 "there is none") := by decide +kernel
theorem v_1008 : lw_tbl[946]? = some (Cond.methodLink "OptionBlockPlanner" 339 ⟨"java/util/NoSuchElementException", "<init>", "(Ljava/lang/String;)V"⟩) := by decide +kernel
theorem v_1009 : lw_tbl[947]? = some (Cond.instanceMethod ⟨"java/util/NoSuchElementException", "<init>", "(Ljava/lang/String;)V"⟩) := by decide +kernel
theorem v_1011 : lw_tbl[949]? = some (Cond.methodLink "java/util/NoSuchElementException" 13 ⟨"java/lang/RuntimeException", "<init>", "(Ljava/lang/String;)V"⟩) := by decide +kernel
theorem v_1014 : lw_tbl[952]? = some (Cond.methodLink "OptionBlockPlanner" 147 yX7_memberAt) := by decide +kernel
theorem v_p953 : lw_tbl[953]? = some (Cond.methodLink "OptionBlockPlannerLaw" 133 yL_pupilsInClass) := by decide +kernel
theorem v_979 : lw_tbl[954]? = some (Cond.static yL_pupilsInClass) := by decide +kernel
theorem v_p956 : lw_tbl[956]? = some (Cond.methodLink "OptionBlockPlannerLaw" 40 yX7_pupilsInClass) := by decide +kernel
theorem v_982 : lw_tbl[957]? = some (Cond.instanceMethod yX7_pupilsInClass) := by decide +kernel
theorem v_983 : lw_tbl[958]? = some (Cond.selects "OptionBlockPlanner" yX7_pupilsInClass yX7_pupilsInClass) := by decide +kernel
theorem v_p960 : lw_tbl[960]? = some (Cond.methodLink "OptionBlockPlannerLaw" 135 yL_sizeOf) := by decide +kernel
theorem v_937 : lw_tbl[961]? = some (Cond.static yL_sizeOf) := by decide +kernel
theorem v_p963 : lw_tbl[963]? = some (Cond.methodLink "OptionBlockPlannerLaw" 24 yX7_sizeOf) := by decide +kernel
theorem v_940 : lw_tbl[964]? = some (Cond.instanceMethod yX7_sizeOf) := by decide +kernel
theorem v_941 : lw_tbl[965]? = some (Cond.selects "OptionBlockPlanner" yX7_sizeOf yX7_sizeOf) := by decide +kernel
theorem v_947 : lw_tbl[967]? = some (Cond.methodLink "OptionBlockPlanner" 118 yX7_read) := by decide +kernel
theorem v_p968 : lw_tbl[968]? = some (Cond.methodLink "OptionBlockPlannerLaw" 138 yL_isOpen) := by decide +kernel
theorem v_970 : lw_tbl[969]? = some (Cond.static yL_isOpen) := by decide +kernel
theorem v_p971 : lw_tbl[971]? = some (Cond.methodLink "OptionBlockPlannerLaw" 36 yX7_isOpen) := by decide +kernel
theorem v_973 : lw_tbl[972]? = some (Cond.instanceMethod yX7_isOpen) := by decide +kernel
theorem v_974 : lw_tbl[973]? = some (Cond.selects "OptionBlockPlanner" yX7_isOpen yX7_isOpen) := by decide +kernel
theorem v_977 : lw_tbl[975]? = some (Cond.methodLink "OptionBlockPlanner" 129 yX5_openBlocks) := by decide +kernel
theorem v_p976 : lw_tbl[976]? = some (Cond.methodLink "OptionBlockPlannerLaw" 196 yL_searches) := by decide +kernel
theorem v_p977 : lw_tbl[977]? = some (Cond.static yL_searches) := by decide +kernel
theorem v_p979 : lw_tbl[979]? = some (Cond.methodLink "OptionBlockPlannerLaw" 142 yL_bestValueBySets) := by decide +kernel
theorem v_1115 : lw_tbl[980]? = some (Cond.static yL_bestValueBySets) := by decide +kernel
theorem v_p982 : lw_tbl[982]? = some (Cond.methodLink "OptionBlockPlannerLaw" 74 yX7_bestValueBySets) := by decide +kernel
theorem v_1118 : lw_tbl[983]? = some (Cond.instanceMethod yX7_bestValueBySets) := by decide +kernel
theorem v_1119 : lw_tbl[984]? = some (Cond.selects "OptionBlockPlanner" yX7_bestValueBySets yX7_bestValueBySets) := by decide +kernel
theorem v_1121 : lw_tbl[986]? = some (Cond.methodLink "OptionBlockPlanner" 192 yX4_valueBySets) := by decide +kernel
theorem v_1122 : lw_tbl[987]? = some (Cond.instanceMethod yX4_valueBySets) := by decide +kernel
theorem v_1123 : lw_tbl[988]? = some (Cond.selects "OptionBlockPlanner$Placements" yX4_valueBySets yX4_valueBySets) := by decide +kernel
theorem v_1125 : lw_tbl[990]? = some (Cond.methodLink "OptionBlockPlanner$Placements" 53 yX4_setsUsedFor) := by decide +kernel
theorem v_1127 : lw_tbl[992]? = some (Cond.instanceMethod yX4_setsUsedFor) := by decide +kernel
theorem v_1129 : lw_tbl[994]? = some (Cond.methodLink "OptionBlockPlanner$Placements" 109 yX4_setsWithOneOf) := by decide +kernel
theorem v_1130 : lw_tbl[995]? = some (Cond.static yX4_setsWithOneOf) := by decide +kernel
theorem v_p997 : lw_tbl[997]? = some (Cond.methodLink "OptionBlockPlannerLaw" 144 yL_canServe) := by decide +kernel
theorem v_1133 : lw_tbl[998]? = some (Cond.static yL_canServe) := by decide +kernel
theorem v_p1000 : lw_tbl[1000]? = some (Cond.methodLink "OptionBlockPlannerLaw" 77 yX7_canServe) := by decide +kernel
theorem v_1136 : lw_tbl[1001]? = some (Cond.instanceMethod yX7_canServe) := by decide +kernel
theorem v_1137 : lw_tbl[1002]? = some (Cond.selects "OptionBlockPlanner" yX7_canServe yX7_canServe) := by decide +kernel
theorem v_1139 : lw_tbl[1004]? = some (Cond.methodLink "OptionBlockPlanner" 195 yX4_servesBySearch) := by decide +kernel
theorem v_1140 : lw_tbl[1005]? = some (Cond.instanceMethod yX4_servesBySearch) := by decide +kernel
theorem v_1141 : lw_tbl[1006]? = some (Cond.selects "OptionBlockPlanner$Placements" yX4_servesBySearch yX4_servesBySearch) := by decide +kernel
theorem v_1143 : lw_tbl[1008]? = some (Cond.methodLink "OptionBlockPlanner$Placements" 57 yX4_collectOpen) := by decide +kernel
theorem v_1145 : lw_tbl[1010]? = some (Cond.instanceMethod yX4_collectOpen) := by decide +kernel
theorem v_1147 : lw_tbl[1012]? = some (Cond.methodLink "OptionBlockPlanner$Placements" 92 yX5_openBlocks) := by decide +kernel
theorem v_1148 : lw_tbl[1013]? = some (Cond.methodLink "OptionBlockPlanner$Placements" 60 yX4_serve) := by decide +kernel
theorem v_1149 : lw_tbl[1014]? = some (Cond.static yX4_serve) := by decide +kernel
theorem v_p1016 : lw_tbl[1016]? = some (Cond.methodLink "OptionBlockPlannerLaw" 146 yL_canServeByCounting) := by decide +kernel
theorem v_1152 : lw_tbl[1017]? = some (Cond.static yL_canServeByCounting) := by decide +kernel
theorem v_p1019 : lw_tbl[1019]? = some (Cond.methodLink "OptionBlockPlannerLaw" 81 yX7_canServeByCounting) := by decide +kernel
theorem v_1155 : lw_tbl[1020]? = some (Cond.instanceMethod yX7_canServeByCounting) := by decide +kernel
theorem v_1156 : lw_tbl[1021]? = some (Cond.selects "OptionBlockPlanner" yX7_canServeByCounting yX7_canServeByCounting) := by decide +kernel
theorem v_1158 : lw_tbl[1023]? = some (Cond.methodLink "OptionBlockPlanner" 198 yX4_servesByCounting) := by decide +kernel
theorem v_1159 : lw_tbl[1024]? = some (Cond.instanceMethod yX4_servesByCounting) := by decide +kernel
theorem v_1160 : lw_tbl[1025]? = some (Cond.selects "OptionBlockPlanner$Placements" yX4_servesByCounting yX4_servesByCounting) := by decide +kernel
theorem v_1162 : lw_tbl[1027]? = some (Cond.methodLink "OptionBlockPlanner$Placements" 64 yJ9_max_7cf53) := by decide +kernel
theorem v_930 : lw_tbl[1028]? = some (Cond.static yJ9_max_7cf53) := by decide +kernel
theorem v_1163 : lw_tbl[1030]? = some (Cond.methodLink "OptionBlockPlanner$Placements" 73 yJ6_bitCount_0f7a4) := by decide +kernel
theorem v_p1031 : lw_tbl[1031]? = some (Cond.methodLink "OptionBlockPlannerLaw" 148 yL_movesFor) := by decide +kernel
theorem v_1194 : lw_tbl[1032]? = some (Cond.static yL_movesFor) := by decide +kernel
theorem v_p1034 : lw_tbl[1034]? = some (Cond.methodLink "OptionBlockPlannerLaw" 84 yX7_movesFor) := by decide +kernel
theorem v_1197 : lw_tbl[1035]? = some (Cond.instanceMethod yX7_movesFor) := by decide +kernel
theorem v_1198 : lw_tbl[1036]? = some (Cond.selects "OptionBlockPlanner" yX7_movesFor yX7_movesFor) := by decide +kernel
theorem v_1200 : lw_tbl[1038]? = some (Cond.methodLink "OptionBlockPlanner" 215 yX2_faultOfJoiner) := by decide +kernel
theorem v_1201 : lw_tbl[1039]? = some (Cond.methodLink "OptionBlockPlanner" 218 yX5_freeBlocks) := by decide +kernel
theorem v_1202 : lw_tbl[1040]? = some (Cond.methodLink "OptionBlockPlanner" 221 yX1_fewestMoves) := by decide +kernel
theorem v_p1041 : lw_tbl[1041]? = some (Cond.methodLink "OptionBlockPlannerLaw" 150 yL_movesByTrial) := by decide +kernel
theorem v_1204 : lw_tbl[1042]? = some (Cond.static yL_movesByTrial) := by decide +kernel
theorem v_p1044 : lw_tbl[1044]? = some (Cond.methodLink "OptionBlockPlannerLaw" 87 yX7_movesByTrial) := by decide +kernel
theorem v_1207 : lw_tbl[1045]? = some (Cond.instanceMethod yX7_movesByTrial) := by decide +kernel
theorem v_1208 : lw_tbl[1046]? = some (Cond.selects "OptionBlockPlanner" yX7_movesByTrial yX7_movesByTrial) := by decide +kernel
theorem v_1210 : lw_tbl[1048]? = some (Cond.methodLink "OptionBlockPlanner" 224 yX1_fewestMovesByTrial) := by decide +kernel
theorem v_1211 : lw_tbl[1049]? = some (Cond.instanceMethod yX1_fewestMovesByTrial) := by decide +kernel
theorem v_1212 : lw_tbl[1050]? = some (Cond.selects "OptionBlockPlanner$Chains" yX1_fewestMovesByTrial yX1_fewestMovesByTrial) := by decide +kernel
theorem v_1214 : lw_tbl[1052]? = some (Cond.methodLink "OptionBlockPlanner$Chains" 60 yX1_leadsToRoom) := by decide +kernel
theorem v_1215 : lw_tbl[1053]? = some (Cond.static yX1_leadsToRoom) := by decide +kernel
theorem v_p1055 : lw_tbl[1055]? = some (Cond.methodLink "OptionBlockPlannerLaw" 202 yL_joins) := by decide +kernel
theorem v_p1056 : lw_tbl[1056]? = some (Cond.static yL_joins) := by decide +kernel
theorem v_p1058 : lw_tbl[1058]? = some (Cond.methodLink "OptionBlockPlannerLaw" 152 yL_tables) := by decide +kernel
theorem v_p1059 : lw_tbl[1059]? = some (Cond.static yL_tables) := by decide +kernel
theorem v_p1061 : lw_tbl[1061]? = some (Cond.methodLink "OptionBlockPlannerLaw" 167 yL_join) := by decide +kernel
theorem v_1218 : lw_tbl[1062]? = some (Cond.static yL_join) := by decide +kernel
theorem v_p1064 : lw_tbl[1064]? = some (Cond.classLink "OptionBlockPlannerLaw" 93 "java/lang/UnsupportedOperationException") := by decide +kernel
theorem v_p1065 : lw_tbl[1065]? = some (Cond.methodLink "OptionBlockPlannerLaw" 90 yX7_join) := by decide +kernel
theorem v_1222 : lw_tbl[1066]? = some (Cond.instanceMethod yX7_join) := by decide +kernel
theorem v_1223 : lw_tbl[1067]? = some (Cond.selects "OptionBlockPlanner" yX7_join yX7_join) := by decide +kernel
theorem v_p1069 : lw_tbl[1069]? = some (Cond.methodLink "OptionBlockPlannerLaw" 163 yL_same) := by decide +kernel
theorem v_p1070 : lw_tbl[1070]? = some (Cond.static yL_same) := by decide +kernel
theorem v_p1072 : lw_tbl[1072]? = some (Cond.methodLink "OptionBlockPlannerLaw" 169 yL_refusalReason) := by decide +kernel
theorem v_1240 : lw_tbl[1073]? = some (Cond.static yL_refusalReason) := by decide +kernel
theorem v_p1075 : lw_tbl[1075]? = some (Cond.methodLink "OptionBlockPlannerLaw" 101 yX7_refusalReason) := by decide +kernel
theorem v_1243 : lw_tbl[1076]? = some (Cond.instanceMethod yX7_refusalReason) := by decide +kernel
theorem v_1244 : lw_tbl[1077]? = some (Cond.selects "OptionBlockPlanner" yX7_refusalReason yX7_refusalReason) := by decide +kernel
theorem v_p1079 : lw_tbl[1079]? = some (Cond.methodLink "OptionBlockPlannerLaw" 171 yL_leadsBack) := by decide +kernel
theorem v_p1080 : lw_tbl[1080]? = some (Cond.static yL_leadsBack) := by decide +kernel
theorem v_p1082 : lw_tbl[1082]? = some (Cond.methodLink "OptionBlockPlannerLaw" 156 yL_chainMoves) := by decide +kernel
theorem v_1247 : lw_tbl[1083]? = some (Cond.static yL_chainMoves) := by decide +kernel
theorem v_p1085 : lw_tbl[1085]? = some (Cond.methodLink "OptionBlockPlannerLaw" 104 yX7_chainMoves) := by decide +kernel
theorem v_1250 : lw_tbl[1086]? = some (Cond.instanceMethod yX7_chainMoves) := by decide +kernel
theorem v_1251 : lw_tbl[1087]? = some (Cond.selects "OptionBlockPlanner" yX7_chainMoves yX7_chainMoves) := by decide +kernel
theorem v_p1089 : lw_tbl[1089]? = some (Cond.methodLink "OptionBlockPlannerLaw" 159 yL_chainPupil) := by decide +kernel
theorem v_1254 : lw_tbl[1090]? = some (Cond.static yL_chainPupil) := by decide +kernel
theorem v_p1092 : lw_tbl[1092]? = some (Cond.methodLink "OptionBlockPlannerLaw" 107 yX7_chainPupil) := by decide +kernel
theorem v_1257 : lw_tbl[1093]? = some (Cond.instanceMethod yX7_chainPupil) := by decide +kernel
theorem v_1258 : lw_tbl[1094]? = some (Cond.selects "OptionBlockPlanner" yX7_chainPupil yX7_chainPupil) := by decide +kernel
theorem v_p1096 : lw_tbl[1096]? = some (Cond.methodLink "OptionBlockPlannerLaw" 161 yL_chainBlock) := by decide +kernel
theorem v_1261 : lw_tbl[1097]? = some (Cond.static yL_chainBlock) := by decide +kernel
theorem v_p1099 : lw_tbl[1099]? = some (Cond.methodLink "OptionBlockPlannerLaw" 110 yX7_chainBlock) := by decide +kernel
theorem v_1264 : lw_tbl[1100]? = some (Cond.instanceMethod yX7_chainBlock) := by decide +kernel
theorem v_1265 : lw_tbl[1101]? = some (Cond.selects "OptionBlockPlanner" yX7_chainBlock yX7_chainBlock) := by decide +kernel
theorem v_p1103 : lw_tbl[1103]? = some (Cond.methodLink "OptionBlockPlannerLaw" 175 yL_undo) := by decide +kernel
theorem v_1704 : lw_tbl[1104]? = some (Cond.static yL_undo) := by decide +kernel
theorem v_p1106 : lw_tbl[1106]? = some (Cond.methodLink "OptionBlockPlannerLaw" 113 yX7_undo) := by decide +kernel
theorem v_1707 : lw_tbl[1107]? = some (Cond.instanceMethod yX7_undo) := by decide +kernel
theorem v_1708 : lw_tbl[1108]? = some (Cond.selects "OptionBlockPlanner" yX7_undo yX7_undo) := by decide +kernel
theorem v_1710 : lw_tbl[1110]? = some (Cond.stringRef "OptionBlockPlanner" 314 "nothing can be undone") := by decide +kernel
theorem v_1711 : lw_tbl[1111]? = some (Cond.methodLink "OptionBlockPlanner" 316 yX3_bringBack) := by decide +kernel
theorem v_1712 : lw_tbl[1112]? = some (Cond.instanceMethod yX3_bringBack) := by decide +kernel
theorem v_1713 : lw_tbl[1113]? = some (Cond.selects "OptionBlockPlanner$History" yX3_bringBack yX3_bringBack) := by decide +kernel
theorem v_p1115 : lw_tbl[1115]? = some (Cond.methodLink "OptionBlockPlannerLaw" 206 yL_changes) := by decide +kernel
theorem v_p1116 : lw_tbl[1116]? = some (Cond.static yL_changes) := by decide +kernel
theorem v_p1118 : lw_tbl[1118]? = some (Cond.methodLink "OptionBlockPlannerLaw" 177 yL_change) := by decide +kernel
theorem v_1233 : lw_tbl[1119]? = some (Cond.static yL_change) := by decide +kernel
theorem v_p1121 : lw_tbl[1121]? = some (Cond.methodLink "OptionBlockPlannerLaw" 98 yX7_change) := by decide +kernel
theorem v_1236 : lw_tbl[1122]? = some (Cond.instanceMethod yX7_change) := by decide +kernel
theorem v_1237 : lw_tbl[1123]? = some (Cond.selects "OptionBlockPlanner" yX7_change yX7_change) := by decide +kernel
theorem v_2297 : lw_tbl[1126]? = some (Cond.castable "java/lang/ArrayIndexOutOfBoundsException" "java/lang/IndexOutOfBoundsException") := by decide +kernel
theorem v_2299 : lw_tbl[1127]? = some (Cond.castable "OptionBlockPlanner" "java/lang/Object") := by decide +kernel
theorem v_2300 : lw_tbl[1128]? = some (Cond.castable "OptionBlockPlanner$Plan" "java/lang/Object") := by decide +kernel
theorem v_2301 : lw_tbl[1129]? = some (Cond.castable "OptionBlockPlanner$Placements" "java/lang/Object") := by decide +kernel
theorem v_2302 : lw_tbl[1130]? = some (Cond.castable "OptionBlockPlanner$Chains" "java/lang/Object") := by decide +kernel
theorem v_2303 : lw_tbl[1131]? = some (Cond.castable "OptionBlockPlanner$Arrangements" "java/lang/Object") := by decide +kernel
theorem v_2304 : lw_tbl[1132]? = some (Cond.castable "OptionBlockPlanner$Changes" "java/lang/Object") := by decide +kernel
theorem v_2305 : lw_tbl[1133]? = some (Cond.castable "OptionBlockPlanner$History" "java/lang/Object") := by decide +kernel
theorem v_2306 : lw_tbl[1134]? = some (Cond.castable "OptionBlockPlanner$Program" "java/lang/Object") := by decide +kernel
theorem v_2307 : lw_tbl[1135]? = some (Cond.castable "java/lang/StringBuilder" "java/lang/Object") := by decide +kernel
theorem v_2309 : lw_tbl[1136]? = some (Cond.castable "java/lang/IndexOutOfBoundsException" "java/lang/Object") := by decide +kernel
theorem v_2310 : lw_tbl[1137]? = some (Cond.castable "java/lang/IllegalArgumentException" "java/lang/Object") := by decide +kernel
theorem v_2311 : lw_tbl[1138]? = some (Cond.castable "java/lang/IllegalStateException" "java/lang/Object") := by decide +kernel
theorem v_2312 : lw_tbl[1139]? = some (Cond.castable "java/lang/UnsupportedOperationException" "java/lang/Object") := by decide +kernel
theorem v_2313 : lw_tbl[1140]? = some (Cond.castable "java/lang/ArrayIndexOutOfBoundsException" "java/lang/Object") := by decide +kernel
theorem v_2314 : lw_tbl[1141]? = some (Cond.castable "java/util/NoSuchElementException" "java/lang/Object") := by decide +kernel
theorem v_2318 : lw_tbl[1142]? = some (Cond.castable "java/lang/Throwable" "java/lang/Object") := by decide +kernel
theorem v_2317 : lw_tbl[1143]? = some (Cond.castable "java/lang/String" "java/lang/Object") := by decide +kernel
theorem vc_X0_init : lw_tbl[165]? = some (.code yX0_init cX0_init 2 none) := by decide +kernel
theorem vy_X0_init : (yX0_init.cls ≠ "java/lang/invoke/MethodHandle" ∧ yX0_init.cls ≠ "java/lang/invoke/VarHandle") ∧ (parseMethodDescriptor yX0_init.desc).map (fun d => d.parameters.length) = some 1 := ⟨by decide +kernel, by decide +kernel⟩
theorem vc_X0_findBest : lw_tbl[356]? = some (.code yX0_findBest cX0_findBest 1 ((some .int))) := by decide +kernel
theorem vy_X0_findBest : (yX0_findBest.cls ≠ "java/lang/invoke/MethodHandle" ∧ yX0_findBest.cls ≠ "java/lang/invoke/VarHandle") ∧ (parseMethodDescriptor yX0_findBest.desc).map (fun d => d.parameters.length) = some 0 := ⟨by decide +kernel, by decide +kernel⟩
theorem vc_X0_fewestByTrial : lw_tbl[397]? = some (.code yX0_fewestByTrial cX0_fewestByTrial 1 ((some .int))) := by decide +kernel
theorem vy_X0_fewestByTrial : (yX0_fewestByTrial.cls ≠ "java/lang/invoke/MethodHandle" ∧ yX0_fewestByTrial.cls ≠ "java/lang/invoke/VarHandle") ∧ (parseMethodDescriptor yX0_fewestByTrial.desc).map (fun d => d.parameters.length) = some 0 := ⟨by decide +kernel, by decide +kernel⟩
theorem vc_X0_carryOut : lw_tbl[781]? = some (.code yX0_carryOut cX0_carryOut 3 ((some .int))) := by decide +kernel
theorem vy_X0_carryOut : (yX0_carryOut.cls ≠ "java/lang/invoke/MethodHandle" ∧ yX0_carryOut.cls ≠ "java/lang/invoke/VarHandle") ∧ (parseMethodDescriptor yX0_carryOut.desc).map (fun d => d.parameters.length) = some 0 := ⟨by decide +kernel, by decide +kernel⟩
theorem vc_X0_collectCommon : lw_tbl[360]? = some (.code yX0_collectCommon cX0_collectCommon 2 none) := by decide +kernel
theorem vy_X0_collectCommon : (yX0_collectCommon.cls ≠ "java/lang/invoke/MethodHandle" ∧ yX0_collectCommon.cls ≠ "java/lang/invoke/VarHandle") ∧ (parseMethodDescriptor yX0_collectCommon.desc).map (fun d => d.parameters.length) = some 0 := ⟨by decide +kernel, by decide +kernel⟩
theorem vc_X0_countPairs : lw_tbl[371]? = some (.code yX0_countPairs cX0_countPairs 5 none) := by decide +kernel
theorem vy_X0_countPairs : (yX0_countPairs.cls ≠ "java/lang/invoke/MethodHandle" ∧ yX0_countPairs.cls ≠ "java/lang/invoke/VarHandle") ∧ (parseMethodDescriptor yX0_countPairs.desc).map (fun d => d.parameters.length) = some 1 := ⟨by decide +kernel, by decide +kernel⟩
theorem vc_X0_settle : lw_tbl[376]? = some (.code yX0_settle cX0_settle 4 none) := by decide +kernel
theorem vy_X0_settle : (yX0_settle.cls ≠ "java/lang/invoke/MethodHandle" ∧ yX0_settle.cls ≠ "java/lang/invoke/VarHandle") ∧ (parseMethodDescriptor yX0_settle.desc).map (fun d => d.parameters.length) = some 3 := ⟨by decide +kernel, by decide +kernel⟩
theorem vc_X0_tryAll : lw_tbl[400]? = some (.code yX0_tryAll cX0_tryAll 6 ((some .int))) := by decide +kernel
theorem vy_X0_tryAll : (yX0_tryAll.cls ≠ "java/lang/invoke/MethodHandle" ∧ yX0_tryAll.cls ≠ "java/lang/invoke/VarHandle") ∧ (parseMethodDescriptor yX0_tryAll.desc).map (fun d => d.parameters.length) = some 3 := ⟨by decide +kernel, by decide +kernel⟩
theorem vc_X0_weigh : lw_tbl[389]? = some (.code yX0_weigh cX0_weigh 5 none) := by decide +kernel
theorem vy_X0_weigh : (yX0_weigh.cls ≠ "java/lang/invoke/MethodHandle" ∧ yX0_weigh.cls ≠ "java/lang/invoke/VarHandle") ∧ (parseMethodDescriptor yX0_weigh.desc).map (fun d => d.parameters.length) = some 1 := ⟨by decide +kernel, by decide +kernel⟩
theorem vc_X1_init : lw_tbl[146]? = some (.code yX1_init cX1_init 2 none) := by decide +kernel
theorem vy_X1_init : (yX1_init.cls ≠ "java/lang/invoke/MethodHandle" ∧ yX1_init.cls ≠ "java/lang/invoke/VarHandle") ∧ (parseMethodDescriptor yX1_init.desc).map (fun d => d.parameters.length) = some 1 := ⟨by decide +kernel, by decide +kernel⟩
theorem vc_X1_fewestMoves : lw_tbl[503]? = some (.code yX1_fewestMoves cX1_fewestMoves 5 ((some .int))) := by decide +kernel
theorem vy_X1_fewestMoves : (yX1_fewestMoves.cls ≠ "java/lang/invoke/MethodHandle" ∧ yX1_fewestMoves.cls ≠ "java/lang/invoke/VarHandle") ∧ (parseMethodDescriptor yX1_fewestMoves.desc).map (fun d => d.parameters.length) = some 2 := ⟨by decide +kernel, by decide +kernel⟩
theorem vc_X1_fewestMovesByTrial : lw_tbl[1051]? = some (.code yX1_fewestMovesByTrial cX1_fewestMovesByTrial 6 ((some .int))) := by decide +kernel
theorem vy_X1_fewestMovesByTrial : (yX1_fewestMovesByTrial.cls ≠ "java/lang/invoke/MethodHandle" ∧ yX1_fewestMovesByTrial.cls ≠ "java/lang/invoke/VarHandle") ∧ (parseMethodDescriptor yX1_fewestMovesByTrial.desc).map (fun d => d.parameters.length) = some 2 := ⟨by decide +kernel, by decide +kernel⟩
theorem vc_X1_reasonAgainst : lw_tbl[539]? = some (.code yX1_reasonAgainst cX1_reasonAgainst 4 ((some .int))) := by decide +kernel
theorem vy_X1_reasonAgainst : (yX1_reasonAgainst.cls ≠ "java/lang/invoke/MethodHandle" ∧ yX1_reasonAgainst.cls ≠ "java/lang/invoke/VarHandle") ∧ (parseMethodDescriptor yX1_reasonAgainst.desc).map (fun d => d.parameters.length) = some 2 := ⟨by decide +kernel, by decide +kernel⟩
theorem vc_X1_carryOut : lw_tbl[753]? = some (.code yX1_carryOut cX1_carryOut 9 ((some .int))) := by decide +kernel
theorem vy_X1_carryOut : (yX1_carryOut.cls ≠ "java/lang/invoke/MethodHandle" ∧ yX1_carryOut.cls ≠ "java/lang/invoke/VarHandle") ∧ (parseMethodDescriptor yX1_carryOut.desc).map (fun d => d.parameters.length) = some 2 := ⟨by decide +kernel, by decide +kernel⟩
theorem vc_X1_measure : lw_tbl[522]? = some (.code yX1_measure cX1_measure 3 none) := by decide +kernel
theorem vy_X1_measure : (yX1_measure.cls ≠ "java/lang/invoke/MethodHandle" ∧ yX1_measure.cls ≠ "java/lang/invoke/VarHandle") ∧ (parseMethodDescriptor yX1_measure.desc).map (fun d => d.parameters.length) = some 1 := ⟨by decide +kernel, by decide +kernel⟩
theorem vc_X1_nextBlock : lw_tbl[527]? = some (.code yX1_nextBlock cX1_nextBlock 5 ((some .int))) := by decide +kernel
theorem vy_X1_nextBlock : (yX1_nextBlock.cls ≠ "java/lang/invoke/MethodHandle" ∧ yX1_nextBlock.cls ≠ "java/lang/invoke/VarHandle") ∧ (parseMethodDescriptor yX1_nextBlock.desc).map (fun d => d.parameters.length) = some 2 := ⟨by decide +kernel, by decide +kernel⟩
theorem vc_X1_nearest : lw_tbl[531]? = some (.code yX1_nearest cX1_nearest 6 ((some .int))) := by decide +kernel
theorem vy_X1_nearest : (yX1_nearest.cls ≠ "java/lang/invoke/MethodHandle" ∧ yX1_nearest.cls ≠ "java/lang/invoke/VarHandle") ∧ (parseMethodDescriptor yX1_nearest.desc).map (fun d => d.parameters.length) = some 1 := ⟨by decide +kernel, by decide +kernel⟩
theorem vc_X1_leadsToRoom : lw_tbl[1054]? = some (.code yX1_leadsToRoom cX1_leadsToRoom 8 ((some .boolean))) := by decide +kernel
theorem vy_X1_leadsToRoom : (yX1_leadsToRoom.cls ≠ "java/lang/invoke/MethodHandle" ∧ yX1_leadsToRoom.cls ≠ "java/lang/invoke/VarHandle") ∧ (parseMethodDescriptor yX1_leadsToRoom.desc).map (fun d => d.parameters.length) = some 5 := ⟨by decide +kernel, by decide +kernel⟩
theorem vc_X2_init : lw_tbl[190]? = some (.code yX2_init cX2_init 5 none) := by decide +kernel
theorem vy_X2_init : (yX2_init.cls ≠ "java/lang/invoke/MethodHandle" ∧ yX2_init.cls ≠ "java/lang/invoke/VarHandle") ∧ (parseMethodDescriptor yX2_init.desc).map (fun d => d.parameters.length) = some 4 := ⟨by decide +kernel, by decide +kernel⟩
theorem vc_X2_faultOf : lw_tbl[425]? = some (.code yX2_faultOf cX2_faultOf 5 ((some .int))) := by decide +kernel
theorem vy_X2_faultOf : (yX2_faultOf.cls ≠ "java/lang/invoke/MethodHandle" ∧ yX2_faultOf.cls ≠ "java/lang/invoke/VarHandle") ∧ (parseMethodDescriptor yX2_faultOf.desc).map (fun d => d.parameters.length) = some 4 := ⟨by decide +kernel, by decide +kernel⟩
theorem vc_X2_perform : lw_tbl[691]? = some (.code yX2_perform cX2_perform 5 ((some .int))) := by decide +kernel
theorem vy_X2_perform : (yX2_perform.cls ≠ "java/lang/invoke/MethodHandle" ∧ yX2_perform.cls ≠ "java/lang/invoke/VarHandle") ∧ (parseMethodDescriptor yX2_perform.desc).map (fun d => d.parameters.length) = some 4 := ⟨by decide +kernel, by decide +kernel⟩
theorem vc_X2_faultOfJoiner : lw_tbl[494]? = some (.code yX2_faultOfJoiner cX2_faultOfJoiner 3 ((some .int))) := by decide +kernel
theorem vy_X2_faultOfJoiner : (yX2_faultOfJoiner.cls ≠ "java/lang/invoke/MethodHandle" ∧ yX2_faultOfJoiner.cls ≠ "java/lang/invoke/VarHandle") ∧ (parseMethodDescriptor yX2_faultOfJoiner.desc).map (fun d => d.parameters.length) = some 2 := ⟨by decide +kernel, by decide +kernel⟩
theorem vc_X2_faultOfNewSubject : lw_tbl[429]? = some (.code yX2_faultOfNewSubject cX2_faultOfNewSubject 2 ((some .int))) := by decide +kernel
theorem vy_X2_faultOfNewSubject : (yX2_faultOfNewSubject.cls ≠ "java/lang/invoke/MethodHandle" ∧ yX2_faultOfNewSubject.cls ≠ "java/lang/invoke/VarHandle") ∧ (parseMethodDescriptor yX2_faultOfNewSubject.desc).map (fun d => d.parameters.length) = some 1 := ⟨by decide +kernel, by decide +kernel⟩
theorem vc_X2_faultOfBlocks : lw_tbl[433]? = some (.code yX2_faultOfBlocks cX2_faultOfBlocks 3 ((some .int))) := by decide +kernel
theorem vy_X2_faultOfBlocks : (yX2_faultOfBlocks.cls ≠ "java/lang/invoke/MethodHandle" ∧ yX2_faultOfBlocks.cls ≠ "java/lang/invoke/VarHandle") ∧ (parseMethodDescriptor yX2_faultOfBlocks.desc).map (fun d => d.parameters.length) = some 1 := ⟨by decide +kernel, by decide +kernel⟩
theorem vc_X2_faultOfOpening : lw_tbl[445]? = some (.code yX2_faultOfOpening cX2_faultOfOpening 3 ((some .int))) := by decide +kernel
theorem vy_X2_faultOfOpening : (yX2_faultOfOpening.cls ≠ "java/lang/invoke/MethodHandle" ∧ yX2_faultOfOpening.cls ≠ "java/lang/invoke/VarHandle") ∧ (parseMethodDescriptor yX2_faultOfOpening.desc).map (fun d => d.parameters.length) = some 2 := ⟨by decide +kernel, by decide +kernel⟩
theorem vc_X2_faultOfClosing : lw_tbl[458]? = some (.code yX2_faultOfClosing cX2_faultOfClosing 4 ((some .int))) := by decide +kernel
theorem vy_X2_faultOfClosing : (yX2_faultOfClosing.cls ≠ "java/lang/invoke/MethodHandle" ∧ yX2_faultOfClosing.cls ≠ "java/lang/invoke/VarHandle") ∧ (parseMethodDescriptor yX2_faultOfClosing.desc).map (fun d => d.parameters.length) = some 2 := ⟨by decide +kernel, by decide +kernel⟩
theorem vc_X2_faultOfWish : lw_tbl[463]? = some (.code yX2_faultOfWish cX2_faultOfWish 4 ((some .int))) := by decide +kernel
theorem vy_X2_faultOfWish : (yX2_faultOfWish.cls ≠ "java/lang/invoke/MethodHandle" ∧ yX2_faultOfWish.cls ≠ "java/lang/invoke/VarHandle") ∧ (parseMethodDescriptor yX2_faultOfWish.desc).map (fun d => d.parameters.length) = some 2 := ⟨by decide +kernel, by decide +kernel⟩
theorem vc_X2_faultOfReserve : lw_tbl[467]? = some (.code yX2_faultOfReserve cX2_faultOfReserve 3 ((some .int))) := by decide +kernel
theorem vy_X2_faultOfReserve : (yX2_faultOfReserve.cls ≠ "java/lang/invoke/MethodHandle" ∧ yX2_faultOfReserve.cls ≠ "java/lang/invoke/VarHandle") ∧ (parseMethodDescriptor yX2_faultOfReserve.desc).map (fun d => d.parameters.length) = some 2 := ⟨by decide +kernel, by decide +kernel⟩
theorem vc_X2_faultOfEnrolling : lw_tbl[478]? = some (.code yX2_faultOfEnrolling cX2_faultOfEnrolling 2 ((some .int))) := by decide +kernel
theorem vy_X2_faultOfEnrolling : (yX2_faultOfEnrolling.cls ≠ "java/lang/invoke/MethodHandle" ∧ yX2_faultOfEnrolling.cls ≠ "java/lang/invoke/VarHandle") ∧ (parseMethodDescriptor yX2_faultOfEnrolling.desc).map (fun d => d.parameters.length) = some 1 := ⟨by decide +kernel, by decide +kernel⟩
theorem vc_X2_faultOfWithdrawing : lw_tbl[882]? = some (.code yX2_faultOfWithdrawing cX2_faultOfWithdrawing 2 ((some .int))) := by decide +kernel
theorem vy_X2_faultOfWithdrawing : (yX2_faultOfWithdrawing.cls ≠ "java/lang/invoke/MethodHandle" ∧ yX2_faultOfWithdrawing.cls ≠ "java/lang/invoke/VarHandle") ∧ (parseMethodDescriptor yX2_faultOfWithdrawing.desc).map (fun d => d.parameters.length) = some 1 := ⟨by decide +kernel, by decide +kernel⟩
theorem vc_X2_faultOfJoining : lw_tbl[490]? = some (.code yX2_faultOfJoining cX2_faultOfJoining 5 ((some .int))) := by decide +kernel
theorem vy_X2_faultOfJoining : (yX2_faultOfJoining.cls ≠ "java/lang/invoke/MethodHandle" ∧ yX2_faultOfJoining.cls ≠ "java/lang/invoke/VarHandle") ∧ (parseMethodDescriptor yX2_faultOfJoining.desc).map (fun d => d.parameters.length) = some 2 := ⟨by decide +kernel, by decide +kernel⟩
theorem vc_X2_faultOfQuitting : lw_tbl[544]? = some (.code yX2_faultOfQuitting cX2_faultOfQuitting 3 ((some .int))) := by decide +kernel
theorem vy_X2_faultOfQuitting : (yX2_faultOfQuitting.cls ≠ "java/lang/invoke/MethodHandle" ∧ yX2_faultOfQuitting.cls ≠ "java/lang/invoke/VarHandle") ∧ (parseMethodDescriptor yX2_faultOfQuitting.desc).map (fun d => d.parameters.length) = some 2 := ⟨by decide +kernel, by decide +kernel⟩
theorem vc_X2_faultOfChanging : lw_tbl[548]? = some (.code yX2_faultOfChanging cX2_faultOfChanging 6 ((some .int))) := by decide +kernel
theorem vy_X2_faultOfChanging : (yX2_faultOfChanging.cls ≠ "java/lang/invoke/MethodHandle" ∧ yX2_faultOfChanging.cls ≠ "java/lang/invoke/VarHandle") ∧ (parseMethodDescriptor yX2_faultOfChanging.desc).map (fun d => d.parameters.length) = some 3 := ⟨by decide +kernel, by decide +kernel⟩
theorem vc_X2_refusal : lw_tbl[535]? = some (.code yX2_refusal cX2_refusal 3 ((some .int))) := by decide +kernel
theorem vy_X2_refusal : (yX2_refusal.cls ≠ "java/lang/invoke/MethodHandle" ∧ yX2_refusal.cls ≠ "java/lang/invoke/VarHandle") ∧ (parseMethodDescriptor yX2_refusal.desc).map (fun d => d.parameters.length) = some 2 := ⟨by decide +kernel, by decide +kernel⟩
theorem vc_X3_init : lw_tbl[213]? = some (.code yX3_init cX3_init 2 none) := by decide +kernel
theorem vy_X3_init : (yX3_init.cls ≠ "java/lang/invoke/MethodHandle" ∧ yX3_init.cls ≠ "java/lang/invoke/VarHandle") ∧ (parseMethodDescriptor yX3_init.desc).map (fun d => d.parameters.length) = some 0 := ⟨by decide +kernel, by decide +kernel⟩
theorem vc_X3_keep : lw_tbl[677]? = some (.code yX3_keep cX3_keep 3 none) := by decide +kernel
theorem vy_X3_keep : (yX3_keep.cls ≠ "java/lang/invoke/MethodHandle" ∧ yX3_keep.cls ≠ "java/lang/invoke/VarHandle") ∧ (parseMethodDescriptor yX3_keep.desc).map (fun d => d.parameters.length) = some 1 := ⟨by decide +kernel, by decide +kernel⟩
theorem vc_X3_bringBack : lw_tbl[1114]? = some (.code yX3_bringBack cX3_bringBack 4 none) := by decide +kernel
theorem vy_X3_bringBack : (yX3_bringBack.cls ≠ "java/lang/invoke/MethodHandle" ∧ yX3_bringBack.cls ≠ "java/lang/invoke/VarHandle") ∧ (parseMethodDescriptor yX3_bringBack.desc).map (fun d => d.parameters.length) = some 1 := ⟨by decide +kernel, by decide +kernel⟩
theorem vc_X3_planIn : lw_tbl[681]? = some (.code yX3_planIn cX3_planIn 2 ((some (.object "OptionBlockPlanner$Plan")))) := by decide +kernel
theorem vy_X3_planIn : (yX3_planIn.cls ≠ "java/lang/invoke/MethodHandle" ∧ yX3_planIn.cls ≠ "java/lang/invoke/VarHandle") ∧ (parseMethodDescriptor yX3_planIn.desc).map (fun d => d.parameters.length) = some 1 := ⟨by decide +kernel, by decide +kernel⟩
theorem vc_X4_init : lw_tbl[121]? = some (.code yX4_init cX4_init 2 none) := by decide +kernel
theorem vy_X4_init : (yX4_init.cls ≠ "java/lang/invoke/MethodHandle" ∧ yX4_init.cls ≠ "java/lang/invoke/VarHandle") ∧ (parseMethodDescriptor yX4_init.desc).map (fun d => d.parameters.length) = some 1 := ⟨by decide +kernel, by decide +kernel⟩
theorem vc_X4_valueBySearch : lw_tbl[899]? = some (.code yX4_valueBySearch cX4_valueBySearch 2 ((some .int))) := by decide +kernel
theorem vy_X4_valueBySearch : (yX4_valueBySearch.cls ≠ "java/lang/invoke/MethodHandle" ∧ yX4_valueBySearch.cls ≠ "java/lang/invoke/VarHandle") ∧ (parseMethodDescriptor yX4_valueBySearch.desc).map (fun d => d.parameters.length) = some 1 := ⟨by decide +kernel, by decide +kernel⟩
theorem vc_X4_giveBest : lw_tbl[720]? = some (.code yX4_giveBest cX4_giveBest 5 ((some .int))) := by decide +kernel
theorem vy_X4_giveBest : (yX4_giveBest.cls ≠ "java/lang/invoke/MethodHandle" ∧ yX4_giveBest.cls ≠ "java/lang/invoke/VarHandle") ∧ (parseMethodDescriptor yX4_giveBest.desc).map (fun d => d.parameters.length) = some 1 := ⟨by decide +kernel, by decide +kernel⟩
theorem vc_X4_valueBySets : lw_tbl[989]? = some (.code yX4_valueBySets cX4_valueBySets 3 ((some .int))) := by decide +kernel
theorem vy_X4_valueBySets : (yX4_valueBySets.cls ≠ "java/lang/invoke/MethodHandle" ∧ yX4_valueBySets.cls ≠ "java/lang/invoke/VarHandle") ∧ (parseMethodDescriptor yX4_valueBySets.desc).map (fun d => d.parameters.length) = some 1 := ⟨by decide +kernel, by decide +kernel⟩
theorem vc_X4_servesBySearch : lw_tbl[1007]? = some (.code yX4_servesBySearch cX4_servesBySearch 2 ((some .boolean))) := by decide +kernel
theorem vy_X4_servesBySearch : (yX4_servesBySearch.cls ≠ "java/lang/invoke/MethodHandle" ∧ yX4_servesBySearch.cls ≠ "java/lang/invoke/VarHandle") ∧ (parseMethodDescriptor yX4_servesBySearch.desc).map (fun d => d.parameters.length) = some 1 := ⟨by decide +kernel, by decide +kernel⟩
theorem vc_X4_servesByCounting : lw_tbl[1026]? = some (.code yX4_servesByCounting cX4_servesByCounting 6 ((some .boolean))) := by decide +kernel
theorem vy_X4_servesByCounting : (yX4_servesByCounting.cls ≠ "java/lang/invoke/MethodHandle" ∧ yX4_servesByCounting.cls ≠ "java/lang/invoke/VarHandle") ∧ (parseMethodDescriptor yX4_servesByCounting.desc).map (fun d => d.parameters.length) = some 1 := ⟨by decide +kernel, by decide +kernel⟩
theorem vc_X4_collectRoomy : lw_tbl[724]? = some (.code yX4_collectRoomy cX4_collectRoomy 5 none) := by decide +kernel
theorem vy_X4_collectRoomy : (yX4_collectRoomy.cls ≠ "java/lang/invoke/MethodHandle" ∧ yX4_collectRoomy.cls ≠ "java/lang/invoke/VarHandle") ∧ (parseMethodDescriptor yX4_collectRoomy.desc).map (fun d => d.parameters.length) = some 1 := ⟨by decide +kernel, by decide +kernel⟩
theorem vc_X4_collectOpen : lw_tbl[1011]? = some (.code yX4_collectOpen cX4_collectOpen 4 none) := by decide +kernel
theorem vy_X4_collectOpen : (yX4_collectOpen.cls ≠ "java/lang/invoke/MethodHandle" ∧ yX4_collectOpen.cls ≠ "java/lang/invoke/VarHandle") ∧ (parseMethodDescriptor yX4_collectOpen.desc).map (fun d => d.parameters.length) = some 1 := ⟨by decide +kernel, by decide +kernel⟩
theorem vc_X4_findBest : lw_tbl[735]? = some (.code yX4_findBest cX4_findBest 1 ((some .int))) := by decide +kernel
theorem vy_X4_findBest : (yX4_findBest.cls ≠ "java/lang/invoke/MethodHandle" ∧ yX4_findBest.cls ≠ "java/lang/invoke/VarHandle") ∧ (parseMethodDescriptor yX4_findBest.desc).map (fun d => d.parameters.length) = some 0 := ⟨by decide +kernel, by decide +kernel⟩
theorem vc_X4_scoreOf : lw_tbl[731]? = some (.code yX4_scoreOf cX4_scoreOf 1 ((some .int))) := by decide +kernel
theorem vy_X4_scoreOf : (yX4_scoreOf.cls ≠ "java/lang/invoke/MethodHandle" ∧ yX4_scoreOf.cls ≠ "java/lang/invoke/VarHandle") ∧ (parseMethodDescriptor yX4_scoreOf.desc).map (fun d => d.parameters.length) = some 1 := ⟨by decide +kernel, by decide +kernel⟩
theorem vc_X4_extend : lw_tbl[738]? = some (.code yX4_extend cX4_extend 7 none) := by decide +kernel
theorem vy_X4_extend : (yX4_extend.cls ≠ "java/lang/invoke/MethodHandle" ∧ yX4_extend.cls ≠ "java/lang/invoke/VarHandle") ∧ (parseMethodDescriptor yX4_extend.desc).map (fun d => d.parameters.length) = some 4 := ⟨by decide +kernel, by decide +kernel⟩
theorem vc_X4_keepIfBetter : lw_tbl[742]? = some (.code yX4_keepIfBetter cX4_keepIfBetter 2 none) := by decide +kernel
theorem vy_X4_keepIfBetter : (yX4_keepIfBetter.cls ≠ "java/lang/invoke/MethodHandle" ∧ yX4_keepIfBetter.cls ≠ "java/lang/invoke/VarHandle") ∧ (parseMethodDescriptor yX4_keepIfBetter.desc).map (fun d => d.parameters.length) = some 1 := ⟨by decide +kernel, by decide +kernel⟩
theorem vc_X4_setsUsedFor : lw_tbl[993]? = some (.code yX4_setsUsedFor cX4_setsUsedFor 4 ((some .int))) := by decide +kernel
theorem vy_X4_setsUsedFor : (yX4_setsUsedFor.cls ≠ "java/lang/invoke/MethodHandle" ∧ yX4_setsUsedFor.cls ≠ "java/lang/invoke/VarHandle") ∧ (parseMethodDescriptor yX4_setsUsedFor.desc).map (fun d => d.parameters.length) = some 1 := ⟨by decide +kernel, by decide +kernel⟩
theorem vc_X4_setsWithOneOf : lw_tbl[996]? = some (.code yX4_setsWithOneOf cX4_setsWithOneOf 5 ((some .int))) := by decide +kernel
theorem vy_X4_setsWithOneOf : (yX4_setsWithOneOf.cls ≠ "java/lang/invoke/MethodHandle" ∧ yX4_setsWithOneOf.cls ≠ "java/lang/invoke/VarHandle") ∧ (parseMethodDescriptor yX4_setsWithOneOf.desc).map (fun d => d.parameters.length) = some 2 := ⟨by decide +kernel, by decide +kernel⟩
theorem vc_X4_serve : lw_tbl[1015]? = some (.code yX4_serve cX4_serve 5 ((some .boolean))) := by decide +kernel
theorem vy_X4_serve : (yX4_serve.cls ≠ "java/lang/invoke/MethodHandle" ∧ yX4_serve.cls ≠ "java/lang/invoke/VarHandle") ∧ (parseMethodDescriptor yX4_serve.desc).map (fun d => d.parameters.length) = some 4 := ⟨by decide +kernel, by decide +kernel⟩
theorem vc_X5_init : lw_tbl[61]? = some (.code yX5_init cX5_init 1 none) := by decide +kernel
theorem vy_X5_init : (yX5_init.cls ≠ "java/lang/invoke/MethodHandle" ∧ yX5_init.cls ≠ "java/lang/invoke/VarHandle") ∧ (parseMethodDescriptor yX5_init.desc).map (fun d => d.parameters.length) = some 0 := ⟨by decide +kernel, by decide +kernel⟩
theorem vc_X5_copyFrom : lw_tbl[685]? = some (.code yX5_copyFrom cX5_copyFrom 2 none) := by decide +kernel
theorem vy_X5_copyFrom : (yX5_copyFrom.cls ≠ "java/lang/invoke/MethodHandle" ∧ yX5_copyFrom.cls ≠ "java/lang/invoke/VarHandle") ∧ (parseMethodDescriptor yX5_copyFrom.desc).map (fun d => d.parameters.length) = some 1 := ⟨by decide +kernel, by decide +kernel⟩
theorem vc_X5_hasSubject : lw_tbl[441]? = some (.code yX5_hasSubject cX5_hasSubject 2 ((some .boolean))) := by decide +kernel
theorem vy_X5_hasSubject : (yX5_hasSubject.cls ≠ "java/lang/invoke/MethodHandle" ∧ yX5_hasSubject.cls ≠ "java/lang/invoke/VarHandle") ∧ (parseMethodDescriptor yX5_hasSubject.desc).map (fun d => d.parameters.length) = some 1 := ⟨by decide +kernel, by decide +kernel⟩
theorem vc_X5_hasBlock : lw_tbl[453]? = some (.code yX5_hasBlock cX5_hasBlock 2 ((some .boolean))) := by decide +kernel
theorem vy_X5_hasBlock : (yX5_hasBlock.cls ≠ "java/lang/invoke/MethodHandle" ∧ yX5_hasBlock.cls ≠ "java/lang/invoke/VarHandle") ∧ (parseMethodDescriptor yX5_hasBlock.desc).map (fun d => d.parameters.length) = some 1 := ⟨by decide +kernel, by decide +kernel⟩
theorem vc_X5_hasClass : lw_tbl[449]? = some (.code yX5_hasClass cX5_hasClass 3 ((some .boolean))) := by decide +kernel
theorem vy_X5_hasClass : (yX5_hasClass.cls ≠ "java/lang/invoke/MethodHandle" ∧ yX5_hasClass.cls ≠ "java/lang/invoke/VarHandle") ∧ (parseMethodDescriptor yX5_hasClass.desc).map (fun d => d.parameters.length) = some 2 := ⟨by decide +kernel, by decide +kernel⟩
theorem vc_X5_openBlocks : lw_tbl[437]? = some (.code yX5_openBlocks cX5_openBlocks 2 ((some .int))) := by decide +kernel
theorem vy_X5_openBlocks : (yX5_openBlocks.cls ≠ "java/lang/invoke/MethodHandle" ∧ yX5_openBlocks.cls ≠ "java/lang/invoke/VarHandle") ∧ (parseMethodDescriptor yX5_openBlocks.desc).map (fun d => d.parameters.length) = some 1 := ⟨by decide +kernel, by decide +kernel⟩
theorem vc_X5_roster : lw_tbl[345]? = some (.code yX5_roster cX5_roster 4 ((some .int))) := by decide +kernel
theorem vy_X5_roster : (yX5_roster.cls ≠ "java/lang/invoke/MethodHandle" ∧ yX5_roster.cls ≠ "java/lang/invoke/VarHandle") ∧ (parseMethodDescriptor yX5_roster.desc).map (fun d => d.parameters.length) = some 2 := ⟨by decide +kernel, by decide +kernel⟩
theorem vc_X5_roomyBlocks : lw_tbl[507]? = some (.code yX5_roomyBlocks cX5_roomyBlocks 7 ((some .int))) := by decide +kernel
theorem vy_X5_roomyBlocks : (yX5_roomyBlocks.cls ≠ "java/lang/invoke/MethodHandle" ∧ yX5_roomyBlocks.cls ≠ "java/lang/invoke/VarHandle") ∧ (parseMethodDescriptor yX5_roomyBlocks.desc).map (fun d => d.parameters.length) = some 2 := ⟨by decide +kernel, by decide +kernel⟩
theorem vc_X5_newSubject : lw_tbl[695]? = some (.code yX5_newSubject cX5_newSubject 2 ((some .int))) := by decide +kernel
theorem vy_X5_newSubject : (yX5_newSubject.cls ≠ "java/lang/invoke/MethodHandle" ∧ yX5_newSubject.cls ≠ "java/lang/invoke/VarHandle") ∧ (parseMethodDescriptor yX5_newSubject.desc).map (fun d => d.parameters.length) = some 1 := ⟨by decide +kernel, by decide +kernel⟩
theorem vc_X5_setBlocks : lw_tbl[700]? = some (.code yX5_setBlocks cX5_setBlocks 3 ((some .int))) := by decide +kernel
theorem vy_X5_setBlocks : (yX5_setBlocks.cls ≠ "java/lang/invoke/MethodHandle" ∧ yX5_setBlocks.cls ≠ "java/lang/invoke/VarHandle") ∧ (parseMethodDescriptor yX5_setBlocks.desc).map (fun d => d.parameters.length) = some 1 := ⟨by decide +kernel, by decide +kernel⟩
theorem vc_X5_setOpenBlocks : lw_tbl[704]? = some (.code yX5_setOpenBlocks cX5_setOpenBlocks 3 ((some .int))) := by decide +kernel
theorem vy_X5_setOpenBlocks : (yX5_setOpenBlocks.cls ≠ "java/lang/invoke/MethodHandle" ∧ yX5_setOpenBlocks.cls ≠ "java/lang/invoke/VarHandle") ∧ (parseMethodDescriptor yX5_setOpenBlocks.desc).map (fun d => d.parameters.length) = some 2 := ⟨by decide +kernel, by decide +kernel⟩
theorem vc_X5_hasPupil : lw_tbl[471]? = some (.code yX5_hasPupil cX5_hasPupil 2 ((some .boolean))) := by decide +kernel
theorem vy_X5_hasPupil : (yX5_hasPupil.cls ≠ "java/lang/invoke/MethodHandle" ∧ yX5_hasPupil.cls ≠ "java/lang/invoke/VarHandle") ∧ (parseMethodDescriptor yX5_hasPupil.desc).map (fun d => d.parameters.length) = some 1 := ⟨by decide +kernel, by decide +kernel⟩
theorem vc_X5_wish : lw_tbl[337]? = some (.code yX5_wish cX5_wish 3 ((some .int))) := by decide +kernel
theorem vy_X5_wish : (yX5_wish.cls ≠ "java/lang/invoke/MethodHandle" ∧ yX5_wish.cls ≠ "java/lang/invoke/VarHandle") ∧ (parseMethodDescriptor yX5_wish.desc).map (fun d => d.parameters.length) = some 2 := ⟨by decide +kernel, by decide +kernel⟩
theorem vc_X5_wishSet : lw_tbl[367]? = some (.code yX5_wishSet cX5_wishSet 5 ((some .int))) := by decide +kernel
theorem vy_X5_wishSet : (yX5_wishSet.cls ≠ "java/lang/invoke/MethodHandle" ∧ yX5_wishSet.cls ≠ "java/lang/invoke/VarHandle") ∧ (parseMethodDescriptor yX5_wishSet.desc).map (fun d => d.parameters.length) = some 1 := ⟨by decide +kernel, by decide +kernel⟩
theorem vc_X5_newPupil : lw_tbl[708]? = some (.code yX5_newPupil cX5_newPupil 1 ((some .int))) := by decide +kernel
theorem vy_X5_newPupil : (yX5_newPupil.cls ≠ "java/lang/invoke/MethodHandle" ∧ yX5_newPupil.cls ≠ "java/lang/invoke/VarHandle") ∧ (parseMethodDescriptor yX5_newPupil.desc).map (fun d => d.parameters.length) = some 0 := ⟨by decide +kernel, by decide +kernel⟩
theorem vc_X5_newWish : lw_tbl[712]? = some (.code yX5_newWish cX5_newWish 4 ((some .int))) := by decide +kernel
theorem vy_X5_newWish : (yX5_newWish.cls ≠ "java/lang/invoke/MethodHandle" ∧ yX5_newWish.cls ≠ "java/lang/invoke/VarHandle") ∧ (parseMethodDescriptor yX5_newWish.desc).map (fun d => d.parameters.length) = some 2 := ⟨by decide +kernel, by decide +kernel⟩
theorem vc_X5_newReserve : lw_tbl[716]? = some (.code yX5_newReserve cX5_newReserve 4 ((some .int))) := by decide +kernel
theorem vy_X5_newReserve : (yX5_newReserve.cls ≠ "java/lang/invoke/MethodHandle" ∧ yX5_newReserve.cls ≠ "java/lang/invoke/VarHandle") ∧ (parseMethodDescriptor yX5_newReserve.desc).map (fun d => d.parameters.length) = some 2 := ⟨by decide +kernel, by decide +kernel⟩
theorem vc_X5_enter : lw_tbl[748]? = some (.code yX5_enter cX5_enter 4 none) := by decide +kernel
theorem vy_X5_enter : (yX5_enter.cls ≠ "java/lang/invoke/MethodHandle" ∧ yX5_enter.cls ≠ "java/lang/invoke/VarHandle") ∧ (parseMethodDescriptor yX5_enter.desc).map (fun d => d.parameters.length) = some 3 := ⟨by decide +kernel, by decide +kernel⟩
theorem vc_X5_leave : lw_tbl[771]? = some (.code yX5_leave cX5_leave 4 none) := by decide +kernel
theorem vy_X5_leave : (yX5_leave.cls ≠ "java/lang/invoke/MethodHandle" ∧ yX5_leave.cls ≠ "java/lang/invoke/VarHandle") ∧ (parseMethodDescriptor yX5_leave.desc).map (fun d => d.parameters.length) = some 3 := ⟨by decide +kernel, by decide +kernel⟩
theorem vc_X5_lesson : lw_tbl[855]? = some (.code yX5_lesson cX5_lesson 4 ((some .int))) := by decide +kernel
theorem vy_X5_lesson : (yX5_lesson.cls ≠ "java/lang/invoke/MethodHandle" ∧ yX5_lesson.cls ≠ "java/lang/invoke/VarHandle") ∧ (parseMethodDescriptor yX5_lesson.desc).map (fun d => d.parameters.length) = some 2 := ⟨by decide +kernel, by decide +kernel⟩
theorem vc_X5_blockTaken : lw_tbl[341]? = some (.code yX5_blockTaken cX5_blockTaken 4 ((some .int))) := by decide +kernel
theorem vy_X5_blockTaken : (yX5_blockTaken.cls ≠ "java/lang/invoke/MethodHandle" ∧ yX5_blockTaken.cls ≠ "java/lang/invoke/VarHandle") ∧ (parseMethodDescriptor yX5_blockTaken.desc).map (fun d => d.parameters.length) = some 2 := ⟨by decide +kernel, by decide +kernel⟩
theorem vc_X5_busyPupils : lw_tbl[486]? = some (.code yX5_busyPupils cX5_busyPupils 4 ((some .int))) := by decide +kernel
theorem vy_X5_busyPupils : (yX5_busyPupils.cls ≠ "java/lang/invoke/MethodHandle" ∧ yX5_busyPupils.cls ≠ "java/lang/invoke/VarHandle") ∧ (parseMethodDescriptor yX5_busyPupils.desc).map (fun d => d.parameters.length) = some 1 := ⟨by decide +kernel, by decide +kernel⟩
theorem vc_X5_freeBlocks : lw_tbl[499]? = some (.code yX5_freeBlocks cX5_freeBlocks 4 ((some .int))) := by decide +kernel
theorem vy_X5_freeBlocks : (yX5_freeBlocks.cls ≠ "java/lang/invoke/MethodHandle" ∧ yX5_freeBlocks.cls ≠ "java/lang/invoke/VarHandle") ∧ (parseMethodDescriptor yX5_freeBlocks.desc).map (fun d => d.parameters.length) = some 1 := ⟨by decide +kernel, by decide +kernel⟩
theorem vc_X5_lessonsOf : lw_tbl[482]? = some (.code yX5_lessonsOf cX5_lessonsOf 4 ((some .int))) := by decide +kernel
theorem vy_X5_lessonsOf : (yX5_lessonsOf.cls ≠ "java/lang/invoke/MethodHandle" ∧ yX5_lessonsOf.cls ≠ "java/lang/invoke/VarHandle") ∧ (parseMethodDescriptor yX5_lessonsOf.desc).map (fun d => d.parameters.length) = some 1 := ⟨by decide +kernel, by decide +kernel⟩
theorem vc_X5_lessonsOfAll : lw_tbl[552]? = some (.code yX5_lessonsOfAll cX5_lessonsOfAll 3 ((some .int))) := by decide +kernel
theorem vy_X5_lessonsOfAll : (yX5_lessonsOfAll.cls ≠ "java/lang/invoke/MethodHandle" ∧ yX5_lessonsOfAll.cls ≠ "java/lang/invoke/VarHandle") ∧ (parseMethodDescriptor yX5_lessonsOfAll.desc).map (fun d => d.parameters.length) = some 0 := ⟨by decide +kernel, by decide +kernel⟩
theorem vc_X5_attendsWishes : lw_tbl[330]? = some (.code yX5_attendsWishes cX5_attendsWishes 4 ((some .boolean))) := by decide +kernel
theorem vy_X5_attendsWishes : (yX5_attendsWishes.cls ≠ "java/lang/invoke/MethodHandle" ∧ yX5_attendsWishes.cls ≠ "java/lang/invoke/VarHandle") ∧ (parseMethodDescriptor yX5_attendsWishes.desc).map (fun d => d.parameters.length) = some 1 := ⟨by decide +kernel, by decide +kernel⟩
theorem vc_X5_dropLesson : lw_tbl[777]? = some (.code yX5_dropLesson cX5_dropLesson 4 ((some .int))) := by decide +kernel
theorem vy_X5_dropLesson : (yX5_dropLesson.cls ≠ "java/lang/invoke/MethodHandle" ∧ yX5_dropLesson.cls ≠ "java/lang/invoke/VarHandle") ∧ (parseMethodDescriptor yX5_dropLesson.desc).map (fun d => d.parameters.length) = some 2 := ⟨by decide +kernel, by decide +kernel⟩
theorem vc_X5_dropLessons : lw_tbl[886]? = some (.code yX5_dropLessons cX5_dropLessons 4 ((some .int))) := by decide +kernel
theorem vy_X5_dropLessons : (yX5_dropLessons.cls ≠ "java/lang/invoke/MethodHandle" ∧ yX5_dropLessons.cls ≠ "java/lang/invoke/VarHandle") ∧ (parseMethodDescriptor yX5_dropLessons.desc).map (fun d => d.parameters.length) = some 1 := ⟨by decide +kernel, by decide +kernel⟩
theorem vc_X5_noteMove : lw_tbl[763]? = some (.code yX5_noteMove cX5_noteMove 4 none) := by decide +kernel
theorem vy_X5_noteMove : (yX5_noteMove.cls ≠ "java/lang/invoke/MethodHandle" ∧ yX5_noteMove.cls ≠ "java/lang/invoke/VarHandle") ∧ (parseMethodDescriptor yX5_noteMove.desc).map (fun d => d.parameters.length) = some 3 := ⟨by decide +kernel, by decide +kernel⟩
theorem vc_X5_makeMoves : lw_tbl[767]? = some (.code yX5_makeMoves cX5_makeMoves 7 none) := by decide +kernel
theorem vy_X5_makeMoves : (yX5_makeMoves.cls ≠ "java/lang/invoke/MethodHandle" ∧ yX5_makeMoves.cls ≠ "java/lang/invoke/VarHandle") ∧ (parseMethodDescriptor yX5_makeMoves.desc).map (fun d => d.parameters.length) = some 3 := ⟨by decide +kernel, by decide +kernel⟩
theorem vc_X6_init : lw_tbl[233]? = some (.code yX6_init cX6_init 1 none) := by decide +kernel
theorem vy_X6_init : (yX6_init.cls ≠ "java/lang/invoke/MethodHandle" ∧ yX6_init.cls ≠ "java/lang/invoke/VarHandle") ∧ (parseMethodDescriptor yX6_init.desc).map (fun d => d.parameters.length) = some 0 := ⟨by decide +kernel, by decide +kernel⟩
theorem vc_X7_init : lw_tbl[53]? = some (.code yX7_init cX7_init 1 none) := by decide +kernel
theorem vy_X7_init : (yX7_init.cls ≠ "java/lang/invoke/MethodHandle" ∧ yX7_init.cls ≠ "java/lang/invoke/VarHandle") ∧ (parseMethodDescriptor yX7_init.desc).map (fun d => d.parameters.length) = some 0 := ⟨by decide +kernel, by decide +kernel⟩
theorem vc_X7_addSubject : lw_tbl[417]? = some (.code yX7_addSubject cX7_addSubject 2 ((some .int))) := by decide +kernel
theorem vy_X7_addSubject : (yX7_addSubject.cls ≠ "java/lang/invoke/MethodHandle" ∧ yX7_addSubject.cls ≠ "java/lang/invoke/VarHandle") ∧ (parseMethodDescriptor yX7_addSubject.desc).map (fun d => d.parameters.length) = some 1 := ⟨by decide +kernel, by decide +kernel⟩
theorem vc_X7_subjectCount : lw_tbl[913]? = some (.code yX7_subjectCount cX7_subjectCount 1 ((some .int))) := by decide +kernel
theorem vy_X7_subjectCount : (yX7_subjectCount.cls ≠ "java/lang/invoke/MethodHandle" ∧ yX7_subjectCount.cls ≠ "java/lang/invoke/VarHandle") ∧ (parseMethodDescriptor yX7_subjectCount.desc).map (fun d => d.parameters.length) = some 0 := ⟨by decide +kernel, by decide +kernel⟩
theorem vc_X7_sizeOf : lw_tbl[966]? = some (.code yX7_sizeOf cX7_sizeOf 2 ((some .int))) := by decide +kernel
theorem vy_X7_sizeOf : (yX7_sizeOf.cls ≠ "java/lang/invoke/MethodHandle" ∧ yX7_sizeOf.cls ≠ "java/lang/invoke/VarHandle") ∧ (parseMethodDescriptor yX7_sizeOf.desc).map (fun d => d.parameters.length) = some 1 := ⟨by decide +kernel, by decide +kernel⟩
theorem vc_X7_setBlockCount : lw_tbl[790]? = some (.code yX7_setBlockCount cX7_setBlockCount 2 ((some .int))) := by decide +kernel
theorem vy_X7_setBlockCount : (yX7_setBlockCount.cls ≠ "java/lang/invoke/MethodHandle" ∧ yX7_setBlockCount.cls ≠ "java/lang/invoke/VarHandle") ∧ (parseMethodDescriptor yX7_setBlockCount.desc).map (fun d => d.parameters.length) = some 1 := ⟨by decide +kernel, by decide +kernel⟩
theorem vc_X7_blockCount : lw_tbl[917]? = some (.code yX7_blockCount cX7_blockCount 1 ((some .int))) := by decide +kernel
theorem vy_X7_blockCount : (yX7_blockCount.cls ≠ "java/lang/invoke/MethodHandle" ∧ yX7_blockCount.cls ≠ "java/lang/invoke/VarHandle") ∧ (parseMethodDescriptor yX7_blockCount.desc).map (fun d => d.parameters.length) = some 0 := ⟨by decide +kernel, by decide +kernel⟩
theorem vc_X7_openClass : lw_tbl[818]? = some (.code yX7_openClass cX7_openClass 3 ((some .int))) := by decide +kernel
theorem vy_X7_openClass : (yX7_openClass.cls ≠ "java/lang/invoke/MethodHandle" ∧ yX7_openClass.cls ≠ "java/lang/invoke/VarHandle") ∧ (parseMethodDescriptor yX7_openClass.desc).map (fun d => d.parameters.length) = some 2 := ⟨by decide +kernel, by decide +kernel⟩
theorem vc_X7_isOpen : lw_tbl[974]? = some (.code yX7_isOpen cX7_isOpen 3 ((some .boolean))) := by decide +kernel
theorem vy_X7_isOpen : (yX7_isOpen.cls ≠ "java/lang/invoke/MethodHandle" ∧ yX7_isOpen.cls ≠ "java/lang/invoke/VarHandle") ∧ (parseMethodDescriptor yX7_isOpen.desc).map (fun d => d.parameters.length) = some 2 := ⟨by decide +kernel, by decide +kernel⟩
theorem vc_X7_pupilsInClass : lw_tbl[959]? = some (.code yX7_pupilsInClass cX7_pupilsInClass 3 ((some .int))) := by decide +kernel
theorem vy_X7_pupilsInClass : (yX7_pupilsInClass.cls ≠ "java/lang/invoke/MethodHandle" ∧ yX7_pupilsInClass.cls ≠ "java/lang/invoke/VarHandle") ∧ (parseMethodDescriptor yX7_pupilsInClass.desc).map (fun d => d.parameters.length) = some 2 := ⟨by decide +kernel, by decide +kernel⟩
theorem vc_X7_pupilInClass : lw_tbl[929]? = some (.code yX7_pupilInClass cX7_pupilInClass 5 ((some .int))) := by decide +kernel
theorem vy_X7_pupilInClass : (yX7_pupilInClass.cls ≠ "java/lang/invoke/MethodHandle" ∧ yX7_pupilInClass.cls ≠ "java/lang/invoke/VarHandle") ∧ (parseMethodDescriptor yX7_pupilInClass.desc).map (fun d => d.parameters.length) = some 3 := ⟨by decide +kernel, by decide +kernel⟩
theorem vc_X7_addPupil : lw_tbl[825]? = some (.code yX7_addPupil cX7_addPupil 1 ((some .int))) := by decide +kernel
theorem vy_X7_addPupil : (yX7_addPupil.cls ≠ "java/lang/invoke/MethodHandle" ∧ yX7_addPupil.cls ≠ "java/lang/invoke/VarHandle") ∧ (parseMethodDescriptor yX7_addPupil.desc).map (fun d => d.parameters.length) = some 0 := ⟨by decide +kernel, by decide +kernel⟩
theorem vc_X7_pupilCount : lw_tbl[921]? = some (.code yX7_pupilCount cX7_pupilCount 1 ((some .int))) := by decide +kernel
theorem vy_X7_pupilCount : (yX7_pupilCount.cls ≠ "java/lang/invoke/MethodHandle" ∧ yX7_pupilCount.cls ≠ "java/lang/invoke/VarHandle") ∧ (parseMethodDescriptor yX7_pupilCount.desc).map (fun d => d.parameters.length) = some 0 := ⟨by decide +kernel, by decide +kernel⟩
theorem vc_X7_addWish : lw_tbl[832]? = some (.code yX7_addWish cX7_addWish 3 ((some .int))) := by decide +kernel
theorem vy_X7_addWish : (yX7_addWish.cls ≠ "java/lang/invoke/MethodHandle" ∧ yX7_addWish.cls ≠ "java/lang/invoke/VarHandle") ∧ (parseMethodDescriptor yX7_addWish.desc).map (fun d => d.parameters.length) = some 2 := ⟨by decide +kernel, by decide +kernel⟩
theorem vc_X7_setReserve : lw_tbl[839]? = some (.code yX7_setReserve cX7_setReserve 3 ((some .int))) := by decide +kernel
theorem vy_X7_setReserve : (yX7_setReserve.cls ≠ "java/lang/invoke/MethodHandle" ∧ yX7_setReserve.cls ≠ "java/lang/invoke/VarHandle") ∧ (parseMethodDescriptor yX7_setReserve.desc).map (fun d => d.parameters.length) = some 2 := ⟨by decide +kernel, by decide +kernel⟩
theorem vc_X7_subjectIn : lw_tbl[846]? = some (.code yX7_subjectIn cX7_subjectIn 3 ((some .int))) := by decide +kernel
theorem vy_X7_subjectIn : (yX7_subjectIn.cls ≠ "java/lang/invoke/MethodHandle" ∧ yX7_subjectIn.cls ≠ "java/lang/invoke/VarHandle") ∧ (parseMethodDescriptor yX7_subjectIn.desc).map (fun d => d.parameters.length) = some 2 := ⟨by decide +kernel, by decide +kernel⟩
theorem vc_X7_blockOf : lw_tbl[862]? = some (.code yX7_blockOf cX7_blockOf 3 ((some .int))) := by decide +kernel
theorem vy_X7_blockOf : (yX7_blockOf.cls ≠ "java/lang/invoke/MethodHandle" ∧ yX7_blockOf.cls ≠ "java/lang/invoke/VarHandle") ∧ (parseMethodDescriptor yX7_blockOf.desc).map (fun d => d.parameters.length) = some 2 := ⟨by decide +kernel, by decide +kernel⟩
theorem vc_X7_enrol : lw_tbl[871]? = some (.code yX7_enrol cX7_enrol 2 ((some .int))) := by decide +kernel
theorem vy_X7_enrol : (yX7_enrol.cls ≠ "java/lang/invoke/MethodHandle" ∧ yX7_enrol.cls ≠ "java/lang/invoke/VarHandle") ∧ (parseMethodDescriptor yX7_enrol.desc).map (fun d => d.parameters.length) = some 1 := ⟨by decide +kernel, by decide +kernel⟩
theorem vc_X7_withdraw : lw_tbl[878]? = some (.code yX7_withdraw cX7_withdraw 2 ((some .int))) := by decide +kernel
theorem vy_X7_withdraw : (yX7_withdraw.cls ≠ "java/lang/invoke/MethodHandle" ∧ yX7_withdraw.cls ≠ "java/lang/invoke/VarHandle") ∧ (parseMethodDescriptor yX7_withdraw.desc).map (fun d => d.parameters.length) = some 1 := ⟨by decide +kernel, by decide +kernel⟩
theorem vc_X7_bestValue : lw_tbl[895]? = some (.code yX7_bestValue cX7_bestValue 2 ((some .int))) := by decide +kernel
theorem vy_X7_bestValue : (yX7_bestValue.cls ≠ "java/lang/invoke/MethodHandle" ∧ yX7_bestValue.cls ≠ "java/lang/invoke/VarHandle") ∧ (parseMethodDescriptor yX7_bestValue.desc).map (fun d => d.parameters.length) = some 1 := ⟨by decide +kernel, by decide +kernel⟩
theorem vc_X7_bestValueBySets : lw_tbl[985]? = some (.code yX7_bestValueBySets cX7_bestValueBySets 2 ((some .int))) := by decide +kernel
theorem vy_X7_bestValueBySets : (yX7_bestValueBySets.cls ≠ "java/lang/invoke/MethodHandle" ∧ yX7_bestValueBySets.cls ≠ "java/lang/invoke/VarHandle") ∧ (parseMethodDescriptor yX7_bestValueBySets.desc).map (fun d => d.parameters.length) = some 1 := ⟨by decide +kernel, by decide +kernel⟩
theorem vc_X7_canServe : lw_tbl[1003]? = some (.code yX7_canServe cX7_canServe 2 ((some .boolean))) := by decide +kernel
theorem vy_X7_canServe : (yX7_canServe.cls ≠ "java/lang/invoke/MethodHandle" ∧ yX7_canServe.cls ≠ "java/lang/invoke/VarHandle") ∧ (parseMethodDescriptor yX7_canServe.desc).map (fun d => d.parameters.length) = some 1 := ⟨by decide +kernel, by decide +kernel⟩
theorem vc_X7_canServeByCounting : lw_tbl[1022]? = some (.code yX7_canServeByCounting cX7_canServeByCounting 2 ((some .boolean))) := by decide +kernel
theorem vy_X7_canServeByCounting : (yX7_canServeByCounting.cls ≠ "java/lang/invoke/MethodHandle" ∧ yX7_canServeByCounting.cls ≠ "java/lang/invoke/VarHandle") ∧ (parseMethodDescriptor yX7_canServeByCounting.desc).map (fun d => d.parameters.length) = some 1 := ⟨by decide +kernel, by decide +kernel⟩
theorem vc_X7_servedCount : lw_tbl[326]? = some (.code yX7_servedCount cX7_servedCount 3 ((some .int))) := by decide +kernel
theorem vy_X7_servedCount : (yX7_servedCount.cls ≠ "java/lang/invoke/MethodHandle" ∧ yX7_servedCount.cls ≠ "java/lang/invoke/VarHandle") ∧ (parseMethodDescriptor yX7_servedCount.desc).map (fun d => d.parameters.length) = some 0 := ⟨by decide +kernel, by decide +kernel⟩
theorem vc_X7_movesFor : lw_tbl[1037]? = some (.code yX7_movesFor cX7_movesFor 4 ((some .int))) := by decide +kernel
theorem vy_X7_movesFor : (yX7_movesFor.cls ≠ "java/lang/invoke/MethodHandle" ∧ yX7_movesFor.cls ≠ "java/lang/invoke/VarHandle") ∧ (parseMethodDescriptor yX7_movesFor.desc).map (fun d => d.parameters.length) = some 2 := ⟨by decide +kernel, by decide +kernel⟩
theorem vc_X7_movesByTrial : lw_tbl[1047]? = some (.code yX7_movesByTrial cX7_movesByTrial 4 ((some .int))) := by decide +kernel
theorem vy_X7_movesByTrial : (yX7_movesByTrial.cls ≠ "java/lang/invoke/MethodHandle" ∧ yX7_movesByTrial.cls ≠ "java/lang/invoke/VarHandle") ∧ (parseMethodDescriptor yX7_movesByTrial.desc).map (fun d => d.parameters.length) = some 2 := ⟨by decide +kernel, by decide +kernel⟩
theorem vc_X7_join : lw_tbl[1068]? = some (.code yX7_join cX7_join 3 ((some .int))) := by decide +kernel
theorem vy_X7_join : (yX7_join.cls ≠ "java/lang/invoke/MethodHandle" ∧ yX7_join.cls ≠ "java/lang/invoke/VarHandle") ∧ (parseMethodDescriptor yX7_join.desc).map (fun d => d.parameters.length) = some 2 := ⟨by decide +kernel, by decide +kernel⟩
theorem vc_X7_quit : lw_tbl[906]? = some (.code yX7_quit cX7_quit 3 ((some .int))) := by decide +kernel
theorem vy_X7_quit : (yX7_quit.cls ≠ "java/lang/invoke/MethodHandle" ∧ yX7_quit.cls ≠ "java/lang/invoke/VarHandle") ∧ (parseMethodDescriptor yX7_quit.desc).map (fun d => d.parameters.length) = some 2 := ⟨by decide +kernel, by decide +kernel⟩
theorem vc_X7_change : lw_tbl[1124]? = some (.code yX7_change cX7_change 4 ((some .int))) := by decide +kernel
theorem vy_X7_change : (yX7_change.cls ≠ "java/lang/invoke/MethodHandle" ∧ yX7_change.cls ≠ "java/lang/invoke/VarHandle") ∧ (parseMethodDescriptor yX7_change.desc).map (fun d => d.parameters.length) = some 3 := ⟨by decide +kernel, by decide +kernel⟩
theorem vc_X7_refusalReason : lw_tbl[1078]? = some (.code yX7_refusalReason cX7_refusalReason 1 ((some .int))) := by decide +kernel
theorem vy_X7_refusalReason : (yX7_refusalReason.cls ≠ "java/lang/invoke/MethodHandle" ∧ yX7_refusalReason.cls ≠ "java/lang/invoke/VarHandle") ∧ (parseMethodDescriptor yX7_refusalReason.desc).map (fun d => d.parameters.length) = some 0 := ⟨by decide +kernel, by decide +kernel⟩
theorem vc_X7_chainMoves : lw_tbl[1088]? = some (.code yX7_chainMoves cX7_chainMoves 1 ((some .int))) := by decide +kernel
theorem vy_X7_chainMoves : (yX7_chainMoves.cls ≠ "java/lang/invoke/MethodHandle" ∧ yX7_chainMoves.cls ≠ "java/lang/invoke/VarHandle") ∧ (parseMethodDescriptor yX7_chainMoves.desc).map (fun d => d.parameters.length) = some 0 := ⟨by decide +kernel, by decide +kernel⟩
theorem vc_X7_chainPupil : lw_tbl[1095]? = some (.code yX7_chainPupil cX7_chainPupil 2 ((some .int))) := by decide +kernel
theorem vy_X7_chainPupil : (yX7_chainPupil.cls ≠ "java/lang/invoke/MethodHandle" ∧ yX7_chainPupil.cls ≠ "java/lang/invoke/VarHandle") ∧ (parseMethodDescriptor yX7_chainPupil.desc).map (fun d => d.parameters.length) = some 1 := ⟨by decide +kernel, by decide +kernel⟩
theorem vc_X7_chainBlock : lw_tbl[1102]? = some (.code yX7_chainBlock cX7_chainBlock 2 ((some .int))) := by decide +kernel
theorem vy_X7_chainBlock : (yX7_chainBlock.cls ≠ "java/lang/invoke/MethodHandle" ∧ yX7_chainBlock.cls ≠ "java/lang/invoke/VarHandle") ∧ (parseMethodDescriptor yX7_chainBlock.desc).map (fun d => d.parameters.length) = some 1 := ⟨by decide +kernel, by decide +kernel⟩
theorem vc_X7_leastClashes : lw_tbl[352]? = some (.code yX7_leastClashes cX7_leastClashes 1 ((some .int))) := by decide +kernel
theorem vy_X7_leastClashes : (yX7_leastClashes.cls ≠ "java/lang/invoke/MethodHandle" ∧ yX7_leastClashes.cls ≠ "java/lang/invoke/VarHandle") ∧ (parseMethodDescriptor yX7_leastClashes.desc).map (fun d => d.parameters.length) = some 0 := ⟨by decide +kernel, by decide +kernel⟩
theorem vc_X7_leastClashesByTrial : lw_tbl[393]? = some (.code yX7_leastClashesByTrial cX7_leastClashesByTrial 1 ((some .int))) := by decide +kernel
theorem vy_X7_leastClashesByTrial : (yX7_leastClashesByTrial.cls ≠ "java/lang/invoke/MethodHandle" ∧ yX7_leastClashesByTrial.cls ≠ "java/lang/invoke/VarHandle") ∧ (parseMethodDescriptor yX7_leastClashesByTrial.desc).map (fun d => d.parameters.length) = some 0 := ⟨by decide +kernel, by decide +kernel⟩
theorem vc_X7_undo : lw_tbl[1109]? = some (.code yX7_undo cX7_undo 1 ((some .int))) := by decide +kernel
theorem vy_X7_undo : (yX7_undo.cls ≠ "java/lang/invoke/MethodHandle" ∧ yX7_undo.cls ≠ "java/lang/invoke/VarHandle") ∧ (parseMethodDescriptor yX7_undo.desc).map (fun d => d.parameters.length) = some 0 := ⟨by decide +kernel, by decide +kernel⟩
theorem vc_X7_make : lw_tbl[421]? = some (.code yX7_make cX7_make 5 ((some .int))) := by decide +kernel
theorem vy_X7_make : (yX7_make.cls ≠ "java/lang/invoke/MethodHandle" ∧ yX7_make.cls ≠ "java/lang/invoke/VarHandle") ∧ (parseMethodDescriptor yX7_make.desc).map (fun d => d.parameters.length) = some 4 := ⟨by decide +kernel, by decide +kernel⟩
theorem vc_X7_needIndex : lw_tbl[851]? = some (.code yX7_needIndex cX7_needIndex 1 none) := by decide +kernel
theorem vy_X7_needIndex : (yX7_needIndex.cls ≠ "java/lang/invoke/MethodHandle" ∧ yX7_needIndex.cls ≠ "java/lang/invoke/VarHandle") ∧ (parseMethodDescriptor yX7_needIndex.desc).map (fun d => d.parameters.length) = some 1 := ⟨by decide +kernel, by decide +kernel⟩
theorem vc_X7_needElement : lw_tbl[935]? = some (.code yX7_needElement cX7_needElement 1 none) := by decide +kernel
theorem vy_X7_needElement : (yX7_needElement.cls ≠ "java/lang/invoke/MethodHandle" ∧ yX7_needElement.cls ≠ "java/lang/invoke/VarHandle") ∧ (parseMethodDescriptor yX7_needElement.desc).map (fun d => d.parameters.length) = some 1 := ⟨by decide +kernel, by decide +kernel⟩
theorem vc_X7_throwFault : lw_tbl[555]? = some (.code yX7_throwFault cX7_throwFault 1 none) := by decide +kernel
theorem vy_X7_throwFault : (yX7_throwFault.cls ≠ "java/lang/invoke/MethodHandle" ∧ yX7_throwFault.cls ≠ "java/lang/invoke/VarHandle") ∧ (parseMethodDescriptor yX7_throwFault.desc).map (fun d => d.parameters.length) = some 1 := ⟨by decide +kernel, by decide +kernel⟩
theorem vc_X7_read : lw_tbl[333]? = some (.code yX7_read cX7_read 2 ((some .int))) := by decide +kernel
theorem vy_X7_read : (yX7_read.cls ≠ "java/lang/invoke/MethodHandle" ∧ yX7_read.cls ≠ "java/lang/invoke/VarHandle") ∧ (parseMethodDescriptor yX7_read.desc).map (fun d => d.parameters.length) = some 2 := ⟨by decide +kernel, by decide +kernel⟩
theorem vc_X7_write : lw_tbl[363]? = some (.code yX7_write cX7_write 3 none) := by decide +kernel
theorem vy_X7_write : (yX7_write.cls ≠ "java/lang/invoke/MethodHandle" ∧ yX7_write.cls ≠ "java/lang/invoke/VarHandle") ∧ (parseMethodDescriptor yX7_write.desc).map (fun d => d.parameters.length) = some 3 := ⟨by decide +kernel, by decide +kernel⟩
theorem vc_X7_copyRow : lw_tbl[379]? = some (.code yX7_copyRow cX7_copyRow 2 none) := by decide +kernel
theorem vy_X7_copyRow : (yX7_copyRow.cls ≠ "java/lang/invoke/MethodHandle" ∧ yX7_copyRow.cls ≠ "java/lang/invoke/VarHandle") ∧ (parseMethodDescriptor yX7_copyRow.desc).map (fun d => d.parameters.length) = some 2 := ⟨by decide +kernel, by decide +kernel⟩
theorem vc_X7_holds : lw_tbl[348]? = some (.code yX7_holds cX7_holds 2 ((some .boolean))) := by decide +kernel
theorem vy_X7_holds : (yX7_holds.cls ≠ "java/lang/invoke/MethodHandle" ∧ yX7_holds.cls ≠ "java/lang/invoke/VarHandle") ∧ (parseMethodDescriptor yX7_holds.desc).map (fun d => d.parameters.length) = some 2 := ⟨by decide +kernel, by decide +kernel⟩
theorem vc_X7_memberAt : lw_tbl[758]? = some (.code yX7_memberAt cX7_memberAt 4 ((some .int))) := by decide +kernel
theorem vy_X7_memberAt : (yX7_memberAt.cls ≠ "java/lang/invoke/MethodHandle" ∧ yX7_memberAt.cls ≠ "java/lang/invoke/VarHandle") ∧ (parseMethodDescriptor yX7_memberAt.desc).map (fun d => d.parameters.length) = some 2 := ⟨by decide +kernel, by decide +kernel⟩
theorem vc_J5_init_d00df : lw_tbl[242]? = some (.code yJ5_init_d00df cJ5_init_d00df 2 none) := by decide +kernel
theorem vy_J5_init_d00df : (yJ5_init_d00df.cls ≠ "java/lang/invoke/MethodHandle" ∧ yJ5_init_d00df.cls ≠ "java/lang/invoke/VarHandle") ∧ (parseMethodDescriptor yJ5_init_d00df.desc).map (fun d => d.parameters.length) = some 1 := ⟨by decide +kernel, by decide +kernel⟩
theorem vc_Jx00060_init_a7421 : lw_tbl[797]? = some (.code yJx00060_init_a7421 cJx00060_init_a7421 2 none) := by decide +kernel
theorem vy_Jx00060_init_a7421 : (yJx00060_init_a7421.cls ≠ "java/lang/invoke/MethodHandle" ∧ yJx00060_init_a7421.cls ≠ "java/lang/invoke/VarHandle") ∧ (parseMethodDescriptor yJx00060_init_a7421.desc).map (fun d => d.parameters.length) = some 1 := ⟨by decide +kernel, by decide +kernel⟩
theorem vc_J6_bitCount_0f7a4 : lw_tbl[511]? = some (.code yJ6_bitCount_0f7a4 cJ6_bitCount_0f7a4 1 ((some .int))) := by decide +kernel
theorem vy_J6_bitCount_0f7a4 : (yJ6_bitCount_0f7a4.cls ≠ "java/lang/invoke/MethodHandle" ∧ yJ6_bitCount_0f7a4.cls ≠ "java/lang/invoke/VarHandle") ∧ (parseMethodDescriptor yJ6_bitCount_0f7a4.desc).map (fun d => d.parameters.length) = some 1 := ⟨by decide +kernel, by decide +kernel⟩
theorem vc_J9_max_7cf53 : lw_tbl[1029]? = some (.code yJ9_max_7cf53 cJ9_max_7cf53 2 ((some .int))) := by decide +kernel
theorem vy_J9_max_7cf53 : (yJ9_max_7cf53.cls ≠ "java/lang/invoke/MethodHandle" ∧ yJ9_max_7cf53.cls ≠ "java/lang/invoke/VarHandle") ∧ (parseMethodDescriptor yJ9_max_7cf53.desc).map (fun d => d.parameters.length) = some 2 := ⟨by decide +kernel, by decide +kernel⟩
theorem vc_J9_min_7cf53 : lw_tbl[382]? = some (.code yJ9_min_7cf53 cJ9_min_7cf53 2 ((some .int))) := by decide +kernel
theorem vy_J9_min_7cf53 : (yJ9_min_7cf53.cls ≠ "java/lang/invoke/MethodHandle" ∧ yJ9_min_7cf53.cls ≠ "java/lang/invoke/VarHandle") ∧ (parseMethodDescriptor yJ9_min_7cf53.desc).map (fun d => d.parameters.length) = some 2 := ⟨by decide +kernel, by decide +kernel⟩
theorem vc_J4_init_da8c8 : lw_tbl[239]? = some (.code yJ4_init_da8c8 cJ4_init_da8c8 1 none) := by decide +kernel
theorem vy_J4_init_da8c8 : (yJ4_init_da8c8.cls ≠ "java/lang/invoke/MethodHandle" ∧ yJ4_init_da8c8.cls ≠ "java/lang/invoke/VarHandle") ∧ (parseMethodDescriptor yJ4_init_da8c8.desc).map (fun d => d.parameters.length) = some 0 := ⟨by decide +kernel, by decide +kernel⟩
theorem vc_J2_newBytesFor_77867 : lw_tbl[248]? = some (.code yJ2_newBytesFor_77867 cJ2_newBytesFor_77867 1 ((some (.array .byte)))) := by decide +kernel
theorem vy_J2_newBytesFor_77867 : (yJ2_newBytesFor_77867.cls ≠ "java/lang/invoke/MethodHandle" ∧ yJ2_newBytesFor_77867.cls ≠ "java/lang/invoke/VarHandle") ∧ (parseMethodDescriptor yJ2_newBytesFor_77867.desc).map (fun d => d.parameters.length) = some 1 := ⟨by decide +kernel, by decide +kernel⟩
theorem vc_J2_newBytesLength_0f7a4 : lw_tbl[251]? = some (.code yJ2_newBytesLength_0f7a4 cJ2_newBytesLength_0f7a4 1 ((some .int))) := by decide +kernel
theorem vy_J2_newBytesLength_0f7a4 : (yJ2_newBytesLength_0f7a4.cls ≠ "java/lang/invoke/MethodHandle" ∧ yJ2_newBytesLength_0f7a4.cls ≠ "java/lang/invoke/VarHandle") ∧ (parseMethodDescriptor yJ2_newBytesLength_0f7a4.desc).map (fun d => d.parameters.length) = some 1 := ⟨by decide +kernel, by decide +kernel⟩
theorem vc_L_cell : lw_tbl[404]? = some (.code yL_cell cL_cell 2 ((some .int))) := by decide +kernel
theorem vy_L_cell : (yL_cell.cls ≠ "java/lang/invoke/MethodHandle" ∧ yL_cell.cls ≠ "java/lang/invoke/VarHandle") ∧ (parseMethodDescriptor yL_cell.desc).map (fun d => d.parameters.length) = some 2 := ⟨by decide +kernel, by decide +kernel⟩
theorem vc_L_pick : lw_tbl[408]? = some (.code yL_pick cL_pick 3 ((some .int))) := by decide +kernel
theorem vy_L_pick : (yL_pick.cls ≠ "java/lang/invoke/MethodHandle" ∧ yL_pick.cls ≠ "java/lang/invoke/VarHandle") ∧ (parseMethodDescriptor yL_pick.desc).map (fun d => d.parameters.length) = some 3 := ⟨by decide +kernel, by decide +kernel⟩
theorem vc_L_addSubject : lw_tbl[411]? = some (.codeWith yL_addSubject cL_addSubject 3 ((some .int)) [(0, 5, 6, 20), (0, 5, 11, 22)]) := by decide +kernel
theorem vy_L_addSubject : (yL_addSubject.cls ≠ "java/lang/invoke/MethodHandle" ∧ yL_addSubject.cls ≠ "java/lang/invoke/VarHandle") ∧ (parseMethodDescriptor yL_addSubject.desc).map (fun d => d.parameters.length) = some 2 := ⟨by decide +kernel, by decide +kernel⟩
theorem vc_L_sizeOf : lw_tbl[962]? = some (.codeWith yL_sizeOf cL_sizeOf 3 ((some .int)) [(0, 5, 6, 27)]) := by decide +kernel
theorem vy_L_sizeOf : (yL_sizeOf.cls ≠ "java/lang/invoke/MethodHandle" ∧ yL_sizeOf.cls ≠ "java/lang/invoke/VarHandle") ∧ (parseMethodDescriptor yL_sizeOf.desc).map (fun d => d.parameters.length) = some 2 := ⟨by decide +kernel, by decide +kernel⟩
theorem vc_L_setBlockCount : lw_tbl[786]? = some (.codeWith yL_setBlockCount cL_setBlockCount 3 ((some .int)) [(0, 5, 6, 20), (0, 5, 11, 22)]) := by decide +kernel
theorem vy_L_setBlockCount : (yL_setBlockCount.cls ≠ "java/lang/invoke/MethodHandle" ∧ yL_setBlockCount.cls ≠ "java/lang/invoke/VarHandle") ∧ (parseMethodDescriptor yL_setBlockCount.desc).map (fun d => d.parameters.length) = some 2 := ⟨by decide +kernel, by decide +kernel⟩
theorem vc_L_openClass : lw_tbl[793]? = some (.codeWith yL_openClass cL_openClass 4 ((some .int)) [(0, 6, 7, 27), (0, 6, 12, 22)]) := by decide +kernel
theorem vy_L_openClass : (yL_openClass.cls ≠ "java/lang/invoke/MethodHandle" ∧ yL_openClass.cls ≠ "java/lang/invoke/VarHandle") ∧ (parseMethodDescriptor yL_openClass.desc).map (fun d => d.parameters.length) = some 3 := ⟨by decide +kernel, by decide +kernel⟩
theorem vc_L_isOpen : lw_tbl[970]? = some (.codeWith yL_isOpen cL_isOpen 4 ((some .int)) [(0, 14, 15, 27)]) := by decide +kernel
theorem vy_L_isOpen : (yL_isOpen.cls ≠ "java/lang/invoke/MethodHandle" ∧ yL_isOpen.cls ≠ "java/lang/invoke/VarHandle") ∧ (parseMethodDescriptor yL_isOpen.desc).map (fun d => d.parameters.length) = some 3 := ⟨by decide +kernel, by decide +kernel⟩
theorem vc_L_pupilsInClass : lw_tbl[955]? = some (.codeWith yL_pupilsInClass cL_pupilsInClass 4 ((some .int)) [(0, 6, 7, 27)]) := by decide +kernel
theorem vy_L_pupilsInClass : (yL_pupilsInClass.cls ≠ "java/lang/invoke/MethodHandle" ∧ yL_pupilsInClass.cls ≠ "java/lang/invoke/VarHandle") ∧ (parseMethodDescriptor yL_pupilsInClass.desc).map (fun d => d.parameters.length) = some 3 := ⟨by decide +kernel, by decide +kernel⟩
theorem vc_L_pupilInClass : lw_tbl[924]? = some (.codeWith yL_pupilInClass cL_pupilInClass 5 ((some .int)) [(0, 7, 8, 27), (0, 7, 14, 47)]) := by decide +kernel
theorem vy_L_pupilInClass : (yL_pupilInClass.cls ≠ "java/lang/invoke/MethodHandle" ∧ yL_pupilInClass.cls ≠ "java/lang/invoke/VarHandle") ∧ (parseMethodDescriptor yL_pupilInClass.desc).map (fun d => d.parameters.length) = some 4 := ⟨by decide +kernel, by decide +kernel⟩
theorem vc_L_addPupil : lw_tbl[821]? = some (.codeWith yL_addPupil cL_addPupil 2 ((some .int)) [(0, 4, 5, 22)]) := by decide +kernel
theorem vy_L_addPupil : (yL_addPupil.cls ≠ "java/lang/invoke/MethodHandle" ∧ yL_addPupil.cls ≠ "java/lang/invoke/VarHandle") ∧ (parseMethodDescriptor yL_addPupil.desc).map (fun d => d.parameters.length) = some 1 := ⟨by decide +kernel, by decide +kernel⟩
theorem vc_L_addWish : lw_tbl[828]? = some (.codeWith yL_addWish cL_addWish 4 ((some .int)) [(0, 6, 7, 27), (0, 6, 12, 22)]) := by decide +kernel
theorem vy_L_addWish : (yL_addWish.cls ≠ "java/lang/invoke/MethodHandle" ∧ yL_addWish.cls ≠ "java/lang/invoke/VarHandle") ∧ (parseMethodDescriptor yL_addWish.desc).map (fun d => d.parameters.length) = some 3 := ⟨by decide +kernel, by decide +kernel⟩
theorem vc_L_setReserve : lw_tbl[835]? = some (.codeWith yL_setReserve cL_setReserve 4 ((some .int)) [(0, 6, 7, 27), (0, 6, 12, 22)]) := by decide +kernel
theorem vy_L_setReserve : (yL_setReserve.cls ≠ "java/lang/invoke/MethodHandle" ∧ yL_setReserve.cls ≠ "java/lang/invoke/VarHandle") ∧ (parseMethodDescriptor yL_setReserve.desc).map (fun d => d.parameters.length) = some 3 := ⟨by decide +kernel, by decide +kernel⟩
theorem vc_L_subjectIn : lw_tbl[842]? = some (.codeWith yL_subjectIn cL_subjectIn 4 ((some .int)) [(0, 6, 7, 27)]) := by decide +kernel
theorem vy_L_subjectIn : (yL_subjectIn.cls ≠ "java/lang/invoke/MethodHandle" ∧ yL_subjectIn.cls ≠ "java/lang/invoke/VarHandle") ∧ (parseMethodDescriptor yL_subjectIn.desc).map (fun d => d.parameters.length) = some 3 := ⟨by decide +kernel, by decide +kernel⟩
theorem vc_L_blockOf : lw_tbl[858]? = some (.codeWith yL_blockOf cL_blockOf 4 ((some .int)) [(0, 6, 7, 27)]) := by decide +kernel
theorem vy_L_blockOf : (yL_blockOf.cls ≠ "java/lang/invoke/MethodHandle" ∧ yL_blockOf.cls ≠ "java/lang/invoke/VarHandle") ∧ (parseMethodDescriptor yL_blockOf.desc).map (fun d => d.parameters.length) = some 3 := ⟨by decide +kernel, by decide +kernel⟩
theorem vc_L_enrol : lw_tbl[867]? = some (.codeWith yL_enrol cL_enrol 3 ((some .int)) [(0, 5, 6, 27), (0, 5, 11, 22)]) := by decide +kernel
theorem vy_L_enrol : (yL_enrol.cls ≠ "java/lang/invoke/MethodHandle" ∧ yL_enrol.cls ≠ "java/lang/invoke/VarHandle") ∧ (parseMethodDescriptor yL_enrol.desc).map (fun d => d.parameters.length) = some 2 := ⟨by decide +kernel, by decide +kernel⟩
theorem vc_L_withdraw : lw_tbl[874]? = some (.codeWith yL_withdraw cL_withdraw 3 ((some .int)) [(0, 5, 6, 27), (0, 5, 11, 22)]) := by decide +kernel
theorem vy_L_withdraw : (yL_withdraw.cls ≠ "java/lang/invoke/MethodHandle" ∧ yL_withdraw.cls ≠ "java/lang/invoke/VarHandle") ∧ (parseMethodDescriptor yL_withdraw.desc).map (fun d => d.parameters.length) = some 2 := ⟨by decide +kernel, by decide +kernel⟩
theorem vc_L_bestValue : lw_tbl[891]? = some (.codeWith yL_bestValue cL_bestValue 3 ((some .int)) [(0, 5, 6, 27)]) := by decide +kernel
theorem vy_L_bestValue : (yL_bestValue.cls ≠ "java/lang/invoke/MethodHandle" ∧ yL_bestValue.cls ≠ "java/lang/invoke/VarHandle") ∧ (parseMethodDescriptor yL_bestValue.desc).map (fun d => d.parameters.length) = some 2 := ⟨by decide +kernel, by decide +kernel⟩
theorem vc_L_bestValueBySets : lw_tbl[981]? = some (.codeWith yL_bestValueBySets cL_bestValueBySets 3 ((some .int)) [(0, 5, 6, 27)]) := by decide +kernel
theorem vy_L_bestValueBySets : (yL_bestValueBySets.cls ≠ "java/lang/invoke/MethodHandle" ∧ yL_bestValueBySets.cls ≠ "java/lang/invoke/VarHandle") ∧ (parseMethodDescriptor yL_bestValueBySets.desc).map (fun d => d.parameters.length) = some 2 := ⟨by decide +kernel, by decide +kernel⟩
theorem vc_L_canServe : lw_tbl[999]? = some (.codeWith yL_canServe cL_canServe 3 ((some .int)) [(0, 13, 14, 27)]) := by decide +kernel
theorem vy_L_canServe : (yL_canServe.cls ≠ "java/lang/invoke/MethodHandle" ∧ yL_canServe.cls ≠ "java/lang/invoke/VarHandle") ∧ (parseMethodDescriptor yL_canServe.desc).map (fun d => d.parameters.length) = some 2 := ⟨by decide +kernel, by decide +kernel⟩
theorem vc_L_canServeByCounting : lw_tbl[1018]? = some (.codeWith yL_canServeByCounting cL_canServeByCounting 3 ((some .int)) [(0, 13, 14, 27)]) := by decide +kernel
theorem vy_L_canServeByCounting : (yL_canServeByCounting.cls ≠ "java/lang/invoke/MethodHandle" ∧ yL_canServeByCounting.cls ≠ "java/lang/invoke/VarHandle") ∧ (parseMethodDescriptor yL_canServeByCounting.desc).map (fun d => d.parameters.length) = some 2 := ⟨by decide +kernel, by decide +kernel⟩
theorem vc_L_movesFor : lw_tbl[1033]? = some (.codeWith yL_movesFor cL_movesFor 4 ((some .int)) [(0, 6, 7, 27), (0, 6, 12, 22), (0, 6, 17, 47)]) := by decide +kernel
theorem vy_L_movesFor : (yL_movesFor.cls ≠ "java/lang/invoke/MethodHandle" ∧ yL_movesFor.cls ≠ "java/lang/invoke/VarHandle") ∧ (parseMethodDescriptor yL_movesFor.desc).map (fun d => d.parameters.length) = some 3 := ⟨by decide +kernel, by decide +kernel⟩
theorem vc_L_movesByTrial : lw_tbl[1043]? = some (.codeWith yL_movesByTrial cL_movesByTrial 4 ((some .int)) [(0, 6, 7, 27), (0, 6, 12, 22), (0, 6, 17, 47)]) := by decide +kernel
theorem vy_L_movesByTrial : (yL_movesByTrial.cls ≠ "java/lang/invoke/MethodHandle" ∧ yL_movesByTrial.cls ≠ "java/lang/invoke/VarHandle") ∧ (parseMethodDescriptor yL_movesByTrial.desc).map (fun d => d.parameters.length) = some 3 := ⟨by decide +kernel, by decide +kernel⟩
theorem vc_L_join : lw_tbl[1063]? = some (.codeWith yL_join cL_join 4 ((some .int)) [(0, 6, 7, 27), (0, 6, 12, 22), (0, 6, 17, 93)]) := by decide +kernel
theorem vy_L_join : (yL_join.cls ≠ "java/lang/invoke/MethodHandle" ∧ yL_join.cls ≠ "java/lang/invoke/VarHandle") ∧ (parseMethodDescriptor yL_join.desc).map (fun d => d.parameters.length) = some 3 := ⟨by decide +kernel, by decide +kernel⟩
theorem vc_L_quit : lw_tbl[902]? = some (.codeWith yL_quit cL_quit 4 ((some .int)) [(0, 6, 7, 27), (0, 6, 12, 22)]) := by decide +kernel
theorem vy_L_quit : (yL_quit.cls ≠ "java/lang/invoke/MethodHandle" ∧ yL_quit.cls ≠ "java/lang/invoke/VarHandle") ∧ (parseMethodDescriptor yL_quit.desc).map (fun d => d.parameters.length) = some 3 := ⟨by decide +kernel, by decide +kernel⟩
theorem vc_L_change : lw_tbl[1120]? = some (.codeWith yL_change cL_change 5 ((some .int)) [(0, 7, 8, 27), (0, 7, 14, 22), (0, 7, 20, 93)]) := by decide +kernel
theorem vy_L_change : (yL_change.cls ≠ "java/lang/invoke/MethodHandle" ∧ yL_change.cls ≠ "java/lang/invoke/VarHandle") ∧ (parseMethodDescriptor yL_change.desc).map (fun d => d.parameters.length) = some 4 := ⟨by decide +kernel, by decide +kernel⟩
theorem vc_L_refusalReason : lw_tbl[1074]? = some (.codeWith yL_refusalReason cL_refusalReason 2 ((some .int)) [(0, 4, 5, 47)]) := by decide +kernel
theorem vy_L_refusalReason : (yL_refusalReason.cls ≠ "java/lang/invoke/MethodHandle" ∧ yL_refusalReason.cls ≠ "java/lang/invoke/VarHandle") ∧ (parseMethodDescriptor yL_refusalReason.desc).map (fun d => d.parameters.length) = some 1 := ⟨by decide +kernel, by decide +kernel⟩
theorem vc_L_chainMoves : lw_tbl[1084]? = some (.codeWith yL_chainMoves cL_chainMoves 2 ((some .int)) [(0, 4, 5, 47)]) := by decide +kernel
theorem vy_L_chainMoves : (yL_chainMoves.cls ≠ "java/lang/invoke/MethodHandle" ∧ yL_chainMoves.cls ≠ "java/lang/invoke/VarHandle") ∧ (parseMethodDescriptor yL_chainMoves.desc).map (fun d => d.parameters.length) = some 1 := ⟨by decide +kernel, by decide +kernel⟩
theorem vc_L_chainPupil : lw_tbl[1091]? = some (.codeWith yL_chainPupil cL_chainPupil 3 ((some .int)) [(0, 5, 6, 47)]) := by decide +kernel
theorem vy_L_chainPupil : (yL_chainPupil.cls ≠ "java/lang/invoke/MethodHandle" ∧ yL_chainPupil.cls ≠ "java/lang/invoke/VarHandle") ∧ (parseMethodDescriptor yL_chainPupil.desc).map (fun d => d.parameters.length) = some 2 := ⟨by decide +kernel, by decide +kernel⟩
theorem vc_L_chainBlock : lw_tbl[1098]? = some (.codeWith yL_chainBlock cL_chainBlock 3 ((some .int)) [(0, 5, 6, 47)]) := by decide +kernel
theorem vy_L_chainBlock : (yL_chainBlock.cls ≠ "java/lang/invoke/MethodHandle" ∧ yL_chainBlock.cls ≠ "java/lang/invoke/VarHandle") ∧ (parseMethodDescriptor yL_chainBlock.desc).map (fun d => d.parameters.length) = some 2 := ⟨by decide +kernel, by decide +kernel⟩
theorem vc_L_undo : lw_tbl[1105]? = some (.codeWith yL_undo cL_undo 2 ((some .int)) [(0, 4, 5, 22)]) := by decide +kernel
theorem vy_L_undo : (yL_undo.cls ≠ "java/lang/invoke/MethodHandle" ∧ yL_undo.cls ≠ "java/lang/invoke/VarHandle") ∧ (parseMethodDescriptor yL_undo.desc).map (fun d => d.parameters.length) = some 1 := ⟨by decide +kernel, by decide +kernel⟩
theorem vc_L_tables : lw_tbl[1060]? = some (.code yL_tables cL_tables 3 ((some (.array .int)))) := by decide +kernel
theorem vy_L_tables : (yL_tables.cls ≠ "java/lang/invoke/MethodHandle" ∧ yL_tables.cls ≠ "java/lang/invoke/VarHandle") ∧ (parseMethodDescriptor yL_tables.desc).map (fun d => d.parameters.length) = some 1 := ⟨by decide +kernel, by decide +kernel⟩
theorem vc_L_same : lw_tbl[1071]? = some (.code yL_same cL_same 4 ((some .boolean))) := by decide +kernel
theorem vy_L_same : (yL_same.cls ≠ "java/lang/invoke/MethodHandle" ∧ yL_same.cls ≠ "java/lang/invoke/VarHandle") ∧ (parseMethodDescriptor yL_same.desc).map (fun d => d.parameters.length) = some 2 := ⟨by decide +kernel, by decide +kernel⟩
theorem vc_L_classes : lw_tbl[909]? = some (.code yL_classes cL_classes 5 ((some .boolean))) := by decide +kernel
theorem vy_L_classes : (yL_classes.cls ≠ "java/lang/invoke/MethodHandle" ∧ yL_classes.cls ≠ "java/lang/invoke/VarHandle") ∧ (parseMethodDescriptor yL_classes.desc).map (fun d => d.parameters.length) = some 1 := ⟨by decide +kernel, by decide +kernel⟩
theorem vc_L_searches : lw_tbl[978]? = some (.code yL_searches cL_searches 5 ((some .boolean))) := by decide +kernel
theorem vy_L_searches : (yL_searches.cls ≠ "java/lang/invoke/MethodHandle" ∧ yL_searches.cls ≠ "java/lang/invoke/VarHandle") ∧ (parseMethodDescriptor yL_searches.desc).map (fun d => d.parameters.length) = some 1 := ⟨by decide +kernel, by decide +kernel⟩
theorem vc_L_leadsBack : lw_tbl[1081]? = some (.code yL_leadsBack cL_leadsBack 11 ((some .boolean))) := by decide +kernel
theorem vy_L_leadsBack : (yL_leadsBack.cls ≠ "java/lang/invoke/MethodHandle" ∧ yL_leadsBack.cls ≠ "java/lang/invoke/VarHandle") ∧ (parseMethodDescriptor yL_leadsBack.desc).map (fun d => d.parameters.length) = some 5 := ⟨by decide +kernel, by decide +kernel⟩
theorem vc_L_joins : lw_tbl[1057]? = some (.code yL_joins cL_joins 6 ((some .boolean))) := by decide +kernel
theorem vy_L_joins : (yL_joins.cls ≠ "java/lang/invoke/MethodHandle" ∧ yL_joins.cls ≠ "java/lang/invoke/VarHandle") ∧ (parseMethodDescriptor yL_joins.desc).map (fun d => d.parameters.length) = some 3 := ⟨by decide +kernel, by decide +kernel⟩
theorem vc_L_changes : lw_tbl[1117]? = some (.code yL_changes cL_changes 7 ((some .boolean))) := by decide +kernel
theorem vy_L_changes : (yL_changes.cls ≠ "java/lang/invoke/MethodHandle" ∧ yL_changes.cls ≠ "java/lang/invoke/VarHandle") ∧ (parseMethodDescriptor yL_changes.desc).map (fun d => d.parameters.length) = some 4 := ⟨by decide +kernel, by decide +kernel⟩

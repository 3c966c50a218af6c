/-! ===== the cells that the making leaves: planner 0, its plan 1, placements 10, chains 14, arrangements 18, changes 23, history 24, kept plans 26 + 9 i, snapshot 98, plan before a program 107, program 116, its text 117, line 121; no more ===== -/
def k_shape : List k_Sh := [.inr (8, [4, 13, 17, 21, 26, 27, 101, 110, 119, 124, 0, 0, 0, 0]), .inr (6, [0, 0, 0, 5, 6, 7, 8, 9, 10, 0, 11, 12]), .inl (0, 7), .inl (0, 7), .inl (0, 28), .inl (0, 12), .inl (0, 36), .inl (0, 12), .inl (0, 4), .inl (0, 4), .inr (5, [4, 14, 15, 16, 0, 0]), .inl (0, 4), .inl (0, 4), .inl (0, 4), .inr (2, [4, 18, 19, 20]), .inl (0, 4), .inl (0, 4), .inl (0, 4), .inr (1, [4, 22, 23, 24, 25, 0]), .inl (0, 49), .inl (0, 7), .inl (0, 7), .inl (0, 28), .inr (3, [4, 13, 17, 21, 0]), .inr (4, [28, 0, 0]), .inl (5, 8), .inr (6, [0, 0, 0, 30, 31, 32, 33, 34, 35, 0, 36, 37]), .inl (0, 7), .inl (0, 7), .inl (0, 28), .inl (0, 12), .inl (0, 36), .inl (0, 12), .inl (0, 4), .inl (0, 4), .inr (6, [0, 0, 0, 39, 40, 41, 42, 43, 44, 0, 45, 46]), .inl (0, 7), .inl (0, 7), .inl (0, 28), .inl (0, 12), .inl (0, 36), .inl (0, 12), .inl (0, 4), .inl (0, 4), .inr (6, [0, 0, 0, 48, 49, 50, 51, 52, 53, 0, 54, 55]), .inl (0, 7), .inl (0, 7), .inl (0, 28), .inl (0, 12), .inl (0, 36), .inl (0, 12), .inl (0, 4), .inl (0, 4), .inr (6, [0, 0, 0, 57, 58, 59, 60, 61, 62, 0, 63, 64]), .inl (0, 7), .inl (0, 7), .inl (0, 28), .inl (0, 12), .inl (0, 36), .inl (0, 12), .inl (0, 4), .inl (0, 4), .inr (6, [0, 0, 0, 66, 67, 68, 69, 70, 71, 0, 72, 73]), .inl (0, 7), .inl (0, 7), .inl (0, 28), .inl (0, 12), .inl (0, 36), .inl (0, 12), .inl (0, 4), .inl (0, 4), .inr (6, [0, 0, 0, 75, 76, 77, 78, 79, 80, 0, 81, 82]), .inl (0, 7), .inl (0, 7), .inl (0, 28), .inl (0, 12), .inl (0, 36), .inl (0, 12), .inl (0, 4), .inl (0, 4), .inr (6, [0, 0, 0, 84, 85, 86, 87, 88, 89, 0, 90, 91]), .inl (0, 7), .inl (0, 7), .inl (0, 28), .inl (0, 12), .inl (0, 36), .inl (0, 12), .inl (0, 4), .inl (0, 4), .inr (6, [0, 0, 0, 93, 94, 95, 96, 97, 98, 0, 99, 100]), .inl (0, 7), .inl (0, 7), .inl (0, 28), .inl (0, 12), .inl (0, 36), .inl (0, 12), .inl (0, 4), .inl (0, 4), .inr (6, [0, 0, 0, 102, 103, 104, 105, 106, 107, 0, 108, 109]), .inl (0, 7), .inl (0, 7), .inl (0, 28), .inl (0, 12), .inl (0, 36), .inl (0, 12), .inl (0, 4), .inl (0, 4), .inr (6, [0, 0, 0, 111, 112, 113, 114, 115, 116, 0, 117, 118]), .inl (0, 7), .inl (0, 7), .inl (0, 28), .inl (0, 12), .inl (0, 36), .inl (0, 12), .inl (0, 4), .inl (0, 4), .inr (7, [120, 122, 123, 0, 0]), .inr (0, [1, 0, 0, 0]), .inl (2, 16), .inl (0, 12), .inl (0, 36), .inr (0, [1, 0, 0, 0]), .inl (2, 16)]
/-- the world of the calls: these cells first, others behind them -/
def k_Main (sh : List k_Sh) : Prop := ∀ (i : Nat) (x : k_Sh), k_shape[i]? = some x → sh[i]? = some x
theorem s_0 {sh : List k_Sh} (h : k_Main sh) : sh[0]? = some (.inr (8, [4, 13, 17, 21, 26, 27, 101, 110, 119, 124, 0, 0, 0, 0])) := h 0 _ rfl
theorem s_1 {sh : List k_Sh} (h : k_Main sh) : sh[1]? = some (.inr (6, [0, 0, 0, 5, 6, 7, 8, 9, 10, 0, 11, 12])) := h 1 _ rfl
theorem s_2 {sh : List k_Sh} (h : k_Main sh) : sh[2]? = some (.inl (0, 7)) := h 2 _ rfl
theorem s_3 {sh : List k_Sh} (h : k_Main sh) : sh[3]? = some (.inl (0, 7)) := h 3 _ rfl
theorem s_4 {sh : List k_Sh} (h : k_Main sh) : sh[4]? = some (.inl (0, 28)) := h 4 _ rfl
theorem s_5 {sh : List k_Sh} (h : k_Main sh) : sh[5]? = some (.inl (0, 12)) := h 5 _ rfl
theorem s_6 {sh : List k_Sh} (h : k_Main sh) : sh[6]? = some (.inl (0, 36)) := h 6 _ rfl
theorem s_7 {sh : List k_Sh} (h : k_Main sh) : sh[7]? = some (.inl (0, 12)) := h 7 _ rfl
theorem s_8 {sh : List k_Sh} (h : k_Main sh) : sh[8]? = some (.inl (0, 4)) := h 8 _ rfl
theorem s_9 {sh : List k_Sh} (h : k_Main sh) : sh[9]? = some (.inl (0, 4)) := h 9 _ rfl
theorem s_10 {sh : List k_Sh} (h : k_Main sh) : sh[10]? = some (.inr (5, [4, 14, 15, 16, 0, 0])) := h 10 _ rfl
theorem s_11 {sh : List k_Sh} (h : k_Main sh) : sh[11]? = some (.inl (0, 4)) := h 11 _ rfl
theorem s_12 {sh : List k_Sh} (h : k_Main sh) : sh[12]? = some (.inl (0, 4)) := h 12 _ rfl
theorem s_13 {sh : List k_Sh} (h : k_Main sh) : sh[13]? = some (.inl (0, 4)) := h 13 _ rfl
theorem s_14 {sh : List k_Sh} (h : k_Main sh) : sh[14]? = some (.inr (2, [4, 18, 19, 20])) := h 14 _ rfl
theorem s_15 {sh : List k_Sh} (h : k_Main sh) : sh[15]? = some (.inl (0, 4)) := h 15 _ rfl
theorem s_16 {sh : List k_Sh} (h : k_Main sh) : sh[16]? = some (.inl (0, 4)) := h 16 _ rfl
theorem s_17 {sh : List k_Sh} (h : k_Main sh) : sh[17]? = some (.inl (0, 4)) := h 17 _ rfl
theorem s_18 {sh : List k_Sh} (h : k_Main sh) : sh[18]? = some (.inr (1, [4, 22, 23, 24, 25, 0])) := h 18 _ rfl
theorem s_19 {sh : List k_Sh} (h : k_Main sh) : sh[19]? = some (.inl (0, 49)) := h 19 _ rfl
theorem s_20 {sh : List k_Sh} (h : k_Main sh) : sh[20]? = some (.inl (0, 7)) := h 20 _ rfl
theorem s_21 {sh : List k_Sh} (h : k_Main sh) : sh[21]? = some (.inl (0, 7)) := h 21 _ rfl
theorem s_22 {sh : List k_Sh} (h : k_Main sh) : sh[22]? = some (.inl (0, 28)) := h 22 _ rfl
theorem s_23 {sh : List k_Sh} (h : k_Main sh) : sh[23]? = some (.inr (3, [4, 13, 17, 21, 0])) := h 23 _ rfl
theorem s_24 {sh : List k_Sh} (h : k_Main sh) : sh[24]? = some (.inr (4, [28, 0, 0])) := h 24 _ rfl
theorem s_25 {sh : List k_Sh} (h : k_Main sh) : sh[25]? = some (.inl (5, 8)) := h 25 _ rfl
theorem s_26 {sh : List k_Sh} (h : k_Main sh) : sh[26]? = some (.inr (6, [0, 0, 0, 30, 31, 32, 33, 34, 35, 0, 36, 37])) := h 26 _ rfl
theorem s_27 {sh : List k_Sh} (h : k_Main sh) : sh[27]? = some (.inl (0, 7)) := h 27 _ rfl
theorem s_28 {sh : List k_Sh} (h : k_Main sh) : sh[28]? = some (.inl (0, 7)) := h 28 _ rfl
theorem s_29 {sh : List k_Sh} (h : k_Main sh) : sh[29]? = some (.inl (0, 28)) := h 29 _ rfl
theorem s_30 {sh : List k_Sh} (h : k_Main sh) : sh[30]? = some (.inl (0, 12)) := h 30 _ rfl
theorem s_31 {sh : List k_Sh} (h : k_Main sh) : sh[31]? = some (.inl (0, 36)) := h 31 _ rfl
theorem s_32 {sh : List k_Sh} (h : k_Main sh) : sh[32]? = some (.inl (0, 12)) := h 32 _ rfl
theorem s_33 {sh : List k_Sh} (h : k_Main sh) : sh[33]? = some (.inl (0, 4)) := h 33 _ rfl
theorem s_34 {sh : List k_Sh} (h : k_Main sh) : sh[34]? = some (.inl (0, 4)) := h 34 _ rfl
theorem s_35 {sh : List k_Sh} (h : k_Main sh) : sh[35]? = some (.inr (6, [0, 0, 0, 39, 40, 41, 42, 43, 44, 0, 45, 46])) := h 35 _ rfl
theorem s_36 {sh : List k_Sh} (h : k_Main sh) : sh[36]? = some (.inl (0, 7)) := h 36 _ rfl
theorem s_37 {sh : List k_Sh} (h : k_Main sh) : sh[37]? = some (.inl (0, 7)) := h 37 _ rfl
theorem s_38 {sh : List k_Sh} (h : k_Main sh) : sh[38]? = some (.inl (0, 28)) := h 38 _ rfl
theorem s_39 {sh : List k_Sh} (h : k_Main sh) : sh[39]? = some (.inl (0, 12)) := h 39 _ rfl
theorem s_40 {sh : List k_Sh} (h : k_Main sh) : sh[40]? = some (.inl (0, 36)) := h 40 _ rfl
theorem s_41 {sh : List k_Sh} (h : k_Main sh) : sh[41]? = some (.inl (0, 12)) := h 41 _ rfl
theorem s_42 {sh : List k_Sh} (h : k_Main sh) : sh[42]? = some (.inl (0, 4)) := h 42 _ rfl
theorem s_43 {sh : List k_Sh} (h : k_Main sh) : sh[43]? = some (.inl (0, 4)) := h 43 _ rfl
theorem s_44 {sh : List k_Sh} (h : k_Main sh) : sh[44]? = some (.inr (6, [0, 0, 0, 48, 49, 50, 51, 52, 53, 0, 54, 55])) := h 44 _ rfl
theorem s_45 {sh : List k_Sh} (h : k_Main sh) : sh[45]? = some (.inl (0, 7)) := h 45 _ rfl
theorem s_46 {sh : List k_Sh} (h : k_Main sh) : sh[46]? = some (.inl (0, 7)) := h 46 _ rfl
theorem s_47 {sh : List k_Sh} (h : k_Main sh) : sh[47]? = some (.inl (0, 28)) := h 47 _ rfl
theorem s_48 {sh : List k_Sh} (h : k_Main sh) : sh[48]? = some (.inl (0, 12)) := h 48 _ rfl
theorem s_49 {sh : List k_Sh} (h : k_Main sh) : sh[49]? = some (.inl (0, 36)) := h 49 _ rfl
theorem s_50 {sh : List k_Sh} (h : k_Main sh) : sh[50]? = some (.inl (0, 12)) := h 50 _ rfl
theorem s_51 {sh : List k_Sh} (h : k_Main sh) : sh[51]? = some (.inl (0, 4)) := h 51 _ rfl
theorem s_52 {sh : List k_Sh} (h : k_Main sh) : sh[52]? = some (.inl (0, 4)) := h 52 _ rfl
theorem s_53 {sh : List k_Sh} (h : k_Main sh) : sh[53]? = some (.inr (6, [0, 0, 0, 57, 58, 59, 60, 61, 62, 0, 63, 64])) := h 53 _ rfl
theorem s_54 {sh : List k_Sh} (h : k_Main sh) : sh[54]? = some (.inl (0, 7)) := h 54 _ rfl
theorem s_55 {sh : List k_Sh} (h : k_Main sh) : sh[55]? = some (.inl (0, 7)) := h 55 _ rfl
theorem s_56 {sh : List k_Sh} (h : k_Main sh) : sh[56]? = some (.inl (0, 28)) := h 56 _ rfl
theorem s_57 {sh : List k_Sh} (h : k_Main sh) : sh[57]? = some (.inl (0, 12)) := h 57 _ rfl
theorem s_58 {sh : List k_Sh} (h : k_Main sh) : sh[58]? = some (.inl (0, 36)) := h 58 _ rfl
theorem s_59 {sh : List k_Sh} (h : k_Main sh) : sh[59]? = some (.inl (0, 12)) := h 59 _ rfl
theorem s_60 {sh : List k_Sh} (h : k_Main sh) : sh[60]? = some (.inl (0, 4)) := h 60 _ rfl
theorem s_61 {sh : List k_Sh} (h : k_Main sh) : sh[61]? = some (.inl (0, 4)) := h 61 _ rfl
theorem s_62 {sh : List k_Sh} (h : k_Main sh) : sh[62]? = some (.inr (6, [0, 0, 0, 66, 67, 68, 69, 70, 71, 0, 72, 73])) := h 62 _ rfl
theorem s_63 {sh : List k_Sh} (h : k_Main sh) : sh[63]? = some (.inl (0, 7)) := h 63 _ rfl
theorem s_64 {sh : List k_Sh} (h : k_Main sh) : sh[64]? = some (.inl (0, 7)) := h 64 _ rfl
theorem s_65 {sh : List k_Sh} (h : k_Main sh) : sh[65]? = some (.inl (0, 28)) := h 65 _ rfl
theorem s_66 {sh : List k_Sh} (h : k_Main sh) : sh[66]? = some (.inl (0, 12)) := h 66 _ rfl
theorem s_67 {sh : List k_Sh} (h : k_Main sh) : sh[67]? = some (.inl (0, 36)) := h 67 _ rfl
theorem s_68 {sh : List k_Sh} (h : k_Main sh) : sh[68]? = some (.inl (0, 12)) := h 68 _ rfl
theorem s_69 {sh : List k_Sh} (h : k_Main sh) : sh[69]? = some (.inl (0, 4)) := h 69 _ rfl
theorem s_70 {sh : List k_Sh} (h : k_Main sh) : sh[70]? = some (.inl (0, 4)) := h 70 _ rfl
theorem s_71 {sh : List k_Sh} (h : k_Main sh) : sh[71]? = some (.inr (6, [0, 0, 0, 75, 76, 77, 78, 79, 80, 0, 81, 82])) := h 71 _ rfl
theorem s_72 {sh : List k_Sh} (h : k_Main sh) : sh[72]? = some (.inl (0, 7)) := h 72 _ rfl
theorem s_73 {sh : List k_Sh} (h : k_Main sh) : sh[73]? = some (.inl (0, 7)) := h 73 _ rfl
theorem s_74 {sh : List k_Sh} (h : k_Main sh) : sh[74]? = some (.inl (0, 28)) := h 74 _ rfl
theorem s_75 {sh : List k_Sh} (h : k_Main sh) : sh[75]? = some (.inl (0, 12)) := h 75 _ rfl
theorem s_76 {sh : List k_Sh} (h : k_Main sh) : sh[76]? = some (.inl (0, 36)) := h 76 _ rfl
theorem s_77 {sh : List k_Sh} (h : k_Main sh) : sh[77]? = some (.inl (0, 12)) := h 77 _ rfl
theorem s_78 {sh : List k_Sh} (h : k_Main sh) : sh[78]? = some (.inl (0, 4)) := h 78 _ rfl
theorem s_79 {sh : List k_Sh} (h : k_Main sh) : sh[79]? = some (.inl (0, 4)) := h 79 _ rfl
theorem s_80 {sh : List k_Sh} (h : k_Main sh) : sh[80]? = some (.inr (6, [0, 0, 0, 84, 85, 86, 87, 88, 89, 0, 90, 91])) := h 80 _ rfl
theorem s_81 {sh : List k_Sh} (h : k_Main sh) : sh[81]? = some (.inl (0, 7)) := h 81 _ rfl
theorem s_82 {sh : List k_Sh} (h : k_Main sh) : sh[82]? = some (.inl (0, 7)) := h 82 _ rfl
theorem s_83 {sh : List k_Sh} (h : k_Main sh) : sh[83]? = some (.inl (0, 28)) := h 83 _ rfl
theorem s_84 {sh : List k_Sh} (h : k_Main sh) : sh[84]? = some (.inl (0, 12)) := h 84 _ rfl
theorem s_85 {sh : List k_Sh} (h : k_Main sh) : sh[85]? = some (.inl (0, 36)) := h 85 _ rfl
theorem s_86 {sh : List k_Sh} (h : k_Main sh) : sh[86]? = some (.inl (0, 12)) := h 86 _ rfl
theorem s_87 {sh : List k_Sh} (h : k_Main sh) : sh[87]? = some (.inl (0, 4)) := h 87 _ rfl
theorem s_88 {sh : List k_Sh} (h : k_Main sh) : sh[88]? = some (.inl (0, 4)) := h 88 _ rfl
theorem s_89 {sh : List k_Sh} (h : k_Main sh) : sh[89]? = some (.inr (6, [0, 0, 0, 93, 94, 95, 96, 97, 98, 0, 99, 100])) := h 89 _ rfl
theorem s_90 {sh : List k_Sh} (h : k_Main sh) : sh[90]? = some (.inl (0, 7)) := h 90 _ rfl
theorem s_91 {sh : List k_Sh} (h : k_Main sh) : sh[91]? = some (.inl (0, 7)) := h 91 _ rfl
theorem s_92 {sh : List k_Sh} (h : k_Main sh) : sh[92]? = some (.inl (0, 28)) := h 92 _ rfl
theorem s_93 {sh : List k_Sh} (h : k_Main sh) : sh[93]? = some (.inl (0, 12)) := h 93 _ rfl
theorem s_94 {sh : List k_Sh} (h : k_Main sh) : sh[94]? = some (.inl (0, 36)) := h 94 _ rfl
theorem s_95 {sh : List k_Sh} (h : k_Main sh) : sh[95]? = some (.inl (0, 12)) := h 95 _ rfl
theorem s_96 {sh : List k_Sh} (h : k_Main sh) : sh[96]? = some (.inl (0, 4)) := h 96 _ rfl
theorem s_97 {sh : List k_Sh} (h : k_Main sh) : sh[97]? = some (.inl (0, 4)) := h 97 _ rfl
theorem s_98 {sh : List k_Sh} (h : k_Main sh) : sh[98]? = some (.inr (6, [0, 0, 0, 102, 103, 104, 105, 106, 107, 0, 108, 109])) := h 98 _ rfl
theorem s_99 {sh : List k_Sh} (h : k_Main sh) : sh[99]? = some (.inl (0, 7)) := h 99 _ rfl
theorem s_100 {sh : List k_Sh} (h : k_Main sh) : sh[100]? = some (.inl (0, 7)) := h 100 _ rfl
theorem s_101 {sh : List k_Sh} (h : k_Main sh) : sh[101]? = some (.inl (0, 28)) := h 101 _ rfl
theorem s_102 {sh : List k_Sh} (h : k_Main sh) : sh[102]? = some (.inl (0, 12)) := h 102 _ rfl
theorem s_103 {sh : List k_Sh} (h : k_Main sh) : sh[103]? = some (.inl (0, 36)) := h 103 _ rfl
theorem s_104 {sh : List k_Sh} (h : k_Main sh) : sh[104]? = some (.inl (0, 12)) := h 104 _ rfl
theorem s_105 {sh : List k_Sh} (h : k_Main sh) : sh[105]? = some (.inl (0, 4)) := h 105 _ rfl
theorem s_106 {sh : List k_Sh} (h : k_Main sh) : sh[106]? = some (.inl (0, 4)) := h 106 _ rfl
theorem s_107 {sh : List k_Sh} (h : k_Main sh) : sh[107]? = some (.inr (6, [0, 0, 0, 111, 112, 113, 114, 115, 116, 0, 117, 118])) := h 107 _ rfl
theorem s_108 {sh : List k_Sh} (h : k_Main sh) : sh[108]? = some (.inl (0, 7)) := h 108 _ rfl
theorem s_109 {sh : List k_Sh} (h : k_Main sh) : sh[109]? = some (.inl (0, 7)) := h 109 _ rfl
theorem s_110 {sh : List k_Sh} (h : k_Main sh) : sh[110]? = some (.inl (0, 28)) := h 110 _ rfl
theorem s_111 {sh : List k_Sh} (h : k_Main sh) : sh[111]? = some (.inl (0, 12)) := h 111 _ rfl
theorem s_112 {sh : List k_Sh} (h : k_Main sh) : sh[112]? = some (.inl (0, 36)) := h 112 _ rfl
theorem s_113 {sh : List k_Sh} (h : k_Main sh) : sh[113]? = some (.inl (0, 12)) := h 113 _ rfl
theorem s_114 {sh : List k_Sh} (h : k_Main sh) : sh[114]? = some (.inl (0, 4)) := h 114 _ rfl
theorem s_115 {sh : List k_Sh} (h : k_Main sh) : sh[115]? = some (.inl (0, 4)) := h 115 _ rfl
theorem s_116 {sh : List k_Sh} (h : k_Main sh) : sh[116]? = some (.inr (7, [120, 122, 123, 0, 0])) := h 116 _ rfl
theorem s_117 {sh : List k_Sh} (h : k_Main sh) : sh[117]? = some (.inr (0, [1, 0, 0, 0])) := h 117 _ rfl
theorem s_118 {sh : List k_Sh} (h : k_Main sh) : sh[118]? = some (.inl (2, 16)) := h 118 _ rfl
theorem s_119 {sh : List k_Sh} (h : k_Main sh) : sh[119]? = some (.inl (0, 12)) := h 119 _ rfl
theorem s_120 {sh : List k_Sh} (h : k_Main sh) : sh[120]? = some (.inl (0, 36)) := h 120 _ rfl
theorem s_121 {sh : List k_Sh} (h : k_Main sh) : sh[121]? = some (.inr (0, [1, 0, 0, 0])) := h 121 _ rfl
theorem s_122 {sh : List k_Sh} (h : k_Main sh) : sh[122]? = some (.inl (2, 16)) := h 122 _ rfl
/-! more -/
theorem k_cat1 {as : List Value} (h : as.all (fun v => v.category == 1) = true) {v : Value} (hv : v ∈ as) : v.category = 1 := by simpa using List.all_eq_true.mp h v hv
theorem pnX0 : plainName RX0 = true := by decide +kernel
theorem pnX1 : plainName RX1 = true := by decide +kernel
theorem pnX2 : plainName RX2 = true := by decide +kernel
theorem pnX3 : plainName RX3 = true := by decide +kernel
theorem pnX4 : plainName RX4 = true := by decide +kernel
theorem pnX5 : plainName RX5 = true := by decide +kernel
theorem pnX6 : plainName RX6 = true := by decide +kernel
theorem pnX7 : plainName RX7 = true := by decide +kernel

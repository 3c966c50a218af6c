-- ===== PART A: goes FIRST, ahead of the names: the tables' words, and 'selects' of the private methods out of them =====
/-- a private method of a class that the tables say can be made, by its rows of tables_1 -/
def lw_okq (q : MethodName × Nat) : Prop := (q.1.cls ≠ "java/lang/invoke/MethodHandle" ∧ q.1.cls ≠ "java/lang/invoke/VarHandle") ∧ Cond.instantiable q.1.cls q.2 ∈ tables_1 ∧ Cond.privateMethod q.1 ∈ tables_1 ∧ Cond.instanceMethod q.1 ∈ tables_1
theorem lw_p0 : lw_okq (⟨"OptionBlockPlanner$Arrangements", "collectCommon", "()V"⟩, 6) := ⟨⟨by decide +kernel, by decide +kernel⟩, List.mem_of_getElem? (i := 138) (by decide +kernel), List.mem_of_getElem? (i := 334) (by decide +kernel), List.mem_of_getElem? (i := 335) (by decide +kernel)⟩
theorem lw_p1 : lw_okq (⟨"OptionBlockPlanner$Arrangements", "countPairs", "(I)V"⟩, 6) := ⟨⟨by decide +kernel, by decide +kernel⟩, List.mem_of_getElem? (i := 138) (by decide +kernel), List.mem_of_getElem? (i := 345) (by decide +kernel), List.mem_of_getElem? (i := 346) (by decide +kernel)⟩
theorem lw_p2 : lw_okq (⟨"OptionBlockPlanner$Arrangements", "weigh", "(I)V"⟩, 6) := ⟨⟨by decide +kernel, by decide +kernel⟩, List.mem_of_getElem? (i := 138) (by decide +kernel), List.mem_of_getElem? (i := 363) (by decide +kernel), List.mem_of_getElem? (i := 364) (by decide +kernel)⟩
theorem lw_p3 : lw_okq (⟨"OptionBlockPlanner", "make", "(IIII)I"⟩, 14) := ⟨⟨by decide +kernel, by decide +kernel⟩, List.mem_of_getElem? (i := 26) (by decide +kernel), List.mem_of_getElem? (i := 395) (by decide +kernel), List.mem_of_getElem? (i := 396) (by decide +kernel)⟩
theorem lw_p4 : lw_okq (⟨"OptionBlockPlanner$Changes", "faultOfNewSubject", "(I)I"⟩, 5) := ⟨⟨by decide +kernel, by decide +kernel⟩, List.mem_of_getElem? (i := 163) (by decide +kernel), List.mem_of_getElem? (i := 403) (by decide +kernel), List.mem_of_getElem? (i := 404) (by decide +kernel)⟩
theorem lw_p5 : lw_okq (⟨"OptionBlockPlanner$Changes", "faultOfBlocks", "(I)I"⟩, 5) := ⟨⟨by decide +kernel, by decide +kernel⟩, List.mem_of_getElem? (i := 163) (by decide +kernel), List.mem_of_getElem? (i := 407) (by decide +kernel), List.mem_of_getElem? (i := 408) (by decide +kernel)⟩
theorem lw_p6 : lw_okq (⟨"OptionBlockPlanner$Changes", "faultOfOpening", "(II)I"⟩, 5) := ⟨⟨by decide +kernel, by decide +kernel⟩, List.mem_of_getElem? (i := 163) (by decide +kernel), List.mem_of_getElem? (i := 419) (by decide +kernel), List.mem_of_getElem? (i := 420) (by decide +kernel)⟩
theorem lw_p7 : lw_okq (⟨"OptionBlockPlanner$Changes", "faultOfClosing", "(II)I"⟩, 5) := ⟨⟨by decide +kernel, by decide +kernel⟩, List.mem_of_getElem? (i := 163) (by decide +kernel), List.mem_of_getElem? (i := 432) (by decide +kernel), List.mem_of_getElem? (i := 433) (by decide +kernel)⟩
theorem lw_p8 : lw_okq (⟨"OptionBlockPlanner$Changes", "faultOfWish", "(II)I"⟩, 5) := ⟨⟨by decide +kernel, by decide +kernel⟩, List.mem_of_getElem? (i := 163) (by decide +kernel), List.mem_of_getElem? (i := 437) (by decide +kernel), List.mem_of_getElem? (i := 438) (by decide +kernel)⟩
theorem lw_p9 : lw_okq (⟨"OptionBlockPlanner$Changes", "faultOfReserve", "(II)I"⟩, 5) := ⟨⟨by decide +kernel, by decide +kernel⟩, List.mem_of_getElem? (i := 163) (by decide +kernel), List.mem_of_getElem? (i := 441) (by decide +kernel), List.mem_of_getElem? (i := 442) (by decide +kernel)⟩
theorem lw_p10 : lw_okq (⟨"OptionBlockPlanner$Changes", "faultOfJoining", "(II)I"⟩, 5) := ⟨⟨by decide +kernel, by decide +kernel⟩, List.mem_of_getElem? (i := 163) (by decide +kernel), List.mem_of_getElem? (i := 464) (by decide +kernel), List.mem_of_getElem? (i := 465) (by decide +kernel)⟩
theorem lw_p11 : lw_okq (⟨"OptionBlockPlanner$Chains", "measure", "(I)V"⟩, 4) := ⟨⟨by decide +kernel, by decide +kernel⟩, List.mem_of_getElem? (i := 119) (by decide +kernel), List.mem_of_getElem? (i := 496) (by decide +kernel), List.mem_of_getElem? (i := 497) (by decide +kernel)⟩
theorem lw_p12 : lw_okq (⟨"OptionBlockPlanner$Chains", "nextBlock", "(II)I"⟩, 4) := ⟨⟨by decide +kernel, by decide +kernel⟩, List.mem_of_getElem? (i := 119) (by decide +kernel), List.mem_of_getElem? (i := 501) (by decide +kernel), List.mem_of_getElem? (i := 502) (by decide +kernel)⟩
theorem lw_p13 : lw_okq (⟨"OptionBlockPlanner$Chains", "nearest", "(I)I"⟩, 4) := ⟨⟨by decide +kernel, by decide +kernel⟩, List.mem_of_getElem? (i := 119) (by decide +kernel), List.mem_of_getElem? (i := 505) (by decide +kernel), List.mem_of_getElem? (i := 506) (by decide +kernel)⟩
theorem lw_p14 : lw_okq (⟨"OptionBlockPlanner$Changes", "refusal", "(II)I"⟩, 5) := ⟨⟨by decide +kernel, by decide +kernel⟩, List.mem_of_getElem? (i := 163) (by decide +kernel), List.mem_of_getElem? (i := 509) (by decide +kernel), List.mem_of_getElem? (i := 510) (by decide +kernel)⟩
theorem lw_p15 : lw_okq (⟨"OptionBlockPlanner$Changes", "faultOfQuitting", "(II)I"⟩, 5) := ⟨⟨by decide +kernel, by decide +kernel⟩, List.mem_of_getElem? (i := 163) (by decide +kernel), List.mem_of_getElem? (i := 518) (by decide +kernel), List.mem_of_getElem? (i := 519) (by decide +kernel)⟩
def lw_privs_1 : List (MethodName × Nat) := [(⟨"OptionBlockPlanner$Arrangements", "collectCommon", "()V"⟩, 6), (⟨"OptionBlockPlanner$Arrangements", "countPairs", "(I)V"⟩, 6), (⟨"OptionBlockPlanner$Arrangements", "weigh", "(I)V"⟩, 6), (⟨"OptionBlockPlanner", "make", "(IIII)I"⟩, 14), (⟨"OptionBlockPlanner$Changes", "faultOfNewSubject", "(I)I"⟩, 5), (⟨"OptionBlockPlanner$Changes", "faultOfBlocks", "(I)I"⟩, 5), (⟨"OptionBlockPlanner$Changes", "faultOfOpening", "(II)I"⟩, 5), (⟨"OptionBlockPlanner$Changes", "faultOfClosing", "(II)I"⟩, 5), (⟨"OptionBlockPlanner$Changes", "faultOfWish", "(II)I"⟩, 5), (⟨"OptionBlockPlanner$Changes", "faultOfReserve", "(II)I"⟩, 5), (⟨"OptionBlockPlanner$Changes", "faultOfJoining", "(II)I"⟩, 5), (⟨"OptionBlockPlanner$Chains", "measure", "(I)V"⟩, 4), (⟨"OptionBlockPlanner$Chains", "nextBlock", "(II)I"⟩, 4), (⟨"OptionBlockPlanner$Chains", "nearest", "(I)I"⟩, 4), (⟨"OptionBlockPlanner$Changes", "refusal", "(II)I"⟩, 5), (⟨"OptionBlockPlanner$Changes", "faultOfQuitting", "(II)I"⟩, 5)]
theorem lw_r1 : ∀ q ∈ lw_privs_1, lw_okq q := List.forall_mem_cons.mpr ⟨lw_p0, List.forall_mem_cons.mpr ⟨lw_p1, List.forall_mem_cons.mpr ⟨lw_p2, List.forall_mem_cons.mpr ⟨lw_p3, List.forall_mem_cons.mpr ⟨lw_p4, List.forall_mem_cons.mpr ⟨lw_p5, List.forall_mem_cons.mpr ⟨lw_p6, List.forall_mem_cons.mpr ⟨lw_p7, List.forall_mem_cons.mpr ⟨lw_p8, List.forall_mem_cons.mpr ⟨lw_p9, List.forall_mem_cons.mpr ⟨lw_p10, List.forall_mem_cons.mpr ⟨lw_p11, List.forall_mem_cons.mpr ⟨lw_p12, List.forall_mem_cons.mpr ⟨lw_p13, List.forall_mem_cons.mpr ⟨lw_p14, List.forall_mem_cons.mpr ⟨lw_p15, fun _ h => absurd h List.not_mem_nil⟩⟩⟩⟩⟩⟩⟩⟩⟩⟩⟩⟩⟩⟩⟩⟩
theorem lw_p16 : lw_okq (⟨"OptionBlockPlanner$Changes", "faultOfChanging", "(III)I"⟩, 5) := ⟨⟨by decide +kernel, by decide +kernel⟩, List.mem_of_getElem? (i := 163) (by decide +kernel), List.mem_of_getElem? (i := 522) (by decide +kernel), List.mem_of_getElem? (i := 523) (by decide +kernel)⟩
theorem lw_p17 : lw_okq (⟨"java/lang/Throwable", "fillInStackTrace", "(I)Ljava/lang/Throwable;"⟩, 6) := ⟨⟨by decide +kernel, by decide +kernel⟩, List.mem_of_getElem? (i := 574) (by decide +kernel), List.mem_of_getElem? (i := 572) (by decide +kernel), List.mem_of_getElem? (i := 573) (by decide +kernel)⟩
theorem lw_p18 : lw_okq (⟨"OptionBlockPlanner$History", "planIn", "(I)LOptionBlockPlanner$Plan;"⟩, 3) := ⟨⟨by decide +kernel, by decide +kernel⟩, List.mem_of_getElem? (i := 186) (by decide +kernel), List.mem_of_getElem? (i := 655) (by decide +kernel), List.mem_of_getElem? (i := 656) (by decide +kernel)⟩
theorem lw_p19 : lw_okq (⟨"OptionBlockPlanner$Placements", "collectRoomy", "(I)V"⟩, 6) := ⟨⟨by decide +kernel, by decide +kernel⟩, List.mem_of_getElem? (i := 94) (by decide +kernel), List.mem_of_getElem? (i := 698) (by decide +kernel), List.mem_of_getElem? (i := 699) (by decide +kernel)⟩
theorem lw_p20 : lw_okq (⟨"OptionBlockPlanner$Placements", "findBest", "()I"⟩, 6) := ⟨⟨by decide +kernel, by decide +kernel⟩, List.mem_of_getElem? (i := 94) (by decide +kernel), List.mem_of_getElem? (i := 709) (by decide +kernel), List.mem_of_getElem? (i := 710) (by decide +kernel)⟩
theorem lw_p21 : lw_okq (⟨"OptionBlockPlanner$Placements", "keepIfBetter", "(I)V"⟩, 6) := ⟨⟨by decide +kernel, by decide +kernel⟩, List.mem_of_getElem? (i := 94) (by decide +kernel), List.mem_of_getElem? (i := 716) (by decide +kernel), List.mem_of_getElem? (i := 717) (by decide +kernel)⟩
theorem lw_p22 : lw_okq (⟨"OptionBlockPlanner$Placements", "setsUsedFor", "(I)I"⟩, 6) := ⟨⟨by decide +kernel, by decide +kernel⟩, List.mem_of_getElem? (i := 94) (by decide +kernel), List.mem_of_getElem? (i := 967) (by decide +kernel), List.mem_of_getElem? (i := 968) (by decide +kernel)⟩
theorem lw_p23 : lw_okq (⟨"OptionBlockPlanner$Placements", "collectOpen", "(I)V"⟩, 6) := ⟨⟨by decide +kernel, by decide +kernel⟩, List.mem_of_getElem? (i := 94) (by decide +kernel), List.mem_of_getElem? (i := 985) (by decide +kernel), List.mem_of_getElem? (i := 986) (by decide +kernel)⟩
def lw_privs_2 : List (MethodName × Nat) := [(⟨"OptionBlockPlanner$Changes", "faultOfChanging", "(III)I"⟩, 5), (⟨"java/lang/Throwable", "fillInStackTrace", "(I)Ljava/lang/Throwable;"⟩, 6), (⟨"OptionBlockPlanner$History", "planIn", "(I)LOptionBlockPlanner$Plan;"⟩, 3), (⟨"OptionBlockPlanner$Placements", "collectRoomy", "(I)V"⟩, 6), (⟨"OptionBlockPlanner$Placements", "findBest", "()I"⟩, 6), (⟨"OptionBlockPlanner$Placements", "keepIfBetter", "(I)V"⟩, 6), (⟨"OptionBlockPlanner$Placements", "setsUsedFor", "(I)I"⟩, 6), (⟨"OptionBlockPlanner$Placements", "collectOpen", "(I)V"⟩, 6)]
theorem lw_r2 : ∀ q ∈ lw_privs_2, lw_okq q := List.forall_mem_cons.mpr ⟨lw_p16, List.forall_mem_cons.mpr ⟨lw_p17, List.forall_mem_cons.mpr ⟨lw_p18, List.forall_mem_cons.mpr ⟨lw_p19, List.forall_mem_cons.mpr ⟨lw_p20, List.forall_mem_cons.mpr ⟨lw_p21, List.forall_mem_cons.mpr ⟨lw_p22, List.forall_mem_cons.mpr ⟨lw_p23, fun _ h => absurd h List.not_mem_nil⟩⟩⟩⟩⟩⟩⟩⟩
def lw_privs : List (MethodName × Nat) := lw_privs_1 ++ (lw_privs_2)
def lw_tbl : List Cond := k2_sels lw_privs ++ tables_1
theorem lw_privs_ok : ∀ q ∈ lw_privs, lw_okq q := by
  show ∀ q ∈ lw_privs_1 ++ (lw_privs_2), lw_okq q
  exact List.forall_mem_append.mpr ⟨lw_r1, lw_r2⟩
-- ===== end of PART A; then your names; then what follows =====
def RX0 : String := "OptionBlockPlanner$Arrangements"
def TX0 : u_T := fun k => match k with
  | 0 => ("OptionBlockPlanner$Arrangements", "plan", "LOptionBlockPlanner$Plan;", true)
  | 1 => ("OptionBlockPlanner$Arrangements", "common", "[I", true)
  | 2 => ("OptionBlockPlanner$Arrangements", "tried", "[I", true)
  | 3 => ("OptionBlockPlanner$Arrangements", "best", "[I", true)
  | 4 => ("OptionBlockPlanner$Arrangements", "added", "[I", true)
  | _ => ("OptionBlockPlanner$Arrangements", "fewest", "I", false)
def tyX0 : Nat → FieldType := fun k => match k with
  | 0 => .object "OptionBlockPlanner$Plan"
  | 1 => .array .int
  | 2 => .array .int
  | 3 => .array .int
  | 4 => .array .int
  | _ => .int
abbrev wsX00 : List Cond := u_ws RX0 TX0 6
theorem nmX0 : ∀ a, a < 6 → ∀ b, b < 6 → a ≠ b → (TX0 a).2.1 ≠ (TX0 b).2.1 := by decide +kernel
theorem tyX0_ok : ∀ k, k < 6 → parseFieldDescriptor (TX0 k).2.2.1 = some (tyX0 k) := by decide +kernel
abbrev cX0_init : ByteArray := prog_2_method_1_code
def yX0_init : MethodName := ⟨RX0, "<init>", "(LOptionBlockPlanner$Plan;)V"⟩
abbrev cX0_findBest : ByteArray := prog_2_method_2_code
def yX0_findBest : MethodName := ⟨RX0, "findBest", "()I"⟩
abbrev cX0_fewestByTrial : ByteArray := prog_2_method_3_code
def yX0_fewestByTrial : MethodName := ⟨RX0, "fewestByTrial", "()I"⟩
abbrev cX0_carryOut : ByteArray := prog_2_method_4_code
def yX0_carryOut : MethodName := ⟨RX0, "carryOut", "()I"⟩
abbrev cX0_collectCommon : ByteArray := prog_2_method_5_code
def yX0_collectCommon : MethodName := ⟨RX0, "collectCommon", "()V"⟩
abbrev cX0_countPairs : ByteArray := prog_2_method_6_code
def yX0_countPairs : MethodName := ⟨RX0, "countPairs", "(I)V"⟩
abbrev cX0_settle : ByteArray := prog_2_method_7_code
def yX0_settle : MethodName := ⟨RX0, "settle", "(LOptionBlockPlanner$Arrangements;II)V"⟩
abbrev cX0_tryAll : ByteArray := prog_2_method_8_code
def yX0_tryAll : MethodName := ⟨RX0, "tryAll", "(LOptionBlockPlanner$Arrangements;II)I"⟩
abbrev cX0_weigh : ByteArray := prog_2_method_9_code
def yX0_weigh : MethodName := ⟨RX0, "weigh", "(I)V"⟩
def RX1 : String := "OptionBlockPlanner$Chains"
def TX1 : u_T := fun k => match k with
  | 0 => ("OptionBlockPlanner$Chains", "plan", "LOptionBlockPlanner$Plan;", true)
  | 1 => ("OptionBlockPlanner$Chains", "rosters", "[I", true)
  | 2 => ("OptionBlockPlanner$Chains", "busy", "[I", true)
  | _ => ("OptionBlockPlanner$Chains", "distances", "[I", true)
def tyX1 : Nat → FieldType := fun k => match k with
  | 0 => .object "OptionBlockPlanner$Plan"
  | 1 => .array .int
  | 2 => .array .int
  | _ => .array .int
abbrev wsX10 : List Cond := u_ws RX1 TX1 4
theorem nmX1 : ∀ a, a < 4 → ∀ b, b < 4 → a ≠ b → (TX1 a).2.1 ≠ (TX1 b).2.1 := by decide +kernel
theorem tyX1_ok : ∀ k, k < 4 → parseFieldDescriptor (TX1 k).2.2.1 = some (tyX1 k) := by decide +kernel
abbrev cX1_init : ByteArray := prog_3_method_1_code
def yX1_init : MethodName := ⟨RX1, "<init>", "(LOptionBlockPlanner$Plan;)V"⟩
abbrev cX1_fewestMoves : ByteArray := prog_3_method_2_code
def yX1_fewestMoves : MethodName := ⟨RX1, "fewestMoves", "(II)I"⟩
abbrev cX1_fewestMovesByTrial : ByteArray := prog_3_method_3_code
def yX1_fewestMovesByTrial : MethodName := ⟨RX1, "fewestMovesByTrial", "(II)I"⟩
abbrev cX1_reasonAgainst : ByteArray := prog_3_method_4_code
def yX1_reasonAgainst : MethodName := ⟨RX1, "reasonAgainst", "(II)I"⟩
abbrev cX1_carryOut : ByteArray := prog_3_method_5_code
def yX1_carryOut : MethodName := ⟨RX1, "carryOut", "(II)I"⟩
abbrev cX1_measure : ByteArray := prog_3_method_6_code
def yX1_measure : MethodName := ⟨RX1, "measure", "(I)V"⟩
abbrev cX1_nextBlock : ByteArray := prog_3_method_7_code
def yX1_nextBlock : MethodName := ⟨RX1, "nextBlock", "(II)I"⟩
abbrev cX1_nearest : ByteArray := prog_3_method_8_code
def yX1_nearest : MethodName := ⟨RX1, "nearest", "(I)I"⟩
abbrev cX1_leadsToRoom : ByteArray := prog_3_method_9_code
def yX1_leadsToRoom : MethodName := ⟨RX1, "leadsToRoom", "(LOptionBlockPlanner$Plan;IIII)Z"⟩
def RX2 : String := "OptionBlockPlanner$Changes"
def TX2 : u_T := fun k => match k with
  | 0 => ("OptionBlockPlanner$Changes", "plan", "LOptionBlockPlanner$Plan;", true)
  | 1 => ("OptionBlockPlanner$Changes", "placements", "LOptionBlockPlanner$Placements;", true)
  | 2 => ("OptionBlockPlanner$Changes", "chains", "LOptionBlockPlanner$Chains;", true)
  | 3 => ("OptionBlockPlanner$Changes", "arrangements", "LOptionBlockPlanner$Arrangements;", true)
  | _ => ("OptionBlockPlanner$Changes", "lastRefusal", "I", false)
def tyX2 : Nat → FieldType := fun k => match k with
  | 0 => .object "OptionBlockPlanner$Plan"
  | 1 => .object "OptionBlockPlanner$Placements"
  | 2 => .object "OptionBlockPlanner$Chains"
  | 3 => .object "OptionBlockPlanner$Arrangements"
  | _ => .int
abbrev wsX20 : List Cond := u_ws RX2 TX2 5
theorem nmX2 : ∀ a, a < 5 → ∀ b, b < 5 → a ≠ b → (TX2 a).2.1 ≠ (TX2 b).2.1 := by decide +kernel
theorem tyX2_ok : ∀ k, k < 5 → parseFieldDescriptor (TX2 k).2.2.1 = some (tyX2 k) := by decide +kernel
abbrev cX2_init : ByteArray := prog_4_method_1_code
def yX2_init : MethodName := ⟨RX2, "<init>", "(LOptionBlockPlanner$Plan;LOptionBlockPlanner$Placements;LOptionBlockPlanner$Chains;LOptionBlockPlanner$Arrangements;)V"⟩
abbrev cX2_faultOf : ByteArray := prog_4_method_2_code
def yX2_faultOf : MethodName := ⟨RX2, "faultOf", "(IIII)I"⟩
abbrev cX2_perform : ByteArray := prog_4_method_3_code
def yX2_perform : MethodName := ⟨RX2, "perform", "(IIII)I"⟩
abbrev cX2_faultOfJoiner : ByteArray := prog_4_method_4_code
def yX2_faultOfJoiner : MethodName := ⟨RX2, "faultOfJoiner", "(II)I"⟩
abbrev cX2_faultOfNewSubject : ByteArray := prog_4_method_5_code
def yX2_faultOfNewSubject : MethodName := ⟨RX2, "faultOfNewSubject", "(I)I"⟩
abbrev cX2_faultOfBlocks : ByteArray := prog_4_method_7_code
def yX2_faultOfBlocks : MethodName := ⟨RX2, "faultOfBlocks", "(I)I"⟩
abbrev cX2_faultOfOpening : ByteArray := prog_4_method_8_code
def yX2_faultOfOpening : MethodName := ⟨RX2, "faultOfOpening", "(II)I"⟩
abbrev cX2_faultOfClosing : ByteArray := prog_4_method_9_code
def yX2_faultOfClosing : MethodName := ⟨RX2, "faultOfClosing", "(II)I"⟩
abbrev cX2_faultOfWish : ByteArray := prog_4_method_10_code
def yX2_faultOfWish : MethodName := ⟨RX2, "faultOfWish", "(II)I"⟩
abbrev cX2_faultOfReserve : ByteArray := prog_4_method_11_code
def yX2_faultOfReserve : MethodName := ⟨RX2, "faultOfReserve", "(II)I"⟩
abbrev cX2_faultOfEnrolling : ByteArray := prog_4_method_12_code
def yX2_faultOfEnrolling : MethodName := ⟨RX2, "faultOfEnrolling", "(I)I"⟩
abbrev cX2_faultOfWithdrawing : ByteArray := prog_4_method_13_code
def yX2_faultOfWithdrawing : MethodName := ⟨RX2, "faultOfWithdrawing", "(I)I"⟩
abbrev cX2_faultOfJoining : ByteArray := prog_4_method_14_code
def yX2_faultOfJoining : MethodName := ⟨RX2, "faultOfJoining", "(II)I"⟩
abbrev cX2_faultOfQuitting : ByteArray := prog_4_method_15_code
def yX2_faultOfQuitting : MethodName := ⟨RX2, "faultOfQuitting", "(II)I"⟩
abbrev cX2_faultOfChanging : ByteArray := prog_4_method_16_code
def yX2_faultOfChanging : MethodName := ⟨RX2, "faultOfChanging", "(III)I"⟩
abbrev cX2_refusal : ByteArray := prog_4_method_17_code
def yX2_refusal : MethodName := ⟨RX2, "refusal", "(II)I"⟩
def RX3 : String := "OptionBlockPlanner$History"
def TX3 : u_T := fun k => match k with
  | 0 => ("OptionBlockPlanner$History", "kept", "[LOptionBlockPlanner$Plan;", true)
  | 1 => ("OptionBlockPlanner$History", "next", "I", false)
  | _ => ("OptionBlockPlanner$History", "count", "I", false)
def tyX3 : Nat → FieldType := fun k => match k with
  | 0 => .array (.object "OptionBlockPlanner$Plan")
  | 1 => .int
  | _ => .int
abbrev wsX30 : List Cond := u_ws RX3 TX3 3
theorem nmX3 : ∀ a, a < 3 → ∀ b, b < 3 → a ≠ b → (TX3 a).2.1 ≠ (TX3 b).2.1 := by decide +kernel
theorem tyX3_ok : ∀ k, k < 3 → parseFieldDescriptor (TX3 k).2.2.1 = some (tyX3 k) := by decide +kernel
abbrev cX3_init : ByteArray := prog_5_method_1_code
def yX3_init : MethodName := ⟨RX3, "<init>", "()V"⟩
abbrev cX3_keep : ByteArray := prog_5_method_2_code
def yX3_keep : MethodName := ⟨RX3, "keep", "(LOptionBlockPlanner$Plan;)V"⟩
abbrev cX3_bringBack : ByteArray := prog_5_method_3_code
def yX3_bringBack : MethodName := ⟨RX3, "bringBack", "(LOptionBlockPlanner$Plan;)V"⟩
abbrev cX3_planIn : ByteArray := prog_5_method_5_code
def yX3_planIn : MethodName := ⟨RX3, "planIn", "(I)LOptionBlockPlanner$Plan;"⟩
def RX4 : String := "OptionBlockPlanner$Placements"
def TX4 : u_T := fun k => match k with
  | 0 => ("OptionBlockPlanner$Placements", "plan", "LOptionBlockPlanner$Plan;", true)
  | 1 => ("OptionBlockPlanner$Placements", "usable", "[I", true)
  | 2 => ("OptionBlockPlanner$Placements", "tried", "[I", true)
  | 3 => ("OptionBlockPlanner$Placements", "best", "[I", true)
  | 4 => ("OptionBlockPlanner$Placements", "fullScore", "I", false)
  | _ => ("OptionBlockPlanner$Placements", "bestScore", "I", false)
def tyX4 : Nat → FieldType := fun k => match k with
  | 0 => .object "OptionBlockPlanner$Plan"
  | 1 => .array .int
  | 2 => .array .int
  | 3 => .array .int
  | 4 => .int
  | _ => .int
abbrev wsX40 : List Cond := u_ws RX4 TX4 6
theorem nmX4 : ∀ a, a < 6 → ∀ b, b < 6 → a ≠ b → (TX4 a).2.1 ≠ (TX4 b).2.1 := by decide +kernel
theorem tyX4_ok : ∀ k, k < 6 → parseFieldDescriptor (TX4 k).2.2.1 = some (tyX4 k) := by decide +kernel
abbrev cX4_init : ByteArray := prog_6_method_1_code
def yX4_init : MethodName := ⟨RX4, "<init>", "(LOptionBlockPlanner$Plan;)V"⟩
abbrev cX4_valueBySearch : ByteArray := prog_6_method_2_code
def yX4_valueBySearch : MethodName := ⟨RX4, "valueBySearch", "(I)I"⟩
abbrev cX4_giveBest : ByteArray := prog_6_method_3_code
def yX4_giveBest : MethodName := ⟨RX4, "giveBest", "(I)I"⟩
abbrev cX4_valueBySets : ByteArray := prog_6_method_4_code
def yX4_valueBySets : MethodName := ⟨RX4, "valueBySets", "(I)I"⟩
abbrev cX4_servesBySearch : ByteArray := prog_6_method_5_code
def yX4_servesBySearch : MethodName := ⟨RX4, "servesBySearch", "(I)Z"⟩
abbrev cX4_servesByCounting : ByteArray := prog_6_method_6_code
def yX4_servesByCounting : MethodName := ⟨RX4, "servesByCounting", "(I)Z"⟩
abbrev cX4_collectRoomy : ByteArray := prog_6_method_7_code
def yX4_collectRoomy : MethodName := ⟨RX4, "collectRoomy", "(I)V"⟩
abbrev cX4_collectOpen : ByteArray := prog_6_method_8_code
def yX4_collectOpen : MethodName := ⟨RX4, "collectOpen", "(I)V"⟩
abbrev cX4_findBest : ByteArray := prog_6_method_9_code
def yX4_findBest : MethodName := ⟨RX4, "findBest", "()I"⟩
abbrev cX4_scoreOf : ByteArray := prog_6_method_10_code
def yX4_scoreOf : MethodName := ⟨RX4, "scoreOf", "(I)I"⟩
abbrev cX4_extend : ByteArray := prog_6_method_11_code
def yX4_extend : MethodName := ⟨RX4, "extend", "(LOptionBlockPlanner$Placements;III)V"⟩
abbrev cX4_keepIfBetter : ByteArray := prog_6_method_12_code
def yX4_keepIfBetter : MethodName := ⟨RX4, "keepIfBetter", "(I)V"⟩
abbrev cX4_setsUsedFor : ByteArray := prog_6_method_13_code
def yX4_setsUsedFor : MethodName := ⟨RX4, "setsUsedFor", "(I)I"⟩
abbrev cX4_setsWithOneOf : ByteArray := prog_6_method_14_code
def yX4_setsWithOneOf : MethodName := ⟨RX4, "setsWithOneOf", "(II)I"⟩
abbrev cX4_serve : ByteArray := prog_6_method_15_code
def yX4_serve : MethodName := ⟨RX4, "serve", "([IIII)Z"⟩
def RX5 : String := "OptionBlockPlanner$Plan"
def TX5 : u_T := fun k => match k with
  | 0 => ("OptionBlockPlanner$Plan", "subjects", "I", false)
  | 1 => ("OptionBlockPlanner$Plan", "blocks", "I", false)
  | 2 => ("OptionBlockPlanner$Plan", "pupils", "I", false)
  | 3 => ("OptionBlockPlanner$Plan", "sizes", "[I", true)
  | 4 => ("OptionBlockPlanner$Plan", "openSets", "[I", true)
  | 5 => ("OptionBlockPlanner$Plan", "rosters", "[I", true)
  | 6 => ("OptionBlockPlanner$Plan", "wishCounts", "[I", true)
  | 7 => ("OptionBlockPlanner$Plan", "wishes", "[I", true)
  | 8 => ("OptionBlockPlanner$Plan", "reserves", "[I", true)
  | 9 => ("OptionBlockPlanner$Plan", "chainLength", "I", false)
  | 10 => ("OptionBlockPlanner$Plan", "chainPupils", "[I", true)
  | _ => ("OptionBlockPlanner$Plan", "chainBlocks", "[I", true)
def tyX5 : Nat → FieldType := fun k => match k with
  | 0 => .int
  | 1 => .int
  | 2 => .int
  | 3 => .array .int
  | 4 => .array .int
  | 5 => .array .int
  | 6 => .array .int
  | 7 => .array .int
  | 8 => .array .int
  | 9 => .int
  | 10 => .array .int
  | _ => .array .int
abbrev wsX50 : List Cond := u_ws RX5 TX5 12
theorem nmX5 : ∀ a, a < 12 → ∀ b, b < 12 → a ≠ b → (TX5 a).2.1 ≠ (TX5 b).2.1 := by decide +kernel
theorem tyX5_ok : ∀ k, k < 12 → parseFieldDescriptor (TX5 k).2.2.1 = some (tyX5 k) := by decide +kernel
abbrev cX5_init : ByteArray := prog_7_method_1_code
def yX5_init : MethodName := ⟨RX5, "<init>", "()V"⟩
abbrev cX5_copyFrom : ByteArray := prog_7_method_2_code
def yX5_copyFrom : MethodName := ⟨RX5, "copyFrom", "(LOptionBlockPlanner$Plan;)V"⟩
abbrev cX5_hasSubject : ByteArray := prog_7_method_3_code
def yX5_hasSubject : MethodName := ⟨RX5, "hasSubject", "(I)Z"⟩
abbrev cX5_hasBlock : ByteArray := prog_7_method_4_code
def yX5_hasBlock : MethodName := ⟨RX5, "hasBlock", "(I)Z"⟩
abbrev cX5_hasClass : ByteArray := prog_7_method_5_code
def yX5_hasClass : MethodName := ⟨RX5, "hasClass", "(II)Z"⟩
abbrev cX5_openBlocks : ByteArray := prog_7_method_6_code
def yX5_openBlocks : MethodName := ⟨RX5, "openBlocks", "(I)I"⟩
abbrev cX5_roster : ByteArray := prog_7_method_8_code
def yX5_roster : MethodName := ⟨RX5, "roster", "(II)I"⟩
abbrev cX5_roomyBlocks : ByteArray := prog_7_method_10_code
def yX5_roomyBlocks : MethodName := ⟨RX5, "roomyBlocks", "(II)I"⟩
abbrev cX5_newSubject : ByteArray := prog_7_method_12_code
def yX5_newSubject : MethodName := ⟨RX5, "newSubject", "(I)I"⟩
abbrev cX5_setBlocks : ByteArray := prog_7_method_14_code
def yX5_setBlocks : MethodName := ⟨RX5, "setBlocks", "(I)I"⟩
abbrev cX5_setOpenBlocks : ByteArray := prog_7_method_15_code
def yX5_setOpenBlocks : MethodName := ⟨RX5, "setOpenBlocks", "(II)I"⟩
abbrev cX5_hasPupil : ByteArray := prog_7_method_16_code
def yX5_hasPupil : MethodName := ⟨RX5, "hasPupil", "(I)Z"⟩
abbrev cX5_wish : ByteArray := prog_7_method_17_code
def yX5_wish : MethodName := ⟨RX5, "wish", "(II)I"⟩
abbrev cX5_wishSet : ByteArray := prog_7_method_18_code
def yX5_wishSet : MethodName := ⟨RX5, "wishSet", "(I)I"⟩
abbrev cX5_newPupil : ByteArray := prog_7_method_20_code
def yX5_newPupil : MethodName := ⟨RX5, "newPupil", "()I"⟩
abbrev cX5_newWish : ByteArray := prog_7_method_21_code
def yX5_newWish : MethodName := ⟨RX5, "newWish", "(II)I"⟩
abbrev cX5_newReserve : ByteArray := prog_7_method_22_code
def yX5_newReserve : MethodName := ⟨RX5, "newReserve", "(II)I"⟩
abbrev cX5_enter : ByteArray := prog_7_method_23_code
def yX5_enter : MethodName := ⟨RX5, "enter", "(III)V"⟩
abbrev cX5_leave : ByteArray := prog_7_method_24_code
def yX5_leave : MethodName := ⟨RX5, "leave", "(III)V"⟩
abbrev cX5_lesson : ByteArray := prog_7_method_25_code
def yX5_lesson : MethodName := ⟨RX5, "lesson", "(II)I"⟩
abbrev cX5_blockTaken : ByteArray := prog_7_method_26_code
def yX5_blockTaken : MethodName := ⟨RX5, "blockTaken", "(II)I"⟩
abbrev cX5_busyPupils : ByteArray := prog_7_method_27_code
def yX5_busyPupils : MethodName := ⟨RX5, "busyPupils", "(I)I"⟩
abbrev cX5_freeBlocks : ByteArray := prog_7_method_28_code
def yX5_freeBlocks : MethodName := ⟨RX5, "freeBlocks", "(I)I"⟩
abbrev cX5_lessonsOf : ByteArray := prog_7_method_29_code
def yX5_lessonsOf : MethodName := ⟨RX5, "lessonsOf", "(I)I"⟩
abbrev cX5_lessonsOfAll : ByteArray := prog_7_method_30_code
def yX5_lessonsOfAll : MethodName := ⟨RX5, "lessonsOfAll", "()I"⟩
abbrev cX5_attendsWishes : ByteArray := prog_7_method_31_code
def yX5_attendsWishes : MethodName := ⟨RX5, "attendsWishes", "(I)Z"⟩
abbrev cX5_dropLesson : ByteArray := prog_7_method_32_code
def yX5_dropLesson : MethodName := ⟨RX5, "dropLesson", "(II)I"⟩
abbrev cX5_dropLessons : ByteArray := prog_7_method_33_code
def yX5_dropLessons : MethodName := ⟨RX5, "dropLessons", "(I)I"⟩
abbrev cX5_noteMove : ByteArray := prog_7_method_34_code
def yX5_noteMove : MethodName := ⟨RX5, "noteMove", "(III)V"⟩
abbrev cX5_makeMoves : ByteArray := prog_7_method_35_code
def yX5_makeMoves : MethodName := ⟨RX5, "makeMoves", "(III)V"⟩
def RX6 : String := "OptionBlockPlanner$Program"
def TX6 : u_T := fun k => match k with
  | 0 => ("OptionBlockPlanner$Program", "text", "Ljava/lang/StringBuilder;", true)
  | 1 => ("OptionBlockPlanner$Program", "modifications", "[I", true)
  | 2 => ("OptionBlockPlanner$Program", "numbers", "[I", true)
  | 3 => ("OptionBlockPlanner$Program", "count", "I", false)
  | _ => ("OptionBlockPlanner$Program", "at", "I", false)
def tyX6 : Nat → FieldType := fun k => match k with
  | 0 => .object "java/lang/StringBuilder"
  | 1 => .array .int
  | 2 => .array .int
  | 3 => .int
  | _ => .int
abbrev wsX60 : List Cond := u_ws RX6 TX6 5
theorem nmX6 : ∀ a, a < 5 → ∀ b, b < 5 → a ≠ b → (TX6 a).2.1 ≠ (TX6 b).2.1 := by decide +kernel
theorem tyX6_ok : ∀ k, k < 5 → parseFieldDescriptor (TX6 k).2.2.1 = some (tyX6 k) := by decide +kernel
abbrev cX6_init : ByteArray := prog_8_method_1_code
def yX6_init : MethodName := ⟨RX6, "<init>", "()V"⟩
def RX7 : String := "OptionBlockPlanner"
def TX7 : u_T := fun k => match k with
  | 0 => ("OptionBlockPlanner", "plan", "LOptionBlockPlanner$Plan;", true)
  | 1 => ("OptionBlockPlanner", "placements", "LOptionBlockPlanner$Placements;", true)
  | 2 => ("OptionBlockPlanner", "chains", "LOptionBlockPlanner$Chains;", true)
  | 3 => ("OptionBlockPlanner", "arrangements", "LOptionBlockPlanner$Arrangements;", true)
  | 4 => ("OptionBlockPlanner", "changes", "LOptionBlockPlanner$Changes;", true)
  | 5 => ("OptionBlockPlanner", "history", "LOptionBlockPlanner$History;", true)
  | 6 => ("OptionBlockPlanner", "snapshot", "LOptionBlockPlanner$Plan;", true)
  | 7 => ("OptionBlockPlanner", "beforeProgram", "LOptionBlockPlanner$Plan;", true)
  | 8 => ("OptionBlockPlanner", "program", "LOptionBlockPlanner$Program;", true)
  | 9 => ("OptionBlockPlanner", "line", "Ljava/lang/StringBuilder;", true)
  | 10 => ("OptionBlockPlanner", "saved", "Z", false)
  | 11 => ("OptionBlockPlanner", "errorAt", "I", false)
  | 12 => ("OptionBlockPlanner", "failedAt", "I", false)
  | _ => ("OptionBlockPlanner", "failure", "I", false)
def tyX7 : Nat → FieldType := fun k => match k with
  | 0 => .object "OptionBlockPlanner$Plan"
  | 1 => .object "OptionBlockPlanner$Placements"
  | 2 => .object "OptionBlockPlanner$Chains"
  | 3 => .object "OptionBlockPlanner$Arrangements"
  | 4 => .object "OptionBlockPlanner$Changes"
  | 5 => .object "OptionBlockPlanner$History"
  | 6 => .object "OptionBlockPlanner$Plan"
  | 7 => .object "OptionBlockPlanner$Plan"
  | 8 => .object "OptionBlockPlanner$Program"
  | 9 => .object "java/lang/StringBuilder"
  | 10 => .boolean
  | 11 => .int
  | 12 => .int
  | _ => .int
abbrev wsX70 : List Cond := u_ws RX7 TX7 14
theorem nmX7 : ∀ a, a < 14 → ∀ b, b < 14 → a ≠ b → (TX7 a).2.1 ≠ (TX7 b).2.1 := by decide +kernel
theorem tyX7_ok : ∀ k, k < 14 → parseFieldDescriptor (TX7 k).2.2.1 = some (tyX7 k) := by decide +kernel
abbrev cX7_init : ByteArray := prog_1_method_1_code
def yX7_init : MethodName := ⟨RX7, "<init>", "()V"⟩
abbrev cX7_addSubject : ByteArray := prog_1_method_2_code
def yX7_addSubject : MethodName := ⟨RX7, "addSubject", "(I)I"⟩
abbrev cX7_subjectCount : ByteArray := prog_1_method_4_code
def yX7_subjectCount : MethodName := ⟨RX7, "subjectCount", "()I"⟩
abbrev cX7_sizeOf : ByteArray := prog_1_method_5_code
def yX7_sizeOf : MethodName := ⟨RX7, "sizeOf", "(I)I"⟩
abbrev cX7_setBlockCount : ByteArray := prog_1_method_6_code
def yX7_setBlockCount : MethodName := ⟨RX7, "setBlockCount", "(I)I"⟩
abbrev cX7_blockCount : ByteArray := prog_1_method_7_code
def yX7_blockCount : MethodName := ⟨RX7, "blockCount", "()I"⟩
abbrev cX7_openClass : ByteArray := prog_1_method_8_code
def yX7_openClass : MethodName := ⟨RX7, "openClass", "(II)I"⟩
abbrev cX7_isOpen : ByteArray := prog_1_method_10_code
def yX7_isOpen : MethodName := ⟨RX7, "isOpen", "(II)Z"⟩
abbrev cX7_pupilsInClass : ByteArray := prog_1_method_11_code
def yX7_pupilsInClass : MethodName := ⟨RX7, "pupilsInClass", "(II)I"⟩
abbrev cX7_pupilInClass : ByteArray := prog_1_method_12_code
def yX7_pupilInClass : MethodName := ⟨RX7, "pupilInClass", "(III)I"⟩
abbrev cX7_addPupil : ByteArray := prog_1_method_13_code
def yX7_addPupil : MethodName := ⟨RX7, "addPupil", "()I"⟩
abbrev cX7_pupilCount : ByteArray := prog_1_method_14_code
def yX7_pupilCount : MethodName := ⟨RX7, "pupilCount", "()I"⟩
abbrev cX7_addWish : ByteArray := prog_1_method_15_code
def yX7_addWish : MethodName := ⟨RX7, "addWish", "(II)I"⟩
abbrev cX7_setReserve : ByteArray := prog_1_method_16_code
def yX7_setReserve : MethodName := ⟨RX7, "setReserve", "(II)I"⟩
abbrev cX7_subjectIn : ByteArray := prog_1_method_20_code
def yX7_subjectIn : MethodName := ⟨RX7, "subjectIn", "(II)I"⟩
abbrev cX7_blockOf : ByteArray := prog_1_method_21_code
def yX7_blockOf : MethodName := ⟨RX7, "blockOf", "(II)I"⟩
abbrev cX7_enrol : ByteArray := prog_1_method_22_code
def yX7_enrol : MethodName := ⟨RX7, "enrol", "(I)I"⟩
abbrev cX7_withdraw : ByteArray := prog_1_method_24_code
def yX7_withdraw : MethodName := ⟨RX7, "withdraw", "(I)I"⟩
abbrev cX7_bestValue : ByteArray := prog_1_method_25_code
def yX7_bestValue : MethodName := ⟨RX7, "bestValue", "(I)I"⟩
abbrev cX7_bestValueBySets : ByteArray := prog_1_method_26_code
def yX7_bestValueBySets : MethodName := ⟨RX7, "bestValueBySets", "(I)I"⟩
abbrev cX7_canServe : ByteArray := prog_1_method_27_code
def yX7_canServe : MethodName := ⟨RX7, "canServe", "(I)Z"⟩
abbrev cX7_canServeByCounting : ByteArray := prog_1_method_28_code
def yX7_canServeByCounting : MethodName := ⟨RX7, "canServeByCounting", "(I)Z"⟩
abbrev cX7_servedCount : ByteArray := prog_1_method_29_code
def yX7_servedCount : MethodName := ⟨RX7, "servedCount", "()I"⟩
abbrev cX7_movesFor : ByteArray := prog_1_method_31_code
def yX7_movesFor : MethodName := ⟨RX7, "movesFor", "(II)I"⟩
abbrev cX7_movesByTrial : ByteArray := prog_1_method_32_code
def yX7_movesByTrial : MethodName := ⟨RX7, "movesByTrial", "(II)I"⟩
abbrev cX7_join : ByteArray := prog_1_method_33_code
def yX7_join : MethodName := ⟨RX7, "join", "(II)I"⟩
abbrev cX7_quit : ByteArray := prog_1_method_34_code
def yX7_quit : MethodName := ⟨RX7, "quit", "(II)I"⟩
abbrev cX7_change : ByteArray := prog_1_method_35_code
def yX7_change : MethodName := ⟨RX7, "change", "(III)I"⟩
abbrev cX7_refusalReason : ByteArray := prog_1_method_36_code
def yX7_refusalReason : MethodName := ⟨RX7, "refusalReason", "()I"⟩
abbrev cX7_chainMoves : ByteArray := prog_1_method_37_code
def yX7_chainMoves : MethodName := ⟨RX7, "chainMoves", "()I"⟩
abbrev cX7_chainPupil : ByteArray := prog_1_method_38_code
def yX7_chainPupil : MethodName := ⟨RX7, "chainPupil", "(I)I"⟩
abbrev cX7_chainBlock : ByteArray := prog_1_method_39_code
def yX7_chainBlock : MethodName := ⟨RX7, "chainBlock", "(I)I"⟩
abbrev cX7_leastClashes : ByteArray := prog_1_method_43_code
def yX7_leastClashes : MethodName := ⟨RX7, "leastClashes", "()I"⟩
abbrev cX7_leastClashesByTrial : ByteArray := prog_1_method_44_code
def yX7_leastClashesByTrial : MethodName := ⟨RX7, "leastClashesByTrial", "()I"⟩
abbrev cX7_undo : ByteArray := prog_1_method_53_code
def yX7_undo : MethodName := ⟨RX7, "undo", "()I"⟩
abbrev cX7_make : ByteArray := prog_1_method_56_code
def yX7_make : MethodName := ⟨RX7, "make", "(IIII)I"⟩
abbrev cX7_needIndex : ByteArray := prog_1_method_59_code
def yX7_needIndex : MethodName := ⟨RX7, "needIndex", "(Z)V"⟩
abbrev cX7_needElement : ByteArray := prog_1_method_60_code
def yX7_needElement : MethodName := ⟨RX7, "needElement", "(Z)V"⟩
abbrev cX7_throwFault : ByteArray := prog_1_method_61_code
def yX7_throwFault : MethodName := ⟨RX7, "throwFault", "(I)V"⟩
abbrev cX7_read : ByteArray := prog_1_method_62_code
def yX7_read : MethodName := ⟨RX7, "read", "([II)I"⟩
abbrev cX7_write : ByteArray := prog_1_method_63_code
def yX7_write : MethodName := ⟨RX7, "write", "([III)V"⟩
abbrev cX7_copyRow : ByteArray := prog_1_method_64_code
def yX7_copyRow : MethodName := ⟨RX7, "copyRow", "([I[I)V"⟩
abbrev cX7_holds : ByteArray := prog_1_method_65_code
def yX7_holds : MethodName := ⟨RX7, "holds", "(II)Z"⟩
abbrev cX7_memberAt : ByteArray := prog_1_method_66_code
def yX7_memberAt : MethodName := ⟨RX7, "memberAt", "(II)I"⟩
def RX8 : String := "OptionBlockPlannerModel"
def TX8 : u_T := fun k => match k with
  | _ => ("", "", "", false)
def tyX8 : Nat → FieldType := fun k => match k with
  | _ => .int
abbrev wsX80 : List Cond := u_ws RX8 TX8 0
theorem nmX8 : ∀ a, a < 0 → ∀ b, b < 0 → a ≠ b → (TX8 a).2.1 ≠ (TX8 b).2.1 := by decide +kernel
theorem tyX8_ok : ∀ k, k < 0 → parseFieldDescriptor (TX8 k).2.2.1 = some (tyX8 k) := by decide +kernel
def RJx145de : String := "java/io/Serializable"
def TJx145de : u_T := fun k => match k with
  | _ => ("", "", "", false)
def tyJx145de : Nat → FieldType := fun k => match k with
  | _ => .int
abbrev wsJx145de0 : List Cond := u_ws RJx145de TJx145de 0
theorem nmJx145de : ∀ a, a < 0 → ∀ b, b < 0 → a ≠ b → (TJx145de a).2.1 ≠ (TJx145de b).2.1 := by decide +kernel
theorem tyJx145de_ok : ∀ k, k < 0 → parseFieldDescriptor (TJx145de k).2.2.1 = some (tyJx145de k) := by decide +kernel
def RJ5 : String := "java/lang/AbstractStringBuilder"
def TJ5 : u_T := fun k => match k with
  | _ => ("", "", "", false)
def tyJ5 : Nat → FieldType := fun k => match k with
  | _ => .int
abbrev wsJ50 : List Cond := u_ws RJ5 TJ5 0
theorem nmJ5 : ∀ a, a < 0 → ∀ b, b < 0 → a ≠ b → (TJ5 a).2.1 ≠ (TJ5 b).2.1 := by decide +kernel
theorem tyJ5_ok : ∀ k, k < 0 → parseFieldDescriptor (TJ5 k).2.2.1 = some (tyJ5 k) := by decide +kernel
abbrev cJ5_init_d00df : ByteArray := prog_12_method_2_code
def yJ5_init_d00df : MethodName := ⟨RJ5, "<init>", "(I)V"⟩
def RJx2cfe8 : String := "java/lang/Appendable"
def TJx2cfe8 : u_T := fun k => match k with
  | _ => ("", "", "", false)
def tyJx2cfe8 : Nat → FieldType := fun k => match k with
  | _ => .int
abbrev wsJx2cfe80 : List Cond := u_ws RJx2cfe8 TJx2cfe8 0
theorem nmJx2cfe8 : ∀ a, a < 0 → ∀ b, b < 0 → a ≠ b → (TJx2cfe8 a).2.1 ≠ (TJx2cfe8 b).2.1 := by decide +kernel
theorem tyJx2cfe8_ok : ∀ k, k < 0 → parseFieldDescriptor (TJx2cfe8 k).2.2.1 = some (tyJx2cfe8 k) := by decide +kernel
def RJx00060 : String := "java/lang/ArrayIndexOutOfBoundsException"
def TJx00060 : u_T := fun k => match k with
  | 0 => ("java/lang/Throwable", "backtrace", "Ljava/lang/Object;", false)
  | 1 => ("java/lang/Throwable", "detailMessage", "Ljava/lang/String;", false)
  | 2 => ("java/lang/Throwable", "cause", "Ljava/lang/Throwable;", false)
  | 3 => ("java/lang/Throwable", "stackTrace", "[Ljava/lang/StackTraceElement;", false)
  | 4 => ("java/lang/Throwable", "depth", "I", false)
  | _ => ("java/lang/Throwable", "suppressedExceptions", "Ljava/util/List;", false)
def tyJx00060 : Nat → FieldType := fun k => match k with
  | 0 => .object "java/lang/Object"
  | 1 => .object "java/lang/String"
  | 2 => .object "java/lang/Throwable"
  | 3 => .array (.object "java/lang/StackTraceElement")
  | 4 => .int
  | _ => .object "java/util/List"
abbrev wsJx000600 : List Cond := u_ws RJx00060 TJx00060 6
theorem nmJx00060 : ∀ a, a < 6 → ∀ b, b < 6 → a ≠ b → (TJx00060 a).2.1 ≠ (TJx00060 b).2.1 := by decide +kernel
theorem tyJx00060_ok : ∀ k, k < 6 → parseFieldDescriptor (TJx00060 k).2.2.1 = some (tyJx00060 k) := by decide +kernel
abbrev cJx00060_init_a7421 : ByteArray := prog_14_method_2_code
def yJx00060_init_a7421 : MethodName := ⟨RJx00060, "<init>", "(Ljava/lang/String;)V"⟩
def RJx9f9b0 : String := "java/lang/CharSequence"
def TJx9f9b0 : u_T := fun k => match k with
  | _ => ("", "", "", false)
def tyJx9f9b0 : Nat → FieldType := fun k => match k with
  | _ => .int
abbrev wsJx9f9b00 : List Cond := u_ws RJx9f9b0 TJx9f9b0 0
theorem nmJx9f9b0 : ∀ a, a < 0 → ∀ b, b < 0 → a ≠ b → (TJx9f9b0 a).2.1 ≠ (TJx9f9b0 b).2.1 := by decide +kernel
theorem tyJx9f9b0_ok : ∀ k, k < 0 → parseFieldDescriptor (TJx9f9b0 k).2.2.1 = some (tyJx9f9b0 k) := by decide +kernel
def RJxb160c : String := "java/lang/Comparable"
def TJxb160c : u_T := fun k => match k with
  | _ => ("", "", "", false)
def tyJxb160c : Nat → FieldType := fun k => match k with
  | _ => .int
abbrev wsJxb160c0 : List Cond := u_ws RJxb160c TJxb160c 0
theorem nmJxb160c : ∀ a, a < 0 → ∀ b, b < 0 → a ≠ b → (TJxb160c a).2.1 ≠ (TJxb160c b).2.1 := by decide +kernel
theorem tyJxb160c_ok : ∀ k, k < 0 → parseFieldDescriptor (TJxb160c k).2.2.1 = some (tyJxb160c k) := by decide +kernel
def RJ6 : String := "java/lang/Integer"
def TJ6 : u_T := fun k => match k with
  | _ => ("", "", "", false)
def tyJ6 : Nat → FieldType := fun k => match k with
  | _ => .int
abbrev wsJ60 : List Cond := u_ws RJ6 TJ6 0
theorem nmJ6 : ∀ a, a < 0 → ∀ b, b < 0 → a ≠ b → (TJ6 a).2.1 ≠ (TJ6 b).2.1 := by decide +kernel
theorem tyJ6_ok : ∀ k, k < 0 → parseFieldDescriptor (TJ6 k).2.2.1 = some (tyJ6 k) := by decide +kernel
abbrev cJ6_bitCount_0f7a4 : ByteArray := prog_21_method_49_code
def yJ6_bitCount_0f7a4 : MethodName := ⟨RJ6, "bitCount", "(I)I"⟩
def RJ9 : String := "java/lang/Math"
def TJ9 : u_T := fun k => match k with
  | _ => ("", "", "", false)
def tyJ9 : Nat → FieldType := fun k => match k with
  | _ => .int
abbrev wsJ90 : List Cond := u_ws RJ9 TJ9 0
theorem nmJ9 : ∀ a, a < 0 → ∀ b, b < 0 → a ≠ b → (TJ9 a).2.1 ≠ (TJ9 b).2.1 := by decide +kernel
theorem tyJ9_ok : ∀ k, k < 0 → parseFieldDescriptor (TJ9 k).2.2.1 = some (tyJ9 k) := by decide +kernel
abbrev cJ9_max_7cf53 : ByteArray := prog_22_method_65_code
def yJ9_max_7cf53 : MethodName := ⟨RJ9, "max", "(II)I"⟩
abbrev cJ9_min_7cf53 : ByteArray := prog_22_method_69_code
def yJ9_min_7cf53 : MethodName := ⟨RJ9, "min", "(II)I"⟩
def RJ0 : String := "java/lang/String"
def TJ0 : u_T := fun k => match k with
  | 0 => ("java/lang/String", "value", "[B", true)
  | _ => ("java/lang/String", "coder", "B", true)
def tyJ0 : Nat → FieldType := fun k => match k with
  | 0 => .array .byte
  | _ => .byte
abbrev wsJ00 : List Cond := u_ws RJ0 TJ0 2
theorem nmJ0 : ∀ a, a < 2 → ∀ b, b < 2 → a ≠ b → (TJ0 a).2.1 ≠ (TJ0 b).2.1 := by decide +kernel
theorem tyJ0_ok : ∀ k, k < 2 → parseFieldDescriptor (TJ0 k).2.2.1 = some (tyJ0 k) := by decide +kernel
def RJ4 : String := "java/lang/StringBuilder"
def TJ4 : u_T := fun k => match k with
  | 0 => ("java/lang/AbstractStringBuilder", "value", "[B", false)
  | 1 => ("java/lang/AbstractStringBuilder", "coder", "B", false)
  | 2 => ("java/lang/AbstractStringBuilder", "maybeLatin1", "Z", false)
  | _ => ("java/lang/AbstractStringBuilder", "count", "I", false)
def tyJ4 : Nat → FieldType := fun k => match k with
  | 0 => .array .byte
  | 1 => .byte
  | 2 => .boolean
  | _ => .int
abbrev wsJ40 : List Cond := u_ws RJ4 TJ4 4
theorem nmJ4 : ∀ a, a < 4 → ∀ b, b < 4 → a ≠ b → (TJ4 a).2.1 ≠ (TJ4 b).2.1 := by decide +kernel
theorem tyJ4_ok : ∀ k, k < 4 → parseFieldDescriptor (TJ4 k).2.2.1 = some (tyJ4 k) := by decide +kernel
abbrev cJ4_init_da8c8 : ByteArray := prog_25_method_1_code
def yJ4_init_da8c8 : MethodName := ⟨RJ4, "<init>", "()V"⟩
def RJ2 : String := "java/lang/StringUTF16"
def TJ2 : u_T := fun k => match k with
  | _ => ("", "", "", false)
def tyJ2 : Nat → FieldType := fun k => match k with
  | _ => .int
abbrev wsJ20 : List Cond := u_ws RJ2 TJ2 0
theorem nmJ2 : ∀ a, a < 0 → ∀ b, b < 0 → a ≠ b → (TJ2 a).2.1 ≠ (TJ2 b).2.1 := by decide +kernel
theorem tyJ2_ok : ∀ k, k < 0 → parseFieldDescriptor (TJ2 k).2.2.1 = some (tyJ2 k) := by decide +kernel
abbrev cJ2_newBytesFor_77867 : ByteArray := prog_26_method_2_code
def yJ2_newBytesFor_77867 : MethodName := ⟨RJ2, "newBytesFor", "(I)[B"⟩
abbrev cJ2_newBytesLength_0f7a4 : ByteArray := prog_26_method_3_code
def yJ2_newBytesLength_0f7a4 : MethodName := ⟨RJ2, "newBytesLength", "(I)I"⟩
def RJ10 : String := "java/lang/System"
def TJ10 : u_T := fun k => match k with
  | _ => ("", "", "", false)
def tyJ10 : Nat → FieldType := fun k => match k with
  | _ => .int
abbrev wsJ100 : List Cond := u_ws RJ10 TJ10 0
theorem nmJ10 : ∀ a, a < 0 → ∀ b, b < 0 → a ≠ b → (TJ10 a).2.1 ≠ (TJ10 b).2.1 := by decide +kernel
theorem tyJ10_ok : ∀ k, k < 0 → parseFieldDescriptor (TJ10 k).2.2.1 = some (tyJ10 k) := by decide +kernel
def RJxfd54e : String := "java/lang/constant/Constable"
def TJxfd54e : u_T := fun k => match k with
  | _ => ("", "", "", false)
def tyJxfd54e : Nat → FieldType := fun k => match k with
  | _ => .int
abbrev wsJxfd54e0 : List Cond := u_ws RJxfd54e TJxfd54e 0
theorem nmJxfd54e : ∀ a, a < 0 → ∀ b, b < 0 → a ≠ b → (TJxfd54e a).2.1 ≠ (TJxfd54e b).2.1 := by decide +kernel
theorem tyJxfd54e_ok : ∀ k, k < 0 → parseFieldDescriptor (TJxfd54e k).2.2.1 = some (tyJxfd54e k) := by decide +kernel
def RJx3cf43 : String := "java/lang/constant/ConstantDesc"
def TJx3cf43 : u_T := fun k => match k with
  | _ => ("", "", "", false)
def tyJx3cf43 : Nat → FieldType := fun k => match k with
  | _ => .int
abbrev wsJx3cf430 : List Cond := u_ws RJx3cf43 TJx3cf43 0
theorem nmJx3cf43 : ∀ a, a < 0 → ∀ b, b < 0 → a ≠ b → (TJx3cf43 a).2.1 ≠ (TJx3cf43 b).2.1 := by decide +kernel
theorem tyJx3cf43_ok : ∀ k, k < 0 → parseFieldDescriptor (TJx3cf43 k).2.2.1 = some (tyJx3cf43 k) := by decide +kernel
def RL : String := "OptionBlockPlannerLaw"
abbrev cL_cell : ByteArray := method_2_code
def yL_cell : MethodName := ⟨RL, "cell", "([II)I"⟩
abbrev cL_pick : ByteArray := method_3_code
def yL_pick : MethodName := ⟨RL, "pick", "([III)I"⟩
abbrev cL_addSubject : ByteArray := method_4_code
def yL_addSubject : MethodName := ⟨RL, "addSubject", "(LOptionBlockPlanner;I)I"⟩
abbrev cL_sizeOf : ByteArray := method_5_code
def yL_sizeOf : MethodName := ⟨RL, "sizeOf", "(LOptionBlockPlanner;I)I"⟩
abbrev cL_setBlockCount : ByteArray := method_6_code
def yL_setBlockCount : MethodName := ⟨RL, "setBlockCount", "(LOptionBlockPlanner;I)I"⟩
abbrev cL_openClass : ByteArray := method_7_code
def yL_openClass : MethodName := ⟨RL, "openClass", "(LOptionBlockPlanner;II)I"⟩
abbrev cL_isOpen : ByteArray := method_8_code
def yL_isOpen : MethodName := ⟨RL, "isOpen", "(LOptionBlockPlanner;II)I"⟩
abbrev cL_pupilsInClass : ByteArray := method_9_code
def yL_pupilsInClass : MethodName := ⟨RL, "pupilsInClass", "(LOptionBlockPlanner;II)I"⟩
abbrev cL_pupilInClass : ByteArray := method_10_code
def yL_pupilInClass : MethodName := ⟨RL, "pupilInClass", "(LOptionBlockPlanner;III)I"⟩
abbrev cL_addPupil : ByteArray := method_11_code
def yL_addPupil : MethodName := ⟨RL, "addPupil", "(LOptionBlockPlanner;)I"⟩
abbrev cL_addWish : ByteArray := method_12_code
def yL_addWish : MethodName := ⟨RL, "addWish", "(LOptionBlockPlanner;II)I"⟩
abbrev cL_setReserve : ByteArray := method_13_code
def yL_setReserve : MethodName := ⟨RL, "setReserve", "(LOptionBlockPlanner;II)I"⟩
abbrev cL_subjectIn : ByteArray := method_14_code
def yL_subjectIn : MethodName := ⟨RL, "subjectIn", "(LOptionBlockPlanner;II)I"⟩
abbrev cL_blockOf : ByteArray := method_15_code
def yL_blockOf : MethodName := ⟨RL, "blockOf", "(LOptionBlockPlanner;II)I"⟩
abbrev cL_enrol : ByteArray := method_16_code
def yL_enrol : MethodName := ⟨RL, "enrol", "(LOptionBlockPlanner;I)I"⟩
abbrev cL_withdraw : ByteArray := method_17_code
def yL_withdraw : MethodName := ⟨RL, "withdraw", "(LOptionBlockPlanner;I)I"⟩
abbrev cL_bestValue : ByteArray := method_18_code
def yL_bestValue : MethodName := ⟨RL, "bestValue", "(LOptionBlockPlanner;I)I"⟩
abbrev cL_bestValueBySets : ByteArray := method_19_code
def yL_bestValueBySets : MethodName := ⟨RL, "bestValueBySets", "(LOptionBlockPlanner;I)I"⟩
abbrev cL_canServe : ByteArray := method_20_code
def yL_canServe : MethodName := ⟨RL, "canServe", "(LOptionBlockPlanner;I)I"⟩
abbrev cL_canServeByCounting : ByteArray := method_21_code
def yL_canServeByCounting : MethodName := ⟨RL, "canServeByCounting", "(LOptionBlockPlanner;I)I"⟩
abbrev cL_movesFor : ByteArray := method_22_code
def yL_movesFor : MethodName := ⟨RL, "movesFor", "(LOptionBlockPlanner;II)I"⟩
abbrev cL_movesByTrial : ByteArray := method_23_code
def yL_movesByTrial : MethodName := ⟨RL, "movesByTrial", "(LOptionBlockPlanner;II)I"⟩
abbrev cL_join : ByteArray := method_24_code
def yL_join : MethodName := ⟨RL, "join", "(LOptionBlockPlanner;II)I"⟩
abbrev cL_quit : ByteArray := method_25_code
def yL_quit : MethodName := ⟨RL, "quit", "(LOptionBlockPlanner;II)I"⟩
abbrev cL_change : ByteArray := method_26_code
def yL_change : MethodName := ⟨RL, "change", "(LOptionBlockPlanner;III)I"⟩
abbrev cL_refusalReason : ByteArray := method_27_code
def yL_refusalReason : MethodName := ⟨RL, "refusalReason", "(LOptionBlockPlanner;)I"⟩
abbrev cL_chainMoves : ByteArray := method_28_code
def yL_chainMoves : MethodName := ⟨RL, "chainMoves", "(LOptionBlockPlanner;)I"⟩
abbrev cL_chainPupil : ByteArray := method_29_code
def yL_chainPupil : MethodName := ⟨RL, "chainPupil", "(LOptionBlockPlanner;I)I"⟩
abbrev cL_chainBlock : ByteArray := method_30_code
def yL_chainBlock : MethodName := ⟨RL, "chainBlock", "(LOptionBlockPlanner;I)I"⟩
abbrev cL_undo : ByteArray := method_31_code
def yL_undo : MethodName := ⟨RL, "undo", "(LOptionBlockPlanner;)I"⟩
abbrev cL_tables : ByteArray := method_32_code
def yL_tables : MethodName := ⟨RL, "tables", "(LOptionBlockPlanner;)[I"⟩
abbrev cL_same : ByteArray := method_33_code
def yL_same : MethodName := ⟨RL, "same", "([I[I)Z"⟩
abbrev cL_classes : ByteArray := method_34_code
def yL_classes : MethodName := ⟨RL, "classes", "(LOptionBlockPlanner;)Z"⟩
abbrev cL_searches : ByteArray := method_35_code
def yL_searches : MethodName := ⟨RL, "searches", "(LOptionBlockPlanner;)Z"⟩
abbrev cL_leadsBack : ByteArray := method_36_code
def yL_leadsBack : MethodName := ⟨RL, "leadsBack", "(LOptionBlockPlanner;III[I)Z"⟩
abbrev cL_joins : ByteArray := method_37_code
def yL_joins : MethodName := ⟨RL, "joins", "(LOptionBlockPlanner;II)Z"⟩
abbrev cL_changes : ByteArray := method_38_code
def yL_changes : MethodName := ⟨RL, "changes", "(LOptionBlockPlanner;III)Z"⟩
abbrev cL_law : ByteArray := code
def yL_law : MethodName := ⟨RL, "law", "([I)Z"⟩
abbrev vwCl : List vw_C := [(RJ0, TJ0, 2), (RJ4, TJ4, 4), (RJx00060, TJx00060, 6), (RX0, TX0, 6), (RX1, TX1, 4), (RX2, TX2, 5), (RX3, TX3, 3), (RX4, TX4, 6), (RX5, TX5, 12), (RX6, TX6, 5), (RX7, TX7, 14)]

theorem dL_cell_0 : decode cL_cell 0 = .ok (.iload_n 1, 1) := by decide +kernel
theorem dL_cell_1 : decode cL_cell 1 = .ok (.aload_n 0, 1) := by decide +kernel
theorem dL_cell_2 : decode cL_cell 2 = .ok (.arraylength, 1) := by decide +kernel
theorem dL_cell_3 : decode cL_cell 3 = .ok (.if_icmp .ge 9, 3) := by decide +kernel
theorem dL_cell_6 : decode cL_cell 6 = .ok (.aload_n 0, 1) := by decide +kernel
theorem dL_cell_7 : decode cL_cell 7 = .ok (.iload_n 1, 1) := by decide +kernel
theorem dL_cell_8 : decode cL_cell 8 = .ok (.iaload, 1) := by decide +kernel
theorem dL_cell_9 : decode cL_cell 9 = .ok (.goto 7, 3) := by decide +kernel
theorem dL_cell_12 : decode cL_cell 12 = .ok (.ldc 7, 2) := by decide +kernel
theorem dL_cell_14 : decode cL_cell 14 = .ok (.iload_n 1, 1) := by decide +kernel
theorem dL_cell_15 : decode cL_cell 15 = .ok (.imul, 1) := by decide +kernel
theorem dL_cell_16 : decode cL_cell 16 = .ok (.ireturn, 1) := by decide +kernel
theorem dL_pick_0 : decode cL_pick 0 = .ok (.aload_n 0, 1) := by decide +kernel
theorem dL_pick_1 : decode cL_pick 1 = .ok (.iload_n 1, 1) := by decide +kernel
theorem dL_pick_2 : decode cL_pick 2 = .ok (.invokestatic 8, 3) := by decide +kernel
theorem dL_pick_5 : decode cL_pick 5 = .ok (.iconst 1, 1) := by decide +kernel
theorem dL_pick_6 : decode cL_pick 6 = .ok (.iushr, 1) := by decide +kernel
theorem dL_pick_7 : decode cL_pick 7 = .ok (.iload_n 2, 1) := by decide +kernel
theorem dL_pick_8 : decode cL_pick 8 = .ok (.irem, 1) := by decide +kernel
theorem dL_pick_9 : decode cL_pick 9 = .ok (.ireturn, 1) := by decide +kernel
theorem dL_addSubject_0 : decode cL_addSubject 0 = .ok (.aload_n 0, 1) := by decide +kernel
theorem dL_addSubject_1 : decode cL_addSubject 1 = .ok (.iload_n 1, 1) := by decide +kernel
theorem dL_addSubject_2 : decode cL_addSubject 2 = .ok (.invokevirtual 14, 3) := by decide +kernel
theorem dL_addSubject_5 : decode cL_addSubject 5 = .ok (.ireturn, 1) := by decide +kernel
theorem dL_addSubject_6 : decode cL_addSubject 6 = .ok (.astore_n 2, 1) := by decide +kernel
theorem dL_addSubject_7 : decode cL_addSubject 7 = .ok (.sipush (-1001), 3) := by decide +kernel
theorem dL_addSubject_10 : decode cL_addSubject 10 = .ok (.ireturn, 1) := by decide +kernel
theorem dL_addSubject_11 : decode cL_addSubject 11 = .ok (.astore_n 2, 1) := by decide +kernel
theorem dL_addSubject_12 : decode cL_addSubject 12 = .ok (.sipush (-1002), 3) := by decide +kernel
theorem dL_addSubject_15 : decode cL_addSubject 15 = .ok (.ireturn, 1) := by decide +kernel
theorem dL_sizeOf_0 : decode cL_sizeOf 0 = .ok (.aload_n 0, 1) := by decide +kernel
theorem dL_sizeOf_1 : decode cL_sizeOf 1 = .ok (.iload_n 1, 1) := by decide +kernel
theorem dL_sizeOf_2 : decode cL_sizeOf 2 = .ok (.invokevirtual 24, 3) := by decide +kernel
theorem dL_sizeOf_5 : decode cL_sizeOf 5 = .ok (.ireturn, 1) := by decide +kernel
theorem dL_sizeOf_6 : decode cL_sizeOf 6 = .ok (.astore_n 2, 1) := by decide +kernel
theorem dL_sizeOf_7 : decode cL_sizeOf 7 = .ok (.sipush (-1001), 3) := by decide +kernel
theorem dL_sizeOf_10 : decode cL_sizeOf 10 = .ok (.ireturn, 1) := by decide +kernel
theorem dL_setBlockCount_0 : decode cL_setBlockCount 0 = .ok (.aload_n 0, 1) := by decide +kernel
theorem dL_setBlockCount_1 : decode cL_setBlockCount 1 = .ok (.iload_n 1, 1) := by decide +kernel
theorem dL_setBlockCount_2 : decode cL_setBlockCount 2 = .ok (.invokevirtual 29, 3) := by decide +kernel
theorem dL_setBlockCount_5 : decode cL_setBlockCount 5 = .ok (.ireturn, 1) := by decide +kernel
theorem dL_setBlockCount_6 : decode cL_setBlockCount 6 = .ok (.astore_n 2, 1) := by decide +kernel
theorem dL_setBlockCount_7 : decode cL_setBlockCount 7 = .ok (.sipush (-1001), 3) := by decide +kernel
theorem dL_setBlockCount_10 : decode cL_setBlockCount 10 = .ok (.ireturn, 1) := by decide +kernel
theorem dL_setBlockCount_11 : decode cL_setBlockCount 11 = .ok (.astore_n 2, 1) := by decide +kernel
theorem dL_setBlockCount_12 : decode cL_setBlockCount 12 = .ok (.sipush (-1002), 3) := by decide +kernel
theorem dL_setBlockCount_15 : decode cL_setBlockCount 15 = .ok (.ireturn, 1) := by decide +kernel
theorem dL_openClass_0 : decode cL_openClass 0 = .ok (.aload_n 0, 1) := by decide +kernel
theorem dL_openClass_1 : decode cL_openClass 1 = .ok (.iload_n 1, 1) := by decide +kernel
theorem dL_openClass_2 : decode cL_openClass 2 = .ok (.iload_n 2, 1) := by decide +kernel
theorem dL_openClass_3 : decode cL_openClass 3 = .ok (.invokevirtual 32, 3) := by decide +kernel
theorem dL_openClass_6 : decode cL_openClass 6 = .ok (.ireturn, 1) := by decide +kernel
theorem dL_openClass_7 : decode cL_openClass 7 = .ok (.astore_n 3, 1) := by decide +kernel
theorem dL_openClass_8 : decode cL_openClass 8 = .ok (.sipush (-1001), 3) := by decide +kernel
theorem dL_openClass_11 : decode cL_openClass 11 = .ok (.ireturn, 1) := by decide +kernel
theorem dL_openClass_12 : decode cL_openClass 12 = .ok (.astore_n 3, 1) := by decide +kernel
theorem dL_openClass_13 : decode cL_openClass 13 = .ok (.sipush (-1002), 3) := by decide +kernel
theorem dL_openClass_16 : decode cL_openClass 16 = .ok (.ireturn, 1) := by decide +kernel
theorem dL_isOpen_0 : decode cL_isOpen 0 = .ok (.aload_n 0, 1) := by decide +kernel
theorem dL_isOpen_1 : decode cL_isOpen 1 = .ok (.iload_n 1, 1) := by decide +kernel
theorem dL_isOpen_2 : decode cL_isOpen 2 = .ok (.iload_n 2, 1) := by decide +kernel
theorem dL_isOpen_3 : decode cL_isOpen 3 = .ok (.invokevirtual 36, 3) := by decide +kernel
theorem dL_isOpen_6 : decode cL_isOpen 6 = .ok (.ifCond .eq 7, 3) := by decide +kernel
theorem dL_isOpen_9 : decode cL_isOpen 9 = .ok (.iconst 1, 1) := by decide +kernel
theorem dL_isOpen_10 : decode cL_isOpen 10 = .ok (.goto 4, 3) := by decide +kernel
theorem dL_isOpen_13 : decode cL_isOpen 13 = .ok (.iconst 0, 1) := by decide +kernel
theorem dL_isOpen_14 : decode cL_isOpen 14 = .ok (.ireturn, 1) := by decide +kernel
theorem dL_isOpen_15 : decode cL_isOpen 15 = .ok (.astore_n 3, 1) := by decide +kernel
theorem dL_isOpen_16 : decode cL_isOpen 16 = .ok (.sipush (-1001), 3) := by decide +kernel
theorem dL_isOpen_19 : decode cL_isOpen 19 = .ok (.ireturn, 1) := by decide +kernel
theorem dL_pupilsInClass_0 : decode cL_pupilsInClass 0 = .ok (.aload_n 0, 1) := by decide +kernel
theorem dL_pupilsInClass_1 : decode cL_pupilsInClass 1 = .ok (.iload_n 1, 1) := by decide +kernel
theorem dL_pupilsInClass_2 : decode cL_pupilsInClass 2 = .ok (.iload_n 2, 1) := by decide +kernel
theorem dL_pupilsInClass_3 : decode cL_pupilsInClass 3 = .ok (.invokevirtual 40, 3) := by decide +kernel
theorem dL_pupilsInClass_6 : decode cL_pupilsInClass 6 = .ok (.ireturn, 1) := by decide +kernel
theorem dL_pupilsInClass_7 : decode cL_pupilsInClass 7 = .ok (.astore_n 3, 1) := by decide +kernel
theorem dL_pupilsInClass_8 : decode cL_pupilsInClass 8 = .ok (.sipush (-1001), 3) := by decide +kernel
theorem dL_pupilsInClass_11 : decode cL_pupilsInClass 11 = .ok (.ireturn, 1) := by decide +kernel
theorem dL_pupilInClass_0 : decode cL_pupilInClass 0 = .ok (.aload_n 0, 1) := by decide +kernel
theorem dL_pupilInClass_1 : decode cL_pupilInClass 1 = .ok (.iload_n 1, 1) := by decide +kernel
theorem dL_pupilInClass_2 : decode cL_pupilInClass 2 = .ok (.iload_n 2, 1) := by decide +kernel
theorem dL_pupilInClass_3 : decode cL_pupilInClass 3 = .ok (.iload_n 3, 1) := by decide +kernel
theorem dL_pupilInClass_4 : decode cL_pupilInClass 4 = .ok (.invokevirtual 43, 3) := by decide +kernel
theorem dL_pupilInClass_7 : decode cL_pupilInClass 7 = .ok (.ireturn, 1) := by decide +kernel
theorem dL_pupilInClass_8 : decode cL_pupilInClass 8 = .ok (.astore 4, 2) := by decide +kernel
theorem dL_pupilInClass_10 : decode cL_pupilInClass 10 = .ok (.sipush (-1001), 3) := by decide +kernel
theorem dL_pupilInClass_13 : decode cL_pupilInClass 13 = .ok (.ireturn, 1) := by decide +kernel
theorem dL_pupilInClass_14 : decode cL_pupilInClass 14 = .ok (.astore 4, 2) := by decide +kernel
theorem dL_pupilInClass_16 : decode cL_pupilInClass 16 = .ok (.sipush (-1002), 3) := by decide +kernel
theorem dL_pupilInClass_19 : decode cL_pupilInClass 19 = .ok (.ireturn, 1) := by decide +kernel
theorem dL_addPupil_0 : decode cL_addPupil 0 = .ok (.aload_n 0, 1) := by decide +kernel
theorem dL_addPupil_1 : decode cL_addPupil 1 = .ok (.invokevirtual 49, 3) := by decide +kernel
theorem dL_addPupil_4 : decode cL_addPupil 4 = .ok (.ireturn, 1) := by decide +kernel
theorem dL_addPupil_5 : decode cL_addPupil 5 = .ok (.astore_n 1, 1) := by decide +kernel
theorem dL_addPupil_6 : decode cL_addPupil 6 = .ok (.sipush (-1001), 3) := by decide +kernel
theorem dL_addPupil_9 : decode cL_addPupil 9 = .ok (.ireturn, 1) := by decide +kernel
theorem dL_addWish_0 : decode cL_addWish 0 = .ok (.aload_n 0, 1) := by decide +kernel
theorem dL_addWish_1 : decode cL_addWish 1 = .ok (.iload_n 1, 1) := by decide +kernel
theorem dL_addWish_2 : decode cL_addWish 2 = .ok (.iload_n 2, 1) := by decide +kernel
theorem dL_addWish_3 : decode cL_addWish 3 = .ok (.invokevirtual 53, 3) := by decide +kernel
theorem dL_addWish_6 : decode cL_addWish 6 = .ok (.ireturn, 1) := by decide +kernel
theorem dL_addWish_7 : decode cL_addWish 7 = .ok (.astore_n 3, 1) := by decide +kernel
theorem dL_addWish_8 : decode cL_addWish 8 = .ok (.sipush (-1001), 3) := by decide +kernel
theorem dL_addWish_11 : decode cL_addWish 11 = .ok (.ireturn, 1) := by decide +kernel
theorem dL_addWish_12 : decode cL_addWish 12 = .ok (.astore_n 3, 1) := by decide +kernel
theorem dL_addWish_13 : decode cL_addWish 13 = .ok (.sipush (-1002), 3) := by decide +kernel
theorem dL_addWish_16 : decode cL_addWish 16 = .ok (.ireturn, 1) := by decide +kernel
theorem dL_setReserve_0 : decode cL_setReserve 0 = .ok (.aload_n 0, 1) := by decide +kernel
theorem dL_setReserve_1 : decode cL_setReserve 1 = .ok (.iload_n 1, 1) := by decide +kernel
theorem dL_setReserve_2 : decode cL_setReserve 2 = .ok (.iload_n 2, 1) := by decide +kernel
theorem dL_setReserve_3 : decode cL_setReserve 3 = .ok (.invokevirtual 56, 3) := by decide +kernel
theorem dL_setReserve_6 : decode cL_setReserve 6 = .ok (.ireturn, 1) := by decide +kernel
theorem dL_setReserve_7 : decode cL_setReserve 7 = .ok (.astore_n 3, 1) := by decide +kernel
theorem dL_setReserve_8 : decode cL_setReserve 8 = .ok (.sipush (-1001), 3) := by decide +kernel
theorem dL_setReserve_11 : decode cL_setReserve 11 = .ok (.ireturn, 1) := by decide +kernel
theorem dL_setReserve_12 : decode cL_setReserve 12 = .ok (.astore_n 3, 1) := by decide +kernel
theorem dL_setReserve_13 : decode cL_setReserve 13 = .ok (.sipush (-1002), 3) := by decide +kernel
theorem dL_setReserve_16 : decode cL_setReserve 16 = .ok (.ireturn, 1) := by decide +kernel
theorem dL_subjectIn_0 : decode cL_subjectIn 0 = .ok (.aload_n 0, 1) := by decide +kernel
theorem dL_subjectIn_1 : decode cL_subjectIn 1 = .ok (.iload_n 1, 1) := by decide +kernel
theorem dL_subjectIn_2 : decode cL_subjectIn 2 = .ok (.iload_n 2, 1) := by decide +kernel
theorem dL_subjectIn_3 : decode cL_subjectIn 3 = .ok (.invokevirtual 59, 3) := by decide +kernel
theorem dL_subjectIn_6 : decode cL_subjectIn 6 = .ok (.ireturn, 1) := by decide +kernel
theorem dL_subjectIn_7 : decode cL_subjectIn 7 = .ok (.astore_n 3, 1) := by decide +kernel
theorem dL_subjectIn_8 : decode cL_subjectIn 8 = .ok (.sipush (-1001), 3) := by decide +kernel
theorem dL_subjectIn_11 : decode cL_subjectIn 11 = .ok (.ireturn, 1) := by decide +kernel
theorem dL_blockOf_0 : decode cL_blockOf 0 = .ok (.aload_n 0, 1) := by decide +kernel
theorem dL_blockOf_1 : decode cL_blockOf 1 = .ok (.iload_n 1, 1) := by decide +kernel
theorem dL_blockOf_2 : decode cL_blockOf 2 = .ok (.iload_n 2, 1) := by decide +kernel
theorem dL_blockOf_3 : decode cL_blockOf 3 = .ok (.invokevirtual 62, 3) := by decide +kernel
theorem dL_blockOf_6 : decode cL_blockOf 6 = .ok (.ireturn, 1) := by decide +kernel
theorem dL_blockOf_7 : decode cL_blockOf 7 = .ok (.astore_n 3, 1) := by decide +kernel
theorem dL_blockOf_8 : decode cL_blockOf 8 = .ok (.sipush (-1001), 3) := by decide +kernel
theorem dL_blockOf_11 : decode cL_blockOf 11 = .ok (.ireturn, 1) := by decide +kernel
theorem dL_enrol_0 : decode cL_enrol 0 = .ok (.aload_n 0, 1) := by decide +kernel
theorem dL_enrol_1 : decode cL_enrol 1 = .ok (.iload_n 1, 1) := by decide +kernel
theorem dL_enrol_2 : decode cL_enrol 2 = .ok (.invokevirtual 65, 3) := by decide +kernel
theorem dL_enrol_5 : decode cL_enrol 5 = .ok (.ireturn, 1) := by decide +kernel
theorem dL_enrol_6 : decode cL_enrol 6 = .ok (.astore_n 2, 1) := by decide +kernel
theorem dL_enrol_7 : decode cL_enrol 7 = .ok (.sipush (-1001), 3) := by decide +kernel
theorem dL_enrol_10 : decode cL_enrol 10 = .ok (.ireturn, 1) := by decide +kernel
theorem dL_enrol_11 : decode cL_enrol 11 = .ok (.astore_n 2, 1) := by decide +kernel
theorem dL_enrol_12 : decode cL_enrol 12 = .ok (.sipush (-1002), 3) := by decide +kernel
theorem dL_enrol_15 : decode cL_enrol 15 = .ok (.ireturn, 1) := by decide +kernel
theorem dL_withdraw_0 : decode cL_withdraw 0 = .ok (.aload_n 0, 1) := by decide +kernel
theorem dL_withdraw_1 : decode cL_withdraw 1 = .ok (.iload_n 1, 1) := by decide +kernel
theorem dL_withdraw_2 : decode cL_withdraw 2 = .ok (.invokevirtual 68, 3) := by decide +kernel
theorem dL_withdraw_5 : decode cL_withdraw 5 = .ok (.ireturn, 1) := by decide +kernel
theorem dL_withdraw_6 : decode cL_withdraw 6 = .ok (.astore_n 2, 1) := by decide +kernel
theorem dL_withdraw_7 : decode cL_withdraw 7 = .ok (.sipush (-1001), 3) := by decide +kernel
theorem dL_withdraw_10 : decode cL_withdraw 10 = .ok (.ireturn, 1) := by decide +kernel
theorem dL_withdraw_11 : decode cL_withdraw 11 = .ok (.astore_n 2, 1) := by decide +kernel
theorem dL_withdraw_12 : decode cL_withdraw 12 = .ok (.sipush (-1002), 3) := by decide +kernel
theorem dL_withdraw_15 : decode cL_withdraw 15 = .ok (.ireturn, 1) := by decide +kernel
theorem dL_bestValue_0 : decode cL_bestValue 0 = .ok (.aload_n 0, 1) := by decide +kernel
theorem dL_bestValue_1 : decode cL_bestValue 1 = .ok (.iload_n 1, 1) := by decide +kernel
theorem dL_bestValue_2 : decode cL_bestValue 2 = .ok (.invokevirtual 71, 3) := by decide +kernel
theorem dL_bestValue_5 : decode cL_bestValue 5 = .ok (.ireturn, 1) := by decide +kernel
theorem dL_bestValue_6 : decode cL_bestValue 6 = .ok (.astore_n 2, 1) := by decide +kernel
theorem dL_bestValue_7 : decode cL_bestValue 7 = .ok (.sipush (-1001), 3) := by decide +kernel
theorem dL_bestValue_10 : decode cL_bestValue 10 = .ok (.ireturn, 1) := by decide +kernel
theorem dL_bestValueBySets_0 : decode cL_bestValueBySets 0 = .ok (.aload_n 0, 1) := by decide +kernel
theorem dL_bestValueBySets_1 : decode cL_bestValueBySets 1 = .ok (.iload_n 1, 1) := by decide +kernel
theorem dL_bestValueBySets_2 : decode cL_bestValueBySets 2 = .ok (.invokevirtual 74, 3) := by decide +kernel
theorem dL_bestValueBySets_5 : decode cL_bestValueBySets 5 = .ok (.ireturn, 1) := by decide +kernel
theorem dL_bestValueBySets_6 : decode cL_bestValueBySets 6 = .ok (.astore_n 2, 1) := by decide +kernel
theorem dL_bestValueBySets_7 : decode cL_bestValueBySets 7 = .ok (.sipush (-1001), 3) := by decide +kernel
theorem dL_bestValueBySets_10 : decode cL_bestValueBySets 10 = .ok (.ireturn, 1) := by decide +kernel
theorem dL_canServe_0 : decode cL_canServe 0 = .ok (.aload_n 0, 1) := by decide +kernel
theorem dL_canServe_1 : decode cL_canServe 1 = .ok (.iload_n 1, 1) := by decide +kernel
theorem dL_canServe_2 : decode cL_canServe 2 = .ok (.invokevirtual 77, 3) := by decide +kernel
theorem dL_canServe_5 : decode cL_canServe 5 = .ok (.ifCond .eq 7, 3) := by decide +kernel
theorem dL_canServe_8 : decode cL_canServe 8 = .ok (.iconst 1, 1) := by decide +kernel
theorem dL_canServe_9 : decode cL_canServe 9 = .ok (.goto 4, 3) := by decide +kernel
theorem dL_canServe_12 : decode cL_canServe 12 = .ok (.iconst 0, 1) := by decide +kernel
theorem dL_canServe_13 : decode cL_canServe 13 = .ok (.ireturn, 1) := by decide +kernel
theorem dL_canServe_14 : decode cL_canServe 14 = .ok (.astore_n 2, 1) := by decide +kernel
theorem dL_canServe_15 : decode cL_canServe 15 = .ok (.sipush (-1001), 3) := by decide +kernel
theorem dL_canServe_18 : decode cL_canServe 18 = .ok (.ireturn, 1) := by decide +kernel
theorem dL_canServeByCounting_0 : decode cL_canServeByCounting 0 = .ok (.aload_n 0, 1) := by decide +kernel
theorem dL_canServeByCounting_1 : decode cL_canServeByCounting 1 = .ok (.iload_n 1, 1) := by decide +kernel
theorem dL_canServeByCounting_2 : decode cL_canServeByCounting 2 = .ok (.invokevirtual 81, 3) := by decide +kernel
theorem dL_canServeByCounting_5 : decode cL_canServeByCounting 5 = .ok (.ifCond .eq 7, 3) := by decide +kernel
theorem dL_canServeByCounting_8 : decode cL_canServeByCounting 8 = .ok (.iconst 1, 1) := by decide +kernel
theorem dL_canServeByCounting_9 : decode cL_canServeByCounting 9 = .ok (.goto 4, 3) := by decide +kernel
theorem dL_canServeByCounting_12 : decode cL_canServeByCounting 12 = .ok (.iconst 0, 1) := by decide +kernel
theorem dL_canServeByCounting_13 : decode cL_canServeByCounting 13 = .ok (.ireturn, 1) := by decide +kernel
theorem dL_canServeByCounting_14 : decode cL_canServeByCounting 14 = .ok (.astore_n 2, 1) := by decide +kernel
theorem dL_canServeByCounting_15 : decode cL_canServeByCounting 15 = .ok (.sipush (-1001), 3) := by decide +kernel
theorem dL_canServeByCounting_18 : decode cL_canServeByCounting 18 = .ok (.ireturn, 1) := by decide +kernel
theorem dL_movesFor_0 : decode cL_movesFor 0 = .ok (.aload_n 0, 1) := by decide +kernel
theorem dL_movesFor_1 : decode cL_movesFor 1 = .ok (.iload_n 1, 1) := by decide +kernel
theorem dL_movesFor_2 : decode cL_movesFor 2 = .ok (.iload_n 2, 1) := by decide +kernel
theorem dL_movesFor_3 : decode cL_movesFor 3 = .ok (.invokevirtual 84, 3) := by decide +kernel
theorem dL_movesFor_6 : decode cL_movesFor 6 = .ok (.ireturn, 1) := by decide +kernel
theorem dL_movesFor_7 : decode cL_movesFor 7 = .ok (.astore_n 3, 1) := by decide +kernel
theorem dL_movesFor_8 : decode cL_movesFor 8 = .ok (.sipush (-1001), 3) := by decide +kernel
theorem dL_movesFor_11 : decode cL_movesFor 11 = .ok (.ireturn, 1) := by decide +kernel
theorem dL_movesFor_12 : decode cL_movesFor 12 = .ok (.astore_n 3, 1) := by decide +kernel
theorem dL_movesFor_13 : decode cL_movesFor 13 = .ok (.sipush (-1002), 3) := by decide +kernel
theorem dL_movesFor_16 : decode cL_movesFor 16 = .ok (.ireturn, 1) := by decide +kernel
theorem dL_movesFor_17 : decode cL_movesFor 17 = .ok (.astore_n 3, 1) := by decide +kernel
theorem dL_movesFor_18 : decode cL_movesFor 18 = .ok (.sipush (-1003), 3) := by decide +kernel
theorem dL_movesFor_21 : decode cL_movesFor 21 = .ok (.ireturn, 1) := by decide +kernel
theorem dL_movesByTrial_0 : decode cL_movesByTrial 0 = .ok (.aload_n 0, 1) := by decide +kernel
theorem dL_movesByTrial_1 : decode cL_movesByTrial 1 = .ok (.iload_n 1, 1) := by decide +kernel
theorem dL_movesByTrial_2 : decode cL_movesByTrial 2 = .ok (.iload_n 2, 1) := by decide +kernel
theorem dL_movesByTrial_3 : decode cL_movesByTrial 3 = .ok (.invokevirtual 87, 3) := by decide +kernel
theorem dL_movesByTrial_6 : decode cL_movesByTrial 6 = .ok (.ireturn, 1) := by decide +kernel
theorem dL_movesByTrial_7 : decode cL_movesByTrial 7 = .ok (.astore_n 3, 1) := by decide +kernel
theorem dL_movesByTrial_8 : decode cL_movesByTrial 8 = .ok (.sipush (-1001), 3) := by decide +kernel
theorem dL_movesByTrial_11 : decode cL_movesByTrial 11 = .ok (.ireturn, 1) := by decide +kernel
theorem dL_movesByTrial_12 : decode cL_movesByTrial 12 = .ok (.astore_n 3, 1) := by decide +kernel
theorem dL_movesByTrial_13 : decode cL_movesByTrial 13 = .ok (.sipush (-1002), 3) := by decide +kernel
theorem dL_movesByTrial_16 : decode cL_movesByTrial 16 = .ok (.ireturn, 1) := by decide +kernel
theorem dL_movesByTrial_17 : decode cL_movesByTrial 17 = .ok (.astore_n 3, 1) := by decide +kernel
theorem dL_movesByTrial_18 : decode cL_movesByTrial 18 = .ok (.sipush (-1003), 3) := by decide +kernel
theorem dL_movesByTrial_21 : decode cL_movesByTrial 21 = .ok (.ireturn, 1) := by decide +kernel
theorem dL_join_0 : decode cL_join 0 = .ok (.aload_n 0, 1) := by decide +kernel
theorem dL_join_1 : decode cL_join 1 = .ok (.iload_n 1, 1) := by decide +kernel
theorem dL_join_2 : decode cL_join 2 = .ok (.iload_n 2, 1) := by decide +kernel
theorem dL_join_3 : decode cL_join 3 = .ok (.invokevirtual 90, 3) := by decide +kernel
theorem dL_join_6 : decode cL_join 6 = .ok (.ireturn, 1) := by decide +kernel
theorem dL_join_7 : decode cL_join 7 = .ok (.astore_n 3, 1) := by decide +kernel
theorem dL_join_8 : decode cL_join 8 = .ok (.sipush (-1001), 3) := by decide +kernel
theorem dL_join_11 : decode cL_join 11 = .ok (.ireturn, 1) := by decide +kernel
theorem dL_join_12 : decode cL_join 12 = .ok (.astore_n 3, 1) := by decide +kernel
theorem dL_join_13 : decode cL_join 13 = .ok (.sipush (-1002), 3) := by decide +kernel
theorem dL_join_16 : decode cL_join 16 = .ok (.ireturn, 1) := by decide +kernel
theorem dL_join_17 : decode cL_join 17 = .ok (.astore_n 3, 1) := by decide +kernel
theorem dL_join_18 : decode cL_join 18 = .ok (.sipush (-1003), 3) := by decide +kernel
theorem dL_join_21 : decode cL_join 21 = .ok (.ireturn, 1) := by decide +kernel
theorem dL_quit_0 : decode cL_quit 0 = .ok (.aload_n 0, 1) := by decide +kernel
theorem dL_quit_1 : decode cL_quit 1 = .ok (.iload_n 1, 1) := by decide +kernel
theorem dL_quit_2 : decode cL_quit 2 = .ok (.iload_n 2, 1) := by decide +kernel
theorem dL_quit_3 : decode cL_quit 3 = .ok (.invokevirtual 95, 3) := by decide +kernel
theorem dL_quit_6 : decode cL_quit 6 = .ok (.ireturn, 1) := by decide +kernel
theorem dL_quit_7 : decode cL_quit 7 = .ok (.astore_n 3, 1) := by decide +kernel
theorem dL_quit_8 : decode cL_quit 8 = .ok (.sipush (-1001), 3) := by decide +kernel
theorem dL_quit_11 : decode cL_quit 11 = .ok (.ireturn, 1) := by decide +kernel
theorem dL_quit_12 : decode cL_quit 12 = .ok (.astore_n 3, 1) := by decide +kernel
theorem dL_quit_13 : decode cL_quit 13 = .ok (.sipush (-1002), 3) := by decide +kernel
theorem dL_quit_16 : decode cL_quit 16 = .ok (.ireturn, 1) := by decide +kernel
theorem dL_change_0 : decode cL_change 0 = .ok (.aload_n 0, 1) := by decide +kernel
theorem dL_change_1 : decode cL_change 1 = .ok (.iload_n 1, 1) := by decide +kernel
theorem dL_change_2 : decode cL_change 2 = .ok (.iload_n 2, 1) := by decide +kernel
theorem dL_change_3 : decode cL_change 3 = .ok (.iload_n 3, 1) := by decide +kernel
theorem dL_change_4 : decode cL_change 4 = .ok (.invokevirtual 98, 3) := by decide +kernel
theorem dL_change_7 : decode cL_change 7 = .ok (.ireturn, 1) := by decide +kernel
theorem dL_change_8 : decode cL_change 8 = .ok (.astore 4, 2) := by decide +kernel
theorem dL_change_10 : decode cL_change 10 = .ok (.sipush (-1001), 3) := by decide +kernel
theorem dL_change_13 : decode cL_change 13 = .ok (.ireturn, 1) := by decide +kernel
theorem dL_change_14 : decode cL_change 14 = .ok (.astore 4, 2) := by decide +kernel
theorem dL_change_16 : decode cL_change 16 = .ok (.sipush (-1002), 3) := by decide +kernel
theorem dL_change_19 : decode cL_change 19 = .ok (.ireturn, 1) := by decide +kernel
theorem dL_change_20 : decode cL_change 20 = .ok (.astore 4, 2) := by decide +kernel
theorem dL_change_22 : decode cL_change 22 = .ok (.sipush (-1003), 3) := by decide +kernel
theorem dL_change_25 : decode cL_change 25 = .ok (.ireturn, 1) := by decide +kernel
theorem dL_refusalReason_0 : decode cL_refusalReason 0 = .ok (.aload_n 0, 1) := by decide +kernel
theorem dL_refusalReason_1 : decode cL_refusalReason 1 = .ok (.invokevirtual 101, 3) := by decide +kernel
theorem dL_refusalReason_4 : decode cL_refusalReason 4 = .ok (.ireturn, 1) := by decide +kernel
theorem dL_refusalReason_5 : decode cL_refusalReason 5 = .ok (.astore_n 1, 1) := by decide +kernel
theorem dL_refusalReason_6 : decode cL_refusalReason 6 = .ok (.sipush (-1001), 3) := by decide +kernel
theorem dL_refusalReason_9 : decode cL_refusalReason 9 = .ok (.ireturn, 1) := by decide +kernel
theorem dL_chainMoves_0 : decode cL_chainMoves 0 = .ok (.aload_n 0, 1) := by decide +kernel
theorem dL_chainMoves_1 : decode cL_chainMoves 1 = .ok (.invokevirtual 104, 3) := by decide +kernel
theorem dL_chainMoves_4 : decode cL_chainMoves 4 = .ok (.ireturn, 1) := by decide +kernel
theorem dL_chainMoves_5 : decode cL_chainMoves 5 = .ok (.astore_n 1, 1) := by decide +kernel
theorem dL_chainMoves_6 : decode cL_chainMoves 6 = .ok (.sipush (-1001), 3) := by decide +kernel
theorem dL_chainMoves_9 : decode cL_chainMoves 9 = .ok (.ireturn, 1) := by decide +kernel
theorem dL_chainPupil_0 : decode cL_chainPupil 0 = .ok (.aload_n 0, 1) := by decide +kernel
theorem dL_chainPupil_1 : decode cL_chainPupil 1 = .ok (.iload_n 1, 1) := by decide +kernel
theorem dL_chainPupil_2 : decode cL_chainPupil 2 = .ok (.invokevirtual 107, 3) := by decide +kernel
theorem dL_chainPupil_5 : decode cL_chainPupil 5 = .ok (.ireturn, 1) := by decide +kernel
theorem dL_chainPupil_6 : decode cL_chainPupil 6 = .ok (.astore_n 2, 1) := by decide +kernel
theorem dL_chainPupil_7 : decode cL_chainPupil 7 = .ok (.sipush (-1001), 3) := by decide +kernel
theorem dL_chainPupil_10 : decode cL_chainPupil 10 = .ok (.ireturn, 1) := by decide +kernel
theorem dL_chainBlock_0 : decode cL_chainBlock 0 = .ok (.aload_n 0, 1) := by decide +kernel
theorem dL_chainBlock_1 : decode cL_chainBlock 1 = .ok (.iload_n 1, 1) := by decide +kernel
theorem dL_chainBlock_2 : decode cL_chainBlock 2 = .ok (.invokevirtual 110, 3) := by decide +kernel
theorem dL_chainBlock_5 : decode cL_chainBlock 5 = .ok (.ireturn, 1) := by decide +kernel
theorem dL_chainBlock_6 : decode cL_chainBlock 6 = .ok (.astore_n 2, 1) := by decide +kernel
theorem dL_chainBlock_7 : decode cL_chainBlock 7 = .ok (.sipush (-1001), 3) := by decide +kernel
theorem dL_chainBlock_10 : decode cL_chainBlock 10 = .ok (.ireturn, 1) := by decide +kernel
theorem dL_undo_0 : decode cL_undo 0 = .ok (.aload_n 0, 1) := by decide +kernel
theorem dL_undo_1 : decode cL_undo 1 = .ok (.invokevirtual 113, 3) := by decide +kernel
theorem dL_undo_4 : decode cL_undo 4 = .ok (.ireturn, 1) := by decide +kernel
theorem dL_undo_5 : decode cL_undo 5 = .ok (.astore_n 1, 1) := by decide +kernel
theorem dL_undo_6 : decode cL_undo 6 = .ok (.sipush (-1001), 3) := by decide +kernel
theorem dL_undo_9 : decode cL_undo 9 = .ok (.ireturn, 1) := by decide +kernel
theorem dL_tables_0 : decode cL_tables 0 = .ok (.iconst 4, 1) := by decide +kernel
theorem dL_tables_1 : decode cL_tables 1 = .ok (.aload_n 0, 1) := by decide +kernel
theorem dL_tables_2 : decode cL_tables 2 = .ok (.invokevirtual 116, 3) := by decide +kernel
theorem dL_tables_5 : decode cL_tables 5 = .ok (.imul, 1) := by decide +kernel
theorem dL_tables_6 : decode cL_tables 6 = .ok (.newarray .int, 2) := by decide +kernel
theorem dL_tables_8 : decode cL_tables 8 = .ok (.astore_n 1, 1) := by decide +kernel
theorem dL_tables_9 : decode cL_tables 9 = .ok (.iconst 0, 1) := by decide +kernel
theorem dL_tables_10 : decode cL_tables 10 = .ok (.istore_n 2, 1) := by decide +kernel
theorem dL_tables_11 : decode cL_tables 11 = .ok (.iload_n 2, 1) := by decide +kernel
theorem dL_tables_12 : decode cL_tables 12 = .ok (.aload_n 1, 1) := by decide +kernel
theorem dL_tables_13 : decode cL_tables 13 = .ok (.arraylength, 1) := by decide +kernel
theorem dL_tables_14 : decode cL_tables 14 = .ok (.if_icmp .ge 36, 3) := by decide +kernel
theorem dL_tables_17 : decode cL_tables 17 = .ok (.aload_n 1, 1) := by decide +kernel
theorem dL_tables_18 : decode cL_tables 18 = .ok (.iload_n 2, 1) := by decide +kernel
theorem dL_tables_19 : decode cL_tables 19 = .ok (.iload_n 2, 1) := by decide +kernel
theorem dL_tables_20 : decode cL_tables 20 = .ok (.iconst 4, 1) := by decide +kernel
theorem dL_tables_21 : decode cL_tables 21 = .ok (.irem, 1) := by decide +kernel
theorem dL_tables_22 : decode cL_tables 22 = .ok (.aload_n 0, 1) := by decide +kernel
theorem dL_tables_23 : decode cL_tables 23 = .ok (.invokevirtual 119, 3) := by decide +kernel
theorem dL_tables_26 : decode cL_tables 26 = .ok (.if_icmp .ge 16, 3) := by decide +kernel
theorem dL_tables_29 : decode cL_tables 29 = .ok (.aload_n 0, 1) := by decide +kernel
theorem dL_tables_30 : decode cL_tables 30 = .ok (.iload_n 2, 1) := by decide +kernel
theorem dL_tables_31 : decode cL_tables 31 = .ok (.iconst 4, 1) := by decide +kernel
theorem dL_tables_32 : decode cL_tables 32 = .ok (.idiv, 1) := by decide +kernel
theorem dL_tables_33 : decode cL_tables 33 = .ok (.iload_n 2, 1) := by decide +kernel
theorem dL_tables_34 : decode cL_tables 34 = .ok (.iconst 4, 1) := by decide +kernel
theorem dL_tables_35 : decode cL_tables 35 = .ok (.irem, 1) := by decide +kernel
theorem dL_tables_36 : decode cL_tables 36 = .ok (.invokestatic 122, 3) := by decide +kernel
theorem dL_tables_39 : decode cL_tables 39 = .ok (.goto 4, 3) := by decide +kernel
theorem dL_tables_42 : decode cL_tables 42 = .ok (.iconst (-1), 1) := by decide +kernel
theorem dL_tables_43 : decode cL_tables 43 = .ok (.iastore, 1) := by decide +kernel
theorem dL_tables_44 : decode cL_tables 44 = .ok (.iinc 2 1, 3) := by decide +kernel
theorem dL_tables_47 : decode cL_tables 47 = .ok (.goto (-36), 3) := by decide +kernel
theorem dL_tables_50 : decode cL_tables 50 = .ok (.aload_n 1, 1) := by decide +kernel
theorem dL_tables_51 : decode cL_tables 51 = .ok (.areturn, 1) := by decide +kernel
theorem dL_same_0 : decode cL_same 0 = .ok (.aload_n 0, 1) := by decide +kernel
theorem dL_same_1 : decode cL_same 1 = .ok (.arraylength, 1) := by decide +kernel
theorem dL_same_2 : decode cL_same 2 = .ok (.aload_n 1, 1) := by decide +kernel
theorem dL_same_3 : decode cL_same 3 = .ok (.arraylength, 1) := by decide +kernel
theorem dL_same_4 : decode cL_same 4 = .ok (.if_icmp .ne 7, 3) := by decide +kernel
theorem dL_same_7 : decode cL_same 7 = .ok (.iconst 1, 1) := by decide +kernel
theorem dL_same_8 : decode cL_same 8 = .ok (.goto 4, 3) := by decide +kernel
theorem dL_same_11 : decode cL_same 11 = .ok (.iconst 0, 1) := by decide +kernel
theorem dL_same_12 : decode cL_same 12 = .ok (.istore_n 2, 1) := by decide +kernel
theorem dL_same_13 : decode cL_same 13 = .ok (.iconst 0, 1) := by decide +kernel
theorem dL_same_14 : decode cL_same 14 = .ok (.istore_n 3, 1) := by decide +kernel
theorem dL_same_15 : decode cL_same 15 = .ok (.iload_n 3, 1) := by decide +kernel
theorem dL_same_16 : decode cL_same 16 = .ok (.aload_n 0, 1) := by decide +kernel
theorem dL_same_17 : decode cL_same 17 = .ok (.arraylength, 1) := by decide +kernel
theorem dL_same_18 : decode cL_same 18 = .ok (.if_icmp .ge 28, 3) := by decide +kernel
theorem dL_same_21 : decode cL_same 21 = .ok (.iload_n 2, 1) := by decide +kernel
theorem dL_same_22 : decode cL_same 22 = .ok (.ifCond .eq 24, 3) := by decide +kernel
theorem dL_same_25 : decode cL_same 25 = .ok (.aload_n 0, 1) := by decide +kernel
theorem dL_same_26 : decode cL_same 26 = .ok (.iload_n 3, 1) := by decide +kernel
theorem dL_same_27 : decode cL_same 27 = .ok (.iaload, 1) := by decide +kernel
theorem dL_same_28 : decode cL_same 28 = .ok (.aload_n 1, 1) := by decide +kernel
theorem dL_same_29 : decode cL_same 29 = .ok (.iload_n 3, 1) := by decide +kernel
theorem dL_same_30 : decode cL_same 30 = .ok (.iaload, 1) := by decide +kernel
theorem dL_same_31 : decode cL_same 31 = .ok (.if_icmp .ne 7, 3) := by decide +kernel
theorem dL_same_34 : decode cL_same 34 = .ok (.iconst 1, 1) := by decide +kernel
theorem dL_same_35 : decode cL_same 35 = .ok (.goto 4, 3) := by decide +kernel
theorem dL_same_38 : decode cL_same 38 = .ok (.iconst 0, 1) := by decide +kernel
theorem dL_same_39 : decode cL_same 39 = .ok (.istore_n 2, 1) := by decide +kernel
theorem dL_same_40 : decode cL_same 40 = .ok (.iinc 3 1, 3) := by decide +kernel
theorem dL_same_43 : decode cL_same 43 = .ok (.goto (-28), 3) := by decide +kernel
theorem dL_same_46 : decode cL_same 46 = .ok (.iload_n 2, 1) := by decide +kernel
theorem dL_same_47 : decode cL_same 47 = .ok (.ireturn, 1) := by decide +kernel
theorem dL_classes_0 : decode cL_classes 0 = .ok (.iconst 0, 1) := by decide +kernel
theorem dL_classes_1 : decode cL_classes 1 = .ok (.istore_n 1, 1) := by decide +kernel
theorem dL_classes_2 : decode cL_classes 2 = .ok (.iload_n 1, 1) := by decide +kernel
theorem dL_classes_3 : decode cL_classes 3 = .ok (.aload_n 0, 1) := by decide +kernel
theorem dL_classes_4 : decode cL_classes 4 = .ok (.invokevirtual 125, 3) := by decide +kernel
theorem dL_classes_7 : decode cL_classes 7 = .ok (.if_icmp .ge 135, 3) := by decide +kernel
theorem dL_classes_10 : decode cL_classes 10 = .ok (.iconst 0, 1) := by decide +kernel
theorem dL_classes_11 : decode cL_classes 11 = .ok (.istore_n 2, 1) := by decide +kernel
theorem dL_classes_12 : decode cL_classes 12 = .ok (.iload_n 2, 1) := by decide +kernel
theorem dL_classes_13 : decode cL_classes 13 = .ok (.aload_n 0, 1) := by decide +kernel
theorem dL_classes_14 : decode cL_classes 14 = .ok (.invokevirtual 119, 3) := by decide +kernel
theorem dL_classes_17 : decode cL_classes 17 = .ok (.if_icmp .ge 119, 3) := by decide +kernel
theorem dL_classes_20 : decode cL_classes 20 = .ok (.iconst 0, 1) := by decide +kernel
theorem dL_classes_21 : decode cL_classes 21 = .ok (.istore_n 3, 1) := by decide +kernel
theorem dL_classes_22 : decode cL_classes 22 = .ok (.iconst 0, 1) := by decide +kernel
theorem dL_classes_23 : decode cL_classes 23 = .ok (.istore 4, 2) := by decide +kernel
theorem dL_classes_25 : decode cL_classes 25 = .ok (.iload 4, 2) := by decide +kernel
theorem dL_classes_27 : decode cL_classes 27 = .ok (.aload_n 0, 1) := by decide +kernel
theorem dL_classes_28 : decode cL_classes 28 = .ok (.invokevirtual 116, 3) := by decide +kernel
theorem dL_classes_31 : decode cL_classes 31 = .ok (.if_icmp .ge 51, 3) := by decide +kernel
theorem dL_classes_34 : decode cL_classes 34 = .ok (.aload_n 0, 1) := by decide +kernel
theorem dL_classes_35 : decode cL_classes 35 = .ok (.iload 4, 2) := by decide +kernel
theorem dL_classes_37 : decode cL_classes 37 = .ok (.iload_n 2, 1) := by decide +kernel
theorem dL_classes_38 : decode cL_classes 38 = .ok (.invokestatic 122, 3) := by decide +kernel
theorem dL_classes_41 : decode cL_classes 41 = .ok (.iload_n 1, 1) := by decide +kernel
theorem dL_classes_42 : decode cL_classes 42 = .ok (.if_icmp .eq 6, 3) := by decide +kernel
theorem dL_classes_45 : decode cL_classes 45 = .ok (.goto 31, 3) := by decide +kernel
theorem dL_classes_48 : decode cL_classes 48 = .ok (.aload_n 0, 1) := by decide +kernel
theorem dL_classes_49 : decode cL_classes 49 = .ok (.iload 4, 2) := by decide +kernel
theorem dL_classes_51 : decode cL_classes 51 = .ok (.iload_n 1, 1) := by decide +kernel
theorem dL_classes_52 : decode cL_classes 52 = .ok (.invokestatic 128, 3) := by decide +kernel
theorem dL_classes_55 : decode cL_classes 55 = .ok (.iload_n 2, 1) := by decide +kernel
theorem dL_classes_56 : decode cL_classes 56 = .ok (.if_icmp .ne 15, 3) := by decide +kernel
theorem dL_classes_59 : decode cL_classes 59 = .ok (.aload_n 0, 1) := by decide +kernel
theorem dL_classes_60 : decode cL_classes 60 = .ok (.iload_n 1, 1) := by decide +kernel
theorem dL_classes_61 : decode cL_classes 61 = .ok (.iload_n 2, 1) := by decide +kernel
theorem dL_classes_62 : decode cL_classes 62 = .ok (.iload_n 3, 1) := by decide +kernel
theorem dL_classes_63 : decode cL_classes 63 = .ok (.invokestatic 130, 3) := by decide +kernel
theorem dL_classes_66 : decode cL_classes 66 = .ok (.iload 4, 2) := by decide +kernel
theorem dL_classes_68 : decode cL_classes 68 = .ok (.if_icmp .eq 5, 3) := by decide +kernel
theorem dL_classes_71 : decode cL_classes 71 = .ok (.iconst 0, 1) := by decide +kernel
theorem dL_classes_72 : decode cL_classes 72 = .ok (.ireturn, 1) := by decide +kernel
theorem dL_classes_73 : decode cL_classes 73 = .ok (.iinc 3 1, 3) := by decide +kernel
theorem dL_classes_76 : decode cL_classes 76 = .ok (.iinc 4 1, 3) := by decide +kernel
theorem dL_classes_79 : decode cL_classes 79 = .ok (.goto (-54), 3) := by decide +kernel
theorem dL_classes_82 : decode cL_classes 82 = .ok (.aload_n 0, 1) := by decide +kernel
theorem dL_classes_83 : decode cL_classes 83 = .ok (.iload_n 1, 1) := by decide +kernel
theorem dL_classes_84 : decode cL_classes 84 = .ok (.iload_n 2, 1) := by decide +kernel
theorem dL_classes_85 : decode cL_classes 85 = .ok (.invokestatic 133, 3) := by decide +kernel
theorem dL_classes_88 : decode cL_classes 88 = .ok (.iload_n 3, 1) := by decide +kernel
theorem dL_classes_89 : decode cL_classes 89 = .ok (.if_icmp .ne 39, 3) := by decide +kernel
theorem dL_classes_92 : decode cL_classes 92 = .ok (.iload_n 3, 1) := by decide +kernel
theorem dL_classes_93 : decode cL_classes 93 = .ok (.aload_n 0, 1) := by decide +kernel
theorem dL_classes_94 : decode cL_classes 94 = .ok (.iload_n 1, 1) := by decide +kernel
theorem dL_classes_95 : decode cL_classes 95 = .ok (.invokestatic 135, 3) := by decide +kernel
theorem dL_classes_98 : decode cL_classes 98 = .ok (.if_icmp .gt 30, 3) := by decide +kernel
theorem dL_classes_101 : decode cL_classes 101 = .ok (.iload_n 3, 1) := by decide +kernel
theorem dL_classes_102 : decode cL_classes 102 = .ok (.ifCond .le 13, 3) := by decide +kernel
theorem dL_classes_105 : decode cL_classes 105 = .ok (.aload_n 0, 1) := by decide +kernel
theorem dL_classes_106 : decode cL_classes 106 = .ok (.iload_n 1, 1) := by decide +kernel
theorem dL_classes_107 : decode cL_classes 107 = .ok (.iload_n 2, 1) := by decide +kernel
theorem dL_classes_108 : decode cL_classes 108 = .ok (.invokestatic 138, 3) := by decide +kernel
theorem dL_classes_111 : decode cL_classes 111 = .ok (.iconst 1, 1) := by decide +kernel
theorem dL_classes_112 : decode cL_classes 112 = .ok (.if_icmp .ne 16, 3) := by decide +kernel
theorem dL_classes_115 : decode cL_classes 115 = .ok (.aload_n 0, 1) := by decide +kernel
theorem dL_classes_116 : decode cL_classes 116 = .ok (.iload_n 1, 1) := by decide +kernel
theorem dL_classes_117 : decode cL_classes 117 = .ok (.iload_n 2, 1) := by decide +kernel
theorem dL_classes_118 : decode cL_classes 118 = .ok (.iload_n 3, 1) := by decide +kernel
theorem dL_classes_119 : decode cL_classes 119 = .ok (.invokestatic 130, 3) := by decide +kernel
theorem dL_classes_122 : decode cL_classes 122 = .ok (.sipush (-1002), 3) := by decide +kernel
theorem dL_classes_125 : decode cL_classes 125 = .ok (.if_icmp .eq 5, 3) := by decide +kernel
theorem dL_classes_128 : decode cL_classes 128 = .ok (.iconst 0, 1) := by decide +kernel
theorem dL_classes_129 : decode cL_classes 129 = .ok (.ireturn, 1) := by decide +kernel
theorem dL_classes_130 : decode cL_classes 130 = .ok (.iinc 2 1, 3) := by decide +kernel
theorem dL_classes_133 : decode cL_classes 133 = .ok (.goto (-121), 3) := by decide +kernel
theorem dL_classes_136 : decode cL_classes 136 = .ok (.iinc 1 1, 3) := by decide +kernel
theorem dL_classes_139 : decode cL_classes 139 = .ok (.goto (-137), 3) := by decide +kernel
theorem dL_classes_142 : decode cL_classes 142 = .ok (.iconst 1, 1) := by decide +kernel
theorem dL_classes_143 : decode cL_classes 143 = .ok (.ireturn, 1) := by decide +kernel
theorem dL_searches_0 : decode cL_searches 0 = .ok (.iconst 0, 1) := by decide +kernel
theorem dL_searches_1 : decode cL_searches 1 = .ok (.istore_n 1, 1) := by decide +kernel
theorem dL_searches_2 : decode cL_searches 2 = .ok (.iload_n 1, 1) := by decide +kernel
theorem dL_searches_3 : decode cL_searches 3 = .ok (.aload_n 0, 1) := by decide +kernel
theorem dL_searches_4 : decode cL_searches 4 = .ok (.invokevirtual 116, 3) := by decide +kernel
theorem dL_searches_7 : decode cL_searches 7 = .ok (.if_icmp .ge 136, 3) := by decide +kernel
theorem dL_searches_10 : decode cL_searches 10 = .ok (.aload_n 0, 1) := by decide +kernel
theorem dL_searches_11 : decode cL_searches 11 = .ok (.iload_n 1, 1) := by decide +kernel
theorem dL_searches_12 : decode cL_searches 12 = .ok (.invokestatic 140, 3) := by decide +kernel
theorem dL_searches_15 : decode cL_searches 15 = .ok (.istore_n 2, 1) := by decide +kernel
theorem dL_searches_16 : decode cL_searches 16 = .ok (.iload_n 2, 1) := by decide +kernel
theorem dL_searches_17 : decode cL_searches 17 = .ok (.ifCond .lt 45, 3) := by decide +kernel
theorem dL_searches_20 : decode cL_searches 20 = .ok (.iload_n 2, 1) := by decide +kernel
theorem dL_searches_21 : decode cL_searches 21 = .ok (.bipush 7, 2) := by decide +kernel
theorem dL_searches_23 : decode cL_searches 23 = .ok (.if_icmp .gt 39, 3) := by decide +kernel
theorem dL_searches_26 : decode cL_searches 26 = .ok (.iload_n 2, 1) := by decide +kernel
theorem dL_searches_27 : decode cL_searches 27 = .ok (.aload_n 0, 1) := by decide +kernel
theorem dL_searches_28 : decode cL_searches 28 = .ok (.iload_n 1, 1) := by decide +kernel
theorem dL_searches_29 : decode cL_searches 29 = .ok (.invokestatic 142, 3) := by decide +kernel
theorem dL_searches_32 : decode cL_searches 32 = .ok (.if_icmp .ne 30, 3) := by decide +kernel
theorem dL_searches_35 : decode cL_searches 35 = .ok (.aload_n 0, 1) := by decide +kernel
theorem dL_searches_36 : decode cL_searches 36 = .ok (.iload_n 1, 1) := by decide +kernel
theorem dL_searches_37 : decode cL_searches 37 = .ok (.invokestatic 144, 3) := by decide +kernel
theorem dL_searches_40 : decode cL_searches 40 = .ok (.aload_n 0, 1) := by decide +kernel
theorem dL_searches_41 : decode cL_searches 41 = .ok (.iload_n 1, 1) := by decide +kernel
theorem dL_searches_42 : decode cL_searches 42 = .ok (.invokestatic 146, 3) := by decide +kernel
theorem dL_searches_45 : decode cL_searches 45 = .ok (.if_icmp .ne 17, 3) := by decide +kernel
theorem dL_searches_48 : decode cL_searches 48 = .ok (.aload_n 0, 1) := by decide +kernel
theorem dL_searches_49 : decode cL_searches 49 = .ok (.iload_n 1, 1) := by decide +kernel
theorem dL_searches_50 : decode cL_searches 50 = .ok (.invokestatic 144, 3) := by decide +kernel
theorem dL_searches_53 : decode cL_searches 53 = .ok (.ifCond .ne 11, 3) := by decide +kernel
theorem dL_searches_56 : decode cL_searches 56 = .ok (.iload_n 2, 1) := by decide +kernel
theorem dL_searches_57 : decode cL_searches 57 = .ok (.bipush 7, 2) := by decide +kernel
theorem dL_searches_59 : decode cL_searches 59 = .ok (.if_icmp .ne 5, 3) := by decide +kernel
theorem dL_searches_62 : decode cL_searches 62 = .ok (.iconst 0, 1) := by decide +kernel
theorem dL_searches_63 : decode cL_searches 63 = .ok (.ireturn, 1) := by decide +kernel
theorem dL_searches_64 : decode cL_searches 64 = .ok (.iconst 0, 1) := by decide +kernel
theorem dL_searches_65 : decode cL_searches 65 = .ok (.istore_n 3, 1) := by decide +kernel
theorem dL_searches_66 : decode cL_searches 66 = .ok (.iload_n 3, 1) := by decide +kernel
theorem dL_searches_67 : decode cL_searches 67 = .ok (.aload_n 0, 1) := by decide +kernel
theorem dL_searches_68 : decode cL_searches 68 = .ok (.invokevirtual 125, 3) := by decide +kernel
theorem dL_searches_71 : decode cL_searches 71 = .ok (.if_icmp .ge 66, 3) := by decide +kernel
theorem dL_searches_74 : decode cL_searches 74 = .ok (.aload_n 0, 1) := by decide +kernel
theorem dL_searches_75 : decode cL_searches 75 = .ok (.iload_n 1, 1) := by decide +kernel
theorem dL_searches_76 : decode cL_searches 76 = .ok (.iload_n 3, 1) := by decide +kernel
theorem dL_searches_77 : decode cL_searches 77 = .ok (.invokestatic 148, 3) := by decide +kernel
theorem dL_searches_80 : decode cL_searches 80 = .ok (.istore 4, 2) := by decide +kernel
theorem dL_searches_82 : decode cL_searches 82 = .ok (.iload 4, 2) := by decide +kernel
theorem dL_searches_84 : decode cL_searches 84 = .ok (.aload_n 0, 1) := by decide +kernel
theorem dL_searches_85 : decode cL_searches 85 = .ok (.iload_n 1, 1) := by decide +kernel
theorem dL_searches_86 : decode cL_searches 86 = .ok (.iload_n 3, 1) := by decide +kernel
theorem dL_searches_87 : decode cL_searches 87 = .ok (.invokestatic 150, 3) := by decide +kernel
theorem dL_searches_90 : decode cL_searches 90 = .ok (.if_icmp .ne 39, 3) := by decide +kernel
theorem dL_searches_93 : decode cL_searches 93 = .ok (.iload 4, 2) := by decide +kernel
theorem dL_searches_95 : decode cL_searches 95 = .ok (.iconst 3, 1) := by decide +kernel
theorem dL_searches_96 : decode cL_searches 96 = .ok (.if_icmp .gt 33, 3) := by decide +kernel
theorem dL_searches_99 : decode cL_searches 99 = .ok (.iload 4, 2) := by decide +kernel
theorem dL_searches_101 : decode cL_searches 101 = .ok (.sipush (-1002), 3) := by decide +kernel
theorem dL_searches_104 : decode cL_searches 104 = .ok (.if_icmp .ne 7, 3) := by decide +kernel
theorem dL_searches_107 : decode cL_searches 107 = .ok (.iconst 1, 1) := by decide +kernel
theorem dL_searches_108 : decode cL_searches 108 = .ok (.goto 4, 3) := by decide +kernel
theorem dL_searches_111 : decode cL_searches 111 = .ok (.iconst 0, 1) := by decide +kernel
theorem dL_searches_112 : decode cL_searches 112 = .ok (.aload_n 0, 1) := by decide +kernel
theorem dL_searches_113 : decode cL_searches 113 = .ok (.iload_n 1, 1) := by decide +kernel
theorem dL_searches_114 : decode cL_searches 114 = .ok (.iload_n 3, 1) := by decide +kernel
theorem dL_searches_115 : decode cL_searches 115 = .ok (.invokestatic 128, 3) := by decide +kernel
theorem dL_searches_118 : decode cL_searches 118 = .ok (.ifCond .lt 7, 3) := by decide +kernel
theorem dL_searches_121 : decode cL_searches 121 = .ok (.iconst 1, 1) := by decide +kernel
theorem dL_searches_122 : decode cL_searches 122 = .ok (.goto 4, 3) := by decide +kernel
theorem dL_searches_125 : decode cL_searches 125 = .ok (.iconst 0, 1) := by decide +kernel
theorem dL_searches_126 : decode cL_searches 126 = .ok (.if_icmp .eq 5, 3) := by decide +kernel
theorem dL_searches_129 : decode cL_searches 129 = .ok (.iconst 0, 1) := by decide +kernel
theorem dL_searches_130 : decode cL_searches 130 = .ok (.ireturn, 1) := by decide +kernel
theorem dL_searches_131 : decode cL_searches 131 = .ok (.iinc 3 1, 3) := by decide +kernel
theorem dL_searches_134 : decode cL_searches 134 = .ok (.goto (-68), 3) := by decide +kernel
theorem dL_searches_137 : decode cL_searches 137 = .ok (.iinc 1 1, 3) := by decide +kernel
theorem dL_searches_140 : decode cL_searches 140 = .ok (.goto (-138), 3) := by decide +kernel
theorem dL_searches_143 : decode cL_searches 143 = .ok (.iconst 1, 1) := by decide +kernel
theorem dL_searches_144 : decode cL_searches 144 = .ok (.ireturn, 1) := by decide +kernel
theorem dL_leadsBack_0 : decode cL_leadsBack 0 = .ok (.aload_n 0, 1) := by decide +kernel
theorem dL_leadsBack_1 : decode cL_leadsBack 1 = .ok (.invokestatic 152, 3) := by decide +kernel
theorem dL_leadsBack_4 : decode cL_leadsBack 4 = .ok (.astore 5, 2) := by decide +kernel
theorem dL_leadsBack_6 : decode cL_leadsBack 6 = .ok (.iconst (-1), 1) := by decide +kernel
theorem dL_leadsBack_7 : decode cL_leadsBack 7 = .ok (.istore 6, 2) := by decide +kernel
theorem dL_leadsBack_9 : decode cL_leadsBack 9 = .ok (.iconst 0, 1) := by decide +kernel
theorem dL_leadsBack_10 : decode cL_leadsBack 10 = .ok (.istore 7, 2) := by decide +kernel
theorem dL_leadsBack_12 : decode cL_leadsBack 12 = .ok (.iload 7, 2) := by decide +kernel
theorem dL_leadsBack_14 : decode cL_leadsBack 14 = .ok (.aload_n 0, 1) := by decide +kernel
theorem dL_leadsBack_15 : decode cL_leadsBack 15 = .ok (.invokevirtual 119, 3) := by decide +kernel
theorem dL_leadsBack_18 : decode cL_leadsBack 18 = .ok (.if_icmp .ge 31, 3) := by decide +kernel
theorem dL_leadsBack_21 : decode cL_leadsBack 21 = .ok (.aload 5, 2) := by decide +kernel
theorem dL_leadsBack_23 : decode cL_leadsBack 23 = .ok (.iconst 4, 1) := by decide +kernel
theorem dL_leadsBack_24 : decode cL_leadsBack 24 = .ok (.iload_n 1, 1) := by decide +kernel
theorem dL_leadsBack_25 : decode cL_leadsBack 25 = .ok (.imul, 1) := by decide +kernel
theorem dL_leadsBack_26 : decode cL_leadsBack 26 = .ok (.iload 7, 2) := by decide +kernel
theorem dL_leadsBack_28 : decode cL_leadsBack 28 = .ok (.iadd, 1) := by decide +kernel
theorem dL_leadsBack_29 : decode cL_leadsBack 29 = .ok (.iaload, 1) := by decide +kernel
theorem dL_leadsBack_30 : decode cL_leadsBack 30 = .ok (.iload_n 2, 1) := by decide +kernel
theorem dL_leadsBack_31 : decode cL_leadsBack 31 = .ok (.if_icmp .ne 8, 3) := by decide +kernel
theorem dL_leadsBack_34 : decode cL_leadsBack 34 = .ok (.iload 7, 2) := by decide +kernel
theorem dL_leadsBack_36 : decode cL_leadsBack 36 = .ok (.goto 5, 3) := by decide +kernel
theorem dL_leadsBack_39 : decode cL_leadsBack 39 = .ok (.iload 6, 2) := by decide +kernel
theorem dL_leadsBack_41 : decode cL_leadsBack 41 = .ok (.istore 6, 2) := by decide +kernel
theorem dL_leadsBack_43 : decode cL_leadsBack 43 = .ok (.iinc 7 1, 3) := by decide +kernel
theorem dL_leadsBack_46 : decode cL_leadsBack 46 = .ok (.goto (-34), 3) := by decide +kernel
theorem dL_leadsBack_49 : decode cL_leadsBack 49 = .ok (.iload 6, 2) := by decide +kernel
theorem dL_leadsBack_51 : decode cL_leadsBack 51 = .ok (.ifCond .lt 33, 3) := by decide +kernel
theorem dL_leadsBack_54 : decode cL_leadsBack 54 = .ok (.aload_n 0, 1) := by decide +kernel
theorem dL_leadsBack_55 : decode cL_leadsBack 55 = .ok (.invokestatic 156, 3) := by decide +kernel
theorem dL_leadsBack_58 : decode cL_leadsBack 58 = .ok (.iload_n 3, 1) := by decide +kernel
theorem dL_leadsBack_59 : decode cL_leadsBack 59 = .ok (.if_icmp .ne 25, 3) := by decide +kernel
theorem dL_leadsBack_62 : decode cL_leadsBack 62 = .ok (.aload_n 0, 1) := by decide +kernel
theorem dL_leadsBack_63 : decode cL_leadsBack 63 = .ok (.iload_n 3, 1) := by decide +kernel
theorem dL_leadsBack_64 : decode cL_leadsBack 64 = .ok (.invokestatic 159, 3) := by decide +kernel
theorem dL_leadsBack_67 : decode cL_leadsBack 67 = .ok (.sipush (-1001), 3) := by decide +kernel
theorem dL_leadsBack_70 : decode cL_leadsBack 70 = .ok (.if_icmp .ne 14, 3) := by decide +kernel
theorem dL_leadsBack_73 : decode cL_leadsBack 73 = .ok (.aload_n 0, 1) := by decide +kernel
theorem dL_leadsBack_74 : decode cL_leadsBack 74 = .ok (.iconst (-1), 1) := by decide +kernel
theorem dL_leadsBack_75 : decode cL_leadsBack 75 = .ok (.invokestatic 161, 3) := by decide +kernel
theorem dL_leadsBack_78 : decode cL_leadsBack 78 = .ok (.sipush (-1001), 3) := by decide +kernel
theorem dL_leadsBack_81 : decode cL_leadsBack 81 = .ok (.if_icmp .eq 5, 3) := by decide +kernel
theorem dL_leadsBack_84 : decode cL_leadsBack 84 = .ok (.iconst 0, 1) := by decide +kernel
theorem dL_leadsBack_85 : decode cL_leadsBack 85 = .ok (.ireturn, 1) := by decide +kernel
theorem dL_leadsBack_86 : decode cL_leadsBack 86 = .ok (.aload 5, 2) := by decide +kernel
theorem dL_leadsBack_88 : decode cL_leadsBack 88 = .ok (.iconst 4, 1) := by decide +kernel
theorem dL_leadsBack_89 : decode cL_leadsBack 89 = .ok (.iload_n 1, 1) := by decide +kernel
theorem dL_leadsBack_90 : decode cL_leadsBack 90 = .ok (.imul, 1) := by decide +kernel
theorem dL_leadsBack_91 : decode cL_leadsBack 91 = .ok (.iload 6, 2) := by decide +kernel
theorem dL_leadsBack_93 : decode cL_leadsBack 93 = .ok (.iadd, 1) := by decide +kernel
theorem dL_leadsBack_94 : decode cL_leadsBack 94 = .ok (.iconst (-1), 1) := by decide +kernel
theorem dL_leadsBack_95 : decode cL_leadsBack 95 = .ok (.iastore, 1) := by decide +kernel
theorem dL_leadsBack_96 : decode cL_leadsBack 96 = .ok (.iload 6, 2) := by decide +kernel
theorem dL_leadsBack_98 : decode cL_leadsBack 98 = .ok (.istore 7, 2) := by decide +kernel
theorem dL_leadsBack_100 : decode cL_leadsBack 100 = .ok (.iconst 0, 1) := by decide +kernel
theorem dL_leadsBack_101 : decode cL_leadsBack 101 = .ok (.istore 8, 2) := by decide +kernel
theorem dL_leadsBack_103 : decode cL_leadsBack 103 = .ok (.iload 8, 2) := by decide +kernel
theorem dL_leadsBack_105 : decode cL_leadsBack 105 = .ok (.iload_n 3, 1) := by decide +kernel
theorem dL_leadsBack_106 : decode cL_leadsBack 106 = .ok (.if_icmp .ge 97, 3) := by decide +kernel
theorem dL_leadsBack_109 : decode cL_leadsBack 109 = .ok (.aload_n 0, 1) := by decide +kernel
theorem dL_leadsBack_110 : decode cL_leadsBack 110 = .ok (.iload 8, 2) := by decide +kernel
theorem dL_leadsBack_112 : decode cL_leadsBack 112 = .ok (.invokestatic 159, 3) := by decide +kernel
theorem dL_leadsBack_115 : decode cL_leadsBack 115 = .ok (.istore 9, 2) := by decide +kernel
theorem dL_leadsBack_117 : decode cL_leadsBack 117 = .ok (.aload_n 0, 1) := by decide +kernel
theorem dL_leadsBack_118 : decode cL_leadsBack 118 = .ok (.iload 8, 2) := by decide +kernel
theorem dL_leadsBack_120 : decode cL_leadsBack 120 = .ok (.invokestatic 161, 3) := by decide +kernel
theorem dL_leadsBack_123 : decode cL_leadsBack 123 = .ok (.istore 10, 2) := by decide +kernel
theorem dL_leadsBack_125 : decode cL_leadsBack 125 = .ok (.iload 9, 2) := by decide +kernel
theorem dL_leadsBack_127 : decode cL_leadsBack 127 = .ok (.ifCond .lt 42, 3) := by decide +kernel
theorem dL_leadsBack_130 : decode cL_leadsBack 130 = .ok (.iload 9, 2) := by decide +kernel
theorem dL_leadsBack_132 : decode cL_leadsBack 132 = .ok (.iload_n 1, 1) := by decide +kernel
theorem dL_leadsBack_133 : decode cL_leadsBack 133 = .ok (.if_icmp .eq 36, 3) := by decide +kernel
theorem dL_leadsBack_136 : decode cL_leadsBack 136 = .ok (.iload 10, 2) := by decide +kernel
theorem dL_leadsBack_138 : decode cL_leadsBack 138 = .ok (.ifCond .lt 31, 3) := by decide +kernel
theorem dL_leadsBack_141 : decode cL_leadsBack 141 = .ok (.aload 5, 2) := by decide +kernel
theorem dL_leadsBack_143 : decode cL_leadsBack 143 = .ok (.iconst 4, 1) := by decide +kernel
theorem dL_leadsBack_144 : decode cL_leadsBack 144 = .ok (.iload 9, 2) := by decide +kernel
theorem dL_leadsBack_146 : decode cL_leadsBack 146 = .ok (.imul, 1) := by decide +kernel
theorem dL_leadsBack_147 : decode cL_leadsBack 147 = .ok (.iload 10, 2) := by decide +kernel
theorem dL_leadsBack_149 : decode cL_leadsBack 149 = .ok (.iadd, 1) := by decide +kernel
theorem dL_leadsBack_150 : decode cL_leadsBack 150 = .ok (.iaload, 1) := by decide +kernel
theorem dL_leadsBack_151 : decode cL_leadsBack 151 = .ok (.iload_n 2, 1) := by decide +kernel
theorem dL_leadsBack_152 : decode cL_leadsBack 152 = .ok (.if_icmp .ne 17, 3) := by decide +kernel
theorem dL_leadsBack_155 : decode cL_leadsBack 155 = .ok (.aload 5, 2) := by decide +kernel
theorem dL_leadsBack_157 : decode cL_leadsBack 157 = .ok (.iconst 4, 1) := by decide +kernel
theorem dL_leadsBack_158 : decode cL_leadsBack 158 = .ok (.iload 9, 2) := by decide +kernel
theorem dL_leadsBack_160 : decode cL_leadsBack 160 = .ok (.imul, 1) := by decide +kernel
theorem dL_leadsBack_161 : decode cL_leadsBack 161 = .ok (.iload 7, 2) := by decide +kernel
theorem dL_leadsBack_163 : decode cL_leadsBack 163 = .ok (.iadd, 1) := by decide +kernel
theorem dL_leadsBack_164 : decode cL_leadsBack 164 = .ok (.iaload, 1) := by decide +kernel
theorem dL_leadsBack_165 : decode cL_leadsBack 165 = .ok (.iconst (-1), 1) := by decide +kernel
theorem dL_leadsBack_166 : decode cL_leadsBack 166 = .ok (.if_icmp .eq 5, 3) := by decide +kernel
theorem dL_leadsBack_169 : decode cL_leadsBack 169 = .ok (.iconst 0, 1) := by decide +kernel
theorem dL_leadsBack_170 : decode cL_leadsBack 170 = .ok (.ireturn, 1) := by decide +kernel
theorem dL_leadsBack_171 : decode cL_leadsBack 171 = .ok (.aload 5, 2) := by decide +kernel
theorem dL_leadsBack_173 : decode cL_leadsBack 173 = .ok (.iconst 4, 1) := by decide +kernel
theorem dL_leadsBack_174 : decode cL_leadsBack 174 = .ok (.iload 9, 2) := by decide +kernel
theorem dL_leadsBack_176 : decode cL_leadsBack 176 = .ok (.imul, 1) := by decide +kernel
theorem dL_leadsBack_177 : decode cL_leadsBack 177 = .ok (.iload 10, 2) := by decide +kernel
theorem dL_leadsBack_179 : decode cL_leadsBack 179 = .ok (.iadd, 1) := by decide +kernel
theorem dL_leadsBack_180 : decode cL_leadsBack 180 = .ok (.iconst (-1), 1) := by decide +kernel
theorem dL_leadsBack_181 : decode cL_leadsBack 181 = .ok (.iastore, 1) := by decide +kernel
theorem dL_leadsBack_182 : decode cL_leadsBack 182 = .ok (.aload 5, 2) := by decide +kernel
theorem dL_leadsBack_184 : decode cL_leadsBack 184 = .ok (.iconst 4, 1) := by decide +kernel
theorem dL_leadsBack_185 : decode cL_leadsBack 185 = .ok (.iload 9, 2) := by decide +kernel
theorem dL_leadsBack_187 : decode cL_leadsBack 187 = .ok (.imul, 1) := by decide +kernel
theorem dL_leadsBack_188 : decode cL_leadsBack 188 = .ok (.iload 7, 2) := by decide +kernel
theorem dL_leadsBack_190 : decode cL_leadsBack 190 = .ok (.iadd, 1) := by decide +kernel
theorem dL_leadsBack_191 : decode cL_leadsBack 191 = .ok (.iload_n 2, 1) := by decide +kernel
theorem dL_leadsBack_192 : decode cL_leadsBack 192 = .ok (.iastore, 1) := by decide +kernel
theorem dL_leadsBack_193 : decode cL_leadsBack 193 = .ok (.iload 10, 2) := by decide +kernel
theorem dL_leadsBack_195 : decode cL_leadsBack 195 = .ok (.istore 7, 2) := by decide +kernel
theorem dL_leadsBack_197 : decode cL_leadsBack 197 = .ok (.iinc 8 1, 3) := by decide +kernel
theorem dL_leadsBack_200 : decode cL_leadsBack 200 = .ok (.goto (-97), 3) := by decide +kernel
theorem dL_leadsBack_203 : decode cL_leadsBack 203 = .ok (.aload 5, 2) := by decide +kernel
theorem dL_leadsBack_205 : decode cL_leadsBack 205 = .ok (.aload 4, 2) := by decide +kernel
theorem dL_leadsBack_207 : decode cL_leadsBack 207 = .ok (.invokestatic 163, 3) := by decide +kernel
theorem dL_leadsBack_210 : decode cL_leadsBack 210 = .ok (.ireturn, 1) := by decide +kernel
theorem dL_joins_0 : decode cL_joins 0 = .ok (.aload_n 0, 1) := by decide +kernel
theorem dL_joins_1 : decode cL_joins 1 = .ok (.invokestatic 152, 3) := by decide +kernel
theorem dL_joins_4 : decode cL_joins 4 = .ok (.astore_n 3, 1) := by decide +kernel
theorem dL_joins_5 : decode cL_joins 5 = .ok (.aload_n 0, 1) := by decide +kernel
theorem dL_joins_6 : decode cL_joins 6 = .ok (.iload_n 1, 1) := by decide +kernel
theorem dL_joins_7 : decode cL_joins 7 = .ok (.iload_n 2, 1) := by decide +kernel
theorem dL_joins_8 : decode cL_joins 8 = .ok (.invokestatic 148, 3) := by decide +kernel
theorem dL_joins_11 : decode cL_joins 11 = .ok (.istore 4, 2) := by decide +kernel
theorem dL_joins_13 : decode cL_joins 13 = .ok (.aload_n 0, 1) := by decide +kernel
theorem dL_joins_14 : decode cL_joins 14 = .ok (.iload_n 1, 1) := by decide +kernel
theorem dL_joins_15 : decode cL_joins 15 = .ok (.iload_n 2, 1) := by decide +kernel
theorem dL_joins_16 : decode cL_joins 16 = .ok (.invokestatic 167, 3) := by decide +kernel
theorem dL_joins_19 : decode cL_joins 19 = .ok (.istore 5, 2) := by decide +kernel
theorem dL_joins_21 : decode cL_joins 21 = .ok (.iload 4, 2) := by decide +kernel
theorem dL_joins_23 : decode cL_joins 23 = .ok (.ifCond .ge 51, 3) := by decide +kernel
theorem dL_joins_26 : decode cL_joins 26 = .ok (.iload 5, 2) := by decide +kernel
theorem dL_joins_28 : decode cL_joins 28 = .ok (.iload 4, 2) := by decide +kernel
theorem dL_joins_30 : decode cL_joins 30 = .ok (.if_icmp .ne 42, 3) := by decide +kernel
theorem dL_joins_33 : decode cL_joins 33 = .ok (.aload_n 0, 1) := by decide +kernel
theorem dL_joins_34 : decode cL_joins 34 = .ok (.invokestatic 152, 3) := by decide +kernel
theorem dL_joins_37 : decode cL_joins 37 = .ok (.aload_n 3, 1) := by decide +kernel
theorem dL_joins_38 : decode cL_joins 38 = .ok (.invokestatic 163, 3) := by decide +kernel
theorem dL_joins_41 : decode cL_joins 41 = .ok (.ifCond .eq 31, 3) := by decide +kernel
theorem dL_joins_44 : decode cL_joins 44 = .ok (.iload 5, 2) := by decide +kernel
theorem dL_joins_46 : decode cL_joins 46 = .ok (.sipush (-1002), 3) := by decide +kernel
theorem dL_joins_49 : decode cL_joins 49 = .ok (.if_icmp .eq 19, 3) := by decide +kernel
theorem dL_joins_52 : decode cL_joins 52 = .ok (.aload_n 0, 1) := by decide +kernel
theorem dL_joins_53 : decode cL_joins 53 = .ok (.invokestatic 169, 3) := by decide +kernel
theorem dL_joins_56 : decode cL_joins 56 = .ok (.iconst 1, 1) := by decide +kernel
theorem dL_joins_57 : decode cL_joins 57 = .ok (.if_icmp .lt 15, 3) := by decide +kernel
theorem dL_joins_60 : decode cL_joins 60 = .ok (.aload_n 0, 1) := by decide +kernel
theorem dL_joins_61 : decode cL_joins 61 = .ok (.invokestatic 169, 3) := by decide +kernel
theorem dL_joins_64 : decode cL_joins 64 = .ok (.iconst 3, 1) := by decide +kernel
theorem dL_joins_65 : decode cL_joins 65 = .ok (.if_icmp .gt 7, 3) := by decide +kernel
theorem dL_joins_68 : decode cL_joins 68 = .ok (.iconst 1, 1) := by decide +kernel
theorem dL_joins_69 : decode cL_joins 69 = .ok (.goto 4, 3) := by decide +kernel
theorem dL_joins_72 : decode cL_joins 72 = .ok (.iconst 0, 1) := by decide +kernel
theorem dL_joins_73 : decode cL_joins 73 = .ok (.ireturn, 1) := by decide +kernel
theorem dL_joins_74 : decode cL_joins 74 = .ok (.iload 5, 2) := by decide +kernel
theorem dL_joins_76 : decode cL_joins 76 = .ok (.iload 4, 2) := by decide +kernel
theorem dL_joins_78 : decode cL_joins 78 = .ok (.if_icmp .ne 48, 3) := by decide +kernel
theorem dL_joins_81 : decode cL_joins 81 = .ok (.aload_n 0, 1) := by decide +kernel
theorem dL_joins_82 : decode cL_joins 82 = .ok (.iload_n 1, 1) := by decide +kernel
theorem dL_joins_83 : decode cL_joins 83 = .ok (.iload_n 2, 1) := by decide +kernel
theorem dL_joins_84 : decode cL_joins 84 = .ok (.iload 4, 2) := by decide +kernel
theorem dL_joins_86 : decode cL_joins 86 = .ok (.aload_n 3, 1) := by decide +kernel
theorem dL_joins_87 : decode cL_joins 87 = .ok (.invokestatic 171, 3) := by decide +kernel
theorem dL_joins_90 : decode cL_joins 90 = .ok (.ifCond .eq 36, 3) := by decide +kernel
theorem dL_joins_93 : decode cL_joins 93 = .ok (.aload_n 0, 1) := by decide +kernel
theorem dL_joins_94 : decode cL_joins 94 = .ok (.invokestatic 175, 3) := by decide +kernel
theorem dL_joins_97 : decode cL_joins 97 = .ok (.ifCond .lt 29, 3) := by decide +kernel
theorem dL_joins_100 : decode cL_joins 100 = .ok (.aload_n 0, 1) := by decide +kernel
theorem dL_joins_101 : decode cL_joins 101 = .ok (.invokestatic 152, 3) := by decide +kernel
theorem dL_joins_104 : decode cL_joins 104 = .ok (.aload_n 3, 1) := by decide +kernel
theorem dL_joins_105 : decode cL_joins 105 = .ok (.invokestatic 163, 3) := by decide +kernel
theorem dL_joins_108 : decode cL_joins 108 = .ok (.ifCond .eq 18, 3) := by decide +kernel
theorem dL_joins_111 : decode cL_joins 111 = .ok (.aload_n 0, 1) := by decide +kernel
theorem dL_joins_112 : decode cL_joins 112 = .ok (.iload_n 1, 1) := by decide +kernel
theorem dL_joins_113 : decode cL_joins 113 = .ok (.iload_n 2, 1) := by decide +kernel
theorem dL_joins_114 : decode cL_joins 114 = .ok (.invokestatic 167, 3) := by decide +kernel
theorem dL_joins_117 : decode cL_joins 117 = .ok (.iload 4, 2) := by decide +kernel
theorem dL_joins_119 : decode cL_joins 119 = .ok (.if_icmp .ne 7, 3) := by decide +kernel
theorem dL_joins_122 : decode cL_joins 122 = .ok (.iconst 1, 1) := by decide +kernel
theorem dL_joins_123 : decode cL_joins 123 = .ok (.goto 4, 3) := by decide +kernel
theorem dL_joins_126 : decode cL_joins 126 = .ok (.iconst 0, 1) := by decide +kernel
theorem dL_joins_127 : decode cL_joins 127 = .ok (.ireturn, 1) := by decide +kernel
theorem dL_changes_0 : decode cL_changes 0 = .ok (.aload_n 0, 1) := by decide +kernel
theorem dL_changes_1 : decode cL_changes 1 = .ok (.invokestatic 152, 3) := by decide +kernel
theorem dL_changes_4 : decode cL_changes 4 = .ok (.astore 4, 2) := by decide +kernel
theorem dL_changes_6 : decode cL_changes 6 = .ok (.aload_n 0, 1) := by decide +kernel
theorem dL_changes_7 : decode cL_changes 7 = .ok (.iload_n 1, 1) := by decide +kernel
theorem dL_changes_8 : decode cL_changes 8 = .ok (.iload_n 2, 1) := by decide +kernel
theorem dL_changes_9 : decode cL_changes 9 = .ok (.invokestatic 128, 3) := by decide +kernel
theorem dL_changes_12 : decode cL_changes 12 = .ok (.ifCond .lt 16, 3) := by decide +kernel
theorem dL_changes_15 : decode cL_changes 15 = .ok (.aload_n 0, 1) := by decide +kernel
theorem dL_changes_16 : decode cL_changes 16 = .ok (.iload_n 1, 1) := by decide +kernel
theorem dL_changes_17 : decode cL_changes 17 = .ok (.iload_n 3, 1) := by decide +kernel
theorem dL_changes_18 : decode cL_changes 18 = .ok (.invokestatic 128, 3) := by decide +kernel
theorem dL_changes_21 : decode cL_changes 21 = .ok (.ifCond .ge 7, 3) := by decide +kernel
theorem dL_changes_24 : decode cL_changes 24 = .ok (.iconst 1, 1) := by decide +kernel
theorem dL_changes_25 : decode cL_changes 25 = .ok (.goto 4, 3) := by decide +kernel
theorem dL_changes_28 : decode cL_changes 28 = .ok (.iconst 0, 1) := by decide +kernel
theorem dL_changes_29 : decode cL_changes 29 = .ok (.istore 5, 2) := by decide +kernel
theorem dL_changes_31 : decode cL_changes 31 = .ok (.aload_n 0, 1) := by decide +kernel
theorem dL_changes_32 : decode cL_changes 32 = .ok (.iload_n 1, 1) := by decide +kernel
theorem dL_changes_33 : decode cL_changes 33 = .ok (.iload_n 2, 1) := by decide +kernel
theorem dL_changes_34 : decode cL_changes 34 = .ok (.iload_n 3, 1) := by decide +kernel
theorem dL_changes_35 : decode cL_changes 35 = .ok (.invokestatic 177, 3) := by decide +kernel
theorem dL_changes_38 : decode cL_changes 38 = .ok (.istore 6, 2) := by decide +kernel
theorem dL_changes_40 : decode cL_changes 40 = .ok (.iload 5, 2) := by decide +kernel
theorem dL_changes_42 : decode cL_changes 42 = .ok (.ifCond .ne 29, 3) := by decide +kernel
theorem dL_changes_45 : decode cL_changes 45 = .ok (.iload 6, 2) := by decide +kernel
theorem dL_changes_47 : decode cL_changes 47 = .ok (.sipush (-1002), 3) := by decide +kernel
theorem dL_changes_50 : decode cL_changes 50 = .ok (.if_icmp .ne 19, 3) := by decide +kernel
theorem dL_changes_53 : decode cL_changes 53 = .ok (.aload_n 0, 1) := by decide +kernel
theorem dL_changes_54 : decode cL_changes 54 = .ok (.invokestatic 152, 3) := by decide +kernel
theorem dL_changes_57 : decode cL_changes 57 = .ok (.aload 4, 2) := by decide +kernel
theorem dL_changes_59 : decode cL_changes 59 = .ok (.invokestatic 163, 3) := by decide +kernel
theorem dL_changes_62 : decode cL_changes 62 = .ok (.ifCond .eq 7, 3) := by decide +kernel
theorem dL_changes_65 : decode cL_changes 65 = .ok (.iconst 1, 1) := by decide +kernel
theorem dL_changes_66 : decode cL_changes 66 = .ok (.goto 4, 3) := by decide +kernel
theorem dL_changes_69 : decode cL_changes 69 = .ok (.iconst 0, 1) := by decide +kernel
theorem dL_changes_70 : decode cL_changes 70 = .ok (.ireturn, 1) := by decide +kernel
theorem dL_changes_71 : decode cL_changes 71 = .ok (.iload 6, 2) := by decide +kernel
theorem dL_changes_73 : decode cL_changes 73 = .ok (.ifCond .ge 29, 3) := by decide +kernel
theorem dL_changes_76 : decode cL_changes 76 = .ok (.iload 6, 2) := by decide +kernel
theorem dL_changes_78 : decode cL_changes 78 = .ok (.sipush (-1003), 3) := by decide +kernel
theorem dL_changes_81 : decode cL_changes 81 = .ok (.if_icmp .ne 19, 3) := by decide +kernel
theorem dL_changes_84 : decode cL_changes 84 = .ok (.aload_n 0, 1) := by decide +kernel
theorem dL_changes_85 : decode cL_changes 85 = .ok (.invokestatic 152, 3) := by decide +kernel
theorem dL_changes_88 : decode cL_changes 88 = .ok (.aload 4, 2) := by decide +kernel
theorem dL_changes_90 : decode cL_changes 90 = .ok (.invokestatic 163, 3) := by decide +kernel
theorem dL_changes_93 : decode cL_changes 93 = .ok (.ifCond .eq 7, 3) := by decide +kernel
theorem dL_changes_96 : decode cL_changes 96 = .ok (.iconst 1, 1) := by decide +kernel
theorem dL_changes_97 : decode cL_changes 97 = .ok (.goto 4, 3) := by decide +kernel
theorem dL_changes_100 : decode cL_changes 100 = .ok (.iconst 0, 1) := by decide +kernel
theorem dL_changes_101 : decode cL_changes 101 = .ok (.ireturn, 1) := by decide +kernel
theorem dL_changes_102 : decode cL_changes 102 = .ok (.aload_n 0, 1) := by decide +kernel
theorem dL_changes_103 : decode cL_changes 103 = .ok (.iload_n 1, 1) := by decide +kernel
theorem dL_changes_104 : decode cL_changes 104 = .ok (.iload_n 2, 1) := by decide +kernel
theorem dL_changes_105 : decode cL_changes 105 = .ok (.invokestatic 128, 3) := by decide +kernel
theorem dL_changes_108 : decode cL_changes 108 = .ok (.ifCond .ge 25, 3) := by decide +kernel
theorem dL_changes_111 : decode cL_changes 111 = .ok (.aload_n 0, 1) := by decide +kernel
theorem dL_changes_112 : decode cL_changes 112 = .ok (.iload_n 1, 1) := by decide +kernel
theorem dL_changes_113 : decode cL_changes 113 = .ok (.iload_n 3, 1) := by decide +kernel
theorem dL_changes_114 : decode cL_changes 114 = .ok (.invokestatic 128, 3) := by decide +kernel
theorem dL_changes_117 : decode cL_changes 117 = .ok (.ifCond .lt 16, 3) := by decide +kernel
theorem dL_changes_120 : decode cL_changes 120 = .ok (.aload_n 0, 1) := by decide +kernel
theorem dL_changes_121 : decode cL_changes 121 = .ok (.invokestatic 156, 3) := by decide +kernel
theorem dL_changes_124 : decode cL_changes 124 = .ok (.iload 6, 2) := by decide +kernel
theorem dL_changes_126 : decode cL_changes 126 = .ok (.if_icmp .ne 7, 3) := by decide +kernel
theorem dL_changes_129 : decode cL_changes 129 = .ok (.iconst 1, 1) := by decide +kernel
theorem dL_changes_130 : decode cL_changes 130 = .ok (.goto 4, 3) := by decide +kernel
theorem dL_changes_133 : decode cL_changes 133 = .ok (.iconst 0, 1) := by decide +kernel
theorem dL_changes_134 : decode cL_changes 134 = .ok (.ireturn, 1) := by decide +kernel
theorem dL_law_0 : decode cL_law 0 = .ok (.new 15, 3) := by decide +kernel
theorem dL_law_3 : decode cL_law 3 = .ok (.dup, 1) := by decide +kernel
theorem dL_law_4 : decode cL_law 4 = .ok (.invokespecial 179, 3) := by decide +kernel
theorem dL_law_7 : decode cL_law 7 = .ok (.astore_n 1, 1) := by decide +kernel
theorem dL_law_8 : decode cL_law 8 = .ok (.iconst 1, 1) := by decide +kernel
theorem dL_law_9 : decode cL_law 9 = .ok (.aload_n 0, 1) := by decide +kernel
theorem dL_law_10 : decode cL_law 10 = .ok (.iconst 0, 1) := by decide +kernel
theorem dL_law_11 : decode cL_law 11 = .ok (.iconst 5, 1) := by decide +kernel
theorem dL_law_12 : decode cL_law 12 = .ok (.invokestatic 180, 3) := by decide +kernel
theorem dL_law_15 : decode cL_law 15 = .ok (.iadd, 1) := by decide +kernel
theorem dL_law_16 : decode cL_law 16 = .ok (.istore_n 2, 1) := by decide +kernel
theorem dL_law_17 : decode cL_law 17 = .ok (.iconst 1, 1) := by decide +kernel
theorem dL_law_18 : decode cL_law 18 = .ok (.aload_n 0, 1) := by decide +kernel
theorem dL_law_19 : decode cL_law 19 = .ok (.iconst 1, 1) := by decide +kernel
theorem dL_law_20 : decode cL_law 20 = .ok (.bipush 8, 2) := by decide +kernel
theorem dL_law_22 : decode cL_law 22 = .ok (.invokestatic 180, 3) := by decide +kernel
theorem dL_law_25 : decode cL_law 25 = .ok (.iadd, 1) := by decide +kernel
theorem dL_law_26 : decode cL_law 26 = .ok (.istore_n 3, 1) := by decide +kernel
theorem dL_law_27 : decode cL_law 27 = .ok (.iconst 1, 1) := by decide +kernel
theorem dL_law_28 : decode cL_law 28 = .ok (.aload_n 0, 1) := by decide +kernel
theorem dL_law_29 : decode cL_law 29 = .ok (.iconst 2, 1) := by decide +kernel
theorem dL_law_30 : decode cL_law 30 = .ok (.iconst 4, 1) := by decide +kernel
theorem dL_law_31 : decode cL_law 31 = .ok (.invokestatic 180, 3) := by decide +kernel
theorem dL_law_34 : decode cL_law 34 = .ok (.iadd, 1) := by decide +kernel
theorem dL_law_35 : decode cL_law 35 = .ok (.istore 4, 2) := by decide +kernel
theorem dL_law_37 : decode cL_law 37 = .ok (.aload_n 1, 1) := by decide +kernel
theorem dL_law_38 : decode cL_law 38 = .ok (.iload 4, 2) := by decide +kernel
theorem dL_law_40 : decode cL_law 40 = .ok (.invokestatic 184, 3) := by decide +kernel
theorem dL_law_43 : decode cL_law 43 = .ok (.iconst 3, 1) := by decide +kernel
theorem dL_law_44 : decode cL_law 44 = .ok (.if_icmp .eq 5, 3) := by decide +kernel
theorem dL_law_47 : decode cL_law 47 = .ok (.iconst 0, 1) := by decide +kernel
theorem dL_law_48 : decode cL_law 48 = .ok (.ireturn, 1) := by decide +kernel
theorem dL_law_49 : decode cL_law 49 = .ok (.iconst 0, 1) := by decide +kernel
theorem dL_law_50 : decode cL_law 50 = .ok (.istore 5, 2) := by decide +kernel
theorem dL_law_52 : decode cL_law 52 = .ok (.iload 5, 2) := by decide +kernel
theorem dL_law_54 : decode cL_law 54 = .ok (.iload_n 2, 1) := by decide +kernel
theorem dL_law_55 : decode cL_law 55 = .ok (.if_icmp .ge 78, 3) := by decide +kernel
theorem dL_law_58 : decode cL_law 58 = .ok (.aload_n 1, 1) := by decide +kernel
theorem dL_law_59 : decode cL_law 59 = .ok (.iconst 1, 1) := by decide +kernel
theorem dL_law_60 : decode cL_law 60 = .ok (.aload_n 0, 1) := by decide +kernel
theorem dL_law_61 : decode cL_law 61 = .ok (.iconst 3, 1) := by decide +kernel
theorem dL_law_62 : decode cL_law 62 = .ok (.iload 5, 2) := by decide +kernel
theorem dL_law_64 : decode cL_law 64 = .ok (.iadd, 1) := by decide +kernel
theorem dL_law_65 : decode cL_law 65 = .ok (.iconst 3, 1) := by decide +kernel
theorem dL_law_66 : decode cL_law 66 = .ok (.invokestatic 180, 3) := by decide +kernel
theorem dL_law_69 : decode cL_law 69 = .ok (.iadd, 1) := by decide +kernel
theorem dL_law_70 : decode cL_law 70 = .ok (.invokestatic 186, 3) := by decide +kernel
theorem dL_law_73 : decode cL_law 73 = .ok (.iload 5, 2) := by decide +kernel
theorem dL_law_75 : decode cL_law 75 = .ok (.if_icmp .eq 5, 3) := by decide +kernel
theorem dL_law_78 : decode cL_law 78 = .ok (.iconst 0, 1) := by decide +kernel
theorem dL_law_79 : decode cL_law 79 = .ok (.ireturn, 1) := by decide +kernel
theorem dL_law_80 : decode cL_law 80 = .ok (.iconst 0, 1) := by decide +kernel
theorem dL_law_81 : decode cL_law 81 = .ok (.istore 6, 2) := by decide +kernel
theorem dL_law_83 : decode cL_law 83 = .ok (.iload 6, 2) := by decide +kernel
theorem dL_law_85 : decode cL_law 85 = .ok (.iload 4, 2) := by decide +kernel
theorem dL_law_87 : decode cL_law 87 = .ok (.if_icmp .ge 40, 3) := by decide +kernel
theorem dL_law_90 : decode cL_law 90 = .ok (.aload_n 0, 1) := by decide +kernel
theorem dL_law_91 : decode cL_law 91 = .ok (.bipush 8, 2) := by decide +kernel
theorem dL_law_93 : decode cL_law 93 = .ok (.iload 5, 2) := by decide +kernel
theorem dL_law_95 : decode cL_law 95 = .ok (.iadd, 1) := by decide +kernel
theorem dL_law_96 : decode cL_law 96 = .ok (.invokestatic 8, 3) := by decide +kernel
theorem dL_law_99 : decode cL_law 99 = .ok (.iload 6, 2) := by decide +kernel
theorem dL_law_101 : decode cL_law 101 = .ok (.ishr, 1) := by decide +kernel
theorem dL_law_102 : decode cL_law 102 = .ok (.iconst 1, 1) := by decide +kernel
theorem dL_law_103 : decode cL_law 103 = .ok (.iand, 1) := by decide +kernel
theorem dL_law_104 : decode cL_law 104 = .ok (.ifCond .ne 17, 3) := by decide +kernel
theorem dL_law_107 : decode cL_law 107 = .ok (.aload_n 1, 1) := by decide +kernel
theorem dL_law_108 : decode cL_law 108 = .ok (.iload 5, 2) := by decide +kernel
theorem dL_law_110 : decode cL_law 110 = .ok (.iload 6, 2) := by decide +kernel
theorem dL_law_112 : decode cL_law 112 = .ok (.invokestatic 188, 3) := by decide +kernel
theorem dL_law_115 : decode cL_law 115 = .ok (.iconst 1, 1) := by decide +kernel
theorem dL_law_116 : decode cL_law 116 = .ok (.if_icmp .ge 5, 3) := by decide +kernel
theorem dL_law_119 : decode cL_law 119 = .ok (.iconst 0, 1) := by decide +kernel
theorem dL_law_120 : decode cL_law 120 = .ok (.ireturn, 1) := by decide +kernel
theorem dL_law_121 : decode cL_law 121 = .ok (.iinc 6 1, 3) := by decide +kernel
theorem dL_law_124 : decode cL_law 124 = .ok (.goto (-41), 3) := by decide +kernel
theorem dL_law_127 : decode cL_law 127 = .ok (.iinc 5 1, 3) := by decide +kernel
theorem dL_law_130 : decode cL_law 130 = .ok (.goto (-78), 3) := by decide +kernel
theorem dL_law_133 : decode cL_law 133 = .ok (.iconst 0, 1) := by decide +kernel
theorem dL_law_134 : decode cL_law 134 = .ok (.istore 5, 2) := by decide +kernel
theorem dL_law_136 : decode cL_law 136 = .ok (.iload 5, 2) := by decide +kernel
theorem dL_law_138 : decode cL_law 138 = .ok (.iload_n 3, 1) := by decide +kernel
theorem dL_law_139 : decode cL_law 139 = .ok (.if_icmp .ge 90, 3) := by decide +kernel
theorem dL_law_142 : decode cL_law 142 = .ok (.aload_n 1, 1) := by decide +kernel
theorem dL_law_143 : decode cL_law 143 = .ok (.invokestatic 190, 3) := by decide +kernel
theorem dL_law_146 : decode cL_law 146 = .ok (.iload 5, 2) := by decide +kernel
theorem dL_law_148 : decode cL_law 148 = .ok (.if_icmp .eq 5, 3) := by decide +kernel
theorem dL_law_151 : decode cL_law 151 = .ok (.iconst 0, 1) := by decide +kernel
theorem dL_law_152 : decode cL_law 152 = .ok (.ireturn, 1) := by decide +kernel
theorem dL_law_153 : decode cL_law 153 = .ok (.iconst 0, 1) := by decide +kernel
theorem dL_law_154 : decode cL_law 154 = .ok (.istore 6, 2) := by decide +kernel
theorem dL_law_156 : decode cL_law 156 = .ok (.iload 6, 2) := by decide +kernel
theorem dL_law_158 : decode cL_law 158 = .ok (.iconst 3, 1) := by decide +kernel
theorem dL_law_159 : decode cL_law 159 = .ok (.if_icmp .ge 38, 3) := by decide +kernel
theorem dL_law_162 : decode cL_law 162 = .ok (.aload_n 1, 1) := by decide +kernel
theorem dL_law_163 : decode cL_law 163 = .ok (.iload 5, 2) := by decide +kernel
theorem dL_law_165 : decode cL_law 165 = .ok (.aload_n 0, 1) := by decide +kernel
theorem dL_law_166 : decode cL_law 166 = .ok (.bipush 13, 2) := by decide +kernel
theorem dL_law_168 : decode cL_law 168 = .ok (.iconst 4, 1) := by decide +kernel
theorem dL_law_169 : decode cL_law 169 = .ok (.iload 5, 2) := by decide +kernel
theorem dL_law_171 : decode cL_law 171 = .ok (.imul, 1) := by decide +kernel
theorem dL_law_172 : decode cL_law 172 = .ok (.iadd, 1) := by decide +kernel
theorem dL_law_173 : decode cL_law 173 = .ok (.iload 6, 2) := by decide +kernel
theorem dL_law_175 : decode cL_law 175 = .ok (.iadd, 1) := by decide +kernel
theorem dL_law_176 : decode cL_law 176 = .ok (.iload_n 2, 1) := by decide +kernel
theorem dL_law_177 : decode cL_law 177 = .ok (.invokestatic 180, 3) := by decide +kernel
theorem dL_law_180 : decode cL_law 180 = .ok (.invokestatic 192, 3) := by decide +kernel
theorem dL_law_183 : decode cL_law 183 = .ok (.sipush (-1001), 3) := by decide +kernel
theorem dL_law_186 : decode cL_law 186 = .ok (.if_icmp .ne 5, 3) := by decide +kernel
theorem dL_law_189 : decode cL_law 189 = .ok (.iconst 0, 1) := by decide +kernel
theorem dL_law_190 : decode cL_law 190 = .ok (.ireturn, 1) := by decide +kernel
theorem dL_law_191 : decode cL_law 191 = .ok (.iinc 6 1, 3) := by decide +kernel
theorem dL_law_194 : decode cL_law 194 = .ok (.goto (-38), 3) := by decide +kernel
theorem dL_law_197 : decode cL_law 197 = .ok (.aload_n 1, 1) := by decide +kernel
theorem dL_law_198 : decode cL_law 198 = .ok (.iload 5, 2) := by decide +kernel
theorem dL_law_200 : decode cL_law 200 = .ok (.aload_n 0, 1) := by decide +kernel
theorem dL_law_201 : decode cL_law 201 = .ok (.bipush 16, 2) := by decide +kernel
theorem dL_law_203 : decode cL_law 203 = .ok (.iconst 4, 1) := by decide +kernel
theorem dL_law_204 : decode cL_law 204 = .ok (.iload 5, 2) := by decide +kernel
theorem dL_law_206 : decode cL_law 206 = .ok (.imul, 1) := by decide +kernel
theorem dL_law_207 : decode cL_law 207 = .ok (.iadd, 1) := by decide +kernel
theorem dL_law_208 : decode cL_law 208 = .ok (.iload_n 2, 1) := by decide +kernel
theorem dL_law_209 : decode cL_law 209 = .ok (.invokestatic 180, 3) := by decide +kernel
theorem dL_law_212 : decode cL_law 212 = .ok (.invokestatic 194, 3) := by decide +kernel
theorem dL_law_215 : decode cL_law 215 = .ok (.sipush (-1001), 3) := by decide +kernel
theorem dL_law_218 : decode cL_law 218 = .ok (.if_icmp .ne 5, 3) := by decide +kernel
theorem dL_law_221 : decode cL_law 221 = .ok (.iconst 0, 1) := by decide +kernel
theorem dL_law_222 : decode cL_law 222 = .ok (.ireturn, 1) := by decide +kernel
theorem dL_law_223 : decode cL_law 223 = .ok (.iinc 5 1, 3) := by decide +kernel
theorem dL_law_226 : decode cL_law 226 = .ok (.goto (-90), 3) := by decide +kernel
theorem dL_law_229 : decode cL_law 229 = .ok (.aload_n 1, 1) := by decide +kernel
theorem dL_law_230 : decode cL_law 230 = .ok (.invokestatic 196, 3) := by decide +kernel
theorem dL_law_233 : decode cL_law 233 = .ok (.ifCond .ne 5, 3) := by decide +kernel
theorem dL_law_236 : decode cL_law 236 = .ok (.iconst 0, 1) := by decide +kernel
theorem dL_law_237 : decode cL_law 237 = .ok (.ireturn, 1) := by decide +kernel
theorem dL_law_238 : decode cL_law 238 = .ok (.iconst 0, 1) := by decide +kernel
theorem dL_law_239 : decode cL_law 239 = .ok (.istore 5, 2) := by decide +kernel
theorem dL_law_241 : decode cL_law 241 = .ok (.iload 5, 2) := by decide +kernel
theorem dL_law_243 : decode cL_law 243 = .ok (.iload_n 3, 1) := by decide +kernel
theorem dL_law_244 : decode cL_law 244 = .ok (.if_icmp .ge 116, 3) := by decide +kernel
theorem dL_law_247 : decode cL_law 247 = .ok (.aload_n 1, 1) := by decide +kernel
theorem dL_law_248 : decode cL_law 248 = .ok (.iload 5, 2) := by decide +kernel
theorem dL_law_250 : decode cL_law 250 = .ok (.invokestatic 140, 3) := by decide +kernel
theorem dL_law_253 : decode cL_law 253 = .ok (.istore 6, 2) := by decide +kernel
theorem dL_law_255 : decode cL_law 255 = .ok (.aload_n 1, 1) := by decide +kernel
theorem dL_law_256 : decode cL_law 256 = .ok (.iload 5, 2) := by decide +kernel
theorem dL_law_258 : decode cL_law 258 = .ok (.invokestatic 200, 3) := by decide +kernel
theorem dL_law_261 : decode cL_law 261 = .ok (.iload 6, 2) := by decide +kernel
theorem dL_law_263 : decode cL_law 263 = .ok (.if_icmp .ne 14, 3) := by decide +kernel
theorem dL_law_266 : decode cL_law 266 = .ok (.aload_n 1, 1) := by decide +kernel
theorem dL_law_267 : decode cL_law 267 = .ok (.iload 5, 2) := by decide +kernel
theorem dL_law_269 : decode cL_law 269 = .ok (.invokestatic 140, 3) := by decide +kernel
theorem dL_law_272 : decode cL_law 272 = .ok (.iload 6, 2) := by decide +kernel
theorem dL_law_274 : decode cL_law 274 = .ok (.if_icmp .eq 5, 3) := by decide +kernel
theorem dL_law_277 : decode cL_law 277 = .ok (.iconst 0, 1) := by decide +kernel
theorem dL_law_278 : decode cL_law 278 = .ok (.ireturn, 1) := by decide +kernel
theorem dL_law_279 : decode cL_law 279 = .ok (.iconst 0, 1) := by decide +kernel
theorem dL_law_280 : decode cL_law 280 = .ok (.istore 7, 2) := by decide +kernel
theorem dL_law_282 : decode cL_law 282 = .ok (.iconst 0, 1) := by decide +kernel
theorem dL_law_283 : decode cL_law 283 = .ok (.istore 8, 2) := by decide +kernel
theorem dL_law_285 : decode cL_law 285 = .ok (.iload 8, 2) := by decide +kernel
theorem dL_law_287 : decode cL_law 287 = .ok (.iload 4, 2) := by decide +kernel
theorem dL_law_289 : decode cL_law 289 = .ok (.if_icmp .ge 32, 3) := by decide +kernel
theorem dL_law_292 : decode cL_law 292 = .ok (.iload 7, 2) := by decide +kernel
theorem dL_law_294 : decode cL_law 294 = .ok (.ifCond .ne 14, 3) := by decide +kernel
theorem dL_law_297 : decode cL_law 297 = .ok (.aload_n 1, 1) := by decide +kernel
theorem dL_law_298 : decode cL_law 298 = .ok (.iload 5, 2) := by decide +kernel
theorem dL_law_300 : decode cL_law 300 = .ok (.iload 8, 2) := by decide +kernel
theorem dL_law_302 : decode cL_law 302 = .ok (.invokestatic 122, 3) := by decide +kernel
theorem dL_law_305 : decode cL_law 305 = .ok (.ifCond .lt 7, 3) := by decide +kernel
theorem dL_law_308 : decode cL_law 308 = .ok (.iconst 1, 1) := by decide +kernel
theorem dL_law_309 : decode cL_law 309 = .ok (.goto 4, 3) := by decide +kernel
theorem dL_law_312 : decode cL_law 312 = .ok (.iconst 0, 1) := by decide +kernel
theorem dL_law_313 : decode cL_law 313 = .ok (.istore 7, 2) := by decide +kernel
theorem dL_law_315 : decode cL_law 315 = .ok (.iinc 8 1, 3) := by decide +kernel
theorem dL_law_318 : decode cL_law 318 = .ok (.goto (-33), 3) := by decide +kernel
theorem dL_law_321 : decode cL_law 321 = .ok (.iload 6, 2) := by decide +kernel
theorem dL_law_323 : decode cL_law 323 = .ok (.ifCond .le 8, 3) := by decide +kernel
theorem dL_law_326 : decode cL_law 326 = .ok (.iload 7, 2) := by decide +kernel
theorem dL_law_328 : decode cL_law 328 = .ok (.ifCond .eq 24, 3) := by decide +kernel
theorem dL_law_331 : decode cL_law 331 = .ok (.aload_n 1, 1) := by decide +kernel
theorem dL_law_332 : decode cL_law 332 = .ok (.iload 5, 2) := by decide +kernel
theorem dL_law_334 : decode cL_law 334 = .ok (.invokestatic 200, 3) := by decide +kernel
theorem dL_law_337 : decode cL_law 337 = .ok (.iload 7, 2) := by decide +kernel
theorem dL_law_339 : decode cL_law 339 = .ok (.ifCond .eq 9, 3) := by decide +kernel
theorem dL_law_342 : decode cL_law 342 = .ok (.sipush (-1002), 3) := by decide +kernel
theorem dL_law_345 : decode cL_law 345 = .ok (.goto 4, 3) := by decide +kernel
theorem dL_law_348 : decode cL_law 348 = .ok (.iconst 0, 1) := by decide +kernel
theorem dL_law_349 : decode cL_law 349 = .ok (.if_icmp .eq 5, 3) := by decide +kernel
theorem dL_law_352 : decode cL_law 352 = .ok (.iconst 0, 1) := by decide +kernel
theorem dL_law_353 : decode cL_law 353 = .ok (.ireturn, 1) := by decide +kernel
theorem dL_law_354 : decode cL_law 354 = .ok (.iinc 5 1, 3) := by decide +kernel
theorem dL_law_357 : decode cL_law 357 = .ok (.goto (-116), 3) := by decide +kernel
theorem dL_law_360 : decode cL_law 360 = .ok (.iconst 0, 1) := by decide +kernel
theorem dL_law_361 : decode cL_law 361 = .ok (.istore 5, 2) := by decide +kernel
theorem dL_law_363 : decode cL_law 363 = .ok (.iload 5, 2) := by decide +kernel
theorem dL_law_365 : decode cL_law 365 = .ok (.bipush 14, 2) := by decide +kernel
theorem dL_law_367 : decode cL_law 367 = .ok (.if_icmp .ge 218, 3) := by decide +kernel
theorem dL_law_370 : decode cL_law 370 = .ok (.aload_n 0, 1) := by decide +kernel
theorem dL_law_371 : decode cL_law 371 = .ok (.bipush 46, 2) := by decide +kernel
theorem dL_law_373 : decode cL_law 373 = .ok (.iload 5, 2) := by decide +kernel
theorem dL_law_375 : decode cL_law 375 = .ok (.iadd, 1) := by decide +kernel
theorem dL_law_376 : decode cL_law 376 = .ok (.invokestatic 8, 3) := by decide +kernel
theorem dL_law_379 : decode cL_law 379 = .ok (.iconst 1, 1) := by decide +kernel
theorem dL_law_380 : decode cL_law 380 = .ok (.iushr, 1) := by decide +kernel
theorem dL_law_381 : decode cL_law 381 = .ok (.istore 6, 2) := by decide +kernel
theorem dL_law_383 : decode cL_law 383 = .ok (.iload 6, 2) := by decide +kernel
theorem dL_law_385 : decode cL_law 385 = .ok (.iload_n 3, 1) := by decide +kernel
theorem dL_law_386 : decode cL_law 386 = .ok (.irem, 1) := by decide +kernel
theorem dL_law_387 : decode cL_law 387 = .ok (.istore 7, 2) := by decide +kernel
theorem dL_law_389 : decode cL_law 389 = .ok (.iload 6, 2) := by decide +kernel
theorem dL_law_391 : decode cL_law 391 = .ok (.bipush 16, 2) := by decide +kernel
theorem dL_law_393 : decode cL_law 393 = .ok (.idiv, 1) := by decide +kernel
theorem dL_law_394 : decode cL_law 394 = .ok (.iload_n 2, 1) := by decide +kernel
theorem dL_law_395 : decode cL_law 395 = .ok (.irem, 1) := by decide +kernel
theorem dL_law_396 : decode cL_law 396 = .ok (.istore 8, 2) := by decide +kernel
theorem dL_law_398 : decode cL_law 398 = .ok (.iload 6, 2) := by decide +kernel
theorem dL_law_400 : decode cL_law 400 = .ok (.sipush 128, 3) := by decide +kernel
theorem dL_law_403 : decode cL_law 403 = .ok (.idiv, 1) := by decide +kernel
theorem dL_law_404 : decode cL_law 404 = .ok (.iload_n 2, 1) := by decide +kernel
theorem dL_law_405 : decode cL_law 405 = .ok (.irem, 1) := by decide +kernel
theorem dL_law_406 : decode cL_law 406 = .ok (.istore 9, 2) := by decide +kernel
theorem dL_law_408 : decode cL_law 408 = .ok (.iload 6, 2) := by decide +kernel
theorem dL_law_410 : decode cL_law 410 = .ok (.sipush 1024, 3) := by decide +kernel
theorem dL_law_413 : decode cL_law 413 = .ok (.idiv, 1) := by decide +kernel
theorem dL_law_414 : decode cL_law 414 = .ok (.bipush 8, 2) := by decide +kernel
theorem dL_law_416 : decode cL_law 416 = .ok (.irem, 1) := by decide +kernel
theorem dL_law_417 : decode cL_law 417 = .ok (.istore 10, 2) := by decide +kernel
theorem dL_law_419 : decode cL_law 419 = .ok (.iload 10, 2) := by decide +kernel
theorem dL_law_421 : decode cL_law 421 = .ok (.iconst 4, 1) := by decide +kernel
theorem dL_law_422 : decode cL_law 422 = .ok (.if_icmp .ge 16, 3) := by decide +kernel
theorem dL_law_425 : decode cL_law 425 = .ok (.aload_n 1, 1) := by decide +kernel
theorem dL_law_426 : decode cL_law 426 = .ok (.iload 7, 2) := by decide +kernel
theorem dL_law_428 : decode cL_law 428 = .ok (.iload 8, 2) := by decide +kernel
theorem dL_law_430 : decode cL_law 430 = .ok (.invokestatic 202, 3) := by decide +kernel
theorem dL_law_433 : decode cL_law 433 = .ok (.ifCond .ne 137, 3) := by decide +kernel
theorem dL_law_436 : decode cL_law 436 = .ok (.iconst 0, 1) := by decide +kernel
theorem dL_law_437 : decode cL_law 437 = .ok (.ireturn, 1) := by decide +kernel
theorem dL_law_438 : decode cL_law 438 = .ok (.iload 10, 2) := by decide +kernel
theorem dL_law_440 : decode cL_law 440 = .ok (.bipush 6, 2) := by decide +kernel
theorem dL_law_442 : decode cL_law 442 = .ok (.if_icmp .ge 18, 3) := by decide +kernel
theorem dL_law_445 : decode cL_law 445 = .ok (.aload_n 1, 1) := by decide +kernel
theorem dL_law_446 : decode cL_law 446 = .ok (.iload 7, 2) := by decide +kernel
theorem dL_law_448 : decode cL_law 448 = .ok (.iload 8, 2) := by decide +kernel
theorem dL_law_450 : decode cL_law 450 = .ok (.iload 9, 2) := by decide +kernel
theorem dL_law_452 : decode cL_law 452 = .ok (.invokestatic 206, 3) := by decide +kernel
theorem dL_law_455 : decode cL_law 455 = .ok (.ifCond .ne 115, 3) := by decide +kernel
theorem dL_law_458 : decode cL_law 458 = .ok (.iconst 0, 1) := by decide +kernel
theorem dL_law_459 : decode cL_law 459 = .ok (.ireturn, 1) := by decide +kernel
theorem dL_law_460 : decode cL_law 460 = .ok (.iload 10, 2) := by decide +kernel
theorem dL_law_462 : decode cL_law 462 = .ok (.bipush 6, 2) := by decide +kernel
theorem dL_law_464 : decode cL_law 464 = .ok (.if_icmp .ne 42, 3) := by decide +kernel
theorem dL_law_467 : decode cL_law 467 = .ok (.aload_n 1, 1) := by decide +kernel
theorem dL_law_468 : decode cL_law 468 = .ok (.iload 7, 2) := by decide +kernel
theorem dL_law_470 : decode cL_law 470 = .ok (.iload 8, 2) := by decide +kernel
theorem dL_law_472 : decode cL_law 472 = .ok (.invokestatic 128, 3) := by decide +kernel
theorem dL_law_475 : decode cL_law 475 = .ok (.istore 11, 2) := by decide +kernel
theorem dL_law_477 : decode cL_law 477 = .ok (.aload_n 1, 1) := by decide +kernel
theorem dL_law_478 : decode cL_law 478 = .ok (.iload 7, 2) := by decide +kernel
theorem dL_law_480 : decode cL_law 480 = .ok (.iload 8, 2) := by decide +kernel
theorem dL_law_482 : decode cL_law 482 = .ok (.invokestatic 210, 3) := by decide +kernel
theorem dL_law_485 : decode cL_law 485 = .ok (.iload 11, 2) := by decide +kernel
theorem dL_law_487 : decode cL_law 487 = .ok (.ifCond .ge 9, 3) := by decide +kernel
theorem dL_law_490 : decode cL_law 490 = .ok (.sipush (-1002), 3) := by decide +kernel
theorem dL_law_493 : decode cL_law 493 = .ok (.goto 5, 3) := by decide +kernel
theorem dL_law_496 : decode cL_law 496 = .ok (.iload 11, 2) := by decide +kernel
theorem dL_law_498 : decode cL_law 498 = .ok (.if_icmp .eq 5, 3) := by decide +kernel
theorem dL_law_501 : decode cL_law 501 = .ok (.iconst 0, 1) := by decide +kernel
theorem dL_law_502 : decode cL_law 502 = .ok (.ireturn, 1) := by decide +kernel
theorem dL_law_503 : decode cL_law 503 = .ok (.goto 67, 3) := by decide +kernel
theorem dL_law_506 : decode cL_law 506 = .ok (.iconst 0, 1) := by decide +kernel
theorem dL_law_507 : decode cL_law 507 = .ok (.istore 11, 2) := by decide +kernel
theorem dL_law_509 : decode cL_law 509 = .ok (.iconst 0, 1) := by decide +kernel
theorem dL_law_510 : decode cL_law 510 = .ok (.istore 12, 2) := by decide +kernel
theorem dL_law_512 : decode cL_law 512 = .ok (.iload 12, 2) := by decide +kernel
theorem dL_law_514 : decode cL_law 514 = .ok (.iload 4, 2) := by decide +kernel
theorem dL_law_516 : decode cL_law 516 = .ok (.if_icmp .ge 30, 3) := by decide +kernel
theorem dL_law_519 : decode cL_law 519 = .ok (.iload 11, 2) := by decide +kernel
theorem dL_law_521 : decode cL_law 521 = .ok (.aload_n 1, 1) := by decide +kernel
theorem dL_law_522 : decode cL_law 522 = .ok (.iload 7, 2) := by decide +kernel
theorem dL_law_524 : decode cL_law 524 = .ok (.iload 12, 2) := by decide +kernel
theorem dL_law_526 : decode cL_law 526 = .ok (.invokestatic 122, 3) := by decide +kernel
theorem dL_law_529 : decode cL_law 529 = .ok (.ifCond .lt 7, 3) := by decide +kernel
theorem dL_law_532 : decode cL_law 532 = .ok (.iconst 1, 1) := by decide +kernel
theorem dL_law_533 : decode cL_law 533 = .ok (.goto 4, 3) := by decide +kernel
theorem dL_law_536 : decode cL_law 536 = .ok (.iconst 0, 1) := by decide +kernel
theorem dL_law_537 : decode cL_law 537 = .ok (.iadd, 1) := by decide +kernel
theorem dL_law_538 : decode cL_law 538 = .ok (.istore 11, 2) := by decide +kernel
theorem dL_law_540 : decode cL_law 540 = .ok (.iinc 12 1, 3) := by decide +kernel
theorem dL_law_543 : decode cL_law 543 = .ok (.goto (-31), 3) := by decide +kernel
theorem dL_law_546 : decode cL_law 546 = .ok (.aload_n 1, 1) := by decide +kernel
theorem dL_law_547 : decode cL_law 547 = .ok (.iload 7, 2) := by decide +kernel
theorem dL_law_549 : decode cL_law 549 = .ok (.invokestatic 212, 3) := by decide +kernel
theorem dL_law_552 : decode cL_law 552 = .ok (.iload 11, 2) := by decide +kernel
theorem dL_law_554 : decode cL_law 554 = .ok (.ifCond .ne 9, 3) := by decide +kernel
theorem dL_law_557 : decode cL_law 557 = .ok (.sipush (-1002), 3) := by decide +kernel
theorem dL_law_560 : decode cL_law 560 = .ok (.goto 5, 3) := by decide +kernel
theorem dL_law_563 : decode cL_law 563 = .ok (.iload 11, 2) := by decide +kernel
theorem dL_law_565 : decode cL_law 565 = .ok (.if_icmp .eq 5, 3) := by decide +kernel
theorem dL_law_568 : decode cL_law 568 = .ok (.iconst 0, 1) := by decide +kernel
theorem dL_law_569 : decode cL_law 569 = .ok (.ireturn, 1) := by decide +kernel
theorem dL_law_570 : decode cL_law 570 = .ok (.aload_n 1, 1) := by decide +kernel
theorem dL_law_571 : decode cL_law 571 = .ok (.invokestatic 214, 3) := by decide +kernel
theorem dL_law_574 : decode cL_law 574 = .ok (.ifCond .ne 5, 3) := by decide +kernel
theorem dL_law_577 : decode cL_law 577 = .ok (.iconst 0, 1) := by decide +kernel
theorem dL_law_578 : decode cL_law 578 = .ok (.ireturn, 1) := by decide +kernel
theorem dL_law_579 : decode cL_law 579 = .ok (.iinc 5 1, 3) := by decide +kernel
theorem dL_law_582 : decode cL_law 582 = .ok (.goto (-219), 3) := by decide +kernel
theorem dL_law_585 : decode cL_law 585 = .ok (.aload_n 1, 1) := by decide +kernel
theorem dL_law_586 : decode cL_law 586 = .ok (.invokestatic 196, 3) := by decide +kernel
theorem dL_law_589 : decode cL_law 589 = .ok (.ifCond .eq 26, 3) := by decide +kernel
theorem dL_law_592 : decode cL_law 592 = .ok (.aload_n 1, 1) := by decide +kernel
theorem dL_law_593 : decode cL_law 593 = .ok (.invokevirtual 217, 3) := by decide +kernel
theorem dL_law_596 : decode cL_law 596 = .ok (.aload_n 1, 1) := by decide +kernel
theorem dL_law_597 : decode cL_law 597 = .ok (.invokevirtual 220, 3) := by decide +kernel
theorem dL_law_600 : decode cL_law 600 = .ok (.if_icmp .ne 15, 3) := by decide +kernel
theorem dL_law_603 : decode cL_law 603 = .ok (.aload_n 1, 1) := by decide +kernel
theorem dL_law_604 : decode cL_law 604 = .ok (.invokevirtual 223, 3) := by decide +kernel
theorem dL_law_607 : decode cL_law 607 = .ok (.iload_n 3, 1) := by decide +kernel
theorem dL_law_608 : decode cL_law 608 = .ok (.if_icmp .gt 7, 3) := by decide +kernel
theorem dL_law_611 : decode cL_law 611 = .ok (.iconst 1, 1) := by decide +kernel
theorem dL_law_612 : decode cL_law 612 = .ok (.goto 4, 3) := by decide +kernel
theorem dL_law_615 : decode cL_law 615 = .ok (.iconst 0, 1) := by decide +kernel
theorem dL_law_616 : decode cL_law 616 = .ok (.ireturn, 1) := by decide +kernel

/-! ===== the wrappers decoded ===== -/
theorem dL_addSubject_0 : decode cL_addSubject 0 = .ok (.aload_n 2, 1) := by decide +kernel
theorem dL_addSubject_1 : decode cL_addSubject 1 = .ok (.iconst 0, 1) := by decide +kernel
theorem dL_addSubject_2 : decode cL_addSubject 2 = .ok (.aload_n 0, 1) := by decide +kernel
theorem dL_addSubject_3 : decode cL_addSubject 3 = .ok (.iload_n 1, 1) := by decide +kernel
theorem dL_addSubject_4 : decode cL_addSubject 4 = .ok (.invokevirtual 7, 3) := by decide +kernel
theorem dL_addSubject_7 : decode cL_addSubject 7 = .ok (.i2l, 1) := by decide +kernel
theorem dL_addSubject_8 : decode cL_addSubject 8 = .ok (.lastore, 1) := by decide +kernel
theorem dL_addSubject_9 : decode cL_addSubject 9 = .ok (.goto 9, 3) := by decide +kernel
theorem dL_addSubject_12 : decode cL_addSubject 12 = .ok (.astore_n 3, 1) := by decide +kernel
theorem dL_addSubject_13 : decode cL_addSubject 13 = .ok (.iconst 1, 1) := by decide +kernel
theorem dL_addSubject_14 : decode cL_addSubject 14 = .ok (.ireturn, 1) := by decide +kernel
theorem dL_addSubject_15 : decode cL_addSubject 15 = .ok (.astore_n 3, 1) := by decide +kernel
theorem dL_addSubject_16 : decode cL_addSubject 16 = .ok (.iconst 2, 1) := by decide +kernel
theorem dL_addSubject_17 : decode cL_addSubject 17 = .ok (.ireturn, 1) := by decide +kernel
theorem dL_addSubject_18 : decode cL_addSubject 18 = .ok (.iconst 0, 1) := by decide +kernel
theorem dL_addSubject_19 : decode cL_addSubject 19 = .ok (.ireturn, 1) := by decide +kernel
theorem dL_setSize_0 : decode cL_setSize 0 = .ok (.aload_n 3, 1) := by decide +kernel
theorem dL_setSize_1 : decode cL_setSize 1 = .ok (.iconst 0, 1) := by decide +kernel
theorem dL_setSize_2 : decode cL_setSize 2 = .ok (.aload_n 0, 1) := by decide +kernel
theorem dL_setSize_3 : decode cL_setSize 3 = .ok (.iload_n 1, 1) := by decide +kernel
theorem dL_setSize_4 : decode cL_setSize 4 = .ok (.iload_n 2, 1) := by decide +kernel
theorem dL_setSize_5 : decode cL_setSize 5 = .ok (.invokevirtual 17, 3) := by decide +kernel
theorem dL_setSize_8 : decode cL_setSize 8 = .ok (.i2l, 1) := by decide +kernel
theorem dL_setSize_9 : decode cL_setSize 9 = .ok (.lastore, 1) := by decide +kernel
theorem dL_setSize_10 : decode cL_setSize 10 = .ok (.goto 15, 3) := by decide +kernel
theorem dL_setSize_13 : decode cL_setSize 13 = .ok (.astore 4, 2) := by decide +kernel
theorem dL_setSize_15 : decode cL_setSize 15 = .ok (.iconst 1, 1) := by decide +kernel
theorem dL_setSize_16 : decode cL_setSize 16 = .ok (.ireturn, 1) := by decide +kernel
theorem dL_setSize_17 : decode cL_setSize 17 = .ok (.astore 4, 2) := by decide +kernel
theorem dL_setSize_19 : decode cL_setSize 19 = .ok (.iconst 2, 1) := by decide +kernel
theorem dL_setSize_20 : decode cL_setSize 20 = .ok (.ireturn, 1) := by decide +kernel
theorem dL_setSize_21 : decode cL_setSize 21 = .ok (.astore 4, 2) := by decide +kernel
theorem dL_setSize_23 : decode cL_setSize 23 = .ok (.iconst 3, 1) := by decide +kernel
theorem dL_setSize_24 : decode cL_setSize 24 = .ok (.ireturn, 1) := by decide +kernel
theorem dL_setSize_25 : decode cL_setSize 25 = .ok (.iconst 0, 1) := by decide +kernel
theorem dL_setSize_26 : decode cL_setSize 26 = .ok (.ireturn, 1) := by decide +kernel
theorem dL_sizeOf_0 : decode cL_sizeOf 0 = .ok (.aload_n 2, 1) := by decide +kernel
theorem dL_sizeOf_1 : decode cL_sizeOf 1 = .ok (.iconst 0, 1) := by decide +kernel
theorem dL_sizeOf_2 : decode cL_sizeOf 2 = .ok (.aload_n 0, 1) := by decide +kernel
theorem dL_sizeOf_3 : decode cL_sizeOf 3 = .ok (.iload_n 1, 1) := by decide +kernel
theorem dL_sizeOf_4 : decode cL_sizeOf 4 = .ok (.invokevirtual 23, 3) := by decide +kernel
theorem dL_sizeOf_7 : decode cL_sizeOf 7 = .ok (.i2l, 1) := by decide +kernel
theorem dL_sizeOf_8 : decode cL_sizeOf 8 = .ok (.lastore, 1) := by decide +kernel
theorem dL_sizeOf_9 : decode cL_sizeOf 9 = .ok (.goto 6, 3) := by decide +kernel
theorem dL_sizeOf_12 : decode cL_sizeOf 12 = .ok (.astore_n 3, 1) := by decide +kernel
theorem dL_sizeOf_13 : decode cL_sizeOf 13 = .ok (.iconst 1, 1) := by decide +kernel
theorem dL_sizeOf_14 : decode cL_sizeOf 14 = .ok (.ireturn, 1) := by decide +kernel
theorem dL_sizeOf_15 : decode cL_sizeOf 15 = .ok (.iconst 0, 1) := by decide +kernel
theorem dL_sizeOf_16 : decode cL_sizeOf 16 = .ok (.ireturn, 1) := by decide +kernel
theorem dL_setBlockCount_0 : decode cL_setBlockCount 0 = .ok (.aload_n 2, 1) := by decide +kernel
theorem dL_setBlockCount_1 : decode cL_setBlockCount 1 = .ok (.iconst 0, 1) := by decide +kernel
theorem dL_setBlockCount_2 : decode cL_setBlockCount 2 = .ok (.aload_n 0, 1) := by decide +kernel
theorem dL_setBlockCount_3 : decode cL_setBlockCount 3 = .ok (.iload_n 1, 1) := by decide +kernel
theorem dL_setBlockCount_4 : decode cL_setBlockCount 4 = .ok (.invokevirtual 26, 3) := by decide +kernel
theorem dL_setBlockCount_7 : decode cL_setBlockCount 7 = .ok (.i2l, 1) := by decide +kernel
theorem dL_setBlockCount_8 : decode cL_setBlockCount 8 = .ok (.lastore, 1) := by decide +kernel
theorem dL_setBlockCount_9 : decode cL_setBlockCount 9 = .ok (.goto 9, 3) := by decide +kernel
theorem dL_setBlockCount_12 : decode cL_setBlockCount 12 = .ok (.astore_n 3, 1) := by decide +kernel
theorem dL_setBlockCount_13 : decode cL_setBlockCount 13 = .ok (.iconst 1, 1) := by decide +kernel
theorem dL_setBlockCount_14 : decode cL_setBlockCount 14 = .ok (.ireturn, 1) := by decide +kernel
theorem dL_setBlockCount_15 : decode cL_setBlockCount 15 = .ok (.astore_n 3, 1) := by decide +kernel
theorem dL_setBlockCount_16 : decode cL_setBlockCount 16 = .ok (.iconst 2, 1) := by decide +kernel
theorem dL_setBlockCount_17 : decode cL_setBlockCount 17 = .ok (.ireturn, 1) := by decide +kernel
theorem dL_setBlockCount_18 : decode cL_setBlockCount 18 = .ok (.iconst 0, 1) := by decide +kernel
theorem dL_setBlockCount_19 : decode cL_setBlockCount 19 = .ok (.ireturn, 1) := by decide +kernel
theorem dL_openClass_0 : decode cL_openClass 0 = .ok (.aload_n 3, 1) := by decide +kernel
theorem dL_openClass_1 : decode cL_openClass 1 = .ok (.iconst 0, 1) := by decide +kernel
theorem dL_openClass_2 : decode cL_openClass 2 = .ok (.aload_n 0, 1) := by decide +kernel
theorem dL_openClass_3 : decode cL_openClass 3 = .ok (.iload_n 1, 1) := by decide +kernel
theorem dL_openClass_4 : decode cL_openClass 4 = .ok (.iload_n 2, 1) := by decide +kernel
theorem dL_openClass_5 : decode cL_openClass 5 = .ok (.invokevirtual 29, 3) := by decide +kernel
theorem dL_openClass_8 : decode cL_openClass 8 = .ok (.i2l, 1) := by decide +kernel
theorem dL_openClass_9 : decode cL_openClass 9 = .ok (.lastore, 1) := by decide +kernel
theorem dL_openClass_10 : decode cL_openClass 10 = .ok (.goto 11, 3) := by decide +kernel
theorem dL_openClass_13 : decode cL_openClass 13 = .ok (.astore 4, 2) := by decide +kernel
theorem dL_openClass_15 : decode cL_openClass 15 = .ok (.iconst 1, 1) := by decide +kernel
theorem dL_openClass_16 : decode cL_openClass 16 = .ok (.ireturn, 1) := by decide +kernel
theorem dL_openClass_17 : decode cL_openClass 17 = .ok (.astore 4, 2) := by decide +kernel
theorem dL_openClass_19 : decode cL_openClass 19 = .ok (.iconst 2, 1) := by decide +kernel
theorem dL_openClass_20 : decode cL_openClass 20 = .ok (.ireturn, 1) := by decide +kernel
theorem dL_openClass_21 : decode cL_openClass 21 = .ok (.iconst 0, 1) := by decide +kernel
theorem dL_openClass_22 : decode cL_openClass 22 = .ok (.ireturn, 1) := by decide +kernel
theorem dL_closeClass_0 : decode cL_closeClass 0 = .ok (.aload_n 3, 1) := by decide +kernel
theorem dL_closeClass_1 : decode cL_closeClass 1 = .ok (.iconst 0, 1) := by decide +kernel
theorem dL_closeClass_2 : decode cL_closeClass 2 = .ok (.aload_n 0, 1) := by decide +kernel
theorem dL_closeClass_3 : decode cL_closeClass 3 = .ok (.iload_n 1, 1) := by decide +kernel
theorem dL_closeClass_4 : decode cL_closeClass 4 = .ok (.iload_n 2, 1) := by decide +kernel
theorem dL_closeClass_5 : decode cL_closeClass 5 = .ok (.invokevirtual 32, 3) := by decide +kernel
theorem dL_closeClass_8 : decode cL_closeClass 8 = .ok (.i2l, 1) := by decide +kernel
theorem dL_closeClass_9 : decode cL_closeClass 9 = .ok (.lastore, 1) := by decide +kernel
theorem dL_closeClass_10 : decode cL_closeClass 10 = .ok (.goto 11, 3) := by decide +kernel
theorem dL_closeClass_13 : decode cL_closeClass 13 = .ok (.astore 4, 2) := by decide +kernel
theorem dL_closeClass_15 : decode cL_closeClass 15 = .ok (.iconst 1, 1) := by decide +kernel
theorem dL_closeClass_16 : decode cL_closeClass 16 = .ok (.ireturn, 1) := by decide +kernel
theorem dL_closeClass_17 : decode cL_closeClass 17 = .ok (.astore 4, 2) := by decide +kernel
theorem dL_closeClass_19 : decode cL_closeClass 19 = .ok (.iconst 2, 1) := by decide +kernel
theorem dL_closeClass_20 : decode cL_closeClass 20 = .ok (.ireturn, 1) := by decide +kernel
theorem dL_closeClass_21 : decode cL_closeClass 21 = .ok (.iconst 0, 1) := by decide +kernel
theorem dL_closeClass_22 : decode cL_closeClass 22 = .ok (.ireturn, 1) := by decide +kernel
theorem dL_isOpen_0 : decode cL_isOpen 0 = .ok (.aload_n 3, 1) := by decide +kernel
theorem dL_isOpen_1 : decode cL_isOpen 1 = .ok (.iconst 0, 1) := by decide +kernel
theorem dL_isOpen_2 : decode cL_isOpen 2 = .ok (.aload_n 0, 1) := by decide +kernel
theorem dL_isOpen_3 : decode cL_isOpen 3 = .ok (.iload_n 1, 1) := by decide +kernel
theorem dL_isOpen_4 : decode cL_isOpen 4 = .ok (.iload_n 2, 1) := by decide +kernel
theorem dL_isOpen_5 : decode cL_isOpen 5 = .ok (.invokevirtual 35, 3) := by decide +kernel
theorem dL_isOpen_8 : decode cL_isOpen 8 = .ok (.ifCond .eq 7, 3) := by decide +kernel
theorem dL_isOpen_11 : decode cL_isOpen 11 = .ok (.lconst 1, 1) := by decide +kernel
theorem dL_isOpen_12 : decode cL_isOpen 12 = .ok (.goto 4, 3) := by decide +kernel
theorem dL_isOpen_15 : decode cL_isOpen 15 = .ok (.lconst 0, 1) := by decide +kernel
theorem dL_isOpen_16 : decode cL_isOpen 16 = .ok (.lastore, 1) := by decide +kernel
theorem dL_isOpen_17 : decode cL_isOpen 17 = .ok (.goto 7, 3) := by decide +kernel
theorem dL_isOpen_20 : decode cL_isOpen 20 = .ok (.astore 4, 2) := by decide +kernel
theorem dL_isOpen_22 : decode cL_isOpen 22 = .ok (.iconst 1, 1) := by decide +kernel
theorem dL_isOpen_23 : decode cL_isOpen 23 = .ok (.ireturn, 1) := by decide +kernel
theorem dL_isOpen_24 : decode cL_isOpen 24 = .ok (.iconst 0, 1) := by decide +kernel
theorem dL_isOpen_25 : decode cL_isOpen 25 = .ok (.ireturn, 1) := by decide +kernel
theorem dL_pupilsInClass_0 : decode cL_pupilsInClass 0 = .ok (.aload_n 3, 1) := by decide +kernel
theorem dL_pupilsInClass_1 : decode cL_pupilsInClass 1 = .ok (.iconst 0, 1) := by decide +kernel
theorem dL_pupilsInClass_2 : decode cL_pupilsInClass 2 = .ok (.aload_n 0, 1) := by decide +kernel
theorem dL_pupilsInClass_3 : decode cL_pupilsInClass 3 = .ok (.iload_n 1, 1) := by decide +kernel
theorem dL_pupilsInClass_4 : decode cL_pupilsInClass 4 = .ok (.iload_n 2, 1) := by decide +kernel
theorem dL_pupilsInClass_5 : decode cL_pupilsInClass 5 = .ok (.invokevirtual 39, 3) := by decide +kernel
theorem dL_pupilsInClass_8 : decode cL_pupilsInClass 8 = .ok (.i2l, 1) := by decide +kernel
theorem dL_pupilsInClass_9 : decode cL_pupilsInClass 9 = .ok (.lastore, 1) := by decide +kernel
theorem dL_pupilsInClass_10 : decode cL_pupilsInClass 10 = .ok (.goto 7, 3) := by decide +kernel
theorem dL_pupilsInClass_13 : decode cL_pupilsInClass 13 = .ok (.astore 4, 2) := by decide +kernel
theorem dL_pupilsInClass_15 : decode cL_pupilsInClass 15 = .ok (.iconst 1, 1) := by decide +kernel
theorem dL_pupilsInClass_16 : decode cL_pupilsInClass 16 = .ok (.ireturn, 1) := by decide +kernel
theorem dL_pupilsInClass_17 : decode cL_pupilsInClass 17 = .ok (.iconst 0, 1) := by decide +kernel
theorem dL_pupilsInClass_18 : decode cL_pupilsInClass 18 = .ok (.ireturn, 1) := by decide +kernel
theorem dL_pupilInClass_0 : decode cL_pupilInClass 0 = .ok (.aload 4, 2) := by decide +kernel
theorem dL_pupilInClass_2 : decode cL_pupilInClass 2 = .ok (.iconst 0, 1) := by decide +kernel
theorem dL_pupilInClass_3 : decode cL_pupilInClass 3 = .ok (.aload_n 0, 1) := by decide +kernel
theorem dL_pupilInClass_4 : decode cL_pupilInClass 4 = .ok (.iload_n 1, 1) := by decide +kernel
theorem dL_pupilInClass_5 : decode cL_pupilInClass 5 = .ok (.iload_n 2, 1) := by decide +kernel
theorem dL_pupilInClass_6 : decode cL_pupilInClass 6 = .ok (.iload_n 3, 1) := by decide +kernel
theorem dL_pupilInClass_7 : decode cL_pupilInClass 7 = .ok (.invokevirtual 42, 3) := by decide +kernel
theorem dL_pupilInClass_10 : decode cL_pupilInClass 10 = .ok (.i2l, 1) := by decide +kernel
theorem dL_pupilInClass_11 : decode cL_pupilInClass 11 = .ok (.lastore, 1) := by decide +kernel
theorem dL_pupilInClass_12 : decode cL_pupilInClass 12 = .ok (.goto 11, 3) := by decide +kernel
theorem dL_pupilInClass_15 : decode cL_pupilInClass 15 = .ok (.astore 5, 2) := by decide +kernel
theorem dL_pupilInClass_17 : decode cL_pupilInClass 17 = .ok (.iconst 1, 1) := by decide +kernel
theorem dL_pupilInClass_18 : decode cL_pupilInClass 18 = .ok (.ireturn, 1) := by decide +kernel
theorem dL_pupilInClass_19 : decode cL_pupilInClass 19 = .ok (.astore 5, 2) := by decide +kernel
theorem dL_pupilInClass_21 : decode cL_pupilInClass 21 = .ok (.iconst 2, 1) := by decide +kernel
theorem dL_pupilInClass_22 : decode cL_pupilInClass 22 = .ok (.ireturn, 1) := by decide +kernel
theorem dL_pupilInClass_23 : decode cL_pupilInClass 23 = .ok (.iconst 0, 1) := by decide +kernel
theorem dL_pupilInClass_24 : decode cL_pupilInClass 24 = .ok (.ireturn, 1) := by decide +kernel
theorem dL_addPupil_0 : decode cL_addPupil 0 = .ok (.aload_n 1, 1) := by decide +kernel
theorem dL_addPupil_1 : decode cL_addPupil 1 = .ok (.iconst 0, 1) := by decide +kernel
theorem dL_addPupil_2 : decode cL_addPupil 2 = .ok (.aload_n 0, 1) := by decide +kernel
theorem dL_addPupil_3 : decode cL_addPupil 3 = .ok (.invokevirtual 48, 3) := by decide +kernel
theorem dL_addPupil_6 : decode cL_addPupil 6 = .ok (.i2l, 1) := by decide +kernel
theorem dL_addPupil_7 : decode cL_addPupil 7 = .ok (.lastore, 1) := by decide +kernel
theorem dL_addPupil_8 : decode cL_addPupil 8 = .ok (.goto 6, 3) := by decide +kernel
theorem dL_addPupil_11 : decode cL_addPupil 11 = .ok (.astore_n 2, 1) := by decide +kernel
theorem dL_addPupil_12 : decode cL_addPupil 12 = .ok (.iconst 1, 1) := by decide +kernel
theorem dL_addPupil_13 : decode cL_addPupil 13 = .ok (.ireturn, 1) := by decide +kernel
theorem dL_addPupil_14 : decode cL_addPupil 14 = .ok (.iconst 0, 1) := by decide +kernel
theorem dL_addPupil_15 : decode cL_addPupil 15 = .ok (.ireturn, 1) := by decide +kernel
theorem dL_addWish_0 : decode cL_addWish 0 = .ok (.aload_n 3, 1) := by decide +kernel
theorem dL_addWish_1 : decode cL_addWish 1 = .ok (.iconst 0, 1) := by decide +kernel
theorem dL_addWish_2 : decode cL_addWish 2 = .ok (.aload_n 0, 1) := by decide +kernel
theorem dL_addWish_3 : decode cL_addWish 3 = .ok (.iload_n 1, 1) := by decide +kernel
theorem dL_addWish_4 : decode cL_addWish 4 = .ok (.iload_n 2, 1) := by decide +kernel
theorem dL_addWish_5 : decode cL_addWish 5 = .ok (.invokevirtual 52, 3) := by decide +kernel
theorem dL_addWish_8 : decode cL_addWish 8 = .ok (.i2l, 1) := by decide +kernel
theorem dL_addWish_9 : decode cL_addWish 9 = .ok (.lastore, 1) := by decide +kernel
theorem dL_addWish_10 : decode cL_addWish 10 = .ok (.goto 11, 3) := by decide +kernel
theorem dL_addWish_13 : decode cL_addWish 13 = .ok (.astore 4, 2) := by decide +kernel
theorem dL_addWish_15 : decode cL_addWish 15 = .ok (.iconst 1, 1) := by decide +kernel
theorem dL_addWish_16 : decode cL_addWish 16 = .ok (.ireturn, 1) := by decide +kernel
theorem dL_addWish_17 : decode cL_addWish 17 = .ok (.astore 4, 2) := by decide +kernel
theorem dL_addWish_19 : decode cL_addWish 19 = .ok (.iconst 2, 1) := by decide +kernel
theorem dL_addWish_20 : decode cL_addWish 20 = .ok (.ireturn, 1) := by decide +kernel
theorem dL_addWish_21 : decode cL_addWish 21 = .ok (.iconst 0, 1) := by decide +kernel
theorem dL_addWish_22 : decode cL_addWish 22 = .ok (.ireturn, 1) := by decide +kernel
theorem dL_setReserve_0 : decode cL_setReserve 0 = .ok (.aload_n 3, 1) := by decide +kernel
theorem dL_setReserve_1 : decode cL_setReserve 1 = .ok (.iconst 0, 1) := by decide +kernel
theorem dL_setReserve_2 : decode cL_setReserve 2 = .ok (.aload_n 0, 1) := by decide +kernel
theorem dL_setReserve_3 : decode cL_setReserve 3 = .ok (.iload_n 1, 1) := by decide +kernel
theorem dL_setReserve_4 : decode cL_setReserve 4 = .ok (.iload_n 2, 1) := by decide +kernel
theorem dL_setReserve_5 : decode cL_setReserve 5 = .ok (.invokevirtual 55, 3) := by decide +kernel
theorem dL_setReserve_8 : decode cL_setReserve 8 = .ok (.i2l, 1) := by decide +kernel
theorem dL_setReserve_9 : decode cL_setReserve 9 = .ok (.lastore, 1) := by decide +kernel
theorem dL_setReserve_10 : decode cL_setReserve 10 = .ok (.goto 11, 3) := by decide +kernel
theorem dL_setReserve_13 : decode cL_setReserve 13 = .ok (.astore 4, 2) := by decide +kernel
theorem dL_setReserve_15 : decode cL_setReserve 15 = .ok (.iconst 1, 1) := by decide +kernel
theorem dL_setReserve_16 : decode cL_setReserve 16 = .ok (.ireturn, 1) := by decide +kernel
theorem dL_setReserve_17 : decode cL_setReserve 17 = .ok (.astore 4, 2) := by decide +kernel
theorem dL_setReserve_19 : decode cL_setReserve 19 = .ok (.iconst 2, 1) := by decide +kernel
theorem dL_setReserve_20 : decode cL_setReserve 20 = .ok (.ireturn, 1) := by decide +kernel
theorem dL_setReserve_21 : decode cL_setReserve 21 = .ok (.iconst 0, 1) := by decide +kernel
theorem dL_setReserve_22 : decode cL_setReserve 22 = .ok (.ireturn, 1) := by decide +kernel
theorem dL_wishCount_0 : decode cL_wishCount 0 = .ok (.aload_n 2, 1) := by decide +kernel
theorem dL_wishCount_1 : decode cL_wishCount 1 = .ok (.iconst 0, 1) := by decide +kernel
theorem dL_wishCount_2 : decode cL_wishCount 2 = .ok (.aload_n 0, 1) := by decide +kernel
theorem dL_wishCount_3 : decode cL_wishCount 3 = .ok (.iload_n 1, 1) := by decide +kernel
theorem dL_wishCount_4 : decode cL_wishCount 4 = .ok (.invokevirtual 58, 3) := by decide +kernel
theorem dL_wishCount_7 : decode cL_wishCount 7 = .ok (.i2l, 1) := by decide +kernel
theorem dL_wishCount_8 : decode cL_wishCount 8 = .ok (.lastore, 1) := by decide +kernel
theorem dL_wishCount_9 : decode cL_wishCount 9 = .ok (.goto 6, 3) := by decide +kernel
theorem dL_wishCount_12 : decode cL_wishCount 12 = .ok (.astore_n 3, 1) := by decide +kernel
theorem dL_wishCount_13 : decode cL_wishCount 13 = .ok (.iconst 1, 1) := by decide +kernel
theorem dL_wishCount_14 : decode cL_wishCount 14 = .ok (.ireturn, 1) := by decide +kernel
theorem dL_wishCount_15 : decode cL_wishCount 15 = .ok (.iconst 0, 1) := by decide +kernel
theorem dL_wishCount_16 : decode cL_wishCount 16 = .ok (.ireturn, 1) := by decide +kernel
theorem dL_wishAt_0 : decode cL_wishAt 0 = .ok (.aload_n 3, 1) := by decide +kernel
theorem dL_wishAt_1 : decode cL_wishAt 1 = .ok (.iconst 0, 1) := by decide +kernel
theorem dL_wishAt_2 : decode cL_wishAt 2 = .ok (.aload_n 0, 1) := by decide +kernel
theorem dL_wishAt_3 : decode cL_wishAt 3 = .ok (.iload_n 1, 1) := by decide +kernel
theorem dL_wishAt_4 : decode cL_wishAt 4 = .ok (.iload_n 2, 1) := by decide +kernel
theorem dL_wishAt_5 : decode cL_wishAt 5 = .ok (.invokevirtual 61, 3) := by decide +kernel
theorem dL_wishAt_8 : decode cL_wishAt 8 = .ok (.i2l, 1) := by decide +kernel
theorem dL_wishAt_9 : decode cL_wishAt 9 = .ok (.lastore, 1) := by decide +kernel
theorem dL_wishAt_10 : decode cL_wishAt 10 = .ok (.goto 11, 3) := by decide +kernel
theorem dL_wishAt_13 : decode cL_wishAt 13 = .ok (.astore 4, 2) := by decide +kernel
theorem dL_wishAt_15 : decode cL_wishAt 15 = .ok (.iconst 1, 1) := by decide +kernel
theorem dL_wishAt_16 : decode cL_wishAt 16 = .ok (.ireturn, 1) := by decide +kernel
theorem dL_wishAt_17 : decode cL_wishAt 17 = .ok (.astore 4, 2) := by decide +kernel
theorem dL_wishAt_19 : decode cL_wishAt 19 = .ok (.iconst 2, 1) := by decide +kernel
theorem dL_wishAt_20 : decode cL_wishAt 20 = .ok (.ireturn, 1) := by decide +kernel
theorem dL_wishAt_21 : decode cL_wishAt 21 = .ok (.iconst 0, 1) := by decide +kernel
theorem dL_wishAt_22 : decode cL_wishAt 22 = .ok (.ireturn, 1) := by decide +kernel
theorem dL_reserveOf_0 : decode cL_reserveOf 0 = .ok (.aload_n 2, 1) := by decide +kernel
theorem dL_reserveOf_1 : decode cL_reserveOf 1 = .ok (.iconst 0, 1) := by decide +kernel
theorem dL_reserveOf_2 : decode cL_reserveOf 2 = .ok (.aload_n 0, 1) := by decide +kernel
theorem dL_reserveOf_3 : decode cL_reserveOf 3 = .ok (.iload_n 1, 1) := by decide +kernel
theorem dL_reserveOf_4 : decode cL_reserveOf 4 = .ok (.invokevirtual 64, 3) := by decide +kernel
theorem dL_reserveOf_7 : decode cL_reserveOf 7 = .ok (.i2l, 1) := by decide +kernel
theorem dL_reserveOf_8 : decode cL_reserveOf 8 = .ok (.lastore, 1) := by decide +kernel
theorem dL_reserveOf_9 : decode cL_reserveOf 9 = .ok (.goto 6, 3) := by decide +kernel
theorem dL_reserveOf_12 : decode cL_reserveOf 12 = .ok (.astore_n 3, 1) := by decide +kernel
theorem dL_reserveOf_13 : decode cL_reserveOf 13 = .ok (.iconst 1, 1) := by decide +kernel
theorem dL_reserveOf_14 : decode cL_reserveOf 14 = .ok (.ireturn, 1) := by decide +kernel
theorem dL_reserveOf_15 : decode cL_reserveOf 15 = .ok (.iconst 0, 1) := by decide +kernel
theorem dL_reserveOf_16 : decode cL_reserveOf 16 = .ok (.ireturn, 1) := by decide +kernel
theorem dL_subjectIn_0 : decode cL_subjectIn 0 = .ok (.aload_n 3, 1) := by decide +kernel
theorem dL_subjectIn_1 : decode cL_subjectIn 1 = .ok (.iconst 0, 1) := by decide +kernel
theorem dL_subjectIn_2 : decode cL_subjectIn 2 = .ok (.aload_n 0, 1) := by decide +kernel
theorem dL_subjectIn_3 : decode cL_subjectIn 3 = .ok (.iload_n 1, 1) := by decide +kernel
theorem dL_subjectIn_4 : decode cL_subjectIn 4 = .ok (.iload_n 2, 1) := by decide +kernel
theorem dL_subjectIn_5 : decode cL_subjectIn 5 = .ok (.invokevirtual 67, 3) := by decide +kernel
theorem dL_subjectIn_8 : decode cL_subjectIn 8 = .ok (.i2l, 1) := by decide +kernel
theorem dL_subjectIn_9 : decode cL_subjectIn 9 = .ok (.lastore, 1) := by decide +kernel
theorem dL_subjectIn_10 : decode cL_subjectIn 10 = .ok (.goto 7, 3) := by decide +kernel
theorem dL_subjectIn_13 : decode cL_subjectIn 13 = .ok (.astore 4, 2) := by decide +kernel
theorem dL_subjectIn_15 : decode cL_subjectIn 15 = .ok (.iconst 1, 1) := by decide +kernel
theorem dL_subjectIn_16 : decode cL_subjectIn 16 = .ok (.ireturn, 1) := by decide +kernel
theorem dL_subjectIn_17 : decode cL_subjectIn 17 = .ok (.iconst 0, 1) := by decide +kernel
theorem dL_subjectIn_18 : decode cL_subjectIn 18 = .ok (.ireturn, 1) := by decide +kernel
theorem dL_blockOf_0 : decode cL_blockOf 0 = .ok (.aload_n 3, 1) := by decide +kernel
theorem dL_blockOf_1 : decode cL_blockOf 1 = .ok (.iconst 0, 1) := by decide +kernel
theorem dL_blockOf_2 : decode cL_blockOf 2 = .ok (.aload_n 0, 1) := by decide +kernel
theorem dL_blockOf_3 : decode cL_blockOf 3 = .ok (.iload_n 1, 1) := by decide +kernel
theorem dL_blockOf_4 : decode cL_blockOf 4 = .ok (.iload_n 2, 1) := by decide +kernel
theorem dL_blockOf_5 : decode cL_blockOf 5 = .ok (.invokevirtual 70, 3) := by decide +kernel
theorem dL_blockOf_8 : decode cL_blockOf 8 = .ok (.i2l, 1) := by decide +kernel
theorem dL_blockOf_9 : decode cL_blockOf 9 = .ok (.lastore, 1) := by decide +kernel
theorem dL_blockOf_10 : decode cL_blockOf 10 = .ok (.goto 7, 3) := by decide +kernel
theorem dL_blockOf_13 : decode cL_blockOf 13 = .ok (.astore 4, 2) := by decide +kernel
theorem dL_blockOf_15 : decode cL_blockOf 15 = .ok (.iconst 1, 1) := by decide +kernel
theorem dL_blockOf_16 : decode cL_blockOf 16 = .ok (.ireturn, 1) := by decide +kernel
theorem dL_blockOf_17 : decode cL_blockOf 17 = .ok (.iconst 0, 1) := by decide +kernel
theorem dL_blockOf_18 : decode cL_blockOf 18 = .ok (.ireturn, 1) := by decide +kernel
theorem dL_enrol_0 : decode cL_enrol 0 = .ok (.aload_n 2, 1) := by decide +kernel
theorem dL_enrol_1 : decode cL_enrol 1 = .ok (.iconst 0, 1) := by decide +kernel
theorem dL_enrol_2 : decode cL_enrol 2 = .ok (.aload_n 0, 1) := by decide +kernel
theorem dL_enrol_3 : decode cL_enrol 3 = .ok (.iload_n 1, 1) := by decide +kernel
theorem dL_enrol_4 : decode cL_enrol 4 = .ok (.invokevirtual 73, 3) := by decide +kernel
theorem dL_enrol_7 : decode cL_enrol 7 = .ok (.i2l, 1) := by decide +kernel
theorem dL_enrol_8 : decode cL_enrol 8 = .ok (.lastore, 1) := by decide +kernel
theorem dL_enrol_9 : decode cL_enrol 9 = .ok (.goto 9, 3) := by decide +kernel
theorem dL_enrol_12 : decode cL_enrol 12 = .ok (.astore_n 3, 1) := by decide +kernel
theorem dL_enrol_13 : decode cL_enrol 13 = .ok (.iconst 1, 1) := by decide +kernel
theorem dL_enrol_14 : decode cL_enrol 14 = .ok (.ireturn, 1) := by decide +kernel
theorem dL_enrol_15 : decode cL_enrol 15 = .ok (.astore_n 3, 1) := by decide +kernel
theorem dL_enrol_16 : decode cL_enrol 16 = .ok (.iconst 2, 1) := by decide +kernel
theorem dL_enrol_17 : decode cL_enrol 17 = .ok (.ireturn, 1) := by decide +kernel
theorem dL_enrol_18 : decode cL_enrol 18 = .ok (.iconst 0, 1) := by decide +kernel
theorem dL_enrol_19 : decode cL_enrol 19 = .ok (.ireturn, 1) := by decide +kernel
theorem dL_withdraw_0 : decode cL_withdraw 0 = .ok (.aload_n 2, 1) := by decide +kernel
theorem dL_withdraw_1 : decode cL_withdraw 1 = .ok (.iconst 0, 1) := by decide +kernel
theorem dL_withdraw_2 : decode cL_withdraw 2 = .ok (.aload_n 0, 1) := by decide +kernel
theorem dL_withdraw_3 : decode cL_withdraw 3 = .ok (.iload_n 1, 1) := by decide +kernel
theorem dL_withdraw_4 : decode cL_withdraw 4 = .ok (.invokevirtual 76, 3) := by decide +kernel
theorem dL_withdraw_7 : decode cL_withdraw 7 = .ok (.i2l, 1) := by decide +kernel
theorem dL_withdraw_8 : decode cL_withdraw 8 = .ok (.lastore, 1) := by decide +kernel
theorem dL_withdraw_9 : decode cL_withdraw 9 = .ok (.goto 9, 3) := by decide +kernel
theorem dL_withdraw_12 : decode cL_withdraw 12 = .ok (.astore_n 3, 1) := by decide +kernel
theorem dL_withdraw_13 : decode cL_withdraw 13 = .ok (.iconst 1, 1) := by decide +kernel
theorem dL_withdraw_14 : decode cL_withdraw 14 = .ok (.ireturn, 1) := by decide +kernel
theorem dL_withdraw_15 : decode cL_withdraw 15 = .ok (.astore_n 3, 1) := by decide +kernel
theorem dL_withdraw_16 : decode cL_withdraw 16 = .ok (.iconst 2, 1) := by decide +kernel
theorem dL_withdraw_17 : decode cL_withdraw 17 = .ok (.ireturn, 1) := by decide +kernel
theorem dL_withdraw_18 : decode cL_withdraw 18 = .ok (.iconst 0, 1) := by decide +kernel
theorem dL_withdraw_19 : decode cL_withdraw 19 = .ok (.ireturn, 1) := by decide +kernel
theorem dL_bestValue_0 : decode cL_bestValue 0 = .ok (.aload_n 2, 1) := by decide +kernel
theorem dL_bestValue_1 : decode cL_bestValue 1 = .ok (.iconst 0, 1) := by decide +kernel
theorem dL_bestValue_2 : decode cL_bestValue 2 = .ok (.aload_n 0, 1) := by decide +kernel
theorem dL_bestValue_3 : decode cL_bestValue 3 = .ok (.iload_n 1, 1) := by decide +kernel
theorem dL_bestValue_4 : decode cL_bestValue 4 = .ok (.invokevirtual 79, 3) := by decide +kernel
theorem dL_bestValue_7 : decode cL_bestValue 7 = .ok (.i2l, 1) := by decide +kernel
theorem dL_bestValue_8 : decode cL_bestValue 8 = .ok (.lastore, 1) := by decide +kernel
theorem dL_bestValue_9 : decode cL_bestValue 9 = .ok (.goto 6, 3) := by decide +kernel
theorem dL_bestValue_12 : decode cL_bestValue 12 = .ok (.astore_n 3, 1) := by decide +kernel
theorem dL_bestValue_13 : decode cL_bestValue 13 = .ok (.iconst 1, 1) := by decide +kernel
theorem dL_bestValue_14 : decode cL_bestValue 14 = .ok (.ireturn, 1) := by decide +kernel
theorem dL_bestValue_15 : decode cL_bestValue 15 = .ok (.iconst 0, 1) := by decide +kernel
theorem dL_bestValue_16 : decode cL_bestValue 16 = .ok (.ireturn, 1) := by decide +kernel
theorem dL_bestValueBySets_0 : decode cL_bestValueBySets 0 = .ok (.aload_n 2, 1) := by decide +kernel
theorem dL_bestValueBySets_1 : decode cL_bestValueBySets 1 = .ok (.iconst 0, 1) := by decide +kernel
theorem dL_bestValueBySets_2 : decode cL_bestValueBySets 2 = .ok (.aload_n 0, 1) := by decide +kernel
theorem dL_bestValueBySets_3 : decode cL_bestValueBySets 3 = .ok (.iload_n 1, 1) := by decide +kernel
theorem dL_bestValueBySets_4 : decode cL_bestValueBySets 4 = .ok (.invokevirtual 82, 3) := by decide +kernel
theorem dL_bestValueBySets_7 : decode cL_bestValueBySets 7 = .ok (.i2l, 1) := by decide +kernel
theorem dL_bestValueBySets_8 : decode cL_bestValueBySets 8 = .ok (.lastore, 1) := by decide +kernel
theorem dL_bestValueBySets_9 : decode cL_bestValueBySets 9 = .ok (.goto 6, 3) := by decide +kernel
theorem dL_bestValueBySets_12 : decode cL_bestValueBySets 12 = .ok (.astore_n 3, 1) := by decide +kernel
theorem dL_bestValueBySets_13 : decode cL_bestValueBySets 13 = .ok (.iconst 1, 1) := by decide +kernel
theorem dL_bestValueBySets_14 : decode cL_bestValueBySets 14 = .ok (.ireturn, 1) := by decide +kernel
theorem dL_bestValueBySets_15 : decode cL_bestValueBySets 15 = .ok (.iconst 0, 1) := by decide +kernel
theorem dL_bestValueBySets_16 : decode cL_bestValueBySets 16 = .ok (.ireturn, 1) := by decide +kernel
theorem dL_canServe_0 : decode cL_canServe 0 = .ok (.aload_n 2, 1) := by decide +kernel
theorem dL_canServe_1 : decode cL_canServe 1 = .ok (.iconst 0, 1) := by decide +kernel
theorem dL_canServe_2 : decode cL_canServe 2 = .ok (.aload_n 0, 1) := by decide +kernel
theorem dL_canServe_3 : decode cL_canServe 3 = .ok (.iload_n 1, 1) := by decide +kernel
theorem dL_canServe_4 : decode cL_canServe 4 = .ok (.invokevirtual 85, 3) := by decide +kernel
theorem dL_canServe_7 : decode cL_canServe 7 = .ok (.ifCond .eq 7, 3) := by decide +kernel
theorem dL_canServe_10 : decode cL_canServe 10 = .ok (.lconst 1, 1) := by decide +kernel
theorem dL_canServe_11 : decode cL_canServe 11 = .ok (.goto 4, 3) := by decide +kernel
theorem dL_canServe_14 : decode cL_canServe 14 = .ok (.lconst 0, 1) := by decide +kernel
theorem dL_canServe_15 : decode cL_canServe 15 = .ok (.lastore, 1) := by decide +kernel
theorem dL_canServe_16 : decode cL_canServe 16 = .ok (.goto 6, 3) := by decide +kernel
theorem dL_canServe_19 : decode cL_canServe 19 = .ok (.astore_n 3, 1) := by decide +kernel
theorem dL_canServe_20 : decode cL_canServe 20 = .ok (.iconst 1, 1) := by decide +kernel
theorem dL_canServe_21 : decode cL_canServe 21 = .ok (.ireturn, 1) := by decide +kernel
theorem dL_canServe_22 : decode cL_canServe 22 = .ok (.iconst 0, 1) := by decide +kernel
theorem dL_canServe_23 : decode cL_canServe 23 = .ok (.ireturn, 1) := by decide +kernel
theorem dL_canServeByCounting_0 : decode cL_canServeByCounting 0 = .ok (.aload_n 2, 1) := by decide +kernel
theorem dL_canServeByCounting_1 : decode cL_canServeByCounting 1 = .ok (.iconst 0, 1) := by decide +kernel
theorem dL_canServeByCounting_2 : decode cL_canServeByCounting 2 = .ok (.aload_n 0, 1) := by decide +kernel
theorem dL_canServeByCounting_3 : decode cL_canServeByCounting 3 = .ok (.iload_n 1, 1) := by decide +kernel
theorem dL_canServeByCounting_4 : decode cL_canServeByCounting 4 = .ok (.invokevirtual 89, 3) := by decide +kernel
theorem dL_canServeByCounting_7 : decode cL_canServeByCounting 7 = .ok (.ifCond .eq 7, 3) := by decide +kernel
theorem dL_canServeByCounting_10 : decode cL_canServeByCounting 10 = .ok (.lconst 1, 1) := by decide +kernel
theorem dL_canServeByCounting_11 : decode cL_canServeByCounting 11 = .ok (.goto 4, 3) := by decide +kernel
theorem dL_canServeByCounting_14 : decode cL_canServeByCounting 14 = .ok (.lconst 0, 1) := by decide +kernel
theorem dL_canServeByCounting_15 : decode cL_canServeByCounting 15 = .ok (.lastore, 1) := by decide +kernel
theorem dL_canServeByCounting_16 : decode cL_canServeByCounting 16 = .ok (.goto 6, 3) := by decide +kernel
theorem dL_canServeByCounting_19 : decode cL_canServeByCounting 19 = .ok (.astore_n 3, 1) := by decide +kernel
theorem dL_canServeByCounting_20 : decode cL_canServeByCounting 20 = .ok (.iconst 1, 1) := by decide +kernel
theorem dL_canServeByCounting_21 : decode cL_canServeByCounting 21 = .ok (.ireturn, 1) := by decide +kernel
theorem dL_canServeByCounting_22 : decode cL_canServeByCounting 22 = .ok (.iconst 0, 1) := by decide +kernel
theorem dL_canServeByCounting_23 : decode cL_canServeByCounting 23 = .ok (.ireturn, 1) := by decide +kernel
theorem dL_meanClassSize_0 : decode cL_meanClassSize 0 = .ok (.aload_n 1, 1) := by decide +kernel
theorem dL_meanClassSize_1 : decode cL_meanClassSize 1 = .ok (.iconst 0, 1) := by decide +kernel
theorem dL_meanClassSize_2 : decode cL_meanClassSize 2 = .ok (.aload_n 0, 1) := by decide +kernel
theorem dL_meanClassSize_3 : decode cL_meanClassSize 3 = .ok (.invokevirtual 92, 3) := by decide +kernel
theorem dL_meanClassSize_6 : decode cL_meanClassSize 6 = .ok (.dastore, 1) := by decide +kernel
theorem dL_meanClassSize_7 : decode cL_meanClassSize 7 = .ok (.goto 6, 3) := by decide +kernel
theorem dL_meanClassSize_10 : decode cL_meanClassSize 10 = .ok (.astore_n 2, 1) := by decide +kernel
theorem dL_meanClassSize_11 : decode cL_meanClassSize 11 = .ok (.iconst 1, 1) := by decide +kernel
theorem dL_meanClassSize_12 : decode cL_meanClassSize 12 = .ok (.ireturn, 1) := by decide +kernel
theorem dL_meanClassSize_13 : decode cL_meanClassSize 13 = .ok (.iconst 0, 1) := by decide +kernel
theorem dL_meanClassSize_14 : decode cL_meanClassSize 14 = .ok (.ireturn, 1) := by decide +kernel
theorem dL_movesFor_0 : decode cL_movesFor 0 = .ok (.aload_n 3, 1) := by decide +kernel
theorem dL_movesFor_1 : decode cL_movesFor 1 = .ok (.iconst 0, 1) := by decide +kernel
theorem dL_movesFor_2 : decode cL_movesFor 2 = .ok (.aload_n 0, 1) := by decide +kernel
theorem dL_movesFor_3 : decode cL_movesFor 3 = .ok (.iload_n 1, 1) := by decide +kernel
theorem dL_movesFor_4 : decode cL_movesFor 4 = .ok (.iload_n 2, 1) := by decide +kernel
theorem dL_movesFor_5 : decode cL_movesFor 5 = .ok (.invokevirtual 98, 3) := by decide +kernel
theorem dL_movesFor_8 : decode cL_movesFor 8 = .ok (.i2l, 1) := by decide +kernel
theorem dL_movesFor_9 : decode cL_movesFor 9 = .ok (.lastore, 1) := by decide +kernel
theorem dL_movesFor_10 : decode cL_movesFor 10 = .ok (.goto 15, 3) := by decide +kernel
theorem dL_movesFor_13 : decode cL_movesFor 13 = .ok (.astore 4, 2) := by decide +kernel
theorem dL_movesFor_15 : decode cL_movesFor 15 = .ok (.iconst 1, 1) := by decide +kernel
theorem dL_movesFor_16 : decode cL_movesFor 16 = .ok (.ireturn, 1) := by decide +kernel
theorem dL_movesFor_17 : decode cL_movesFor 17 = .ok (.astore 4, 2) := by decide +kernel
theorem dL_movesFor_19 : decode cL_movesFor 19 = .ok (.iconst 2, 1) := by decide +kernel
theorem dL_movesFor_20 : decode cL_movesFor 20 = .ok (.ireturn, 1) := by decide +kernel
theorem dL_movesFor_21 : decode cL_movesFor 21 = .ok (.astore 4, 2) := by decide +kernel
theorem dL_movesFor_23 : decode cL_movesFor 23 = .ok (.iconst 3, 1) := by decide +kernel
theorem dL_movesFor_24 : decode cL_movesFor 24 = .ok (.ireturn, 1) := by decide +kernel
theorem dL_movesFor_25 : decode cL_movesFor 25 = .ok (.iconst 0, 1) := by decide +kernel
theorem dL_movesFor_26 : decode cL_movesFor 26 = .ok (.ireturn, 1) := by decide +kernel
theorem dL_movesByTrial_0 : decode cL_movesByTrial 0 = .ok (.aload_n 3, 1) := by decide +kernel
theorem dL_movesByTrial_1 : decode cL_movesByTrial 1 = .ok (.iconst 0, 1) := by decide +kernel
theorem dL_movesByTrial_2 : decode cL_movesByTrial 2 = .ok (.aload_n 0, 1) := by decide +kernel
theorem dL_movesByTrial_3 : decode cL_movesByTrial 3 = .ok (.iload_n 1, 1) := by decide +kernel
theorem dL_movesByTrial_4 : decode cL_movesByTrial 4 = .ok (.iload_n 2, 1) := by decide +kernel
theorem dL_movesByTrial_5 : decode cL_movesByTrial 5 = .ok (.invokevirtual 101, 3) := by decide +kernel
theorem dL_movesByTrial_8 : decode cL_movesByTrial 8 = .ok (.i2l, 1) := by decide +kernel
theorem dL_movesByTrial_9 : decode cL_movesByTrial 9 = .ok (.lastore, 1) := by decide +kernel
theorem dL_movesByTrial_10 : decode cL_movesByTrial 10 = .ok (.goto 15, 3) := by decide +kernel
theorem dL_movesByTrial_13 : decode cL_movesByTrial 13 = .ok (.astore 4, 2) := by decide +kernel
theorem dL_movesByTrial_15 : decode cL_movesByTrial 15 = .ok (.iconst 1, 1) := by decide +kernel
theorem dL_movesByTrial_16 : decode cL_movesByTrial 16 = .ok (.ireturn, 1) := by decide +kernel
theorem dL_movesByTrial_17 : decode cL_movesByTrial 17 = .ok (.astore 4, 2) := by decide +kernel
theorem dL_movesByTrial_19 : decode cL_movesByTrial 19 = .ok (.iconst 2, 1) := by decide +kernel
theorem dL_movesByTrial_20 : decode cL_movesByTrial 20 = .ok (.ireturn, 1) := by decide +kernel
theorem dL_movesByTrial_21 : decode cL_movesByTrial 21 = .ok (.astore 4, 2) := by decide +kernel
theorem dL_movesByTrial_23 : decode cL_movesByTrial 23 = .ok (.iconst 3, 1) := by decide +kernel
theorem dL_movesByTrial_24 : decode cL_movesByTrial 24 = .ok (.ireturn, 1) := by decide +kernel
theorem dL_movesByTrial_25 : decode cL_movesByTrial 25 = .ok (.iconst 0, 1) := by decide +kernel
theorem dL_movesByTrial_26 : decode cL_movesByTrial 26 = .ok (.ireturn, 1) := by decide +kernel
theorem dL_join_0 : decode cL_join 0 = .ok (.aload_n 3, 1) := by decide +kernel
theorem dL_join_1 : decode cL_join 1 = .ok (.iconst 0, 1) := by decide +kernel
theorem dL_join_2 : decode cL_join 2 = .ok (.aload_n 0, 1) := by decide +kernel
theorem dL_join_3 : decode cL_join 3 = .ok (.iload_n 1, 1) := by decide +kernel
theorem dL_join_4 : decode cL_join 4 = .ok (.iload_n 2, 1) := by decide +kernel
theorem dL_join_5 : decode cL_join 5 = .ok (.invokevirtual 104, 3) := by decide +kernel
theorem dL_join_8 : decode cL_join 8 = .ok (.i2l, 1) := by decide +kernel
theorem dL_join_9 : decode cL_join 9 = .ok (.lastore, 1) := by decide +kernel
theorem dL_join_10 : decode cL_join 10 = .ok (.goto 15, 3) := by decide +kernel
theorem dL_join_13 : decode cL_join 13 = .ok (.astore 4, 2) := by decide +kernel
theorem dL_join_15 : decode cL_join 15 = .ok (.iconst 1, 1) := by decide +kernel
theorem dL_join_16 : decode cL_join 16 = .ok (.ireturn, 1) := by decide +kernel
theorem dL_join_17 : decode cL_join 17 = .ok (.astore 4, 2) := by decide +kernel
theorem dL_join_19 : decode cL_join 19 = .ok (.iconst 2, 1) := by decide +kernel
theorem dL_join_20 : decode cL_join 20 = .ok (.ireturn, 1) := by decide +kernel
theorem dL_join_21 : decode cL_join 21 = .ok (.astore 4, 2) := by decide +kernel
theorem dL_join_23 : decode cL_join 23 = .ok (.iconst 3, 1) := by decide +kernel
theorem dL_join_24 : decode cL_join 24 = .ok (.ireturn, 1) := by decide +kernel
theorem dL_join_25 : decode cL_join 25 = .ok (.iconst 0, 1) := by decide +kernel
theorem dL_join_26 : decode cL_join 26 = .ok (.ireturn, 1) := by decide +kernel
theorem dL_quit_0 : decode cL_quit 0 = .ok (.aload_n 3, 1) := by decide +kernel
theorem dL_quit_1 : decode cL_quit 1 = .ok (.iconst 0, 1) := by decide +kernel
theorem dL_quit_2 : decode cL_quit 2 = .ok (.aload_n 0, 1) := by decide +kernel
theorem dL_quit_3 : decode cL_quit 3 = .ok (.iload_n 1, 1) := by decide +kernel
theorem dL_quit_4 : decode cL_quit 4 = .ok (.iload_n 2, 1) := by decide +kernel
theorem dL_quit_5 : decode cL_quit 5 = .ok (.invokevirtual 109, 3) := by decide +kernel
theorem dL_quit_8 : decode cL_quit 8 = .ok (.i2l, 1) := by decide +kernel
theorem dL_quit_9 : decode cL_quit 9 = .ok (.lastore, 1) := by decide +kernel
theorem dL_quit_10 : decode cL_quit 10 = .ok (.goto 11, 3) := by decide +kernel
theorem dL_quit_13 : decode cL_quit 13 = .ok (.astore 4, 2) := by decide +kernel
theorem dL_quit_15 : decode cL_quit 15 = .ok (.iconst 1, 1) := by decide +kernel
theorem dL_quit_16 : decode cL_quit 16 = .ok (.ireturn, 1) := by decide +kernel
theorem dL_quit_17 : decode cL_quit 17 = .ok (.astore 4, 2) := by decide +kernel
theorem dL_quit_19 : decode cL_quit 19 = .ok (.iconst 2, 1) := by decide +kernel
theorem dL_quit_20 : decode cL_quit 20 = .ok (.ireturn, 1) := by decide +kernel
theorem dL_quit_21 : decode cL_quit 21 = .ok (.iconst 0, 1) := by decide +kernel
theorem dL_quit_22 : decode cL_quit 22 = .ok (.ireturn, 1) := by decide +kernel
theorem dL_change_0 : decode cL_change 0 = .ok (.aload 4, 2) := by decide +kernel
theorem dL_change_2 : decode cL_change 2 = .ok (.iconst 0, 1) := by decide +kernel
theorem dL_change_3 : decode cL_change 3 = .ok (.aload_n 0, 1) := by decide +kernel
theorem dL_change_4 : decode cL_change 4 = .ok (.iload_n 1, 1) := by decide +kernel
theorem dL_change_5 : decode cL_change 5 = .ok (.iload_n 2, 1) := by decide +kernel
theorem dL_change_6 : decode cL_change 6 = .ok (.iload_n 3, 1) := by decide +kernel
theorem dL_change_7 : decode cL_change 7 = .ok (.invokevirtual 112, 3) := by decide +kernel
theorem dL_change_10 : decode cL_change 10 = .ok (.i2l, 1) := by decide +kernel
theorem dL_change_11 : decode cL_change 11 = .ok (.lastore, 1) := by decide +kernel
theorem dL_change_12 : decode cL_change 12 = .ok (.goto 15, 3) := by decide +kernel
theorem dL_change_15 : decode cL_change 15 = .ok (.astore 5, 2) := by decide +kernel
theorem dL_change_17 : decode cL_change 17 = .ok (.iconst 1, 1) := by decide +kernel
theorem dL_change_18 : decode cL_change 18 = .ok (.ireturn, 1) := by decide +kernel
theorem dL_change_19 : decode cL_change 19 = .ok (.astore 5, 2) := by decide +kernel
theorem dL_change_21 : decode cL_change 21 = .ok (.iconst 2, 1) := by decide +kernel
theorem dL_change_22 : decode cL_change 22 = .ok (.ireturn, 1) := by decide +kernel
theorem dL_change_23 : decode cL_change 23 = .ok (.astore 5, 2) := by decide +kernel
theorem dL_change_25 : decode cL_change 25 = .ok (.iconst 3, 1) := by decide +kernel
theorem dL_change_26 : decode cL_change 26 = .ok (.ireturn, 1) := by decide +kernel
theorem dL_change_27 : decode cL_change 27 = .ok (.iconst 0, 1) := by decide +kernel
theorem dL_change_28 : decode cL_change 28 = .ok (.ireturn, 1) := by decide +kernel
theorem dL_refusalReason_0 : decode cL_refusalReason 0 = .ok (.aload_n 1, 1) := by decide +kernel
theorem dL_refusalReason_1 : decode cL_refusalReason 1 = .ok (.iconst 0, 1) := by decide +kernel
theorem dL_refusalReason_2 : decode cL_refusalReason 2 = .ok (.aload_n 0, 1) := by decide +kernel
theorem dL_refusalReason_3 : decode cL_refusalReason 3 = .ok (.invokevirtual 115, 3) := by decide +kernel
theorem dL_refusalReason_6 : decode cL_refusalReason 6 = .ok (.i2l, 1) := by decide +kernel
theorem dL_refusalReason_7 : decode cL_refusalReason 7 = .ok (.lastore, 1) := by decide +kernel
theorem dL_refusalReason_8 : decode cL_refusalReason 8 = .ok (.goto 6, 3) := by decide +kernel
theorem dL_refusalReason_11 : decode cL_refusalReason 11 = .ok (.astore_n 2, 1) := by decide +kernel
theorem dL_refusalReason_12 : decode cL_refusalReason 12 = .ok (.iconst 1, 1) := by decide +kernel
theorem dL_refusalReason_13 : decode cL_refusalReason 13 = .ok (.ireturn, 1) := by decide +kernel
theorem dL_refusalReason_14 : decode cL_refusalReason 14 = .ok (.iconst 0, 1) := by decide +kernel
theorem dL_refusalReason_15 : decode cL_refusalReason 15 = .ok (.ireturn, 1) := by decide +kernel
theorem dL_chainMoves_0 : decode cL_chainMoves 0 = .ok (.aload_n 1, 1) := by decide +kernel
theorem dL_chainMoves_1 : decode cL_chainMoves 1 = .ok (.iconst 0, 1) := by decide +kernel
theorem dL_chainMoves_2 : decode cL_chainMoves 2 = .ok (.aload_n 0, 1) := by decide +kernel
theorem dL_chainMoves_3 : decode cL_chainMoves 3 = .ok (.invokevirtual 118, 3) := by decide +kernel
theorem dL_chainMoves_6 : decode cL_chainMoves 6 = .ok (.i2l, 1) := by decide +kernel
theorem dL_chainMoves_7 : decode cL_chainMoves 7 = .ok (.lastore, 1) := by decide +kernel
theorem dL_chainMoves_8 : decode cL_chainMoves 8 = .ok (.goto 6, 3) := by decide +kernel
theorem dL_chainMoves_11 : decode cL_chainMoves 11 = .ok (.astore_n 2, 1) := by decide +kernel
theorem dL_chainMoves_12 : decode cL_chainMoves 12 = .ok (.iconst 1, 1) := by decide +kernel
theorem dL_chainMoves_13 : decode cL_chainMoves 13 = .ok (.ireturn, 1) := by decide +kernel
theorem dL_chainMoves_14 : decode cL_chainMoves 14 = .ok (.iconst 0, 1) := by decide +kernel
theorem dL_chainMoves_15 : decode cL_chainMoves 15 = .ok (.ireturn, 1) := by decide +kernel
theorem dL_chainPupil_0 : decode cL_chainPupil 0 = .ok (.aload_n 2, 1) := by decide +kernel
theorem dL_chainPupil_1 : decode cL_chainPupil 1 = .ok (.iconst 0, 1) := by decide +kernel
theorem dL_chainPupil_2 : decode cL_chainPupil 2 = .ok (.aload_n 0, 1) := by decide +kernel
theorem dL_chainPupil_3 : decode cL_chainPupil 3 = .ok (.iload_n 1, 1) := by decide +kernel
theorem dL_chainPupil_4 : decode cL_chainPupil 4 = .ok (.invokevirtual 121, 3) := by decide +kernel
theorem dL_chainPupil_7 : decode cL_chainPupil 7 = .ok (.i2l, 1) := by decide +kernel
theorem dL_chainPupil_8 : decode cL_chainPupil 8 = .ok (.lastore, 1) := by decide +kernel
theorem dL_chainPupil_9 : decode cL_chainPupil 9 = .ok (.goto 6, 3) := by decide +kernel
theorem dL_chainPupil_12 : decode cL_chainPupil 12 = .ok (.astore_n 3, 1) := by decide +kernel
theorem dL_chainPupil_13 : decode cL_chainPupil 13 = .ok (.iconst 1, 1) := by decide +kernel
theorem dL_chainPupil_14 : decode cL_chainPupil 14 = .ok (.ireturn, 1) := by decide +kernel
theorem dL_chainPupil_15 : decode cL_chainPupil 15 = .ok (.iconst 0, 1) := by decide +kernel
theorem dL_chainPupil_16 : decode cL_chainPupil 16 = .ok (.ireturn, 1) := by decide +kernel
theorem dL_chainBlock_0 : decode cL_chainBlock 0 = .ok (.aload_n 2, 1) := by decide +kernel
theorem dL_chainBlock_1 : decode cL_chainBlock 1 = .ok (.iconst 0, 1) := by decide +kernel
theorem dL_chainBlock_2 : decode cL_chainBlock 2 = .ok (.aload_n 0, 1) := by decide +kernel
theorem dL_chainBlock_3 : decode cL_chainBlock 3 = .ok (.iload_n 1, 1) := by decide +kernel
theorem dL_chainBlock_4 : decode cL_chainBlock 4 = .ok (.invokevirtual 124, 3) := by decide +kernel
theorem dL_chainBlock_7 : decode cL_chainBlock 7 = .ok (.i2l, 1) := by decide +kernel
theorem dL_chainBlock_8 : decode cL_chainBlock 8 = .ok (.lastore, 1) := by decide +kernel
theorem dL_chainBlock_9 : decode cL_chainBlock 9 = .ok (.goto 6, 3) := by decide +kernel
theorem dL_chainBlock_12 : decode cL_chainBlock 12 = .ok (.astore_n 3, 1) := by decide +kernel
theorem dL_chainBlock_13 : decode cL_chainBlock 13 = .ok (.iconst 1, 1) := by decide +kernel
theorem dL_chainBlock_14 : decode cL_chainBlock 14 = .ok (.ireturn, 1) := by decide +kernel
theorem dL_chainBlock_15 : decode cL_chainBlock 15 = .ok (.iconst 0, 1) := by decide +kernel
theorem dL_chainBlock_16 : decode cL_chainBlock 16 = .ok (.ireturn, 1) := by decide +kernel
theorem dL_commonWishes_0 : decode cL_commonWishes 0 = .ok (.aload_n 3, 1) := by decide +kernel
theorem dL_commonWishes_1 : decode cL_commonWishes 1 = .ok (.iconst 0, 1) := by decide +kernel
theorem dL_commonWishes_2 : decode cL_commonWishes 2 = .ok (.aload_n 0, 1) := by decide +kernel
theorem dL_commonWishes_3 : decode cL_commonWishes 3 = .ok (.iload_n 1, 1) := by decide +kernel
theorem dL_commonWishes_4 : decode cL_commonWishes 4 = .ok (.iload_n 2, 1) := by decide +kernel
theorem dL_commonWishes_5 : decode cL_commonWishes 5 = .ok (.invokevirtual 127, 3) := by decide +kernel
theorem dL_commonWishes_8 : decode cL_commonWishes 8 = .ok (.i2l, 1) := by decide +kernel
theorem dL_commonWishes_9 : decode cL_commonWishes 9 = .ok (.lastore, 1) := by decide +kernel
theorem dL_commonWishes_10 : decode cL_commonWishes 10 = .ok (.goto 11, 3) := by decide +kernel
theorem dL_commonWishes_13 : decode cL_commonWishes 13 = .ok (.astore 4, 2) := by decide +kernel
theorem dL_commonWishes_15 : decode cL_commonWishes 15 = .ok (.iconst 1, 1) := by decide +kernel
theorem dL_commonWishes_16 : decode cL_commonWishes 16 = .ok (.ireturn, 1) := by decide +kernel
theorem dL_commonWishes_17 : decode cL_commonWishes 17 = .ok (.astore 4, 2) := by decide +kernel
theorem dL_commonWishes_19 : decode cL_commonWishes 19 = .ok (.iconst 2, 1) := by decide +kernel
theorem dL_commonWishes_20 : decode cL_commonWishes 20 = .ok (.ireturn, 1) := by decide +kernel
theorem dL_commonWishes_21 : decode cL_commonWishes 21 = .ok (.iconst 0, 1) := by decide +kernel
theorem dL_commonWishes_22 : decode cL_commonWishes 22 = .ok (.ireturn, 1) := by decide +kernel
theorem dL_doClash_0 : decode cL_doClash 0 = .ok (.aload_n 3, 1) := by decide +kernel
theorem dL_doClash_1 : decode cL_doClash 1 = .ok (.iconst 0, 1) := by decide +kernel
theorem dL_doClash_2 : decode cL_doClash 2 = .ok (.aload_n 0, 1) := by decide +kernel
theorem dL_doClash_3 : decode cL_doClash 3 = .ok (.iload_n 1, 1) := by decide +kernel
theorem dL_doClash_4 : decode cL_doClash 4 = .ok (.iload_n 2, 1) := by decide +kernel
theorem dL_doClash_5 : decode cL_doClash 5 = .ok (.invokevirtual 130, 3) := by decide +kernel
theorem dL_doClash_8 : decode cL_doClash 8 = .ok (.ifCond .eq 7, 3) := by decide +kernel
theorem dL_doClash_11 : decode cL_doClash 11 = .ok (.lconst 1, 1) := by decide +kernel
theorem dL_doClash_12 : decode cL_doClash 12 = .ok (.goto 4, 3) := by decide +kernel
theorem dL_doClash_15 : decode cL_doClash 15 = .ok (.lconst 0, 1) := by decide +kernel
theorem dL_doClash_16 : decode cL_doClash 16 = .ok (.lastore, 1) := by decide +kernel
theorem dL_doClash_17 : decode cL_doClash 17 = .ok (.goto 11, 3) := by decide +kernel
theorem dL_doClash_20 : decode cL_doClash 20 = .ok (.astore 4, 2) := by decide +kernel
theorem dL_doClash_22 : decode cL_doClash 22 = .ok (.iconst 1, 1) := by decide +kernel
theorem dL_doClash_23 : decode cL_doClash 23 = .ok (.ireturn, 1) := by decide +kernel
theorem dL_doClash_24 : decode cL_doClash 24 = .ok (.astore 4, 2) := by decide +kernel
theorem dL_doClash_26 : decode cL_doClash 26 = .ok (.iconst 2, 1) := by decide +kernel
theorem dL_doClash_27 : decode cL_doClash 27 = .ok (.ireturn, 1) := by decide +kernel
theorem dL_doClash_28 : decode cL_doClash 28 = .ok (.iconst 0, 1) := by decide +kernel
theorem dL_doClash_29 : decode cL_doClash 29 = .ok (.ireturn, 1) := by decide +kernel
theorem dL_arrange_0 : decode cL_arrange 0 = .ok (.aload_n 1, 1) := by decide +kernel
theorem dL_arrange_1 : decode cL_arrange 1 = .ok (.iconst 0, 1) := by decide +kernel
theorem dL_arrange_2 : decode cL_arrange 2 = .ok (.aload_n 0, 1) := by decide +kernel
theorem dL_arrange_3 : decode cL_arrange 3 = .ok (.invokevirtual 133, 3) := by decide +kernel
theorem dL_arrange_6 : decode cL_arrange 6 = .ok (.i2l, 1) := by decide +kernel
theorem dL_arrange_7 : decode cL_arrange 7 = .ok (.lastore, 1) := by decide +kernel
theorem dL_arrange_8 : decode cL_arrange 8 = .ok (.goto 6, 3) := by decide +kernel
theorem dL_arrange_11 : decode cL_arrange 11 = .ok (.astore_n 2, 1) := by decide +kernel
theorem dL_arrange_12 : decode cL_arrange 12 = .ok (.iconst 1, 1) := by decide +kernel
theorem dL_arrange_13 : decode cL_arrange 13 = .ok (.ireturn, 1) := by decide +kernel
theorem dL_arrange_14 : decode cL_arrange 14 = .ok (.iconst 0, 1) := by decide +kernel
theorem dL_arrange_15 : decode cL_arrange 15 = .ok (.ireturn, 1) := by decide +kernel
theorem dL_writeTimetable_0 : decode cL_writeTimetable 0 = .ok (.aload_n 2, 1) := by decide +kernel
theorem dL_writeTimetable_1 : decode cL_writeTimetable 1 = .ok (.iconst 0, 1) := by decide +kernel
theorem dL_writeTimetable_2 : decode cL_writeTimetable 2 = .ok (.aload_n 0, 1) := by decide +kernel
theorem dL_writeTimetable_3 : decode cL_writeTimetable 3 = .ok (.iload_n 1, 1) := by decide +kernel
theorem dL_writeTimetable_4 : decode cL_writeTimetable 4 = .ok (.invokevirtual 136, 3) := by decide +kernel
theorem dL_writeTimetable_7 : decode cL_writeTimetable 7 = .ok (.i2l, 1) := by decide +kernel
theorem dL_writeTimetable_8 : decode cL_writeTimetable 8 = .ok (.lastore, 1) := by decide +kernel
theorem dL_writeTimetable_9 : decode cL_writeTimetable 9 = .ok (.goto 6, 3) := by decide +kernel
theorem dL_writeTimetable_12 : decode cL_writeTimetable 12 = .ok (.astore_n 3, 1) := by decide +kernel
theorem dL_writeTimetable_13 : decode cL_writeTimetable 13 = .ok (.iconst 1, 1) := by decide +kernel
theorem dL_writeTimetable_14 : decode cL_writeTimetable 14 = .ok (.ireturn, 1) := by decide +kernel
theorem dL_writeTimetable_15 : decode cL_writeTimetable 15 = .ok (.iconst 0, 1) := by decide +kernel
theorem dL_writeTimetable_16 : decode cL_writeTimetable 16 = .ok (.ireturn, 1) := by decide +kernel
theorem dL_lineAt_0 : decode cL_lineAt 0 = .ok (.aload_n 2, 1) := by decide +kernel
theorem dL_lineAt_1 : decode cL_lineAt 1 = .ok (.iconst 0, 1) := by decide +kernel
theorem dL_lineAt_2 : decode cL_lineAt 2 = .ok (.aload_n 0, 1) := by decide +kernel
theorem dL_lineAt_3 : decode cL_lineAt 3 = .ok (.iload_n 1, 1) := by decide +kernel
theorem dL_lineAt_4 : decode cL_lineAt 4 = .ok (.invokevirtual 139, 3) := by decide +kernel
theorem dL_lineAt_7 : decode cL_lineAt 7 = .ok (.i2l, 1) := by decide +kernel
theorem dL_lineAt_8 : decode cL_lineAt 8 = .ok (.lastore, 1) := by decide +kernel
theorem dL_lineAt_9 : decode cL_lineAt 9 = .ok (.goto 6, 3) := by decide +kernel
theorem dL_lineAt_12 : decode cL_lineAt 12 = .ok (.astore_n 3, 1) := by decide +kernel
theorem dL_lineAt_13 : decode cL_lineAt 13 = .ok (.iconst 1, 1) := by decide +kernel
theorem dL_lineAt_14 : decode cL_lineAt 14 = .ok (.ireturn, 1) := by decide +kernel
theorem dL_lineAt_15 : decode cL_lineAt 15 = .ok (.iconst 0, 1) := by decide +kernel
theorem dL_lineAt_16 : decode cL_lineAt 16 = .ok (.ireturn, 1) := by decide +kernel
theorem dL_type_0 : decode cL_type 0 = .ok (.aload_n 2, 1) := by decide +kernel
theorem dL_type_1 : decode cL_type 1 = .ok (.iconst 0, 1) := by decide +kernel
theorem dL_type_2 : decode cL_type 2 = .ok (.aload_n 0, 1) := by decide +kernel
theorem dL_type_3 : decode cL_type 3 = .ok (.iload_n 1, 1) := by decide +kernel
theorem dL_type_4 : decode cL_type 4 = .ok (.invokevirtual 143, 3) := by decide +kernel
theorem dL_type_7 : decode cL_type 7 = .ok (.i2l, 1) := by decide +kernel
theorem dL_type_8 : decode cL_type 8 = .ok (.lastore, 1) := by decide +kernel
theorem dL_type_9 : decode cL_type 9 = .ok (.goto 9, 3) := by decide +kernel
theorem dL_type_12 : decode cL_type 12 = .ok (.astore_n 3, 1) := by decide +kernel
theorem dL_type_13 : decode cL_type 13 = .ok (.iconst 1, 1) := by decide +kernel
theorem dL_type_14 : decode cL_type 14 = .ok (.ireturn, 1) := by decide +kernel
theorem dL_type_15 : decode cL_type 15 = .ok (.astore_n 3, 1) := by decide +kernel
theorem dL_type_16 : decode cL_type 16 = .ok (.iconst 2, 1) := by decide +kernel
theorem dL_type_17 : decode cL_type 17 = .ok (.ireturn, 1) := by decide +kernel
theorem dL_type_18 : decode cL_type 18 = .ok (.iconst 0, 1) := by decide +kernel
theorem dL_type_19 : decode cL_type 19 = .ok (.ireturn, 1) := by decide +kernel
theorem dL_execute_0 : decode cL_execute 0 = .ok (.aload_n 1, 1) := by decide +kernel
theorem dL_execute_1 : decode cL_execute 1 = .ok (.iconst 0, 1) := by decide +kernel
theorem dL_execute_2 : decode cL_execute 2 = .ok (.aload_n 0, 1) := by decide +kernel
theorem dL_execute_3 : decode cL_execute 3 = .ok (.invokevirtual 147, 3) := by decide +kernel
theorem dL_execute_6 : decode cL_execute 6 = .ok (.i2l, 1) := by decide +kernel
theorem dL_execute_7 : decode cL_execute 7 = .ok (.lastore, 1) := by decide +kernel
theorem dL_execute_8 : decode cL_execute 8 = .ok (.goto 9, 3) := by decide +kernel
theorem dL_execute_11 : decode cL_execute 11 = .ok (.astore_n 2, 1) := by decide +kernel
theorem dL_execute_12 : decode cL_execute 12 = .ok (.iconst 1, 1) := by decide +kernel
theorem dL_execute_13 : decode cL_execute 13 = .ok (.ireturn, 1) := by decide +kernel
theorem dL_execute_14 : decode cL_execute 14 = .ok (.astore_n 2, 1) := by decide +kernel
theorem dL_execute_15 : decode cL_execute 15 = .ok (.iconst 2, 1) := by decide +kernel
theorem dL_execute_16 : decode cL_execute 16 = .ok (.ireturn, 1) := by decide +kernel
theorem dL_execute_17 : decode cL_execute 17 = .ok (.iconst 0, 1) := by decide +kernel
theorem dL_execute_18 : decode cL_execute 18 = .ok (.ireturn, 1) := by decide +kernel
theorem dL_errorPosition_0 : decode cL_errorPosition 0 = .ok (.aload_n 1, 1) := by decide +kernel
theorem dL_errorPosition_1 : decode cL_errorPosition 1 = .ok (.iconst 0, 1) := by decide +kernel
theorem dL_errorPosition_2 : decode cL_errorPosition 2 = .ok (.aload_n 0, 1) := by decide +kernel
theorem dL_errorPosition_3 : decode cL_errorPosition 3 = .ok (.invokevirtual 150, 3) := by decide +kernel
theorem dL_errorPosition_6 : decode cL_errorPosition 6 = .ok (.i2l, 1) := by decide +kernel
theorem dL_errorPosition_7 : decode cL_errorPosition 7 = .ok (.lastore, 1) := by decide +kernel
theorem dL_errorPosition_8 : decode cL_errorPosition 8 = .ok (.goto 6, 3) := by decide +kernel
theorem dL_errorPosition_11 : decode cL_errorPosition 11 = .ok (.astore_n 2, 1) := by decide +kernel
theorem dL_errorPosition_12 : decode cL_errorPosition 12 = .ok (.iconst 1, 1) := by decide +kernel
theorem dL_errorPosition_13 : decode cL_errorPosition 13 = .ok (.ireturn, 1) := by decide +kernel
theorem dL_errorPosition_14 : decode cL_errorPosition 14 = .ok (.iconst 0, 1) := by decide +kernel
theorem dL_errorPosition_15 : decode cL_errorPosition 15 = .ok (.ireturn, 1) := by decide +kernel
theorem dL_failedCommand_0 : decode cL_failedCommand 0 = .ok (.aload_n 1, 1) := by decide +kernel
theorem dL_failedCommand_1 : decode cL_failedCommand 1 = .ok (.iconst 0, 1) := by decide +kernel
theorem dL_failedCommand_2 : decode cL_failedCommand 2 = .ok (.aload_n 0, 1) := by decide +kernel
theorem dL_failedCommand_3 : decode cL_failedCommand 3 = .ok (.invokevirtual 153, 3) := by decide +kernel
theorem dL_failedCommand_6 : decode cL_failedCommand 6 = .ok (.i2l, 1) := by decide +kernel
theorem dL_failedCommand_7 : decode cL_failedCommand 7 = .ok (.lastore, 1) := by decide +kernel
theorem dL_failedCommand_8 : decode cL_failedCommand 8 = .ok (.goto 6, 3) := by decide +kernel
theorem dL_failedCommand_11 : decode cL_failedCommand 11 = .ok (.astore_n 2, 1) := by decide +kernel
theorem dL_failedCommand_12 : decode cL_failedCommand 12 = .ok (.iconst 1, 1) := by decide +kernel
theorem dL_failedCommand_13 : decode cL_failedCommand 13 = .ok (.ireturn, 1) := by decide +kernel
theorem dL_failedCommand_14 : decode cL_failedCommand 14 = .ok (.iconst 0, 1) := by decide +kernel
theorem dL_failedCommand_15 : decode cL_failedCommand 15 = .ok (.ireturn, 1) := by decide +kernel
theorem dL_failureKind_0 : decode cL_failureKind 0 = .ok (.aload_n 1, 1) := by decide +kernel
theorem dL_failureKind_1 : decode cL_failureKind 1 = .ok (.iconst 0, 1) := by decide +kernel
theorem dL_failureKind_2 : decode cL_failureKind 2 = .ok (.aload_n 0, 1) := by decide +kernel
theorem dL_failureKind_3 : decode cL_failureKind 3 = .ok (.invokevirtual 156, 3) := by decide +kernel
theorem dL_failureKind_6 : decode cL_failureKind 6 = .ok (.i2l, 1) := by decide +kernel
theorem dL_failureKind_7 : decode cL_failureKind 7 = .ok (.lastore, 1) := by decide +kernel
theorem dL_failureKind_8 : decode cL_failureKind 8 = .ok (.goto 6, 3) := by decide +kernel
theorem dL_failureKind_11 : decode cL_failureKind 11 = .ok (.astore_n 2, 1) := by decide +kernel
theorem dL_failureKind_12 : decode cL_failureKind 12 = .ok (.iconst 1, 1) := by decide +kernel
theorem dL_failureKind_13 : decode cL_failureKind 13 = .ok (.ireturn, 1) := by decide +kernel
theorem dL_failureKind_14 : decode cL_failureKind 14 = .ok (.iconst 0, 1) := by decide +kernel
theorem dL_failureKind_15 : decode cL_failureKind 15 = .ok (.ireturn, 1) := by decide +kernel
theorem dL_undo_0 : decode cL_undo 0 = .ok (.aload_n 1, 1) := by decide +kernel
theorem dL_undo_1 : decode cL_undo 1 = .ok (.iconst 0, 1) := by decide +kernel
theorem dL_undo_2 : decode cL_undo 2 = .ok (.aload_n 0, 1) := by decide +kernel
theorem dL_undo_3 : decode cL_undo 3 = .ok (.invokevirtual 159, 3) := by decide +kernel
theorem dL_undo_6 : decode cL_undo 6 = .ok (.i2l, 1) := by decide +kernel
theorem dL_undo_7 : decode cL_undo 7 = .ok (.lastore, 1) := by decide +kernel
theorem dL_undo_8 : decode cL_undo 8 = .ok (.goto 6, 3) := by decide +kernel
theorem dL_undo_11 : decode cL_undo 11 = .ok (.astore_n 2, 1) := by decide +kernel
theorem dL_undo_12 : decode cL_undo 12 = .ok (.iconst 1, 1) := by decide +kernel
theorem dL_undo_13 : decode cL_undo 13 = .ok (.ireturn, 1) := by decide +kernel
theorem dL_undo_14 : decode cL_undo 14 = .ok (.iconst 0, 1) := by decide +kernel
theorem dL_undo_15 : decode cL_undo 15 = .ok (.ireturn, 1) := by decide +kernel
theorem dL_restore_0 : decode cL_restore 0 = .ok (.aload_n 1, 1) := by decide +kernel
theorem dL_restore_1 : decode cL_restore 1 = .ok (.iconst 0, 1) := by decide +kernel
theorem dL_restore_2 : decode cL_restore 2 = .ok (.aload_n 0, 1) := by decide +kernel
theorem dL_restore_3 : decode cL_restore 3 = .ok (.invokevirtual 162, 3) := by decide +kernel
theorem dL_restore_6 : decode cL_restore 6 = .ok (.i2l, 1) := by decide +kernel
theorem dL_restore_7 : decode cL_restore 7 = .ok (.lastore, 1) := by decide +kernel
theorem dL_restore_8 : decode cL_restore 8 = .ok (.goto 6, 3) := by decide +kernel
theorem dL_restore_11 : decode cL_restore 11 = .ok (.astore_n 2, 1) := by decide +kernel
theorem dL_restore_12 : decode cL_restore 12 = .ok (.iconst 1, 1) := by decide +kernel
theorem dL_restore_13 : decode cL_restore 13 = .ok (.ireturn, 1) := by decide +kernel
theorem dL_restore_14 : decode cL_restore 14 = .ok (.iconst 0, 1) := by decide +kernel
theorem dL_restore_15 : decode cL_restore 15 = .ok (.ireturn, 1) := by decide +kernel

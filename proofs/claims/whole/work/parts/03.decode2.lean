theorem dX8_setReserveNow_61 : decode cX8_setReserveNow 61 = .ok (.getfield 7, 3) := by decide +kernel
theorem dX8_setReserveNow_64 : decode cX8_setReserveNow 64 = .ok (.bipush 93, 2) := by decide +kernel
theorem dX8_setReserveNow_66 : decode cX8_setReserveNow 66 = .ok (.iload_n 1, 1) := by decide +kernel
theorem dX8_setReserveNow_67 : decode cX8_setReserveNow 67 = .ok (.iadd, 1) := by decide +kernel
theorem dX8_setReserveNow_68 : decode cX8_setReserveNow 68 = .ok (.iload_n 2, 1) := by decide +kernel
theorem dX8_setReserveNow_69 : decode cX8_setReserveNow 69 = .ok (.iastore, 1) := by decide +kernel
theorem dX8_setReserveNow_70 : decode cX8_setReserveNow 70 = .ok (.iload_n 3, 1) := by decide +kernel
theorem dX8_setReserveNow_71 : decode cX8_setReserveNow 71 = .ok (.ireturn, 1) := by decide +kernel
theorem dX8_setReserve_0 : decode cX8_setReserve 0 = .ok (.aload_n 0, 1) := by decide +kernel
theorem dX8_setReserve_1 : decode cX8_setReserve 1 = .ok (.invokevirtual 134, 3) := by decide +kernel
theorem dX8_setReserve_4 : decode cX8_setReserve 4 = .ok (.aload_n 0, 1) := by decide +kernel
theorem dX8_setReserve_5 : decode cX8_setReserve 5 = .ok (.aload_n 0, 1) := by decide +kernel
theorem dX8_setReserve_6 : decode cX8_setReserve 6 = .ok (.iload_n 1, 1) := by decide +kernel
theorem dX8_setReserve_7 : decode cX8_setReserve 7 = .ok (.iload_n 2, 1) := by decide +kernel
theorem dX8_setReserve_8 : decode cX8_setReserve 8 = .ok (.invokevirtual 186, 3) := by decide +kernel
theorem dX8_setReserve_11 : decode cX8_setReserve 11 = .ok (.iconst 1, 1) := by decide +kernel
theorem dX8_setReserve_12 : decode cX8_setReserve 12 = .ok (.iconst 3, 1) := by decide +kernel
theorem dX8_setReserve_13 : decode cX8_setReserve 13 = .ok (.invokevirtual 140, 3) := by decide +kernel
theorem dX8_setReserve_16 : decode cX8_setReserve 16 = .ok (.ireturn, 1) := by decide +kernel
theorem dX8_wishCount_0 : decode cX8_wishCount 0 = .ok (.aload_n 0, 1) := by decide +kernel
theorem dX8_wishCount_1 : decode cX8_wishCount 1 = .ok (.iload_n 1, 1) := by decide +kernel
theorem dX8_wishCount_2 : decode cX8_wishCount 2 = .ok (.invokevirtual 177, 3) := by decide +kernel
theorem dX8_wishCount_5 : decode cX8_wishCount 5 = .ok (.ifCond .eq 19, 3) := by decide +kernel
theorem dX8_wishCount_8 : decode cX8_wishCount 8 = .ok (.aload_n 0, 1) := by decide +kernel
theorem dX8_wishCount_9 : decode cX8_wishCount 9 = .ok (.aload_n 0, 1) := by decide +kernel
theorem dX8_wishCount_10 : decode cX8_wishCount 10 = .ok (.getfield 7, 3) := by decide +kernel
theorem dX8_wishCount_13 : decode cX8_wishCount 13 = .ok (.bipush 45, 2) := by decide +kernel
theorem dX8_wishCount_15 : decode cX8_wishCount 15 = .ok (.iload_n 1, 1) := by decide +kernel
theorem dX8_wishCount_16 : decode cX8_wishCount 16 = .ok (.iadd, 1) := by decide +kernel
theorem dX8_wishCount_17 : decode cX8_wishCount 17 = .ok (.iaload, 1) := by decide +kernel
theorem dX8_wishCount_18 : decode cX8_wishCount 18 = .ok (.invokevirtual 113, 3) := by decide +kernel
theorem dX8_wishCount_21 : decode cX8_wishCount 21 = .ok (.goto 8, 3) := by decide +kernel
theorem dX8_wishCount_24 : decode cX8_wishCount 24 = .ok (.aload_n 0, 1) := by decide +kernel
theorem dX8_wishCount_25 : decode cX8_wishCount 25 = .ok (.iconst 1, 1) := by decide +kernel
theorem dX8_wishCount_26 : decode cX8_wishCount 26 = .ok (.invokevirtual 106, 3) := by decide +kernel
theorem dX8_wishCount_29 : decode cX8_wishCount 29 = .ok (.ireturn, 1) := by decide +kernel
theorem dX8_wishAt_0 : decode cX8_wishAt 0 = .ok (.aload_n 0, 1) := by decide +kernel
theorem dX8_wishAt_1 : decode cX8_wishAt 1 = .ok (.iload_n 1, 1) := by decide +kernel
theorem dX8_wishAt_2 : decode cX8_wishAt 2 = .ok (.invokevirtual 177, 3) := by decide +kernel
theorem dX8_wishAt_5 : decode cX8_wishAt 5 = .ok (.ifCond .ne 9, 3) := by decide +kernel
theorem dX8_wishAt_8 : decode cX8_wishAt 8 = .ok (.aload_n 0, 1) := by decide +kernel
theorem dX8_wishAt_9 : decode cX8_wishAt 9 = .ok (.iconst 1, 1) := by decide +kernel
theorem dX8_wishAt_10 : decode cX8_wishAt 10 = .ok (.invokevirtual 106, 3) := by decide +kernel
theorem dX8_wishAt_13 : decode cX8_wishAt 13 = .ok (.ireturn, 1) := by decide +kernel
theorem dX8_wishAt_14 : decode cX8_wishAt 14 = .ok (.iload_n 2, 1) := by decide +kernel
theorem dX8_wishAt_15 : decode cX8_wishAt 15 = .ok (.iconst 0, 1) := by decide +kernel
theorem dX8_wishAt_16 : decode cX8_wishAt 16 = .ok (.aload_n 0, 1) := by decide +kernel
theorem dX8_wishAt_17 : decode cX8_wishAt 17 = .ok (.getfield 7, 3) := by decide +kernel
theorem dX8_wishAt_20 : decode cX8_wishAt 20 = .ok (.bipush 45, 2) := by decide +kernel
theorem dX8_wishAt_22 : decode cX8_wishAt 22 = .ok (.iload_n 1, 1) := by decide +kernel
theorem dX8_wishAt_23 : decode cX8_wishAt 23 = .ok (.iadd, 1) := by decide +kernel
theorem dX8_wishAt_24 : decode cX8_wishAt 24 = .ok (.iaload, 1) := by decide +kernel
theorem dX8_wishAt_25 : decode cX8_wishAt 25 = .ok (.iconst 1, 1) := by decide +kernel
theorem dX8_wishAt_26 : decode cX8_wishAt 26 = .ok (.isub, 1) := by decide +kernel
theorem dX8_wishAt_27 : decode cX8_wishAt 27 = .ok (.invokestatic 120, 3) := by decide +kernel
theorem dX8_wishAt_30 : decode cX8_wishAt 30 = .ok (.ifCond .eq 16, 3) := by decide +kernel
theorem dX8_wishAt_33 : decode cX8_wishAt 33 = .ok (.aload_n 0, 1) := by decide +kernel
theorem dX8_wishAt_34 : decode cX8_wishAt 34 = .ok (.aload_n 0, 1) := by decide +kernel
theorem dX8_wishAt_35 : decode cX8_wishAt 35 = .ok (.iload_n 1, 1) := by decide +kernel
theorem dX8_wishAt_36 : decode cX8_wishAt 36 = .ok (.iload_n 2, 1) := by decide +kernel
theorem dX8_wishAt_37 : decode cX8_wishAt 37 = .ok (.invokevirtual 128, 3) := by decide +kernel
theorem dX8_wishAt_40 : decode cX8_wishAt 40 = .ok (.invokevirtual 113, 3) := by decide +kernel
theorem dX8_wishAt_43 : decode cX8_wishAt 43 = .ok (.goto 8, 3) := by decide +kernel
theorem dX8_wishAt_46 : decode cX8_wishAt 46 = .ok (.aload_n 0, 1) := by decide +kernel
theorem dX8_wishAt_47 : decode cX8_wishAt 47 = .ok (.iconst 2, 1) := by decide +kernel
theorem dX8_wishAt_48 : decode cX8_wishAt 48 = .ok (.invokevirtual 106, 3) := by decide +kernel
theorem dX8_wishAt_51 : decode cX8_wishAt 51 = .ok (.ireturn, 1) := by decide +kernel
theorem dX8_reserveOf_0 : decode cX8_reserveOf 0 = .ok (.aload_n 0, 1) := by decide +kernel
theorem dX8_reserveOf_1 : decode cX8_reserveOf 1 = .ok (.iload_n 1, 1) := by decide +kernel
theorem dX8_reserveOf_2 : decode cX8_reserveOf 2 = .ok (.invokevirtual 177, 3) := by decide +kernel
theorem dX8_reserveOf_5 : decode cX8_reserveOf 5 = .ok (.ifCond .eq 19, 3) := by decide +kernel
theorem dX8_reserveOf_8 : decode cX8_reserveOf 8 = .ok (.aload_n 0, 1) := by decide +kernel
theorem dX8_reserveOf_9 : decode cX8_reserveOf 9 = .ok (.aload_n 0, 1) := by decide +kernel
theorem dX8_reserveOf_10 : decode cX8_reserveOf 10 = .ok (.getfield 7, 3) := by decide +kernel
theorem dX8_reserveOf_13 : decode cX8_reserveOf 13 = .ok (.bipush 93, 2) := by decide +kernel
theorem dX8_reserveOf_15 : decode cX8_reserveOf 15 = .ok (.iload_n 1, 1) := by decide +kernel
theorem dX8_reserveOf_16 : decode cX8_reserveOf 16 = .ok (.iadd, 1) := by decide +kernel
theorem dX8_reserveOf_17 : decode cX8_reserveOf 17 = .ok (.iaload, 1) := by decide +kernel
theorem dX8_reserveOf_18 : decode cX8_reserveOf 18 = .ok (.invokevirtual 113, 3) := by decide +kernel
theorem dX8_reserveOf_21 : decode cX8_reserveOf 21 = .ok (.goto 8, 3) := by decide +kernel
theorem dX8_reserveOf_24 : decode cX8_reserveOf 24 = .ok (.aload_n 0, 1) := by decide +kernel
theorem dX8_reserveOf_25 : decode cX8_reserveOf 25 = .ok (.iconst 1, 1) := by decide +kernel
theorem dX8_reserveOf_26 : decode cX8_reserveOf 26 = .ok (.invokevirtual 106, 3) := by decide +kernel
theorem dX8_reserveOf_29 : decode cX8_reserveOf 29 = .ok (.ireturn, 1) := by decide +kernel
theorem dX8_subjectIn_0 : decode cX8_subjectIn 0 = .ok (.aload_n 0, 1) := by decide +kernel
theorem dX8_subjectIn_1 : decode cX8_subjectIn 1 = .ok (.iload_n 1, 1) := by decide +kernel
theorem dX8_subjectIn_2 : decode cX8_subjectIn 2 = .ok (.invokevirtual 177, 3) := by decide +kernel
theorem dX8_subjectIn_5 : decode cX8_subjectIn 5 = .ok (.ifCond .eq 24, 3) := by decide +kernel
theorem dX8_subjectIn_8 : decode cX8_subjectIn 8 = .ok (.aload_n 0, 1) := by decide +kernel
theorem dX8_subjectIn_9 : decode cX8_subjectIn 9 = .ok (.iload_n 2, 1) := by decide +kernel
theorem dX8_subjectIn_10 : decode cX8_subjectIn 10 = .ok (.invokevirtual 161, 3) := by decide +kernel
theorem dX8_subjectIn_13 : decode cX8_subjectIn 13 = .ok (.ifCond .eq 16, 3) := by decide +kernel
theorem dX8_subjectIn_16 : decode cX8_subjectIn 16 = .ok (.aload_n 0, 1) := by decide +kernel
theorem dX8_subjectIn_17 : decode cX8_subjectIn 17 = .ok (.aload_n 0, 1) := by decide +kernel
theorem dX8_subjectIn_18 : decode cX8_subjectIn 18 = .ok (.iload_n 1, 1) := by decide +kernel
theorem dX8_subjectIn_19 : decode cX8_subjectIn 19 = .ok (.iload_n 2, 1) := by decide +kernel
theorem dX8_subjectIn_20 : decode cX8_subjectIn 20 = .ok (.invokevirtual 124, 3) := by decide +kernel
theorem dX8_subjectIn_23 : decode cX8_subjectIn 23 = .ok (.invokevirtual 113, 3) := by decide +kernel
theorem dX8_subjectIn_26 : decode cX8_subjectIn 26 = .ok (.goto 8, 3) := by decide +kernel
theorem dX8_subjectIn_29 : decode cX8_subjectIn 29 = .ok (.aload_n 0, 1) := by decide +kernel
theorem dX8_subjectIn_30 : decode cX8_subjectIn 30 = .ok (.iconst 1, 1) := by decide +kernel
theorem dX8_subjectIn_31 : decode cX8_subjectIn 31 = .ok (.invokevirtual 106, 3) := by decide +kernel
theorem dX8_subjectIn_34 : decode cX8_subjectIn 34 = .ok (.ireturn, 1) := by decide +kernel
theorem dX8_blockOf_0 : decode cX8_blockOf 0 = .ok (.aload_n 0, 1) := by decide +kernel
theorem dX8_blockOf_1 : decode cX8_blockOf 1 = .ok (.iload_n 1, 1) := by decide +kernel
theorem dX8_blockOf_2 : decode cX8_blockOf 2 = .ok (.invokevirtual 177, 3) := by decide +kernel
theorem dX8_blockOf_5 : decode cX8_blockOf 5 = .ok (.ifCond .eq 24, 3) := by decide +kernel
theorem dX8_blockOf_8 : decode cX8_blockOf 8 = .ok (.aload_n 0, 1) := by decide +kernel
theorem dX8_blockOf_9 : decode cX8_blockOf 9 = .ok (.iload_n 2, 1) := by decide +kernel
theorem dX8_blockOf_10 : decode cX8_blockOf 10 = .ok (.invokevirtual 144, 3) := by decide +kernel
theorem dX8_blockOf_13 : decode cX8_blockOf 13 = .ok (.ifCond .eq 16, 3) := by decide +kernel
theorem dX8_blockOf_16 : decode cX8_blockOf 16 = .ok (.aload_n 0, 1) := by decide +kernel
theorem dX8_blockOf_17 : decode cX8_blockOf 17 = .ok (.aload_n 0, 1) := by decide +kernel
theorem dX8_blockOf_18 : decode cX8_blockOf 18 = .ok (.iload_n 1, 1) := by decide +kernel
theorem dX8_blockOf_19 : decode cX8_blockOf 19 = .ok (.iload_n 2, 1) := by decide +kernel
theorem dX8_blockOf_20 : decode cX8_blockOf 20 = .ok (.invokevirtual 189, 3) := by decide +kernel
theorem dX8_blockOf_23 : decode cX8_blockOf 23 = .ok (.invokevirtual 113, 3) := by decide +kernel
theorem dX8_blockOf_26 : decode cX8_blockOf 26 = .ok (.goto 8, 3) := by decide +kernel
theorem dX8_blockOf_29 : decode cX8_blockOf 29 = .ok (.aload_n 0, 1) := by decide +kernel
theorem dX8_blockOf_30 : decode cX8_blockOf 30 = .ok (.iconst 1, 1) := by decide +kernel
theorem dX8_blockOf_31 : decode cX8_blockOf 31 = .ok (.invokevirtual 106, 3) := by decide +kernel
theorem dX8_blockOf_34 : decode cX8_blockOf 34 = .ok (.ireturn, 1) := by decide +kernel
theorem dX8_hasRoom_0 : decode cX8_hasRoom 0 = .ok (.aload_n 0, 1) := by decide +kernel
theorem dX8_hasRoom_1 : decode cX8_hasRoom 1 = .ok (.iload_n 1, 1) := by decide +kernel
theorem dX8_hasRoom_2 : decode cX8_hasRoom 2 = .ok (.iload_n 2, 1) := by decide +kernel
theorem dX8_hasRoom_3 : decode cX8_hasRoom 3 = .ok (.invokevirtual 148, 3) := by decide +kernel
theorem dX8_hasRoom_6 : decode cX8_hasRoom 6 = .ok (.iload_n 3, 1) := by decide +kernel
theorem dX8_hasRoom_7 : decode cX8_hasRoom 7 = .ok (.iconst (-1), 1) := by decide +kernel
theorem dX8_hasRoom_8 : decode cX8_hasRoom 8 = .ok (.if_icmp .eq 17, 3) := by decide +kernel
theorem dX8_hasRoom_11 : decode cX8_hasRoom 11 = .ok (.aload_n 0, 1) := by decide +kernel
theorem dX8_hasRoom_12 : decode cX8_hasRoom 12 = .ok (.iload_n 3, 1) := by decide +kernel
theorem dX8_hasRoom_13 : decode cX8_hasRoom 13 = .ok (.iload_n 2, 1) := by decide +kernel
theorem dX8_hasRoom_14 : decode cX8_hasRoom 14 = .ok (.invokevirtual 124, 3) := by decide +kernel
theorem dX8_hasRoom_17 : decode cX8_hasRoom 17 = .ok (.iload_n 1, 1) := by decide +kernel
theorem dX8_hasRoom_18 : decode cX8_hasRoom 18 = .ok (.if_icmp .ne 7, 3) := by decide +kernel
theorem dX8_hasRoom_21 : decode cX8_hasRoom 21 = .ok (.iconst 1, 1) := by decide +kernel
theorem dX8_hasRoom_22 : decode cX8_hasRoom 22 = .ok (.goto 4, 3) := by decide +kernel
theorem dX8_hasRoom_25 : decode cX8_hasRoom 25 = .ok (.iconst 0, 1) := by decide +kernel
theorem dX8_hasRoom_26 : decode cX8_hasRoom 26 = .ok (.isub, 1) := by decide +kernel
theorem dX8_hasRoom_27 : decode cX8_hasRoom 27 = .ok (.istore 4, 2) := by decide +kernel
theorem dX8_hasRoom_29 : decode cX8_hasRoom 29 = .ok (.aload_n 0, 1) := by decide +kernel
theorem dX8_hasRoom_30 : decode cX8_hasRoom 30 = .ok (.iload_n 1, 1) := by decide +kernel
theorem dX8_hasRoom_31 : decode cX8_hasRoom 31 = .ok (.iload_n 2, 1) := by decide +kernel
theorem dX8_hasRoom_32 : decode cX8_hasRoom 32 = .ok (.invokevirtual 154, 3) := by decide +kernel
theorem dX8_hasRoom_35 : decode cX8_hasRoom 35 = .ok (.ifCond .eq 21, 3) := by decide +kernel
theorem dX8_hasRoom_38 : decode cX8_hasRoom 38 = .ok (.iload 4, 2) := by decide +kernel
theorem dX8_hasRoom_40 : decode cX8_hasRoom 40 = .ok (.aload_n 0, 1) := by decide +kernel
theorem dX8_hasRoom_41 : decode cX8_hasRoom 41 = .ok (.getfield 7, 3) := by decide +kernel
theorem dX8_hasRoom_44 : decode cX8_hasRoom 44 = .ok (.bipush 10, 2) := by decide +kernel
theorem dX8_hasRoom_46 : decode cX8_hasRoom 46 = .ok (.iload_n 1, 1) := by decide +kernel
theorem dX8_hasRoom_47 : decode cX8_hasRoom 47 = .ok (.iadd, 1) := by decide +kernel
theorem dX8_hasRoom_48 : decode cX8_hasRoom 48 = .ok (.iaload, 1) := by decide +kernel
theorem dX8_hasRoom_49 : decode cX8_hasRoom 49 = .ok (.if_icmp .ge 7, 3) := by decide +kernel
theorem dX8_hasRoom_52 : decode cX8_hasRoom 52 = .ok (.iconst 1, 1) := by decide +kernel
theorem dX8_hasRoom_53 : decode cX8_hasRoom 53 = .ok (.goto 4, 3) := by decide +kernel
theorem dX8_hasRoom_56 : decode cX8_hasRoom 56 = .ok (.iconst 0, 1) := by decide +kernel
theorem dX8_hasRoom_57 : decode cX8_hasRoom 57 = .ok (.ireturn, 1) := by decide +kernel
theorem dX8_worth_0 : decode cX8_worth 0 = .ok (.iconst 0, 1) := by decide +kernel
theorem dX8_worth_1 : decode cX8_worth 1 = .ok (.istore_n 2, 1) := by decide +kernel
theorem dX8_worth_2 : decode cX8_worth 2 = .ok (.iconst 0, 1) := by decide +kernel
theorem dX8_worth_3 : decode cX8_worth 3 = .ok (.istore_n 3, 1) := by decide +kernel
theorem dX8_worth_4 : decode cX8_worth 4 = .ok (.iconst 0, 1) := by decide +kernel
theorem dX8_worth_5 : decode cX8_worth 5 = .ok (.istore 4, 2) := by decide +kernel
theorem dX8_worth_7 : decode cX8_worth 7 = .ok (.iload 4, 2) := by decide +kernel
theorem dX8_worth_9 : decode cX8_worth 9 = .ok (.iconst 4, 1) := by decide +kernel
theorem dX8_worth_10 : decode cX8_worth 10 = .ok (.if_icmp .ge 154, 3) := by decide +kernel
theorem dX8_worth_13 : decode cX8_worth 13 = .ok (.aload_n 0, 1) := by decide +kernel
theorem dX8_worth_14 : decode cX8_worth 14 = .ok (.getfield 39, 3) := by decide +kernel
theorem dX8_worth_17 : decode cX8_worth 17 = .ok (.iload 4, 2) := by decide +kernel
theorem dX8_worth_19 : decode cX8_worth 19 = .ok (.iaload, 1) := by decide +kernel
theorem dX8_worth_20 : decode cX8_worth 20 = .ok (.iconst 4, 1) := by decide +kernel
theorem dX8_worth_21 : decode cX8_worth 21 = .ok (.if_icmp .ne 6, 3) := by decide +kernel
theorem dX8_worth_24 : decode cX8_worth 24 = .ok (.goto 134, 3) := by decide +kernel
theorem dX8_worth_27 : decode cX8_worth 27 = .ok (.iload 4, 2) := by decide +kernel
theorem dX8_worth_29 : decode cX8_worth 29 = .ok (.iconst 3, 1) := by decide +kernel
theorem dX8_worth_30 : decode cX8_worth 30 = .ok (.if_icmp .ne 15, 3) := by decide +kernel
theorem dX8_worth_33 : decode cX8_worth 33 = .ok (.aload_n 0, 1) := by decide +kernel
theorem dX8_worth_34 : decode cX8_worth 34 = .ok (.getfield 7, 3) := by decide +kernel
theorem dX8_worth_37 : decode cX8_worth 37 = .ok (.bipush 93, 2) := by decide +kernel
theorem dX8_worth_39 : decode cX8_worth 39 = .ok (.iload_n 1, 1) := by decide +kernel
theorem dX8_worth_40 : decode cX8_worth 40 = .ok (.iadd, 1) := by decide +kernel
theorem dX8_worth_41 : decode cX8_worth 41 = .ok (.iaload, 1) := by decide +kernel
theorem dX8_worth_42 : decode cX8_worth 42 = .ok (.goto 28, 3) := by decide +kernel
theorem dX8_worth_45 : decode cX8_worth 45 = .ok (.iload 4, 2) := by decide +kernel
theorem dX8_worth_47 : decode cX8_worth 47 = .ok (.aload_n 0, 1) := by decide +kernel
theorem dX8_worth_48 : decode cX8_worth 48 = .ok (.getfield 7, 3) := by decide +kernel
theorem dX8_worth_51 : decode cX8_worth 51 = .ok (.bipush 45, 2) := by decide +kernel
theorem dX8_worth_53 : decode cX8_worth 53 = .ok (.iload_n 1, 1) := by decide +kernel
theorem dX8_worth_54 : decode cX8_worth 54 = .ok (.iadd, 1) := by decide +kernel
theorem dX8_worth_55 : decode cX8_worth 55 = .ok (.iaload, 1) := by decide +kernel
theorem dX8_worth_56 : decode cX8_worth 56 = .ok (.if_icmp .ge 13, 3) := by decide +kernel
theorem dX8_worth_59 : decode cX8_worth 59 = .ok (.aload_n 0, 1) := by decide +kernel
theorem dX8_worth_60 : decode cX8_worth 60 = .ok (.iload_n 1, 1) := by decide +kernel
theorem dX8_worth_61 : decode cX8_worth 61 = .ok (.iload 4, 2) := by decide +kernel
theorem dX8_worth_63 : decode cX8_worth 63 = .ok (.invokevirtual 128, 3) := by decide +kernel
theorem dX8_worth_66 : decode cX8_worth 66 = .ok (.goto 4, 3) := by decide +kernel
theorem dX8_worth_69 : decode cX8_worth 69 = .ok (.iconst (-1), 1) := by decide +kernel
theorem dX8_worth_70 : decode cX8_worth 70 = .ok (.istore 5, 2) := by decide +kernel
theorem dX8_worth_72 : decode cX8_worth 72 = .ok (.iload 5, 2) := by decide +kernel
theorem dX8_worth_74 : decode cX8_worth 74 = .ok (.iconst (-1), 1) := by decide +kernel
theorem dX8_worth_75 : decode cX8_worth 75 = .ok (.if_icmp .eq 51, 3) := by decide +kernel
theorem dX8_worth_78 : decode cX8_worth 78 = .ok (.aload_n 0, 1) := by decide +kernel
theorem dX8_worth_79 : decode cX8_worth 79 = .ok (.getfield 39, 3) := by decide +kernel
theorem dX8_worth_82 : decode cX8_worth 82 = .ok (.iload 4, 2) := by decide +kernel
theorem dX8_worth_84 : decode cX8_worth 84 = .ok (.iaload, 1) := by decide +kernel
theorem dX8_worth_85 : decode cX8_worth 85 = .ok (.aload_n 0, 1) := by decide +kernel
theorem dX8_worth_86 : decode cX8_worth 86 = .ok (.getfield 7, 3) := by decide +kernel
theorem dX8_worth_89 : decode cX8_worth 89 = .ok (.iconst 1, 1) := by decide +kernel
theorem dX8_worth_90 : decode cX8_worth 90 = .ok (.iaload, 1) := by decide +kernel
theorem dX8_worth_91 : decode cX8_worth 91 = .ok (.if_icmp .ge 35, 3) := by decide +kernel
theorem dX8_worth_94 : decode cX8_worth 94 = .ok (.iload_n 3, 1) := by decide +kernel
theorem dX8_worth_95 : decode cX8_worth 95 = .ok (.aload_n 0, 1) := by decide +kernel
theorem dX8_worth_96 : decode cX8_worth 96 = .ok (.getfield 39, 3) := by decide +kernel
theorem dX8_worth_99 : decode cX8_worth 99 = .ok (.iload 4, 2) := by decide +kernel
theorem dX8_worth_101 : decode cX8_worth 101 = .ok (.iaload, 1) := by decide +kernel
theorem dX8_worth_102 : decode cX8_worth 102 = .ok (.ishr, 1) := by decide +kernel
theorem dX8_worth_103 : decode cX8_worth 103 = .ok (.iconst 1, 1) := by decide +kernel
theorem dX8_worth_104 : decode cX8_worth 104 = .ok (.iand, 1) := by decide +kernel
theorem dX8_worth_105 : decode cX8_worth 105 = .ok (.iconst 1, 1) := by decide +kernel
theorem dX8_worth_106 : decode cX8_worth 106 = .ok (.if_icmp .eq 20, 3) := by decide +kernel
theorem dX8_worth_109 : decode cX8_worth 109 = .ok (.aload_n 0, 1) := by decide +kernel
theorem dX8_worth_110 : decode cX8_worth 110 = .ok (.iload 5, 2) := by decide +kernel
theorem dX8_worth_112 : decode cX8_worth 112 = .ok (.aload_n 0, 1) := by decide +kernel
theorem dX8_worth_113 : decode cX8_worth 113 = .ok (.getfield 39, 3) := by decide +kernel
theorem dX8_worth_116 : decode cX8_worth 116 = .ok (.iload 4, 2) := by decide +kernel
theorem dX8_worth_118 : decode cX8_worth 118 = .ok (.iaload, 1) := by decide +kernel
theorem dX8_worth_119 : decode cX8_worth 119 = .ok (.iload_n 1, 1) := by decide +kernel
theorem dX8_worth_120 : decode cX8_worth 120 = .ok (.invokevirtual 192, 3) := by decide +kernel
theorem dX8_worth_123 : decode cX8_worth 123 = .ok (.ifCond .ne 5, 3) := by decide +kernel
theorem dX8_worth_126 : decode cX8_worth 126 = .ok (.iconst (-1), 1) := by decide +kernel
theorem dX8_worth_127 : decode cX8_worth 127 = .ok (.ireturn, 1) := by decide +kernel
theorem dX8_worth_128 : decode cX8_worth 128 = .ok (.iload_n 3, 1) := by decide +kernel
theorem dX8_worth_129 : decode cX8_worth 129 = .ok (.iconst 1, 1) := by decide +kernel
theorem dX8_worth_130 : decode cX8_worth 130 = .ok (.aload_n 0, 1) := by decide +kernel
theorem dX8_worth_131 : decode cX8_worth 131 = .ok (.getfield 39, 3) := by decide +kernel
theorem dX8_worth_134 : decode cX8_worth 134 = .ok (.iload 4, 2) := by decide +kernel
theorem dX8_worth_136 : decode cX8_worth 136 = .ok (.iaload, 1) := by decide +kernel
theorem dX8_worth_137 : decode cX8_worth 137 = .ok (.ishl, 1) := by decide +kernel
theorem dX8_worth_138 : decode cX8_worth 138 = .ok (.ior, 1) := by decide +kernel
theorem dX8_worth_139 : decode cX8_worth 139 = .ok (.istore_n 3, 1) := by decide +kernel
theorem dX8_worth_140 : decode cX8_worth 140 = .ok (.iload_n 2, 1) := by decide +kernel
theorem dX8_worth_141 : decode cX8_worth 141 = .ok (.iload 4, 2) := by decide +kernel
theorem dX8_worth_143 : decode cX8_worth 143 = .ok (.iconst 3, 1) := by decide +kernel
theorem dX8_worth_144 : decode cX8_worth 144 = .ok (.if_icmp .ne 7, 3) := by decide +kernel
theorem dX8_worth_147 : decode cX8_worth 147 = .ok (.iconst 1, 1) := by decide +kernel
theorem dX8_worth_148 : decode cX8_worth 148 = .ok (.goto 8, 3) := by decide +kernel
theorem dX8_worth_151 : decode cX8_worth 151 = .ok (.bipush 8, 2) := by decide +kernel
theorem dX8_worth_153 : decode cX8_worth 153 = .ok (.iload 4, 2) := by decide +kernel
theorem dX8_worth_155 : decode cX8_worth 155 = .ok (.ishr, 1) := by decide +kernel
theorem dX8_worth_156 : decode cX8_worth 156 = .ok (.iadd, 1) := by decide +kernel
theorem dX8_worth_157 : decode cX8_worth 157 = .ok (.istore_n 2, 1) := by decide +kernel
theorem dX8_worth_158 : decode cX8_worth 158 = .ok (.iinc 4 1, 3) := by decide +kernel
theorem dX8_worth_161 : decode cX8_worth 161 = .ok (.goto (-154), 3) := by decide +kernel
theorem dX8_worth_164 : decode cX8_worth 164 = .ok (.aload_n 0, 1) := by decide +kernel
theorem dX8_worth_165 : decode cX8_worth 165 = .ok (.getfield 39, 3) := by decide +kernel
theorem dX8_worth_168 : decode cX8_worth 168 = .ok (.iconst 3, 1) := by decide +kernel
theorem dX8_worth_169 : decode cX8_worth 169 = .ok (.iaload, 1) := by decide +kernel
theorem dX8_worth_170 : decode cX8_worth 170 = .ok (.iconst 4, 1) := by decide +kernel
theorem dX8_worth_171 : decode cX8_worth 171 = .ok (.if_icmp .ge 15, 3) := by decide +kernel
theorem dX8_worth_174 : decode cX8_worth 174 = .ok (.aload_n 0, 1) := by decide +kernel
theorem dX8_worth_175 : decode cX8_worth 175 = .ok (.iload_n 1, 1) := by decide +kernel
theorem dX8_worth_176 : decode cX8_worth 176 = .ok (.invokevirtual 195, 3) := by decide +kernel
theorem dX8_worth_179 : decode cX8_worth 179 = .ok (.ifCond .ne 7, 3) := by decide +kernel
theorem dX8_worth_182 : decode cX8_worth 182 = .ok (.iconst (-1), 1) := by decide +kernel
theorem dX8_worth_183 : decode cX8_worth 183 = .ok (.goto 4, 3) := by decide +kernel
theorem dX8_worth_186 : decode cX8_worth 186 = .ok (.iload_n 2, 1) := by decide +kernel
theorem dX8_worth_187 : decode cX8_worth 187 = .ok (.ireturn, 1) := by decide +kernel
theorem dX8_lacksWish_0 : decode cX8_lacksWish 0 = .ok (.iconst 0, 1) := by decide +kernel
theorem dX8_lacksWish_1 : decode cX8_lacksWish 1 = .ok (.istore_n 2, 1) := by decide +kernel
theorem dX8_lacksWish_2 : decode cX8_lacksWish 2 = .ok (.iconst 0, 1) := by decide +kernel
theorem dX8_lacksWish_3 : decode cX8_lacksWish 3 = .ok (.istore_n 3, 1) := by decide +kernel
theorem dX8_lacksWish_4 : decode cX8_lacksWish 4 = .ok (.iload_n 3, 1) := by decide +kernel
theorem dX8_lacksWish_5 : decode cX8_lacksWish 5 = .ok (.aload_n 0, 1) := by decide +kernel
theorem dX8_lacksWish_6 : decode cX8_lacksWish 6 = .ok (.getfield 7, 3) := by decide +kernel
theorem dX8_lacksWish_9 : decode cX8_lacksWish 9 = .ok (.bipush 45, 2) := by decide +kernel
theorem dX8_lacksWish_11 : decode cX8_lacksWish 11 = .ok (.iload_n 1, 1) := by decide +kernel
theorem dX8_lacksWish_12 : decode cX8_lacksWish 12 = .ok (.iadd, 1) := by decide +kernel
theorem dX8_lacksWish_13 : decode cX8_lacksWish 13 = .ok (.iaload, 1) := by decide +kernel
theorem dX8_lacksWish_14 : decode cX8_lacksWish 14 = .ok (.if_icmp .ge 29, 3) := by decide +kernel
theorem dX8_lacksWish_17 : decode cX8_lacksWish 17 = .ok (.iload_n 2, 1) := by decide +kernel
theorem dX8_lacksWish_18 : decode cX8_lacksWish 18 = .ok (.ifCond .ne 13, 3) := by decide +kernel
theorem dX8_lacksWish_21 : decode cX8_lacksWish 21 = .ok (.aload_n 0, 1) := by decide +kernel
theorem dX8_lacksWish_22 : decode cX8_lacksWish 22 = .ok (.getfield 39, 3) := by decide +kernel
theorem dX8_lacksWish_25 : decode cX8_lacksWish 25 = .ok (.iload_n 3, 1) := by decide +kernel
theorem dX8_lacksWish_26 : decode cX8_lacksWish 26 = .ok (.iaload, 1) := by decide +kernel
theorem dX8_lacksWish_27 : decode cX8_lacksWish 27 = .ok (.iconst 4, 1) := by decide +kernel
theorem dX8_lacksWish_28 : decode cX8_lacksWish 28 = .ok (.if_icmp .ne 7, 3) := by decide +kernel
theorem dX8_lacksWish_31 : decode cX8_lacksWish 31 = .ok (.iconst 1, 1) := by decide +kernel
theorem dX8_lacksWish_32 : decode cX8_lacksWish 32 = .ok (.goto 4, 3) := by decide +kernel
theorem dX8_lacksWish_35 : decode cX8_lacksWish 35 = .ok (.iconst 0, 1) := by decide +kernel
theorem dX8_lacksWish_36 : decode cX8_lacksWish 36 = .ok (.istore_n 2, 1) := by decide +kernel
theorem dX8_lacksWish_37 : decode cX8_lacksWish 37 = .ok (.iinc 3 1, 3) := by decide +kernel
theorem dX8_lacksWish_40 : decode cX8_lacksWish 40 = .ok (.goto (-36), 3) := by decide +kernel
theorem dX8_lacksWish_43 : decode cX8_lacksWish 43 = .ok (.iload_n 2, 1) := by decide +kernel
theorem dX8_lacksWish_44 : decode cX8_lacksWish 44 = .ok (.ireturn, 1) := by decide +kernel
theorem dX8_findsPlacement_0 : decode cX8_findsPlacement 0 = .ok (.aload_n 0, 1) := by decide +kernel
theorem dX8_findsPlacement_1 : decode cX8_findsPlacement 1 = .ok (.iconst (-1), 1) := by decide +kernel
theorem dX8_findsPlacement_2 : decode cX8_findsPlacement 2 = .ok (.putfield 198, 3) := by decide +kernel
theorem dX8_findsPlacement_5 : decode cX8_findsPlacement 5 = .ok (.iconst 0, 1) := by decide +kernel
theorem dX8_findsPlacement_6 : decode cX8_findsPlacement 6 = .ok (.istore_n 2, 1) := by decide +kernel
theorem dX8_findsPlacement_7 : decode cX8_findsPlacement 7 = .ok (.iload_n 2, 1) := by decide +kernel
theorem dX8_findsPlacement_8 : decode cX8_findsPlacement 8 = .ok (.sipush 625, 3) := by decide +kernel
theorem dX8_findsPlacement_11 : decode cX8_findsPlacement 11 = .ok (.if_icmp .ge 93, 3) := by decide +kernel
theorem dX8_findsPlacement_14 : decode cX8_findsPlacement 14 = .ok (.iload_n 2, 1) := by decide +kernel
theorem dX8_findsPlacement_15 : decode cX8_findsPlacement 15 = .ok (.istore_n 3, 1) := by decide +kernel
theorem dX8_findsPlacement_16 : decode cX8_findsPlacement 16 = .ok (.iconst 3, 1) := by decide +kernel
theorem dX8_findsPlacement_17 : decode cX8_findsPlacement 17 = .ok (.istore 4, 2) := by decide +kernel
theorem dX8_findsPlacement_19 : decode cX8_findsPlacement 19 = .ok (.iload 4, 2) := by decide +kernel
theorem dX8_findsPlacement_21 : decode cX8_findsPlacement 21 = .ok (.ifCond .lt 23, 3) := by decide +kernel
theorem dX8_findsPlacement_24 : decode cX8_findsPlacement 24 = .ok (.aload_n 0, 1) := by decide +kernel
theorem dX8_findsPlacement_25 : decode cX8_findsPlacement 25 = .ok (.getfield 39, 3) := by decide +kernel
theorem dX8_findsPlacement_28 : decode cX8_findsPlacement 28 = .ok (.iload 4, 2) := by decide +kernel
theorem dX8_findsPlacement_30 : decode cX8_findsPlacement 30 = .ok (.iload_n 3, 1) := by decide +kernel
theorem dX8_findsPlacement_31 : decode cX8_findsPlacement 31 = .ok (.iconst 5, 1) := by decide +kernel
theorem dX8_findsPlacement_32 : decode cX8_findsPlacement 32 = .ok (.irem, 1) := by decide +kernel
theorem dX8_findsPlacement_33 : decode cX8_findsPlacement 33 = .ok (.iastore, 1) := by decide +kernel
theorem dX8_findsPlacement_34 : decode cX8_findsPlacement 34 = .ok (.iload_n 3, 1) := by decide +kernel
theorem dX8_findsPlacement_35 : decode cX8_findsPlacement 35 = .ok (.iconst 5, 1) := by decide +kernel
theorem dX8_findsPlacement_36 : decode cX8_findsPlacement 36 = .ok (.idiv, 1) := by decide +kernel
theorem dX8_findsPlacement_37 : decode cX8_findsPlacement 37 = .ok (.istore_n 3, 1) := by decide +kernel
theorem dX8_findsPlacement_38 : decode cX8_findsPlacement 38 = .ok (.iinc 4 (-1), 3) := by decide +kernel
theorem dX8_findsPlacement_41 : decode cX8_findsPlacement 41 = .ok (.goto (-22), 3) := by decide +kernel
theorem dX8_findsPlacement_44 : decode cX8_findsPlacement 44 = .ok (.aload_n 0, 1) := by decide +kernel
theorem dX8_findsPlacement_45 : decode cX8_findsPlacement 45 = .ok (.iload_n 1, 1) := by decide +kernel
theorem dX8_findsPlacement_46 : decode cX8_findsPlacement 46 = .ok (.invokevirtual 201, 3) := by decide +kernel
theorem dX8_findsPlacement_49 : decode cX8_findsPlacement 49 = .ok (.istore 4, 2) := by decide +kernel
theorem dX8_findsPlacement_51 : decode cX8_findsPlacement 51 = .ok (.iload 4, 2) := by decide +kernel
theorem dX8_findsPlacement_53 : decode cX8_findsPlacement 53 = .ok (.aload_n 0, 1) := by decide +kernel
theorem dX8_findsPlacement_54 : decode cX8_findsPlacement 54 = .ok (.getfield 198, 3) := by decide +kernel
theorem dX8_findsPlacement_57 : decode cX8_findsPlacement 57 = .ok (.if_icmp .gt 6, 3) := by decide +kernel
theorem dX8_findsPlacement_60 : decode cX8_findsPlacement 60 = .ok (.goto 38, 3) := by decide +kernel
theorem dX8_findsPlacement_63 : decode cX8_findsPlacement 63 = .ok (.aload_n 0, 1) := by decide +kernel
theorem dX8_findsPlacement_64 : decode cX8_findsPlacement 64 = .ok (.iload 4, 2) := by decide +kernel
theorem dX8_findsPlacement_66 : decode cX8_findsPlacement 66 = .ok (.putfield 198, 3) := by decide +kernel
theorem dX8_findsPlacement_69 : decode cX8_findsPlacement 69 = .ok (.iconst 0, 1) := by decide +kernel
theorem dX8_findsPlacement_70 : decode cX8_findsPlacement 70 = .ok (.istore 5, 2) := by decide +kernel
theorem dX8_findsPlacement_72 : decode cX8_findsPlacement 72 = .ok (.iload 5, 2) := by decide +kernel
theorem dX8_findsPlacement_74 : decode cX8_findsPlacement 74 = .ok (.iconst 4, 1) := by decide +kernel
theorem dX8_findsPlacement_75 : decode cX8_findsPlacement 75 = .ok (.if_icmp .ge 23, 3) := by decide +kernel
theorem dX8_findsPlacement_78 : decode cX8_findsPlacement 78 = .ok (.aload_n 0, 1) := by decide +kernel
theorem dX8_findsPlacement_79 : decode cX8_findsPlacement 79 = .ok (.getfield 42, 3) := by decide +kernel
theorem dX8_findsPlacement_82 : decode cX8_findsPlacement 82 = .ok (.iload 5, 2) := by decide +kernel
theorem dX8_findsPlacement_84 : decode cX8_findsPlacement 84 = .ok (.aload_n 0, 1) := by decide +kernel
theorem dX8_findsPlacement_85 : decode cX8_findsPlacement 85 = .ok (.getfield 39, 3) := by decide +kernel
theorem dX8_findsPlacement_88 : decode cX8_findsPlacement 88 = .ok (.iload 5, 2) := by decide +kernel
theorem dX8_findsPlacement_90 : decode cX8_findsPlacement 90 = .ok (.iaload, 1) := by decide +kernel
theorem dX8_findsPlacement_91 : decode cX8_findsPlacement 91 = .ok (.iastore, 1) := by decide +kernel
theorem dX8_findsPlacement_92 : decode cX8_findsPlacement 92 = .ok (.iinc 5 1, 3) := by decide +kernel
theorem dX8_findsPlacement_95 : decode cX8_findsPlacement 95 = .ok (.goto (-23), 3) := by decide +kernel
theorem dX8_findsPlacement_98 : decode cX8_findsPlacement 98 = .ok (.iinc 2 1, 3) := by decide +kernel
theorem dX8_findsPlacement_101 : decode cX8_findsPlacement 101 = .ok (.goto (-94), 3) := by decide +kernel
theorem dX8_findsPlacement_104 : decode cX8_findsPlacement 104 = .ok (.return_, 1) := by decide +kernel
theorem dX8_enrolNow_0 : decode cX8_enrolNow 0 = .ok (.aload_n 0, 1) := by decide +kernel
theorem dX8_enrolNow_1 : decode cX8_enrolNow 1 = .ok (.iload_n 1, 1) := by decide +kernel
theorem dX8_enrolNow_2 : decode cX8_enrolNow 2 = .ok (.invokevirtual 177, 3) := by decide +kernel
theorem dX8_enrolNow_5 : decode cX8_enrolNow 5 = .ok (.ifCond .ne 9, 3) := by decide +kernel
theorem dX8_enrolNow_8 : decode cX8_enrolNow 8 = .ok (.aload_n 0, 1) := by decide +kernel
theorem dX8_enrolNow_9 : decode cX8_enrolNow 9 = .ok (.iconst 1, 1) := by decide +kernel
theorem dX8_enrolNow_10 : decode cX8_enrolNow 10 = .ok (.invokevirtual 131, 3) := by decide +kernel
theorem dX8_enrolNow_13 : decode cX8_enrolNow 13 = .ok (.ireturn, 1) := by decide +kernel
theorem dX8_enrolNow_14 : decode cX8_enrolNow 14 = .ok (.aload_n 0, 1) := by decide +kernel
theorem dX8_enrolNow_15 : decode cX8_enrolNow 15 = .ok (.iload_n 1, 1) := by decide +kernel
theorem dX8_enrolNow_16 : decode cX8_enrolNow 16 = .ok (.invokevirtual 204, 3) := by decide +kernel
theorem dX8_enrolNow_19 : decode cX8_enrolNow 19 = .ok (.ifCond .gt 15, 3) := by decide +kernel
theorem dX8_enrolNow_22 : decode cX8_enrolNow 22 = .ok (.aload_n 0, 1) := by decide +kernel
theorem dX8_enrolNow_23 : decode cX8_enrolNow 23 = .ok (.getfield 7, 3) := by decide +kernel
theorem dX8_enrolNow_26 : decode cX8_enrolNow 26 = .ok (.bipush 45, 2) := by decide +kernel
theorem dX8_enrolNow_28 : decode cX8_enrolNow 28 = .ok (.iload_n 1, 1) := by decide +kernel
theorem dX8_enrolNow_29 : decode cX8_enrolNow 29 = .ok (.iadd, 1) := by decide +kernel
theorem dX8_enrolNow_30 : decode cX8_enrolNow 30 = .ok (.iaload, 1) := by decide +kernel
theorem dX8_enrolNow_31 : decode cX8_enrolNow 31 = .ok (.ifCond .ne 9, 3) := by decide +kernel
theorem dX8_enrolNow_34 : decode cX8_enrolNow 34 = .ok (.aload_n 0, 1) := by decide +kernel
theorem dX8_enrolNow_35 : decode cX8_enrolNow 35 = .ok (.iconst 3, 1) := by decide +kernel
theorem dX8_enrolNow_36 : decode cX8_enrolNow 36 = .ok (.invokevirtual 131, 3) := by decide +kernel
theorem dX8_enrolNow_39 : decode cX8_enrolNow 39 = .ok (.ireturn, 1) := by decide +kernel
theorem dX8_enrolNow_40 : decode cX8_enrolNow 40 = .ok (.aload_n 0, 1) := by decide +kernel
theorem dX8_enrolNow_41 : decode cX8_enrolNow 41 = .ok (.iload_n 1, 1) := by decide +kernel
theorem dX8_enrolNow_42 : decode cX8_enrolNow 42 = .ok (.invokevirtual 207, 3) := by decide +kernel
theorem dX8_enrolNow_45 : decode cX8_enrolNow 45 = .ok (.iconst 0, 1) := by decide +kernel
theorem dX8_enrolNow_46 : decode cX8_enrolNow 46 = .ok (.istore_n 2, 1) := by decide +kernel
theorem dX8_enrolNow_47 : decode cX8_enrolNow 47 = .ok (.iload_n 2, 1) := by decide +kernel
theorem dX8_enrolNow_48 : decode cX8_enrolNow 48 = .ok (.iconst 4, 1) := by decide +kernel
theorem dX8_enrolNow_49 : decode cX8_enrolNow 49 = .ok (.if_icmp .ge 60, 3) := by decide +kernel
theorem dX8_enrolNow_52 : decode cX8_enrolNow 52 = .ok (.aload_n 0, 1) := by decide +kernel
theorem dX8_enrolNow_53 : decode cX8_enrolNow 53 = .ok (.getfield 42, 3) := by decide +kernel
theorem dX8_enrolNow_56 : decode cX8_enrolNow 56 = .ok (.iload_n 2, 1) := by decide +kernel
theorem dX8_enrolNow_57 : decode cX8_enrolNow 57 = .ok (.iaload, 1) := by decide +kernel
theorem dX8_enrolNow_58 : decode cX8_enrolNow 58 = .ok (.iconst 4, 1) := by decide +kernel
theorem dX8_enrolNow_59 : decode cX8_enrolNow 59 = .ok (.if_icmp .ge 44, 3) := by decide +kernel
theorem dX8_enrolNow_62 : decode cX8_enrolNow 62 = .ok (.aload_n 0, 1) := by decide +kernel
theorem dX8_enrolNow_63 : decode cX8_enrolNow 63 = .ok (.getfield 7, 3) := by decide +kernel
theorem dX8_enrolNow_66 : decode cX8_enrolNow 66 = .ok (.bipush 105, 2) := by decide +kernel
theorem dX8_enrolNow_68 : decode cX8_enrolNow 68 = .ok (.iconst 4, 1) := by decide +kernel
theorem dX8_enrolNow_69 : decode cX8_enrolNow 69 = .ok (.iload_n 1, 1) := by decide +kernel
theorem dX8_enrolNow_70 : decode cX8_enrolNow 70 = .ok (.imul, 1) := by decide +kernel
theorem dX8_enrolNow_71 : decode cX8_enrolNow 71 = .ok (.iadd, 1) := by decide +kernel
theorem dX8_enrolNow_72 : decode cX8_enrolNow 72 = .ok (.aload_n 0, 1) := by decide +kernel
theorem dX8_enrolNow_73 : decode cX8_enrolNow 73 = .ok (.getfield 42, 3) := by decide +kernel
theorem dX8_enrolNow_76 : decode cX8_enrolNow 76 = .ok (.iload_n 2, 1) := by decide +kernel
theorem dX8_enrolNow_77 : decode cX8_enrolNow 77 = .ok (.iaload, 1) := by decide +kernel
theorem dX8_enrolNow_78 : decode cX8_enrolNow 78 = .ok (.iadd, 1) := by decide +kernel
theorem dX8_enrolNow_79 : decode cX8_enrolNow 79 = .ok (.iload_n 2, 1) := by decide +kernel
theorem dX8_enrolNow_80 : decode cX8_enrolNow 80 = .ok (.iconst 3, 1) := by decide +kernel
theorem dX8_enrolNow_81 : decode cX8_enrolNow 81 = .ok (.if_icmp .ne 15, 3) := by decide +kernel
theorem dX8_enrolNow_84 : decode cX8_enrolNow 84 = .ok (.aload_n 0, 1) := by decide +kernel
theorem dX8_enrolNow_85 : decode cX8_enrolNow 85 = .ok (.getfield 7, 3) := by decide +kernel
theorem dX8_enrolNow_88 : decode cX8_enrolNow 88 = .ok (.bipush 93, 2) := by decide +kernel
theorem dX8_enrolNow_90 : decode cX8_enrolNow 90 = .ok (.iload_n 1, 1) := by decide +kernel
theorem dX8_enrolNow_91 : decode cX8_enrolNow 91 = .ok (.iadd, 1) := by decide +kernel
theorem dX8_enrolNow_92 : decode cX8_enrolNow 92 = .ok (.iaload, 1) := by decide +kernel
theorem dX8_enrolNow_93 : decode cX8_enrolNow 93 = .ok (.goto 9, 3) := by decide +kernel
theorem dX8_enrolNow_96 : decode cX8_enrolNow 96 = .ok (.aload_n 0, 1) := by decide +kernel
theorem dX8_enrolNow_97 : decode cX8_enrolNow 97 = .ok (.iload_n 1, 1) := by decide +kernel
theorem dX8_enrolNow_98 : decode cX8_enrolNow 98 = .ok (.iload_n 2, 1) := by decide +kernel
theorem dX8_enrolNow_99 : decode cX8_enrolNow 99 = .ok (.invokevirtual 128, 3) := by decide +kernel
theorem dX8_enrolNow_102 : decode cX8_enrolNow 102 = .ok (.iastore, 1) := by decide +kernel
theorem dX8_enrolNow_103 : decode cX8_enrolNow 103 = .ok (.iinc 2 1, 3) := by decide +kernel
theorem dX8_enrolNow_106 : decode cX8_enrolNow 106 = .ok (.goto (-59), 3) := by decide +kernel
theorem dX8_enrolNow_109 : decode cX8_enrolNow 109 = .ok (.aload_n 0, 1) := by decide +kernel
theorem dX8_enrolNow_110 : decode cX8_enrolNow 110 = .ok (.getfield 198, 3) := by decide +kernel
theorem dX8_enrolNow_113 : decode cX8_enrolNow 113 = .ok (.iconst 2, 1) := by decide +kernel
theorem dX8_enrolNow_114 : decode cX8_enrolNow 114 = .ok (.idiv, 1) := by decide +kernel
theorem dX8_enrolNow_115 : decode cX8_enrolNow 115 = .ok (.ireturn, 1) := by decide +kernel
theorem dX8_enrol_0 : decode cX8_enrol 0 = .ok (.aload_n 0, 1) := by decide +kernel
theorem dX8_enrol_1 : decode cX8_enrol 1 = .ok (.invokevirtual 134, 3) := by decide +kernel
theorem dX8_enrol_4 : decode cX8_enrol 4 = .ok (.aload_n 0, 1) := by decide +kernel
theorem dX8_enrol_5 : decode cX8_enrol 5 = .ok (.aload_n 0, 1) := by decide +kernel
theorem dX8_enrol_6 : decode cX8_enrol 6 = .ok (.iload_n 1, 1) := by decide +kernel
theorem dX8_enrol_7 : decode cX8_enrol 7 = .ok (.invokevirtual 211, 3) := by decide +kernel
theorem dX8_enrol_10 : decode cX8_enrol 10 = .ok (.iconst 1, 1) := by decide +kernel
theorem dX8_enrol_11 : decode cX8_enrol 11 = .ok (.iconst 3, 1) := by decide +kernel
theorem dX8_enrol_12 : decode cX8_enrol 12 = .ok (.invokevirtual 140, 3) := by decide +kernel
theorem dX8_enrol_15 : decode cX8_enrol 15 = .ok (.ireturn, 1) := by decide +kernel
theorem dX8_isServed_0 : decode cX8_isServed 0 = .ok (.aload_n 0, 1) := by decide +kernel
theorem dX8_isServed_1 : decode cX8_isServed 1 = .ok (.getfield 7, 3) := by decide +kernel
theorem dX8_isServed_4 : decode cX8_isServed 4 = .ok (.bipush 45, 2) := by decide +kernel
theorem dX8_isServed_6 : decode cX8_isServed 6 = .ok (.iload_n 1, 1) := by decide +kernel
theorem dX8_isServed_7 : decode cX8_isServed 7 = .ok (.iadd, 1) := by decide +kernel
theorem dX8_isServed_8 : decode cX8_isServed 8 = .ok (.iaload, 1) := by decide +kernel
theorem dX8_isServed_9 : decode cX8_isServed 9 = .ok (.ifCond .le 7, 3) := by decide +kernel
theorem dX8_isServed_12 : decode cX8_isServed 12 = .ok (.iconst 1, 1) := by decide +kernel
theorem dX8_isServed_13 : decode cX8_isServed 13 = .ok (.goto 4, 3) := by decide +kernel
theorem dX8_isServed_16 : decode cX8_isServed 16 = .ok (.iconst 0, 1) := by decide +kernel
theorem dX8_isServed_17 : decode cX8_isServed 17 = .ok (.istore_n 2, 1) := by decide +kernel
theorem dX8_isServed_18 : decode cX8_isServed 18 = .ok (.iconst 0, 1) := by decide +kernel
theorem dX8_isServed_19 : decode cX8_isServed 19 = .ok (.istore_n 3, 1) := by decide +kernel
theorem dX8_isServed_20 : decode cX8_isServed 20 = .ok (.iload_n 3, 1) := by decide +kernel
theorem dX8_isServed_21 : decode cX8_isServed 21 = .ok (.aload_n 0, 1) := by decide +kernel
theorem dX8_isServed_22 : decode cX8_isServed 22 = .ok (.getfield 7, 3) := by decide +kernel
theorem dX8_isServed_25 : decode cX8_isServed 25 = .ok (.bipush 45, 2) := by decide +kernel
theorem dX8_isServed_27 : decode cX8_isServed 27 = .ok (.iload_n 1, 1) := by decide +kernel
theorem dX8_isServed_28 : decode cX8_isServed 28 = .ok (.iadd, 1) := by decide +kernel
theorem dX8_isServed_29 : decode cX8_isServed 29 = .ok (.iaload, 1) := by decide +kernel
theorem dX8_isServed_30 : decode cX8_isServed 30 = .ok (.if_icmp .ge 34, 3) := by decide +kernel
theorem dX8_isServed_33 : decode cX8_isServed 33 = .ok (.iload_n 2, 1) := by decide +kernel
theorem dX8_isServed_34 : decode cX8_isServed 34 = .ok (.ifCond .eq 22, 3) := by decide +kernel
theorem dX8_isServed_37 : decode cX8_isServed 37 = .ok (.aload_n 0, 1) := by decide +kernel
theorem dX8_isServed_38 : decode cX8_isServed 38 = .ok (.iload_n 1, 1) := by decide +kernel
theorem dX8_isServed_39 : decode cX8_isServed 39 = .ok (.aload_n 0, 1) := by decide +kernel
theorem dX8_isServed_40 : decode cX8_isServed 40 = .ok (.iload_n 1, 1) := by decide +kernel
theorem dX8_isServed_41 : decode cX8_isServed 41 = .ok (.iload_n 3, 1) := by decide +kernel
theorem dX8_isServed_42 : decode cX8_isServed 42 = .ok (.invokevirtual 128, 3) := by decide +kernel
theorem dX8_isServed_45 : decode cX8_isServed 45 = .ok (.invokevirtual 189, 3) := by decide +kernel
theorem dX8_isServed_48 : decode cX8_isServed 48 = .ok (.iconst (-1), 1) := by decide +kernel
theorem dX8_isServed_49 : decode cX8_isServed 49 = .ok (.if_icmp .eq 7, 3) := by decide +kernel
theorem dX8_isServed_52 : decode cX8_isServed 52 = .ok (.iconst 1, 1) := by decide +kernel
theorem dX8_isServed_53 : decode cX8_isServed 53 = .ok (.goto 4, 3) := by decide +kernel
theorem dX8_isServed_56 : decode cX8_isServed 56 = .ok (.iconst 0, 1) := by decide +kernel
theorem dX8_isServed_57 : decode cX8_isServed 57 = .ok (.istore_n 2, 1) := by decide +kernel
theorem dX8_isServed_58 : decode cX8_isServed 58 = .ok (.iinc 3 1, 3) := by decide +kernel
theorem dX8_isServed_61 : decode cX8_isServed 61 = .ok (.goto (-41), 3) := by decide +kernel
theorem dX8_isServed_64 : decode cX8_isServed 64 = .ok (.iload_n 2, 1) := by decide +kernel
theorem dX8_isServed_65 : decode cX8_isServed 65 = .ok (.ireturn, 1) := by decide +kernel
theorem dX8_enrolAll_0 : decode cX8_enrolAll 0 = .ok (.aload_n 0, 1) := by decide +kernel
theorem dX8_enrolAll_1 : decode cX8_enrolAll 1 = .ok (.invokevirtual 134, 3) := by decide +kernel
theorem dX8_enrolAll_4 : decode cX8_enrolAll 4 = .ok (.iconst 0, 1) := by decide +kernel
theorem dX8_enrolAll_5 : decode cX8_enrolAll 5 = .ok (.istore_n 1, 1) := by decide +kernel
theorem dX8_enrolAll_6 : decode cX8_enrolAll 6 = .ok (.iconst 0, 1) := by decide +kernel
theorem dX8_enrolAll_7 : decode cX8_enrolAll 7 = .ok (.istore_n 2, 1) := by decide +kernel
theorem dX8_enrolAll_8 : decode cX8_enrolAll 8 = .ok (.iload_n 2, 1) := by decide +kernel
theorem dX8_enrolAll_9 : decode cX8_enrolAll 9 = .ok (.aload_n 0, 1) := by decide +kernel
theorem dX8_enrolAll_10 : decode cX8_enrolAll 10 = .ok (.getfield 7, 3) := by decide +kernel
theorem dX8_enrolAll_13 : decode cX8_enrolAll 13 = .ok (.iconst 2, 1) := by decide +kernel
theorem dX8_enrolAll_14 : decode cX8_enrolAll 14 = .ok (.iaload, 1) := by decide +kernel
theorem dX8_enrolAll_15 : decode cX8_enrolAll 15 = .ok (.if_icmp .ge 54, 3) := by decide +kernel
theorem dX8_enrolAll_18 : decode cX8_enrolAll 18 = .ok (.aload_n 0, 1) := by decide +kernel
theorem dX8_enrolAll_19 : decode cX8_enrolAll 19 = .ok (.getfield 7, 3) := by decide +kernel
theorem dX8_enrolAll_22 : decode cX8_enrolAll 22 = .ok (.bipush 45, 2) := by decide +kernel
theorem dX8_enrolAll_24 : decode cX8_enrolAll 24 = .ok (.iload_n 2, 1) := by decide +kernel
theorem dX8_enrolAll_25 : decode cX8_enrolAll 25 = .ok (.iadd, 1) := by decide +kernel
theorem dX8_enrolAll_26 : decode cX8_enrolAll 26 = .ok (.iaload, 1) := by decide +kernel
theorem dX8_enrolAll_27 : decode cX8_enrolAll 27 = .ok (.ifCond .eq 36, 3) := by decide +kernel
theorem dX8_enrolAll_30 : decode cX8_enrolAll 30 = .ok (.aload_n 0, 1) := by decide +kernel
theorem dX8_enrolAll_31 : decode cX8_enrolAll 31 = .ok (.iload_n 2, 1) := by decide +kernel
theorem dX8_enrolAll_32 : decode cX8_enrolAll 32 = .ok (.invokevirtual 204, 3) := by decide +kernel
theorem dX8_enrolAll_35 : decode cX8_enrolAll 35 = .ok (.ifCond .le 6, 3) := by decide +kernel
theorem dX8_enrolAll_38 : decode cX8_enrolAll 38 = .ok (.goto 25, 3) := by decide +kernel
theorem dX8_enrolAll_41 : decode cX8_enrolAll 41 = .ok (.aload_n 0, 1) := by decide +kernel
theorem dX8_enrolAll_42 : decode cX8_enrolAll 42 = .ok (.iload_n 2, 1) := by decide +kernel
theorem dX8_enrolAll_43 : decode cX8_enrolAll 43 = .ok (.invokevirtual 211, 3) := by decide +kernel
theorem dX8_enrolAll_46 : decode cX8_enrolAll 46 = .ok (.istore_n 3, 1) := by decide +kernel
theorem dX8_enrolAll_47 : decode cX8_enrolAll 47 = .ok (.iload_n 1, 1) := by decide +kernel
theorem dX8_enrolAll_48 : decode cX8_enrolAll 48 = .ok (.aload_n 0, 1) := by decide +kernel
theorem dX8_enrolAll_49 : decode cX8_enrolAll 49 = .ok (.iload_n 2, 1) := by decide +kernel
theorem dX8_enrolAll_50 : decode cX8_enrolAll 50 = .ok (.invokevirtual 214, 3) := by decide +kernel
theorem dX8_enrolAll_53 : decode cX8_enrolAll 53 = .ok (.ifCond .eq 7, 3) := by decide +kernel
theorem dX8_enrolAll_56 : decode cX8_enrolAll 56 = .ok (.iconst 1, 1) := by decide +kernel
theorem dX8_enrolAll_57 : decode cX8_enrolAll 57 = .ok (.goto 4, 3) := by decide +kernel
theorem dX8_enrolAll_60 : decode cX8_enrolAll 60 = .ok (.iconst 0, 1) := by decide +kernel
theorem dX8_enrolAll_61 : decode cX8_enrolAll 61 = .ok (.iadd, 1) := by decide +kernel
theorem dX8_enrolAll_62 : decode cX8_enrolAll 62 = .ok (.istore_n 1, 1) := by decide +kernel
theorem dX8_enrolAll_63 : decode cX8_enrolAll 63 = .ok (.iinc 2 1, 3) := by decide +kernel
theorem dX8_enrolAll_66 : decode cX8_enrolAll 66 = .ok (.goto (-58), 3) := by decide +kernel
theorem dX8_enrolAll_69 : decode cX8_enrolAll 69 = .ok (.aload_n 0, 1) := by decide +kernel
theorem dX8_enrolAll_70 : decode cX8_enrolAll 70 = .ok (.iload_n 1, 1) := by decide +kernel
theorem dX8_enrolAll_71 : decode cX8_enrolAll 71 = .ok (.iconst 0, 1) := by decide +kernel
theorem dX8_enrolAll_72 : decode cX8_enrolAll 72 = .ok (.iconst 0, 1) := by decide +kernel
theorem dX8_enrolAll_73 : decode cX8_enrolAll 73 = .ok (.invokevirtual 140, 3) := by decide +kernel
theorem dX8_enrolAll_76 : decode cX8_enrolAll 76 = .ok (.ireturn, 1) := by decide +kernel
theorem dX8_withdrawNow_0 : decode cX8_withdrawNow 0 = .ok (.aload_n 0, 1) := by decide +kernel
theorem dX8_withdrawNow_1 : decode cX8_withdrawNow 1 = .ok (.iload_n 1, 1) := by decide +kernel
theorem dX8_withdrawNow_2 : decode cX8_withdrawNow 2 = .ok (.invokevirtual 177, 3) := by decide +kernel
theorem dX8_withdrawNow_5 : decode cX8_withdrawNow 5 = .ok (.ifCond .ne 9, 3) := by decide +kernel
theorem dX8_withdrawNow_8 : decode cX8_withdrawNow 8 = .ok (.aload_n 0, 1) := by decide +kernel
theorem dX8_withdrawNow_9 : decode cX8_withdrawNow 9 = .ok (.iconst 1, 1) := by decide +kernel
theorem dX8_withdrawNow_10 : decode cX8_withdrawNow 10 = .ok (.invokevirtual 131, 3) := by decide +kernel
theorem dX8_withdrawNow_13 : decode cX8_withdrawNow 13 = .ok (.ireturn, 1) := by decide +kernel
theorem dX8_withdrawNow_14 : decode cX8_withdrawNow 14 = .ok (.aload_n 0, 1) := by decide +kernel
theorem dX8_withdrawNow_15 : decode cX8_withdrawNow 15 = .ok (.iload_n 1, 1) := by decide +kernel
theorem dX8_withdrawNow_16 : decode cX8_withdrawNow 16 = .ok (.invokevirtual 204, 3) := by decide +kernel
theorem dX8_withdrawNow_19 : decode cX8_withdrawNow 19 = .ok (.istore_n 2, 1) := by decide +kernel
theorem dX8_withdrawNow_20 : decode cX8_withdrawNow 20 = .ok (.iload_n 2, 1) := by decide +kernel
theorem dX8_withdrawNow_21 : decode cX8_withdrawNow 21 = .ok (.ifCond .ne 9, 3) := by decide +kernel
theorem dX8_withdrawNow_24 : decode cX8_withdrawNow 24 = .ok (.aload_n 0, 1) := by decide +kernel
theorem dX8_withdrawNow_25 : decode cX8_withdrawNow 25 = .ok (.iconst 3, 1) := by decide +kernel
theorem dX8_withdrawNow_26 : decode cX8_withdrawNow 26 = .ok (.invokevirtual 131, 3) := by decide +kernel
theorem dX8_withdrawNow_29 : decode cX8_withdrawNow 29 = .ok (.ireturn, 1) := by decide +kernel
theorem dX8_withdrawNow_30 : decode cX8_withdrawNow 30 = .ok (.iconst 0, 1) := by decide +kernel
theorem dX8_withdrawNow_31 : decode cX8_withdrawNow 31 = .ok (.istore_n 3, 1) := by decide +kernel
theorem dX8_withdrawNow_32 : decode cX8_withdrawNow 32 = .ok (.iload_n 3, 1) := by decide +kernel
theorem dX8_withdrawNow_33 : decode cX8_withdrawNow 33 = .ok (.iconst 4, 1) := by decide +kernel
theorem dX8_withdrawNow_34 : decode cX8_withdrawNow 34 = .ok (.if_icmp .ge 23, 3) := by decide +kernel
theorem dX8_withdrawNow_37 : decode cX8_withdrawNow 37 = .ok (.aload_n 0, 1) := by decide +kernel
theorem dX8_withdrawNow_38 : decode cX8_withdrawNow 38 = .ok (.getfield 7, 3) := by decide +kernel
theorem dX8_withdrawNow_41 : decode cX8_withdrawNow 41 = .ok (.bipush 105, 2) := by decide +kernel
theorem dX8_withdrawNow_43 : decode cX8_withdrawNow 43 = .ok (.iconst 4, 1) := by decide +kernel
theorem dX8_withdrawNow_44 : decode cX8_withdrawNow 44 = .ok (.iload_n 1, 1) := by decide +kernel
theorem dX8_withdrawNow_45 : decode cX8_withdrawNow 45 = .ok (.imul, 1) := by decide +kernel
theorem dX8_withdrawNow_46 : decode cX8_withdrawNow 46 = .ok (.iadd, 1) := by decide +kernel
theorem dX8_withdrawNow_47 : decode cX8_withdrawNow 47 = .ok (.iload_n 3, 1) := by decide +kernel
theorem dX8_withdrawNow_48 : decode cX8_withdrawNow 48 = .ok (.iadd, 1) := by decide +kernel
theorem dX8_withdrawNow_49 : decode cX8_withdrawNow 49 = .ok (.iconst (-1), 1) := by decide +kernel
theorem dX8_withdrawNow_50 : decode cX8_withdrawNow 50 = .ok (.iastore, 1) := by decide +kernel
theorem dX8_withdrawNow_51 : decode cX8_withdrawNow 51 = .ok (.iinc 3 1, 3) := by decide +kernel
theorem dX8_withdrawNow_54 : decode cX8_withdrawNow 54 = .ok (.goto (-22), 3) := by decide +kernel
theorem dX8_withdrawNow_57 : decode cX8_withdrawNow 57 = .ok (.iload_n 2, 1) := by decide +kernel
theorem dX8_withdrawNow_58 : decode cX8_withdrawNow 58 = .ok (.ireturn, 1) := by decide +kernel
theorem dX8_withdraw_0 : decode cX8_withdraw 0 = .ok (.aload_n 0, 1) := by decide +kernel
theorem dX8_withdraw_1 : decode cX8_withdraw 1 = .ok (.invokevirtual 134, 3) := by decide +kernel
theorem dX8_withdraw_4 : decode cX8_withdraw 4 = .ok (.aload_n 0, 1) := by decide +kernel
theorem dX8_withdraw_5 : decode cX8_withdraw 5 = .ok (.aload_n 0, 1) := by decide +kernel
theorem dX8_withdraw_6 : decode cX8_withdraw 6 = .ok (.iload_n 1, 1) := by decide +kernel
theorem dX8_withdraw_7 : decode cX8_withdraw 7 = .ok (.invokevirtual 217, 3) := by decide +kernel
theorem dX8_withdraw_10 : decode cX8_withdraw 10 = .ok (.iconst 1, 1) := by decide +kernel
theorem dX8_withdraw_11 : decode cX8_withdraw 11 = .ok (.iconst 3, 1) := by decide +kernel
theorem dX8_withdraw_12 : decode cX8_withdraw 12 = .ok (.invokevirtual 140, 3) := by decide +kernel
theorem dX8_withdraw_15 : decode cX8_withdraw 15 = .ok (.ireturn, 1) := by decide +kernel
theorem dX8_bestValue_0 : decode cX8_bestValue 0 = .ok (.aload_n 0, 1) := by decide +kernel
theorem dX8_bestValue_1 : decode cX8_bestValue 1 = .ok (.iload_n 1, 1) := by decide +kernel
theorem dX8_bestValue_2 : decode cX8_bestValue 2 = .ok (.invokevirtual 177, 3) := by decide +kernel
theorem dX8_bestValue_5 : decode cX8_bestValue 5 = .ok (.ifCond .ne 9, 3) := by decide +kernel
theorem dX8_bestValue_8 : decode cX8_bestValue 8 = .ok (.aload_n 0, 1) := by decide +kernel
theorem dX8_bestValue_9 : decode cX8_bestValue 9 = .ok (.iconst 1, 1) := by decide +kernel
theorem dX8_bestValue_10 : decode cX8_bestValue 10 = .ok (.invokevirtual 106, 3) := by decide +kernel
theorem dX8_bestValue_13 : decode cX8_bestValue 13 = .ok (.ireturn, 1) := by decide +kernel
theorem dX8_bestValue_14 : decode cX8_bestValue 14 = .ok (.aload_n 0, 1) := by decide +kernel
theorem dX8_bestValue_15 : decode cX8_bestValue 15 = .ok (.iload_n 1, 1) := by decide +kernel
theorem dX8_bestValue_16 : decode cX8_bestValue 16 = .ok (.invokevirtual 207, 3) := by decide +kernel
theorem dX8_bestValue_19 : decode cX8_bestValue 19 = .ok (.aload_n 0, 1) := by decide +kernel
theorem dX8_bestValue_20 : decode cX8_bestValue 20 = .ok (.aload_n 0, 1) := by decide +kernel
theorem dX8_bestValue_21 : decode cX8_bestValue 21 = .ok (.getfield 198, 3) := by decide +kernel
theorem dX8_bestValue_24 : decode cX8_bestValue 24 = .ok (.iconst 2, 1) := by decide +kernel
theorem dX8_bestValue_25 : decode cX8_bestValue 25 = .ok (.idiv, 1) := by decide +kernel
theorem dX8_bestValue_26 : decode cX8_bestValue 26 = .ok (.invokevirtual 113, 3) := by decide +kernel
theorem dX8_bestValue_29 : decode cX8_bestValue 29 = .ok (.ireturn, 1) := by decide +kernel
theorem dX8_canPlace_0 : decode cX8_canPlace 0 = .ok (.iconst 1, 1) := by decide +kernel
theorem dX8_canPlace_1 : decode cX8_canPlace 1 = .ok (.istore 4, 2) := by decide +kernel
theorem dX8_canPlace_3 : decode cX8_canPlace 3 = .ok (.iconst 0, 1) := by decide +kernel
theorem dX8_canPlace_4 : decode cX8_canPlace 4 = .ok (.istore 5, 2) := by decide +kernel
theorem dX8_canPlace_6 : decode cX8_canPlace 6 = .ok (.iload 5, 2) := by decide +kernel
theorem dX8_canPlace_8 : decode cX8_canPlace 8 = .ok (.aload_n 0, 1) := by decide +kernel
theorem dX8_canPlace_9 : decode cX8_canPlace 9 = .ok (.getfield 7, 3) := by decide +kernel
theorem dX8_canPlace_12 : decode cX8_canPlace 12 = .ok (.bipush 45, 2) := by decide +kernel
theorem dX8_canPlace_14 : decode cX8_canPlace 14 = .ok (.iload_n 1, 1) := by decide +kernel
theorem dX8_canPlace_15 : decode cX8_canPlace 15 = .ok (.iadd, 1) := by decide +kernel
theorem dX8_canPlace_16 : decode cX8_canPlace 16 = .ok (.iaload, 1) := by decide +kernel
theorem dX8_canPlace_17 : decode cX8_canPlace 17 = .ok (.if_icmp .ge 36, 3) := by decide +kernel
theorem dX8_canPlace_20 : decode cX8_canPlace 20 = .ok (.iload_n 2, 1) := by decide +kernel
theorem dX8_canPlace_21 : decode cX8_canPlace 21 = .ok (.iload 5, 2) := by decide +kernel
theorem dX8_canPlace_23 : decode cX8_canPlace 23 = .ok (.ishr, 1) := by decide +kernel
theorem dX8_canPlace_24 : decode cX8_canPlace 24 = .ok (.iconst 1, 1) := by decide +kernel
theorem dX8_canPlace_25 : decode cX8_canPlace 25 = .ok (.iand, 1) := by decide +kernel
theorem dX8_canPlace_26 : decode cX8_canPlace 26 = .ok (.iconst 1, 1) := by decide +kernel
theorem dX8_canPlace_27 : decode cX8_canPlace 27 = .ok (.if_icmp .ne 20, 3) := by decide +kernel
theorem dX8_canPlace_30 : decode cX8_canPlace 30 = .ok (.aload_n 0, 1) := by decide +kernel
theorem dX8_canPlace_31 : decode cX8_canPlace 31 = .ok (.iload_n 1, 1) := by decide +kernel
theorem dX8_canPlace_32 : decode cX8_canPlace 32 = .ok (.aload_n 0, 1) := by decide +kernel
theorem dX8_canPlace_33 : decode cX8_canPlace 33 = .ok (.iload_n 1, 1) := by decide +kernel
theorem dX8_canPlace_34 : decode cX8_canPlace 34 = .ok (.iload 5, 2) := by decide +kernel
theorem dX8_canPlace_36 : decode cX8_canPlace 36 = .ok (.invokevirtual 128, 3) := by decide +kernel
theorem dX8_canPlace_39 : decode cX8_canPlace 39 = .ok (.iload 4, 2) := by decide +kernel
theorem dX8_canPlace_41 : decode cX8_canPlace 41 = .ok (.iload_n 3, 1) := by decide +kernel
theorem dX8_canPlace_42 : decode cX8_canPlace 42 = .ok (.invokevirtual 220, 3) := by decide +kernel
theorem dX8_canPlace_45 : decode cX8_canPlace 45 = .ok (.istore 4, 2) := by decide +kernel
theorem dX8_canPlace_47 : decode cX8_canPlace 47 = .ok (.iinc 5 1, 3) := by decide +kernel
theorem dX8_canPlace_50 : decode cX8_canPlace 50 = .ok (.goto (-44), 3) := by decide +kernel
theorem dX8_canPlace_53 : decode cX8_canPlace 53 = .ok (.iload 4, 2) := by decide +kernel
theorem dX8_canPlace_55 : decode cX8_canPlace 55 = .ok (.ifCond .eq 7, 3) := by decide +kernel
theorem dX8_canPlace_58 : decode cX8_canPlace 58 = .ok (.iconst 1, 1) := by decide +kernel
theorem dX8_canPlace_59 : decode cX8_canPlace 59 = .ok (.goto 4, 3) := by decide +kernel
theorem dX8_canPlace_62 : decode cX8_canPlace 62 = .ok (.iconst 0, 1) := by decide +kernel
theorem dX8_canPlace_63 : decode cX8_canPlace 63 = .ok (.ireturn, 1) := by decide +kernel
theorem dX8_more_0 : decode cX8_more 0 = .ok (.iconst 0, 1) := by decide +kernel
theorem dX8_more_1 : decode cX8_more 1 = .ok (.istore 5, 2) := by decide +kernel
theorem dX8_more_3 : decode cX8_more 3 = .ok (.iconst 0, 1) := by decide +kernel
theorem dX8_more_4 : decode cX8_more 4 = .ok (.istore 6, 2) := by decide +kernel
theorem dX8_more_6 : decode cX8_more 6 = .ok (.iload 6, 2) := by decide +kernel
theorem dX8_more_8 : decode cX8_more 8 = .ok (.bipush 16, 2) := by decide +kernel
theorem dX8_more_10 : decode cX8_more 10 = .ok (.if_icmp .ge 97, 3) := by decide +kernel
theorem dX8_more_13 : decode cX8_more 13 = .ok (.iconst 0, 1) := by decide +kernel
theorem dX8_more_14 : decode cX8_more 14 = .ok (.istore 7, 2) := by decide +kernel
theorem dX8_more_16 : decode cX8_more 16 = .ok (.iload 7, 2) := by decide +kernel
theorem dX8_more_18 : decode cX8_more 18 = .ok (.aload_n 0, 1) := by decide +kernel
theorem dX8_more_19 : decode cX8_more 19 = .ok (.getfield 7, 3) := by decide +kernel
theorem dX8_more_22 : decode cX8_more 22 = .ok (.iconst 1, 1) := by decide +kernel
theorem dX8_more_23 : decode cX8_more 23 = .ok (.iaload, 1) := by decide +kernel
theorem dX8_more_24 : decode cX8_more 24 = .ok (.if_icmp .ge 77, 3) := by decide +kernel
theorem dX8_more_27 : decode cX8_more 27 = .ok (.iload_n 3, 1) := by decide +kernel
theorem dX8_more_28 : decode cX8_more 28 = .ok (.iload 6, 2) := by decide +kernel
theorem dX8_more_30 : decode cX8_more 30 = .ok (.ishr, 1) := by decide +kernel
theorem dX8_more_31 : decode cX8_more 31 = .ok (.iconst 1, 1) := by decide +kernel
theorem dX8_more_32 : decode cX8_more 32 = .ok (.iand, 1) := by decide +kernel
theorem dX8_more_33 : decode cX8_more 33 = .ok (.iconst 1, 1) := by decide +kernel
theorem dX8_more_34 : decode cX8_more 34 = .ok (.if_icmp .ne 67, 3) := by decide +kernel
theorem dX8_more_37 : decode cX8_more 37 = .ok (.iload 4, 2) := by decide +kernel
theorem dX8_more_39 : decode cX8_more 39 = .ok (.ifCond .eq 14, 3) := by decide +kernel
theorem dX8_more_42 : decode cX8_more 42 = .ok (.aload_n 0, 1) := by decide +kernel
theorem dX8_more_43 : decode cX8_more 43 = .ok (.iload_n 2, 1) := by decide +kernel
theorem dX8_more_44 : decode cX8_more 44 = .ok (.iload 7, 2) := by decide +kernel
theorem dX8_more_46 : decode cX8_more 46 = .ok (.iload_n 1, 1) := by decide +kernel
theorem dX8_more_47 : decode cX8_more 47 = .ok (.invokevirtual 192, 3) := by decide +kernel
theorem dX8_more_50 : decode cX8_more 50 = .ok (.goto 10, 3) := by decide +kernel
theorem dX8_more_53 : decode cX8_more 53 = .ok (.aload_n 0, 1) := by decide +kernel
theorem dX8_more_54 : decode cX8_more 54 = .ok (.iload_n 2, 1) := by decide +kernel
theorem dX8_more_55 : decode cX8_more 55 = .ok (.iload 7, 2) := by decide +kernel
theorem dX8_more_57 : decode cX8_more 57 = .ok (.invokevirtual 154, 3) := by decide +kernel
theorem dX8_more_60 : decode cX8_more 60 = .ok (.istore 8, 2) := by decide +kernel
theorem dX8_more_62 : decode cX8_more 62 = .ok (.iload 5, 2) := by decide +kernel
theorem dX8_more_64 : decode cX8_more 64 = .ok (.iload 8, 2) := by decide +kernel
theorem dX8_more_66 : decode cX8_more 66 = .ok (.ifCond .eq 25, 3) := by decide +kernel
theorem dX8_more_69 : decode cX8_more 69 = .ok (.iload 6, 2) := by decide +kernel
theorem dX8_more_71 : decode cX8_more 71 = .ok (.iload 7, 2) := by decide +kernel
theorem dX8_more_73 : decode cX8_more 73 = .ok (.ishr, 1) := by decide +kernel
theorem dX8_more_74 : decode cX8_more 74 = .ok (.iconst 1, 1) := by decide +kernel
theorem dX8_more_75 : decode cX8_more 75 = .ok (.iand, 1) := by decide +kernel
theorem dX8_more_76 : decode cX8_more 76 = .ok (.ifCond .ne 15, 3) := by decide +kernel
theorem dX8_more_79 : decode cX8_more 79 = .ok (.iconst 1, 1) := by decide +kernel
theorem dX8_more_80 : decode cX8_more 80 = .ok (.iload 6, 2) := by decide +kernel
theorem dX8_more_82 : decode cX8_more 82 = .ok (.iconst 1, 1) := by decide +kernel
theorem dX8_more_83 : decode cX8_more 83 = .ok (.iload 7, 2) := by decide +kernel
theorem dX8_more_85 : decode cX8_more 85 = .ok (.ishl, 1) := by decide +kernel
theorem dX8_more_86 : decode cX8_more 86 = .ok (.ior, 1) := by decide +kernel
theorem dX8_more_87 : decode cX8_more 87 = .ok (.ishl, 1) := by decide +kernel
theorem dX8_more_88 : decode cX8_more 88 = .ok (.goto 4, 3) := by decide +kernel
theorem dX8_more_91 : decode cX8_more 91 = .ok (.iconst 0, 1) := by decide +kernel
theorem dX8_more_92 : decode cX8_more 92 = .ok (.ior, 1) := by decide +kernel
theorem dX8_more_93 : decode cX8_more 93 = .ok (.istore 5, 2) := by decide +kernel
theorem dX8_more_95 : decode cX8_more 95 = .ok (.iinc 7 1, 3) := by decide +kernel
theorem dX8_more_98 : decode cX8_more 98 = .ok (.goto (-82), 3) := by decide +kernel
theorem dX8_more_101 : decode cX8_more 101 = .ok (.iinc 6 1, 3) := by decide +kernel
theorem dX8_more_104 : decode cX8_more 104 = .ok (.goto (-98), 3) := by decide +kernel
theorem dX8_more_107 : decode cX8_more 107 = .ok (.iload 5, 2) := by decide +kernel
theorem dX8_more_109 : decode cX8_more 109 = .ok (.ireturn, 1) := by decide +kernel
theorem dX8_bestValueBySets_0 : decode cX8_bestValueBySets 0 = .ok (.aload_n 0, 1) := by decide +kernel
theorem dX8_bestValueBySets_1 : decode cX8_bestValueBySets 1 = .ok (.iload_n 1, 1) := by decide +kernel
theorem dX8_bestValueBySets_2 : decode cX8_bestValueBySets 2 = .ok (.invokevirtual 177, 3) := by decide +kernel
theorem dX8_bestValueBySets_5 : decode cX8_bestValueBySets 5 = .ok (.ifCond .ne 9, 3) := by decide +kernel
theorem dX8_bestValueBySets_8 : decode cX8_bestValueBySets 8 = .ok (.aload_n 0, 1) := by decide +kernel
theorem dX8_bestValueBySets_9 : decode cX8_bestValueBySets 9 = .ok (.iconst 1, 1) := by decide +kernel
theorem dX8_bestValueBySets_10 : decode cX8_bestValueBySets 10 = .ok (.invokevirtual 106, 3) := by decide +kernel
theorem dX8_bestValueBySets_13 : decode cX8_bestValueBySets 13 = .ok (.ireturn, 1) := by decide +kernel
theorem dX8_bestValueBySets_14 : decode cX8_bestValueBySets 14 = .ok (.iconst 1, 1) := by decide +kernel
theorem dX8_bestValueBySets_15 : decode cX8_bestValueBySets 15 = .ok (.aload_n 0, 1) := by decide +kernel
theorem dX8_bestValueBySets_16 : decode cX8_bestValueBySets 16 = .ok (.getfield 7, 3) := by decide +kernel
theorem dX8_bestValueBySets_19 : decode cX8_bestValueBySets 19 = .ok (.bipush 45, 2) := by decide +kernel
theorem dX8_bestValueBySets_21 : decode cX8_bestValueBySets 21 = .ok (.iload_n 1, 1) := by decide +kernel
theorem dX8_bestValueBySets_22 : decode cX8_bestValueBySets 22 = .ok (.iadd, 1) := by decide +kernel
theorem dX8_bestValueBySets_23 : decode cX8_bestValueBySets 23 = .ok (.iaload, 1) := by decide +kernel
theorem dX8_bestValueBySets_24 : decode cX8_bestValueBySets 24 = .ok (.ishl, 1) := by decide +kernel
theorem dX8_bestValueBySets_25 : decode cX8_bestValueBySets 25 = .ok (.iconst 1, 1) := by decide +kernel
theorem dX8_bestValueBySets_26 : decode cX8_bestValueBySets 26 = .ok (.isub, 1) := by decide +kernel
theorem dX8_bestValueBySets_27 : decode cX8_bestValueBySets 27 = .ok (.istore_n 2, 1) := by decide +kernel
theorem dX8_bestValueBySets_28 : decode cX8_bestValueBySets 28 = .ok (.bipush 7, 2) := by decide +kernel
theorem dX8_bestValueBySets_30 : decode cX8_bestValueBySets 30 = .ok (.istore_n 3, 1) := by decide +kernel
theorem dX8_bestValueBySets_31 : decode cX8_bestValueBySets 31 = .ok (.iload_n 3, 1) := by decide +kernel
theorem dX8_bestValueBySets_32 : decode cX8_bestValueBySets 32 = .ok (.ifCond .le 50, 3) := by decide +kernel
theorem dX8_bestValueBySets_35 : decode cX8_bestValueBySets 35 = .ok (.iload_n 3, 1) := by decide +kernel
theorem dX8_bestValueBySets_36 : decode cX8_bestValueBySets 36 = .ok (.iconst 2, 1) := by decide +kernel
theorem dX8_bestValueBySets_37 : decode cX8_bestValueBySets 37 = .ok (.ishr, 1) := by decide +kernel
theorem dX8_bestValueBySets_38 : decode cX8_bestValueBySets 38 = .ok (.iload_n 3, 1) := by decide +kernel
theorem dX8_bestValueBySets_39 : decode cX8_bestValueBySets 39 = .ok (.iconst 2, 1) := by decide +kernel
theorem dX8_bestValueBySets_40 : decode cX8_bestValueBySets 40 = .ok (.iand, 1) := by decide +kernel
theorem dX8_bestValueBySets_41 : decode cX8_bestValueBySets 41 = .ok (.ior, 1) := by decide +kernel
theorem dX8_bestValueBySets_42 : decode cX8_bestValueBySets 42 = .ok (.iload_n 3, 1) := by decide +kernel
theorem dX8_bestValueBySets_43 : decode cX8_bestValueBySets 43 = .ok (.iconst 1, 1) := by decide +kernel
theorem dX8_bestValueBySets_44 : decode cX8_bestValueBySets 44 = .ok (.iand, 1) := by decide +kernel
theorem dX8_bestValueBySets_45 : decode cX8_bestValueBySets 45 = .ok (.iconst 2, 1) := by decide +kernel
theorem dX8_bestValueBySets_46 : decode cX8_bestValueBySets 46 = .ok (.ishl, 1) := by decide +kernel
theorem dX8_bestValueBySets_47 : decode cX8_bestValueBySets 47 = .ok (.ior, 1) := by decide +kernel
theorem dX8_bestValueBySets_48 : decode cX8_bestValueBySets 48 = .ok (.istore 4, 2) := by decide +kernel
theorem dX8_bestValueBySets_50 : decode cX8_bestValueBySets 50 = .ok (.iload 4, 2) := by decide +kernel
theorem dX8_bestValueBySets_52 : decode cX8_bestValueBySets 52 = .ok (.iload_n 2, 1) := by decide +kernel
theorem dX8_bestValueBySets_53 : decode cX8_bestValueBySets 53 = .ok (.iconst (-1), 1) := by decide +kernel
theorem dX8_bestValueBySets_54 : decode cX8_bestValueBySets 54 = .ok (.ixor, 1) := by decide +kernel
theorem dX8_bestValueBySets_55 : decode cX8_bestValueBySets 55 = .ok (.iand, 1) := by decide +kernel
theorem dX8_bestValueBySets_56 : decode cX8_bestValueBySets 56 = .ok (.ifCond .ne 20, 3) := by decide +kernel
theorem dX8_bestValueBySets_59 : decode cX8_bestValueBySets 59 = .ok (.aload_n 0, 1) := by decide +kernel
theorem dX8_bestValueBySets_60 : decode cX8_bestValueBySets 60 = .ok (.iload_n 1, 1) := by decide +kernel
theorem dX8_bestValueBySets_61 : decode cX8_bestValueBySets 61 = .ok (.iload 4, 2) := by decide +kernel
theorem dX8_bestValueBySets_63 : decode cX8_bestValueBySets 63 = .ok (.iconst 1, 1) := by decide +kernel
theorem dX8_bestValueBySets_64 : decode cX8_bestValueBySets 64 = .ok (.invokevirtual 224, 3) := by decide +kernel
theorem dX8_bestValueBySets_67 : decode cX8_bestValueBySets 67 = .ok (.ifCond .eq 9, 3) := by decide +kernel
theorem dX8_bestValueBySets_70 : decode cX8_bestValueBySets 70 = .ok (.aload_n 0, 1) := by decide +kernel
theorem dX8_bestValueBySets_71 : decode cX8_bestValueBySets 71 = .ok (.iload_n 3, 1) := by decide +kernel
theorem dX8_bestValueBySets_72 : decode cX8_bestValueBySets 72 = .ok (.invokevirtual 113, 3) := by decide +kernel
theorem dX8_bestValueBySets_75 : decode cX8_bestValueBySets 75 = .ok (.ireturn, 1) := by decide +kernel
theorem dX8_bestValueBySets_76 : decode cX8_bestValueBySets 76 = .ok (.iinc 3 (-1), 3) := by decide +kernel
theorem dX8_bestValueBySets_79 : decode cX8_bestValueBySets 79 = .ok (.goto (-48), 3) := by decide +kernel
theorem dX8_bestValueBySets_82 : decode cX8_bestValueBySets 82 = .ok (.aload_n 0, 1) := by decide +kernel
theorem dX8_bestValueBySets_83 : decode cX8_bestValueBySets 83 = .ok (.iconst 0, 1) := by decide +kernel
theorem dX8_bestValueBySets_84 : decode cX8_bestValueBySets 84 = .ok (.invokevirtual 113, 3) := by decide +kernel
theorem dX8_bestValueBySets_87 : decode cX8_bestValueBySets 87 = .ok (.ireturn, 1) := by decide +kernel
theorem dX8_isServable_0 : decode cX8_isServable 0 = .ok (.aload_n 0, 1) := by decide +kernel
theorem dX8_isServable_1 : decode cX8_isServable 1 = .ok (.iload_n 1, 1) := by decide +kernel
theorem dX8_isServable_2 : decode cX8_isServable 2 = .ok (.iconst 1, 1) := by decide +kernel
theorem dX8_isServable_3 : decode cX8_isServable 3 = .ok (.aload_n 0, 1) := by decide +kernel
theorem dX8_isServable_4 : decode cX8_isServable 4 = .ok (.getfield 7, 3) := by decide +kernel
theorem dX8_isServable_7 : decode cX8_isServable 7 = .ok (.bipush 45, 2) := by decide +kernel
theorem dX8_isServable_9 : decode cX8_isServable 9 = .ok (.iload_n 1, 1) := by decide +kernel
theorem dX8_isServable_10 : decode cX8_isServable 10 = .ok (.iadd, 1) := by decide +kernel
theorem dX8_isServable_11 : decode cX8_isServable 11 = .ok (.iaload, 1) := by decide +kernel
theorem dX8_isServable_12 : decode cX8_isServable 12 = .ok (.ishl, 1) := by decide +kernel
theorem dX8_isServable_13 : decode cX8_isServable 13 = .ok (.iconst 1, 1) := by decide +kernel
theorem dX8_isServable_14 : decode cX8_isServable 14 = .ok (.isub, 1) := by decide +kernel
theorem dX8_isServable_15 : decode cX8_isServable 15 = .ok (.iconst 0, 1) := by decide +kernel
theorem dX8_isServable_16 : decode cX8_isServable 16 = .ok (.invokevirtual 224, 3) := by decide +kernel
theorem dX8_isServable_19 : decode cX8_isServable 19 = .ok (.ireturn, 1) := by decide +kernel
theorem dX8_canServe_0 : decode cX8_canServe 0 = .ok (.aload_n 0, 1) := by decide +kernel
theorem dX8_canServe_1 : decode cX8_canServe 1 = .ok (.aload_n 0, 1) := by decide +kernel
theorem dX8_canServe_2 : decode cX8_canServe 2 = .ok (.iload_n 1, 1) := by decide +kernel
theorem dX8_canServe_3 : decode cX8_canServe 3 = .ok (.invokevirtual 177, 3) := by decide +kernel
theorem dX8_canServe_6 : decode cX8_canServe 6 = .ok (.ifCond .eq 7, 3) := by decide +kernel
theorem dX8_canServe_9 : decode cX8_canServe 9 = .ok (.iconst 0, 1) := by decide +kernel
theorem dX8_canServe_10 : decode cX8_canServe 10 = .ok (.goto 4, 3) := by decide +kernel
theorem dX8_canServe_13 : decode cX8_canServe 13 = .ok (.iconst 1, 1) := by decide +kernel
theorem dX8_canServe_14 : decode cX8_canServe 14 = .ok (.putfield 96, 3) := by decide +kernel
theorem dX8_canServe_17 : decode cX8_canServe 17 = .ok (.aload_n 0, 1) := by decide +kernel
theorem dX8_canServe_18 : decode cX8_canServe 18 = .ok (.getfield 96, 3) := by decide +kernel
theorem dX8_canServe_21 : decode cX8_canServe 21 = .ok (.ifCond .ne 15, 3) := by decide +kernel
theorem dX8_canServe_24 : decode cX8_canServe 24 = .ok (.aload_n 0, 1) := by decide +kernel
theorem dX8_canServe_25 : decode cX8_canServe 25 = .ok (.iload_n 1, 1) := by decide +kernel
theorem dX8_canServe_26 : decode cX8_canServe 26 = .ok (.invokevirtual 228, 3) := by decide +kernel
theorem dX8_canServe_29 : decode cX8_canServe 29 = .ok (.ifCond .eq 7, 3) := by decide +kernel
theorem dX8_canServe_32 : decode cX8_canServe 32 = .ok (.iconst 1, 1) := by decide +kernel
theorem dX8_canServe_33 : decode cX8_canServe 33 = .ok (.goto 4, 3) := by decide +kernel
theorem dX8_canServe_36 : decode cX8_canServe 36 = .ok (.iconst 0, 1) := by decide +kernel
theorem dX8_canServe_37 : decode cX8_canServe 37 = .ok (.ireturn, 1) := by decide +kernel
theorem dX8_canServeByCounting_0 : decode cX8_canServeByCounting 0 = .ok (.aload_n 0, 1) := by decide +kernel
theorem dX8_canServeByCounting_1 : decode cX8_canServeByCounting 1 = .ok (.aload_n 0, 1) := by decide +kernel
theorem dX8_canServeByCounting_2 : decode cX8_canServeByCounting 2 = .ok (.iload_n 1, 1) := by decide +kernel
theorem dX8_canServeByCounting_3 : decode cX8_canServeByCounting 3 = .ok (.invokevirtual 177, 3) := by decide +kernel
theorem dX8_canServeByCounting_6 : decode cX8_canServeByCounting 6 = .ok (.ifCond .eq 7, 3) := by decide +kernel
theorem dX8_canServeByCounting_9 : decode cX8_canServeByCounting 9 = .ok (.iconst 0, 1) := by decide +kernel
theorem dX8_canServeByCounting_10 : decode cX8_canServeByCounting 10 = .ok (.goto 4, 3) := by decide +kernel
theorem dX8_canServeByCounting_13 : decode cX8_canServeByCounting 13 = .ok (.iconst 1, 1) := by decide +kernel
theorem dX8_canServeByCounting_14 : decode cX8_canServeByCounting 14 = .ok (.putfield 96, 3) := by decide +kernel
theorem dX8_canServeByCounting_17 : decode cX8_canServeByCounting 17 = .ok (.aload_n 0, 1) := by decide +kernel
theorem dX8_canServeByCounting_18 : decode cX8_canServeByCounting 18 = .ok (.getfield 96, 3) := by decide +kernel
theorem dX8_canServeByCounting_21 : decode cX8_canServeByCounting 21 = .ok (.ifCond .ne 7, 3) := by decide +kernel
theorem dX8_canServeByCounting_24 : decode cX8_canServeByCounting 24 = .ok (.iconst 1, 1) := by decide +kernel
theorem dX8_canServeByCounting_25 : decode cX8_canServeByCounting 25 = .ok (.goto 4, 3) := by decide +kernel
theorem dX8_canServeByCounting_28 : decode cX8_canServeByCounting 28 = .ok (.iconst 0, 1) := by decide +kernel
theorem dX8_canServeByCounting_29 : decode cX8_canServeByCounting 29 = .ok (.istore_n 2, 1) := by decide +kernel
theorem dX8_canServeByCounting_30 : decode cX8_canServeByCounting 30 = .ok (.iconst 1, 1) := by decide +kernel
theorem dX8_canServeByCounting_31 : decode cX8_canServeByCounting 31 = .ok (.istore_n 3, 1) := by decide +kernel
theorem dX8_canServeByCounting_32 : decode cX8_canServeByCounting 32 = .ok (.iload_n 2, 1) := by decide +kernel
theorem dX8_canServeByCounting_33 : decode cX8_canServeByCounting 33 = .ok (.ifCond .eq 168, 3) := by decide +kernel
theorem dX8_canServeByCounting_36 : decode cX8_canServeByCounting 36 = .ok (.iload_n 3, 1) := by decide +kernel
theorem dX8_canServeByCounting_37 : decode cX8_canServeByCounting 37 = .ok (.iconst 1, 1) := by decide +kernel
theorem dX8_canServeByCounting_38 : decode cX8_canServeByCounting 38 = .ok (.aload_n 0, 1) := by decide +kernel
theorem dX8_canServeByCounting_39 : decode cX8_canServeByCounting 39 = .ok (.getfield 7, 3) := by decide +kernel
theorem dX8_canServeByCounting_42 : decode cX8_canServeByCounting 42 = .ok (.bipush 45, 2) := by decide +kernel
theorem dX8_canServeByCounting_44 : decode cX8_canServeByCounting 44 = .ok (.iload_n 1, 1) := by decide +kernel
theorem dX8_canServeByCounting_45 : decode cX8_canServeByCounting 45 = .ok (.iadd, 1) := by decide +kernel
theorem dX8_canServeByCounting_46 : decode cX8_canServeByCounting 46 = .ok (.iaload, 1) := by decide +kernel
theorem dX8_canServeByCounting_47 : decode cX8_canServeByCounting 47 = .ok (.ishl, 1) := by decide +kernel
theorem dX8_canServeByCounting_48 : decode cX8_canServeByCounting 48 = .ok (.if_icmp .ge 153, 3) := by decide +kernel
theorem dX8_canServeByCounting_51 : decode cX8_canServeByCounting 51 = .ok (.iconst 0, 1) := by decide +kernel
theorem dX8_canServeByCounting_52 : decode cX8_canServeByCounting 52 = .ok (.istore 4, 2) := by decide +kernel
theorem dX8_canServeByCounting_54 : decode cX8_canServeByCounting 54 = .ok (.iconst 0, 1) := by decide +kernel
theorem dX8_canServeByCounting_55 : decode cX8_canServeByCounting 55 = .ok (.istore 5, 2) := by decide +kernel
theorem dX8_canServeByCounting_57 : decode cX8_canServeByCounting 57 = .ok (.iconst 0, 1) := by decide +kernel
theorem dX8_canServeByCounting_58 : decode cX8_canServeByCounting 58 = .ok (.istore 6, 2) := by decide +kernel
theorem dX8_canServeByCounting_60 : decode cX8_canServeByCounting 60 = .ok (.iload 6, 2) := by decide +kernel
theorem dX8_canServeByCounting_62 : decode cX8_canServeByCounting 62 = .ok (.iconst 3, 1) := by decide +kernel
theorem dX8_canServeByCounting_63 : decode cX8_canServeByCounting 63 = .ok (.if_icmp .ge 20, 3) := by decide +kernel
theorem dX8_canServeByCounting_66 : decode cX8_canServeByCounting 66 = .ok (.iload 4, 2) := by decide +kernel
theorem dX8_canServeByCounting_68 : decode cX8_canServeByCounting 68 = .ok (.iload_n 3, 1) := by decide +kernel
theorem dX8_canServeByCounting_69 : decode cX8_canServeByCounting 69 = .ok (.iload 6, 2) := by decide +kernel
theorem dX8_canServeByCounting_71 : decode cX8_canServeByCounting 71 = .ok (.ishr, 1) := by decide +kernel
theorem dX8_canServeByCounting_72 : decode cX8_canServeByCounting 72 = .ok (.iconst 1, 1) := by decide +kernel
theorem dX8_canServeByCounting_73 : decode cX8_canServeByCounting 73 = .ok (.iand, 1) := by decide +kernel
theorem dX8_canServeByCounting_74 : decode cX8_canServeByCounting 74 = .ok (.iadd, 1) := by decide +kernel
theorem dX8_canServeByCounting_75 : decode cX8_canServeByCounting 75 = .ok (.istore 4, 2) := by decide +kernel
theorem dX8_canServeByCounting_77 : decode cX8_canServeByCounting 77 = .ok (.iinc 6 1, 3) := by decide +kernel
theorem dX8_canServeByCounting_80 : decode cX8_canServeByCounting 80 = .ok (.goto (-20), 3) := by decide +kernel
theorem dX8_canServeByCounting_83 : decode cX8_canServeByCounting 83 = .ok (.iconst 0, 1) := by decide +kernel
theorem dX8_canServeByCounting_84 : decode cX8_canServeByCounting 84 = .ok (.istore 6, 2) := by decide +kernel
theorem dX8_canServeByCounting_86 : decode cX8_canServeByCounting 86 = .ok (.iload 6, 2) := by decide +kernel
theorem dX8_canServeByCounting_88 : decode cX8_canServeByCounting 88 = .ok (.aload_n 0, 1) := by decide +kernel
theorem dX8_canServeByCounting_89 : decode cX8_canServeByCounting 89 = .ok (.getfield 7, 3) := by decide +kernel
theorem dX8_canServeByCounting_92 : decode cX8_canServeByCounting 92 = .ok (.iconst 1, 1) := by decide +kernel
theorem dX8_canServeByCounting_93 : decode cX8_canServeByCounting 93 = .ok (.iaload, 1) := by decide +kernel
theorem dX8_canServeByCounting_94 : decode cX8_canServeByCounting 94 = .ok (.if_icmp .ge 88, 3) := by decide +kernel
theorem dX8_canServeByCounting_97 : decode cX8_canServeByCounting 97 = .ok (.iconst 0, 1) := by decide +kernel
theorem dX8_canServeByCounting_98 : decode cX8_canServeByCounting 98 = .ok (.istore 7, 2) := by decide +kernel
theorem dX8_canServeByCounting_100 : decode cX8_canServeByCounting 100 = .ok (.iconst 0, 1) := by decide +kernel
theorem dX8_canServeByCounting_101 : decode cX8_canServeByCounting 101 = .ok (.istore 8, 2) := by decide +kernel
theorem dX8_canServeByCounting_103 : decode cX8_canServeByCounting 103 = .ok (.iload 8, 2) := by decide +kernel
theorem dX8_canServeByCounting_105 : decode cX8_canServeByCounting 105 = .ok (.aload_n 0, 1) := by decide +kernel
theorem dX8_canServeByCounting_106 : decode cX8_canServeByCounting 106 = .ok (.getfield 7, 3) := by decide +kernel
theorem dX8_canServeByCounting_109 : decode cX8_canServeByCounting 109 = .ok (.bipush 45, 2) := by decide +kernel
theorem dX8_canServeByCounting_111 : decode cX8_canServeByCounting 111 = .ok (.iload_n 1, 1) := by decide +kernel
theorem dX8_canServeByCounting_112 : decode cX8_canServeByCounting 112 = .ok (.iadd, 1) := by decide +kernel
theorem dX8_canServeByCounting_113 : decode cX8_canServeByCounting 113 = .ok (.iaload, 1) := by decide +kernel
theorem dX8_canServeByCounting_114 : decode cX8_canServeByCounting 114 = .ok (.if_icmp .ge 47, 3) := by decide +kernel
theorem dX8_canServeByCounting_117 : decode cX8_canServeByCounting 117 = .ok (.iload 7, 2) := by decide +kernel
theorem dX8_canServeByCounting_119 : decode cX8_canServeByCounting 119 = .ok (.ifCond .ne 29, 3) := by decide +kernel
theorem dX8_canServeByCounting_122 : decode cX8_canServeByCounting 122 = .ok (.iload_n 3, 1) := by decide +kernel
theorem dX8_canServeByCounting_123 : decode cX8_canServeByCounting 123 = .ok (.iload 8, 2) := by decide +kernel
theorem dX8_canServeByCounting_125 : decode cX8_canServeByCounting 125 = .ok (.ishr, 1) := by decide +kernel
theorem dX8_canServeByCounting_126 : decode cX8_canServeByCounting 126 = .ok (.iconst 1, 1) := by decide +kernel
theorem dX8_canServeByCounting_127 : decode cX8_canServeByCounting 127 = .ok (.iand, 1) := by decide +kernel
theorem dX8_canServeByCounting_128 : decode cX8_canServeByCounting 128 = .ok (.iconst 1, 1) := by decide +kernel
theorem dX8_canServeByCounting_129 : decode cX8_canServeByCounting 129 = .ok (.if_icmp .ne 23, 3) := by decide +kernel
theorem dX8_canServeByCounting_132 : decode cX8_canServeByCounting 132 = .ok (.aload_n 0, 1) := by decide +kernel
theorem dX8_canServeByCounting_133 : decode cX8_canServeByCounting 133 = .ok (.aload_n 0, 1) := by decide +kernel
theorem dX8_canServeByCounting_134 : decode cX8_canServeByCounting 134 = .ok (.iload_n 1, 1) := by decide +kernel
theorem dX8_canServeByCounting_135 : decode cX8_canServeByCounting 135 = .ok (.iload 8, 2) := by decide +kernel
theorem dX8_canServeByCounting_137 : decode cX8_canServeByCounting 137 = .ok (.invokevirtual 128, 3) := by decide +kernel
theorem dX8_canServeByCounting_140 : decode cX8_canServeByCounting 140 = .ok (.iload 6, 2) := by decide +kernel
theorem dX8_canServeByCounting_142 : decode cX8_canServeByCounting 142 = .ok (.invokevirtual 154, 3) := by decide +kernel
theorem dX8_canServeByCounting_145 : decode cX8_canServeByCounting 145 = .ok (.ifCond .eq 7, 3) := by decide +kernel
theorem dX8_canServeByCounting_148 : decode cX8_canServeByCounting 148 = .ok (.iconst 1, 1) := by decide +kernel
theorem dX8_canServeByCounting_149 : decode cX8_canServeByCounting 149 = .ok (.goto 4, 3) := by decide +kernel
theorem dX8_canServeByCounting_152 : decode cX8_canServeByCounting 152 = .ok (.iconst 0, 1) := by decide +kernel
theorem dX8_canServeByCounting_153 : decode cX8_canServeByCounting 153 = .ok (.istore 7, 2) := by decide +kernel
theorem dX8_canServeByCounting_155 : decode cX8_canServeByCounting 155 = .ok (.iinc 8 1, 3) := by decide +kernel
theorem dX8_canServeByCounting_158 : decode cX8_canServeByCounting 158 = .ok (.goto (-55), 3) := by decide +kernel
theorem dX8_canServeByCounting_161 : decode cX8_canServeByCounting 161 = .ok (.iload 5, 2) := by decide +kernel
theorem dX8_canServeByCounting_163 : decode cX8_canServeByCounting 163 = .ok (.iload 7, 2) := by decide +kernel
theorem dX8_canServeByCounting_165 : decode cX8_canServeByCounting 165 = .ok (.ifCond .eq 7, 3) := by decide +kernel
theorem dX8_canServeByCounting_168 : decode cX8_canServeByCounting 168 = .ok (.iconst 1, 1) := by decide +kernel
theorem dX8_canServeByCounting_169 : decode cX8_canServeByCounting 169 = .ok (.goto 4, 3) := by decide +kernel
theorem dX8_canServeByCounting_172 : decode cX8_canServeByCounting 172 = .ok (.iconst 0, 1) := by decide +kernel
theorem dX8_canServeByCounting_173 : decode cX8_canServeByCounting 173 = .ok (.iadd, 1) := by decide +kernel
theorem dX8_canServeByCounting_174 : decode cX8_canServeByCounting 174 = .ok (.istore 5, 2) := by decide +kernel
theorem dX8_canServeByCounting_176 : decode cX8_canServeByCounting 176 = .ok (.iinc 6 1, 3) := by decide +kernel
theorem dX8_canServeByCounting_179 : decode cX8_canServeByCounting 179 = .ok (.goto (-93), 3) := by decide +kernel
theorem dX8_canServeByCounting_182 : decode cX8_canServeByCounting 182 = .ok (.iload 5, 2) := by decide +kernel
theorem dX8_canServeByCounting_184 : decode cX8_canServeByCounting 184 = .ok (.iload 4, 2) := by decide +kernel
theorem dX8_canServeByCounting_186 : decode cX8_canServeByCounting 186 = .ok (.if_icmp .lt 7, 3) := by decide +kernel
theorem dX8_canServeByCounting_189 : decode cX8_canServeByCounting 189 = .ok (.iconst 1, 1) := by decide +kernel
theorem dX8_canServeByCounting_190 : decode cX8_canServeByCounting 190 = .ok (.goto 4, 3) := by decide +kernel
theorem dX8_canServeByCounting_193 : decode cX8_canServeByCounting 193 = .ok (.iconst 0, 1) := by decide +kernel
theorem dX8_canServeByCounting_194 : decode cX8_canServeByCounting 194 = .ok (.istore_n 2, 1) := by decide +kernel
theorem dX8_canServeByCounting_195 : decode cX8_canServeByCounting 195 = .ok (.iinc 3 1, 3) := by decide +kernel
theorem dX8_canServeByCounting_198 : decode cX8_canServeByCounting 198 = .ok (.goto (-166), 3) := by decide +kernel
theorem dX8_canServeByCounting_201 : decode cX8_canServeByCounting 201 = .ok (.iload_n 2, 1) := by decide +kernel
theorem dX8_canServeByCounting_202 : decode cX8_canServeByCounting 202 = .ok (.ireturn, 1) := by decide +kernel
theorem dX8_servedCount_0 : decode cX8_servedCount 0 = .ok (.iconst 0, 1) := by decide +kernel
theorem dX8_servedCount_1 : decode cX8_servedCount 1 = .ok (.istore_n 1, 1) := by decide +kernel
theorem dX8_servedCount_2 : decode cX8_servedCount 2 = .ok (.iconst 0, 1) := by decide +kernel
theorem dX8_servedCount_3 : decode cX8_servedCount 3 = .ok (.istore_n 2, 1) := by decide +kernel
theorem dX8_servedCount_4 : decode cX8_servedCount 4 = .ok (.iload_n 2, 1) := by decide +kernel
theorem dX8_servedCount_5 : decode cX8_servedCount 5 = .ok (.aload_n 0, 1) := by decide +kernel
theorem dX8_servedCount_6 : decode cX8_servedCount 6 = .ok (.getfield 7, 3) := by decide +kernel
theorem dX8_servedCount_9 : decode cX8_servedCount 9 = .ok (.iconst 2, 1) := by decide +kernel
theorem dX8_servedCount_10 : decode cX8_servedCount 10 = .ok (.iaload, 1) := by decide +kernel
theorem dX8_servedCount_11 : decode cX8_servedCount 11 = .ok (.if_icmp .ge 25, 3) := by decide +kernel
theorem dX8_servedCount_14 : decode cX8_servedCount 14 = .ok (.iload_n 1, 1) := by decide +kernel
theorem dX8_servedCount_15 : decode cX8_servedCount 15 = .ok (.aload_n 0, 1) := by decide +kernel
theorem dX8_servedCount_16 : decode cX8_servedCount 16 = .ok (.iload_n 2, 1) := by decide +kernel
theorem dX8_servedCount_17 : decode cX8_servedCount 17 = .ok (.invokevirtual 214, 3) := by decide +kernel
theorem dX8_servedCount_20 : decode cX8_servedCount 20 = .ok (.ifCond .eq 7, 3) := by decide +kernel
theorem dX8_servedCount_23 : decode cX8_servedCount 23 = .ok (.iconst 1, 1) := by decide +kernel
theorem dX8_servedCount_24 : decode cX8_servedCount 24 = .ok (.goto 4, 3) := by decide +kernel
theorem dX8_servedCount_27 : decode cX8_servedCount 27 = .ok (.iconst 0, 1) := by decide +kernel
theorem dX8_servedCount_28 : decode cX8_servedCount 28 = .ok (.iadd, 1) := by decide +kernel
theorem dX8_servedCount_29 : decode cX8_servedCount 29 = .ok (.istore_n 1, 1) := by decide +kernel
theorem dX8_servedCount_30 : decode cX8_servedCount 30 = .ok (.iinc 2 1, 3) := by decide +kernel
theorem dX8_servedCount_33 : decode cX8_servedCount 33 = .ok (.goto (-29), 3) := by decide +kernel
theorem dX8_servedCount_36 : decode cX8_servedCount 36 = .ok (.aload_n 0, 1) := by decide +kernel
theorem dX8_servedCount_37 : decode cX8_servedCount 37 = .ok (.iload_n 1, 1) := by decide +kernel
theorem dX8_servedCount_38 : decode cX8_servedCount 38 = .ok (.invokevirtual 113, 3) := by decide +kernel
theorem dX8_servedCount_41 : decode cX8_servedCount 41 = .ok (.ireturn, 1) := by decide +kernel
theorem dX8_meanClassSize_0 : decode cX8_meanClassSize 0 = .ok (.iconst 0, 1) := by decide +kernel
theorem dX8_meanClassSize_1 : decode cX8_meanClassSize 1 = .ok (.istore_n 1, 1) := by decide +kernel
theorem dX8_meanClassSize_2 : decode cX8_meanClassSize 2 = .ok (.iconst 0, 1) := by decide +kernel
theorem dX8_meanClassSize_3 : decode cX8_meanClassSize 3 = .ok (.istore_n 2, 1) := by decide +kernel
theorem dX8_meanClassSize_4 : decode cX8_meanClassSize 4 = .ok (.iconst 0, 1) := by decide +kernel
theorem dX8_meanClassSize_5 : decode cX8_meanClassSize 5 = .ok (.istore_n 3, 1) := by decide +kernel
theorem dX8_meanClassSize_6 : decode cX8_meanClassSize 6 = .ok (.iload_n 3, 1) := by decide +kernel
theorem dX8_meanClassSize_7 : decode cX8_meanClassSize 7 = .ok (.aload_n 0, 1) := by decide +kernel
theorem dX8_meanClassSize_8 : decode cX8_meanClassSize 8 = .ok (.getfield 7, 3) := by decide +kernel
theorem dX8_meanClassSize_11 : decode cX8_meanClassSize 11 = .ok (.iconst 0, 1) := by decide +kernel
theorem dX8_meanClassSize_12 : decode cX8_meanClassSize 12 = .ok (.iaload, 1) := by decide +kernel
theorem dX8_meanClassSize_13 : decode cX8_meanClassSize 13 = .ok (.if_icmp .ge 17, 3) := by decide +kernel
theorem dX8_meanClassSize_16 : decode cX8_meanClassSize 16 = .ok (.iload_n 1, 1) := by decide +kernel
theorem dX8_meanClassSize_17 : decode cX8_meanClassSize 17 = .ok (.aload_n 0, 1) := by decide +kernel
theorem dX8_meanClassSize_18 : decode cX8_meanClassSize 18 = .ok (.iload_n 3, 1) := by decide +kernel
theorem dX8_meanClassSize_19 : decode cX8_meanClassSize 19 = .ok (.invokevirtual 164, 3) := by decide +kernel
theorem dX8_meanClassSize_22 : decode cX8_meanClassSize 22 = .ok (.iadd, 1) := by decide +kernel
theorem dX8_meanClassSize_23 : decode cX8_meanClassSize 23 = .ok (.istore_n 1, 1) := by decide +kernel
theorem dX8_meanClassSize_24 : decode cX8_meanClassSize 24 = .ok (.iinc 3 1, 3) := by decide +kernel
theorem dX8_meanClassSize_27 : decode cX8_meanClassSize 27 = .ok (.goto (-21), 3) := by decide +kernel
theorem dX8_meanClassSize_30 : decode cX8_meanClassSize 30 = .ok (.iconst 0, 1) := by decide +kernel
theorem dX8_meanClassSize_31 : decode cX8_meanClassSize 31 = .ok (.istore_n 3, 1) := by decide +kernel
theorem dX8_meanClassSize_32 : decode cX8_meanClassSize 32 = .ok (.iload_n 3, 1) := by decide +kernel
theorem dX8_meanClassSize_33 : decode cX8_meanClassSize 33 = .ok (.aload_n 0, 1) := by decide +kernel
theorem dX8_meanClassSize_34 : decode cX8_meanClassSize 34 = .ok (.getfield 7, 3) := by decide +kernel
theorem dX8_meanClassSize_37 : decode cX8_meanClassSize 37 = .ok (.iconst 2, 1) := by decide +kernel
theorem dX8_meanClassSize_38 : decode cX8_meanClassSize 38 = .ok (.iaload, 1) := by decide +kernel
theorem dX8_meanClassSize_39 : decode cX8_meanClassSize 39 = .ok (.if_icmp .ge 17, 3) := by decide +kernel
theorem dX8_meanClassSize_42 : decode cX8_meanClassSize 42 = .ok (.iload_n 2, 1) := by decide +kernel
theorem dX8_meanClassSize_43 : decode cX8_meanClassSize 43 = .ok (.aload_n 0, 1) := by decide +kernel
theorem dX8_meanClassSize_44 : decode cX8_meanClassSize 44 = .ok (.iload_n 3, 1) := by decide +kernel
theorem dX8_meanClassSize_45 : decode cX8_meanClassSize 45 = .ok (.invokevirtual 204, 3) := by decide +kernel
theorem dX8_meanClassSize_48 : decode cX8_meanClassSize 48 = .ok (.iadd, 1) := by decide +kernel
theorem dX8_meanClassSize_49 : decode cX8_meanClassSize 49 = .ok (.istore_n 2, 1) := by decide +kernel
theorem dX8_meanClassSize_50 : decode cX8_meanClassSize 50 = .ok (.iinc 3 1, 3) := by decide +kernel
theorem dX8_meanClassSize_53 : decode cX8_meanClassSize 53 = .ok (.goto (-21), 3) := by decide +kernel
theorem dX8_meanClassSize_56 : decode cX8_meanClassSize 56 = .ok (.aload_n 0, 1) := by decide +kernel
theorem dX8_meanClassSize_57 : decode cX8_meanClassSize 57 = .ok (.iload_n 1, 1) := by decide +kernel
theorem dX8_meanClassSize_58 : decode cX8_meanClassSize 58 = .ok (.ifCond .ne 7, 3) := by decide +kernel
theorem dX8_meanClassSize_61 : decode cX8_meanClassSize 61 = .ok (.iconst 1, 1) := by decide +kernel
theorem dX8_meanClassSize_62 : decode cX8_meanClassSize 62 = .ok (.goto 4, 3) := by decide +kernel
theorem dX8_meanClassSize_65 : decode cX8_meanClassSize 65 = .ok (.iconst 0, 1) := by decide +kernel
theorem dX8_meanClassSize_66 : decode cX8_meanClassSize 66 = .ok (.putfield 96, 3) := by decide +kernel
theorem dX8_meanClassSize_69 : decode cX8_meanClassSize 69 = .ok (.iload_n 1, 1) := by decide +kernel
theorem dX8_meanClassSize_70 : decode cX8_meanClassSize 70 = .ok (.ifCond .ne 7, 3) := by decide +kernel
theorem dX8_meanClassSize_73 : decode cX8_meanClassSize 73 = .ok (.dconst 0, 1) := by decide +kernel
theorem dX8_meanClassSize_74 : decode cX8_meanClassSize 74 = .ok (.goto 8, 3) := by decide +kernel
theorem dX8_meanClassSize_77 : decode cX8_meanClassSize 77 = .ok (.iload_n 2, 1) := by decide +kernel
theorem dX8_meanClassSize_78 : decode cX8_meanClassSize 78 = .ok (.i2d, 1) := by decide +kernel
theorem dX8_meanClassSize_79 : decode cX8_meanClassSize 79 = .ok (.iload_n 1, 1) := by decide +kernel
theorem dX8_meanClassSize_80 : decode cX8_meanClassSize 80 = .ok (.i2d, 1) := by decide +kernel
theorem dX8_meanClassSize_81 : decode cX8_meanClassSize 81 = .ok (.ddiv, 1) := by decide +kernel
theorem dX8_meanClassSize_82 : decode cX8_meanClassSize 82 = .ok (.dreturn, 1) := by decide +kernel
theorem dX8_mover_0 : decode cX8_mover 0 = .ok (.iconst 0, 1) := by decide +kernel
theorem dX8_mover_1 : decode cX8_mover 1 = .ok (.istore 4, 2) := by decide +kernel
theorem dX8_mover_3 : decode cX8_mover 3 = .ok (.iload 4, 2) := by decide +kernel
theorem dX8_mover_5 : decode cX8_mover 5 = .ok (.aload_n 0, 1) := by decide +kernel
theorem dX8_mover_6 : decode cX8_mover 6 = .ok (.getfield 7, 3) := by decide +kernel
theorem dX8_mover_9 : decode cX8_mover 9 = .ok (.iconst 2, 1) := by decide +kernel
theorem dX8_mover_10 : decode cX8_mover 10 = .ok (.iaload, 1) := by decide +kernel
theorem dX8_mover_11 : decode cX8_mover 11 = .ok (.if_icmp .ge 34, 3) := by decide +kernel
theorem dX8_mover_14 : decode cX8_mover 14 = .ok (.aload_n 0, 1) := by decide +kernel
theorem dX8_mover_15 : decode cX8_mover 15 = .ok (.iload 4, 2) := by decide +kernel
theorem dX8_mover_17 : decode cX8_mover 17 = .ok (.iload_n 2, 1) := by decide +kernel
theorem dX8_mover_18 : decode cX8_mover 18 = .ok (.invokevirtual 124, 3) := by decide +kernel
theorem dX8_mover_21 : decode cX8_mover 21 = .ok (.iload_n 1, 1) := by decide +kernel
theorem dX8_mover_22 : decode cX8_mover 22 = .ok (.if_icmp .ne 17, 3) := by decide +kernel
theorem dX8_mover_25 : decode cX8_mover 25 = .ok (.aload_n 0, 1) := by decide +kernel
theorem dX8_mover_26 : decode cX8_mover 26 = .ok (.iload 4, 2) := by decide +kernel
theorem dX8_mover_28 : decode cX8_mover 28 = .ok (.iload_n 3, 1) := by decide +kernel
theorem dX8_mover_29 : decode cX8_mover 29 = .ok (.invokevirtual 124, 3) := by decide +kernel
theorem dX8_mover_32 : decode cX8_mover 32 = .ok (.iconst (-1), 1) := by decide +kernel
theorem dX8_mover_33 : decode cX8_mover 33 = .ok (.if_icmp .ne 6, 3) := by decide +kernel
theorem dX8_mover_36 : decode cX8_mover 36 = .ok (.iload 4, 2) := by decide +kernel
theorem dX8_mover_38 : decode cX8_mover 38 = .ok (.ireturn, 1) := by decide +kernel
theorem dX8_mover_39 : decode cX8_mover 39 = .ok (.iinc 4 1, 3) := by decide +kernel
theorem dX8_mover_42 : decode cX8_mover 42 = .ok (.goto (-39), 3) := by decide +kernel
theorem dX8_mover_45 : decode cX8_mover 45 = .ok (.iconst (-1), 1) := by decide +kernel
theorem dX8_mover_46 : decode cX8_mover 46 = .ok (.ireturn, 1) := by decide +kernel
theorem dX8_isEntry_0 : decode cX8_isEntry 0 = .ok (.iload_n 3, 1) := by decide +kernel
theorem dX8_isEntry_1 : decode cX8_isEntry 1 = .ok (.aload_n 0, 1) := by decide +kernel
theorem dX8_isEntry_2 : decode cX8_isEntry 2 = .ok (.getfield 7, 3) := by decide +kernel
theorem dX8_isEntry_5 : decode cX8_isEntry 5 = .ok (.iconst 1, 1) := by decide +kernel
theorem dX8_isEntry_6 : decode cX8_isEntry 6 = .ok (.iaload, 1) := by decide +kernel
theorem dX8_isEntry_7 : decode cX8_isEntry 7 = .ok (.if_icmp .ge 26, 3) := by decide +kernel
theorem dX8_isEntry_10 : decode cX8_isEntry 10 = .ok (.aload_n 0, 1) := by decide +kernel
theorem dX8_isEntry_11 : decode cX8_isEntry 11 = .ok (.iload_n 2, 1) := by decide +kernel
theorem dX8_isEntry_12 : decode cX8_isEntry 12 = .ok (.iload_n 3, 1) := by decide +kernel
theorem dX8_isEntry_13 : decode cX8_isEntry 13 = .ok (.invokevirtual 154, 3) := by decide +kernel
theorem dX8_isEntry_16 : decode cX8_isEntry 16 = .ok (.ifCond .eq 17, 3) := by decide +kernel
theorem dX8_isEntry_19 : decode cX8_isEntry 19 = .ok (.aload_n 0, 1) := by decide +kernel
theorem dX8_isEntry_20 : decode cX8_isEntry 20 = .ok (.iload_n 1, 1) := by decide +kernel
theorem dX8_isEntry_21 : decode cX8_isEntry 21 = .ok (.iload_n 3, 1) := by decide +kernel
theorem dX8_isEntry_22 : decode cX8_isEntry 22 = .ok (.invokevirtual 124, 3) := by decide +kernel
theorem dX8_isEntry_25 : decode cX8_isEntry 25 = .ok (.iconst (-1), 1) := by decide +kernel
theorem dX8_isEntry_26 : decode cX8_isEntry 26 = .ok (.if_icmp .ne 7, 3) := by decide +kernel
theorem dX8_isEntry_29 : decode cX8_isEntry 29 = .ok (.iconst 1, 1) := by decide +kernel
theorem dX8_isEntry_30 : decode cX8_isEntry 30 = .ok (.goto 4, 3) := by decide +kernel
theorem dX8_isEntry_33 : decode cX8_isEntry 33 = .ok (.iconst 0, 1) := by decide +kernel
theorem dX8_isEntry_34 : decode cX8_isEntry 34 = .ok (.ireturn, 1) := by decide +kernel
theorem dX8_isChain_0 : decode cX8_isChain 0 = .ok (.aload_n 0, 1) := by decide +kernel
theorem dX8_isChain_1 : decode cX8_isChain 1 = .ok (.iload_n 1, 1) := by decide +kernel
theorem dX8_isChain_2 : decode cX8_isChain 2 = .ok (.iload_n 2, 1) := by decide +kernel
theorem dX8_isChain_3 : decode cX8_isChain 3 = .ok (.aload_n 0, 1) := by decide +kernel
theorem dX8_isChain_4 : decode cX8_isChain 4 = .ok (.getfield 45, 3) := by decide +kernel
theorem dX8_isChain_7 : decode cX8_isChain 7 = .ok (.iconst 0, 1) := by decide +kernel
theorem dX8_isChain_8 : decode cX8_isChain 8 = .ok (.iaload, 1) := by decide +kernel
theorem dX8_isChain_9 : decode cX8_isChain 9 = .ok (.invokevirtual 231, 3) := by decide +kernel
theorem dX8_isChain_12 : decode cX8_isChain 12 = .ok (.ifCond .ne 5, 3) := by decide +kernel
theorem dX8_isChain_15 : decode cX8_isChain 15 = .ok (.iconst 0, 1) := by decide +kernel
theorem dX8_isChain_16 : decode cX8_isChain 16 = .ok (.ireturn, 1) := by decide +kernel
theorem dX8_isChain_17 : decode cX8_isChain 17 = .ok (.iconst 0, 1) := by decide +kernel
theorem dX8_isChain_18 : decode cX8_isChain 18 = .ok (.istore 4, 2) := by decide +kernel
theorem dX8_isChain_20 : decode cX8_isChain 20 = .ok (.iload 4, 2) := by decide +kernel
theorem dX8_isChain_22 : decode cX8_isChain 22 = .ok (.iload_n 3, 1) := by decide +kernel
theorem dX8_isChain_23 : decode cX8_isChain 23 = .ok (.if_icmp .ge 71, 3) := by decide +kernel
theorem dX8_isChain_26 : decode cX8_isChain 26 = .ok (.aload_n 0, 1) := by decide +kernel
theorem dX8_isChain_27 : decode cX8_isChain 27 = .ok (.getfield 45, 3) := by decide +kernel
theorem dX8_isChain_30 : decode cX8_isChain 30 = .ok (.iload 4, 2) := by decide +kernel
theorem dX8_isChain_32 : decode cX8_isChain 32 = .ok (.iconst 1, 1) := by decide +kernel
theorem dX8_isChain_33 : decode cX8_isChain 33 = .ok (.iadd, 1) := by decide +kernel
theorem dX8_isChain_34 : decode cX8_isChain 34 = .ok (.iaload, 1) := by decide +kernel
theorem dX8_isChain_35 : decode cX8_isChain 35 = .ok (.aload_n 0, 1) := by decide +kernel
theorem dX8_isChain_36 : decode cX8_isChain 36 = .ok (.getfield 7, 3) := by decide +kernel
theorem dX8_isChain_39 : decode cX8_isChain 39 = .ok (.iconst 1, 1) := by decide +kernel
theorem dX8_isChain_40 : decode cX8_isChain 40 = .ok (.iaload, 1) := by decide +kernel
theorem dX8_isChain_41 : decode cX8_isChain 41 = .ok (.if_icmp .ge 45, 3) := by decide +kernel
theorem dX8_isChain_44 : decode cX8_isChain 44 = .ok (.aload_n 0, 1) := by decide +kernel
theorem dX8_isChain_45 : decode cX8_isChain 45 = .ok (.iload_n 2, 1) := by decide +kernel
theorem dX8_isChain_46 : decode cX8_isChain 46 = .ok (.aload_n 0, 1) := by decide +kernel
theorem dX8_isChain_47 : decode cX8_isChain 47 = .ok (.getfield 45, 3) := by decide +kernel
theorem dX8_isChain_50 : decode cX8_isChain 50 = .ok (.iload 4, 2) := by decide +kernel
theorem dX8_isChain_52 : decode cX8_isChain 52 = .ok (.iconst 1, 1) := by decide +kernel
theorem dX8_isChain_53 : decode cX8_isChain 53 = .ok (.iadd, 1) := by decide +kernel
theorem dX8_isChain_54 : decode cX8_isChain 54 = .ok (.iaload, 1) := by decide +kernel
theorem dX8_isChain_55 : decode cX8_isChain 55 = .ok (.invokevirtual 154, 3) := by decide +kernel
theorem dX8_isChain_58 : decode cX8_isChain 58 = .ok (.ifCond .eq 28, 3) := by decide +kernel
theorem dX8_isChain_61 : decode cX8_isChain 61 = .ok (.aload_n 0, 1) := by decide +kernel
theorem dX8_isChain_62 : decode cX8_isChain 62 = .ok (.iload_n 2, 1) := by decide +kernel
theorem dX8_isChain_63 : decode cX8_isChain 63 = .ok (.aload_n 0, 1) := by decide +kernel
theorem dX8_isChain_64 : decode cX8_isChain 64 = .ok (.getfield 45, 3) := by decide +kernel
theorem dX8_isChain_67 : decode cX8_isChain 67 = .ok (.iload 4, 2) := by decide +kernel
theorem dX8_isChain_69 : decode cX8_isChain 69 = .ok (.iaload, 1) := by decide +kernel
theorem dX8_isChain_70 : decode cX8_isChain 70 = .ok (.aload_n 0, 1) := by decide +kernel
theorem dX8_isChain_71 : decode cX8_isChain 71 = .ok (.getfield 45, 3) := by decide +kernel
theorem dX8_isChain_74 : decode cX8_isChain 74 = .ok (.iload 4, 2) := by decide +kernel
theorem dX8_isChain_76 : decode cX8_isChain 76 = .ok (.iconst 1, 1) := by decide +kernel
theorem dX8_isChain_77 : decode cX8_isChain 77 = .ok (.iadd, 1) := by decide +kernel
theorem dX8_isChain_78 : decode cX8_isChain 78 = .ok (.iaload, 1) := by decide +kernel
theorem dX8_isChain_79 : decode cX8_isChain 79 = .ok (.invokevirtual 234, 3) := by decide +kernel
theorem dX8_isChain_82 : decode cX8_isChain 82 = .ok (.iconst (-1), 1) := by decide +kernel
theorem dX8_isChain_83 : decode cX8_isChain 83 = .ok (.if_icmp .ne 5, 3) := by decide +kernel
theorem dX8_isChain_86 : decode cX8_isChain 86 = .ok (.iconst 0, 1) := by decide +kernel
theorem dX8_isChain_87 : decode cX8_isChain 87 = .ok (.ireturn, 1) := by decide +kernel
theorem dX8_isChain_88 : decode cX8_isChain 88 = .ok (.iinc 4 1, 3) := by decide +kernel
theorem dX8_isChain_91 : decode cX8_isChain 91 = .ok (.goto (-71), 3) := by decide +kernel
theorem dX8_isChain_94 : decode cX8_isChain 94 = .ok (.aload_n 0, 1) := by decide +kernel
theorem dX8_isChain_95 : decode cX8_isChain 95 = .ok (.iload_n 2, 1) := by decide +kernel
theorem dX8_isChain_96 : decode cX8_isChain 96 = .ok (.aload_n 0, 1) := by decide +kernel
theorem dX8_isChain_97 : decode cX8_isChain 97 = .ok (.getfield 45, 3) := by decide +kernel
theorem dX8_isChain_100 : decode cX8_isChain 100 = .ok (.iload_n 3, 1) := by decide +kernel
theorem dX8_isChain_101 : decode cX8_isChain 101 = .ok (.iaload, 1) := by decide +kernel
theorem dX8_isChain_102 : decode cX8_isChain 102 = .ok (.invokevirtual 148, 3) := by decide +kernel
theorem dX8_isChain_105 : decode cX8_isChain 105 = .ok (.aload_n 0, 1) := by decide +kernel
theorem dX8_isChain_106 : decode cX8_isChain 106 = .ok (.getfield 7, 3) := by decide +kernel
theorem dX8_isChain_109 : decode cX8_isChain 109 = .ok (.bipush 10, 2) := by decide +kernel
theorem dX8_isChain_111 : decode cX8_isChain 111 = .ok (.iload_n 2, 1) := by decide +kernel
theorem dX8_isChain_112 : decode cX8_isChain 112 = .ok (.iadd, 1) := by decide +kernel
theorem dX8_isChain_113 : decode cX8_isChain 113 = .ok (.iaload, 1) := by decide +kernel
theorem dX8_isChain_114 : decode cX8_isChain 114 = .ok (.if_icmp .ge 7, 3) := by decide +kernel
theorem dX8_isChain_117 : decode cX8_isChain 117 = .ok (.iconst 1, 1) := by decide +kernel
theorem dX8_isChain_118 : decode cX8_isChain 118 = .ok (.goto 4, 3) := by decide +kernel
theorem dX8_isChain_121 : decode cX8_isChain 121 = .ok (.iconst 0, 1) := by decide +kernel
theorem dX8_isChain_122 : decode cX8_isChain 122 = .ok (.ireturn, 1) := by decide +kernel
theorem dX8_findsChain_0 : decode cX8_findsChain 0 = .ok (.iconst 0, 1) := by decide +kernel
theorem dX8_findsChain_1 : decode cX8_findsChain 1 = .ok (.istore_n 3, 1) := by decide +kernel
theorem dX8_findsChain_2 : decode cX8_findsChain 2 = .ok (.iload_n 3, 1) := by decide +kernel
theorem dX8_findsChain_3 : decode cX8_findsChain 3 = .ok (.iconst 4, 1) := by decide +kernel
theorem dX8_findsChain_4 : decode cX8_findsChain 4 = .ok (.if_icmp .ge 75, 3) := by decide +kernel
theorem dX8_findsChain_7 : decode cX8_findsChain 7 = .ok (.iconst 0, 1) := by decide +kernel
theorem dX8_findsChain_8 : decode cX8_findsChain 8 = .ok (.istore 4, 2) := by decide +kernel
theorem dX8_findsChain_10 : decode cX8_findsChain 10 = .ok (.iload 4, 2) := by decide +kernel
theorem dX8_findsChain_12 : decode cX8_findsChain 12 = .ok (.iconst 1, 1) := by decide +kernel
theorem dX8_findsChain_13 : decode cX8_findsChain 13 = .ok (.iconst 2, 1) := by decide +kernel
theorem dX8_findsChain_14 : decode cX8_findsChain 14 = .ok (.iload_n 3, 1) := by decide +kernel
theorem dX8_findsChain_15 : decode cX8_findsChain 15 = .ok (.imul, 1) := by decide +kernel
theorem dX8_findsChain_16 : decode cX8_findsChain 16 = .ok (.iconst 2, 1) := by decide +kernel
theorem dX8_findsChain_17 : decode cX8_findsChain 17 = .ok (.iadd, 1) := by decide +kernel
theorem dX8_findsChain_18 : decode cX8_findsChain 18 = .ok (.ishl, 1) := by decide +kernel
theorem dX8_findsChain_19 : decode cX8_findsChain 19 = .ok (.if_icmp .ge 54, 3) := by decide +kernel
theorem dX8_findsChain_22 : decode cX8_findsChain 22 = .ok (.iconst 0, 1) := by decide +kernel
theorem dX8_findsChain_23 : decode cX8_findsChain 23 = .ok (.istore 5, 2) := by decide +kernel
theorem dX8_findsChain_25 : decode cX8_findsChain 25 = .ok (.iload 5, 2) := by decide +kernel
theorem dX8_findsChain_27 : decode cX8_findsChain 27 = .ok (.iload_n 3, 1) := by decide +kernel
theorem dX8_findsChain_28 : decode cX8_findsChain 28 = .ok (.if_icmp .gt 27, 3) := by decide +kernel
theorem dX8_findsChain_31 : decode cX8_findsChain 31 = .ok (.aload_n 0, 1) := by decide +kernel
theorem dX8_findsChain_32 : decode cX8_findsChain 32 = .ok (.getfield 45, 3) := by decide +kernel
theorem dX8_findsChain_35 : decode cX8_findsChain 35 = .ok (.iload 5, 2) := by decide +kernel
theorem dX8_findsChain_37 : decode cX8_findsChain 37 = .ok (.iload 4, 2) := by decide +kernel
theorem dX8_findsChain_39 : decode cX8_findsChain 39 = .ok (.iconst 2, 1) := by decide +kernel
theorem dX8_findsChain_40 : decode cX8_findsChain 40 = .ok (.iload_n 3, 1) := by decide +kernel
theorem dX8_findsChain_41 : decode cX8_findsChain 41 = .ok (.iload 5, 2) := by decide +kernel
theorem dX8_findsChain_43 : decode cX8_findsChain 43 = .ok (.isub, 1) := by decide +kernel
theorem dX8_findsChain_44 : decode cX8_findsChain 44 = .ok (.imul, 1) := by decide +kernel
theorem dX8_findsChain_45 : decode cX8_findsChain 45 = .ok (.ishr, 1) := by decide +kernel
theorem dX8_findsChain_46 : decode cX8_findsChain 46 = .ok (.iconst 3, 1) := by decide +kernel
theorem dX8_findsChain_47 : decode cX8_findsChain 47 = .ok (.iand, 1) := by decide +kernel
theorem dX8_findsChain_48 : decode cX8_findsChain 48 = .ok (.iastore, 1) := by decide +kernel
theorem dX8_findsChain_49 : decode cX8_findsChain 49 = .ok (.iinc 5 1, 3) := by decide +kernel
theorem dX8_findsChain_52 : decode cX8_findsChain 52 = .ok (.goto (-27), 3) := by decide +kernel
theorem dX8_findsChain_55 : decode cX8_findsChain 55 = .ok (.aload_n 0, 1) := by decide +kernel
theorem dX8_findsChain_56 : decode cX8_findsChain 56 = .ok (.iload_n 1, 1) := by decide +kernel
theorem dX8_findsChain_57 : decode cX8_findsChain 57 = .ok (.iload_n 2, 1) := by decide +kernel
theorem dX8_findsChain_58 : decode cX8_findsChain 58 = .ok (.iload_n 3, 1) := by decide +kernel
theorem dX8_findsChain_59 : decode cX8_findsChain 59 = .ok (.invokevirtual 237, 3) := by decide +kernel
theorem dX8_findsChain_62 : decode cX8_findsChain 62 = .ok (.ifCond .eq 5, 3) := by decide +kernel
theorem dX8_findsChain_65 : decode cX8_findsChain 65 = .ok (.iload_n 3, 1) := by decide +kernel
theorem dX8_findsChain_66 : decode cX8_findsChain 66 = .ok (.ireturn, 1) := by decide +kernel
theorem dX8_findsChain_67 : decode cX8_findsChain 67 = .ok (.iinc 4 1, 3) := by decide +kernel
theorem dX8_findsChain_70 : decode cX8_findsChain 70 = .ok (.goto (-60), 3) := by decide +kernel
theorem dX8_findsChain_73 : decode cX8_findsChain 73 = .ok (.iinc 3 1, 3) := by decide +kernel
theorem dX8_findsChain_76 : decode cX8_findsChain 76 = .ok (.goto (-74), 3) := by decide +kernel
theorem dX8_findsChain_79 : decode cX8_findsChain 79 = .ok (.iconst (-1), 1) := by decide +kernel
theorem dX8_findsChain_80 : decode cX8_findsChain 80 = .ok (.ireturn, 1) := by decide +kernel
theorem dX8_asksMoves_0 : decode cX8_asksMoves 0 = .ok (.aload_n 0, 1) := by decide +kernel
theorem dX8_asksMoves_1 : decode cX8_asksMoves 1 = .ok (.iload_n 1, 1) := by decide +kernel
theorem dX8_asksMoves_2 : decode cX8_asksMoves 2 = .ok (.invokevirtual 177, 3) := by decide +kernel
theorem dX8_asksMoves_5 : decode cX8_asksMoves 5 = .ok (.ifCond .eq 11, 3) := by decide +kernel
theorem dX8_asksMoves_8 : decode cX8_asksMoves 8 = .ok (.aload_n 0, 1) := by decide +kernel
theorem dX8_asksMoves_9 : decode cX8_asksMoves 9 = .ok (.iload_n 2, 1) := by decide +kernel
theorem dX8_asksMoves_10 : decode cX8_asksMoves 10 = .ok (.invokevirtual 144, 3) := by decide +kernel
theorem dX8_asksMoves_13 : decode cX8_asksMoves 13 = .ok (.ifCond .ne 9, 3) := by decide +kernel
theorem dX8_asksMoves_16 : decode cX8_asksMoves 16 = .ok (.aload_n 0, 1) := by decide +kernel
theorem dX8_asksMoves_17 : decode cX8_asksMoves 17 = .ok (.iconst 1, 1) := by decide +kernel
theorem dX8_asksMoves_18 : decode cX8_asksMoves 18 = .ok (.invokevirtual 106, 3) := by decide +kernel
theorem dX8_asksMoves_21 : decode cX8_asksMoves 21 = .ok (.ireturn, 1) := by decide +kernel
theorem dX8_asksMoves_22 : decode cX8_asksMoves 22 = .ok (.aload_n 0, 1) := by decide +kernel
theorem dX8_asksMoves_23 : decode cX8_asksMoves 23 = .ok (.iload_n 1, 1) := by decide +kernel
theorem dX8_asksMoves_24 : decode cX8_asksMoves 24 = .ok (.iload_n 2, 1) := by decide +kernel
theorem dX8_asksMoves_25 : decode cX8_asksMoves 25 = .ok (.invokevirtual 189, 3) := by decide +kernel
theorem dX8_asksMoves_28 : decode cX8_asksMoves 28 = .ok (.iconst (-1), 1) := by decide +kernel
theorem dX8_asksMoves_29 : decode cX8_asksMoves 29 = .ok (.if_icmp .eq 9, 3) := by decide +kernel
theorem dX8_asksMoves_32 : decode cX8_asksMoves 32 = .ok (.aload_n 0, 1) := by decide +kernel
theorem dX8_asksMoves_33 : decode cX8_asksMoves 33 = .ok (.iconst 2, 1) := by decide +kernel
theorem dX8_asksMoves_34 : decode cX8_asksMoves 34 = .ok (.invokevirtual 106, 3) := by decide +kernel
theorem dX8_asksMoves_37 : decode cX8_asksMoves 37 = .ok (.ireturn, 1) := by decide +kernel
theorem dX8_asksMoves_38 : decode cX8_asksMoves 38 = .ok (.aload_n 0, 1) := by decide +kernel
theorem dX8_asksMoves_39 : decode cX8_asksMoves 39 = .ok (.iload_n 1, 1) := by decide +kernel
theorem dX8_asksMoves_40 : decode cX8_asksMoves 40 = .ok (.iload_n 2, 1) := by decide +kernel
theorem dX8_asksMoves_41 : decode cX8_asksMoves 41 = .ok (.invokevirtual 240, 3) := by decide +kernel
theorem dX8_asksMoves_44 : decode cX8_asksMoves 44 = .ok (.istore_n 3, 1) := by decide +kernel
theorem dX8_asksMoves_45 : decode cX8_asksMoves 45 = .ok (.iload_n 3, 1) := by decide +kernel
theorem dX8_asksMoves_46 : decode cX8_asksMoves 46 = .ok (.iconst (-1), 1) := by decide +kernel
theorem dX8_asksMoves_47 : decode cX8_asksMoves 47 = .ok (.if_icmp .ne 11, 3) := by decide +kernel
theorem dX8_asksMoves_50 : decode cX8_asksMoves 50 = .ok (.aload_n 0, 1) := by decide +kernel
theorem dX8_asksMoves_51 : decode cX8_asksMoves 51 = .ok (.iconst 3, 1) := by decide +kernel
theorem dX8_asksMoves_52 : decode cX8_asksMoves 52 = .ok (.invokevirtual 106, 3) := by decide +kernel
theorem dX8_asksMoves_55 : decode cX8_asksMoves 55 = .ok (.goto 8, 3) := by decide +kernel
theorem dX8_asksMoves_58 : decode cX8_asksMoves 58 = .ok (.aload_n 0, 1) := by decide +kernel
theorem dX8_asksMoves_59 : decode cX8_asksMoves 59 = .ok (.iload_n 3, 1) := by decide +kernel
theorem dX8_asksMoves_60 : decode cX8_asksMoves 60 = .ok (.invokevirtual 113, 3) := by decide +kernel
theorem dX8_asksMoves_63 : decode cX8_asksMoves 63 = .ok (.ireturn, 1) := by decide +kernel
theorem dX8_movesFor_0 : decode cX8_movesFor 0 = .ok (.aload_n 0, 1) := by decide +kernel
theorem dX8_movesFor_1 : decode cX8_movesFor 1 = .ok (.iload_n 1, 1) := by decide +kernel
theorem dX8_movesFor_2 : decode cX8_movesFor 2 = .ok (.iload_n 2, 1) := by decide +kernel
theorem dX8_movesFor_3 : decode cX8_movesFor 3 = .ok (.invokevirtual 243, 3) := by decide +kernel
theorem dX8_movesFor_6 : decode cX8_movesFor 6 = .ok (.ireturn, 1) := by decide +kernel
theorem dX8_movesByTrial_0 : decode cX8_movesByTrial 0 = .ok (.aload_n 0, 1) := by decide +kernel
theorem dX8_movesByTrial_1 : decode cX8_movesByTrial 1 = .ok (.iload_n 1, 1) := by decide +kernel
theorem dX8_movesByTrial_2 : decode cX8_movesByTrial 2 = .ok (.iload_n 2, 1) := by decide +kernel
theorem dX8_movesByTrial_3 : decode cX8_movesByTrial 3 = .ok (.invokevirtual 243, 3) := by decide +kernel
theorem dX8_movesByTrial_6 : decode cX8_movesByTrial 6 = .ok (.ireturn, 1) := by decide +kernel
theorem dX8_whyRefused_0 : decode cX8_whyRefused 0 = .ok (.iconst 0, 1) := by decide +kernel
theorem dX8_whyRefused_1 : decode cX8_whyRefused 1 = .ok (.istore_n 3, 1) := by decide +kernel
theorem dX8_whyRefused_2 : decode cX8_whyRefused 2 = .ok (.iconst 0, 1) := by decide +kernel
theorem dX8_whyRefused_3 : decode cX8_whyRefused 3 = .ok (.istore 4, 2) := by decide +kernel
theorem dX8_whyRefused_5 : decode cX8_whyRefused 5 = .ok (.iload 4, 2) := by decide +kernel
theorem dX8_whyRefused_7 : decode cX8_whyRefused 7 = .ok (.aload_n 0, 1) := by decide +kernel
theorem dX8_whyRefused_8 : decode cX8_whyRefused 8 = .ok (.getfield 7, 3) := by decide +kernel
theorem dX8_whyRefused_11 : decode cX8_whyRefused 11 = .ok (.iconst 1, 1) := by decide +kernel
theorem dX8_whyRefused_12 : decode cX8_whyRefused 12 = .ok (.iaload, 1) := by decide +kernel
theorem dX8_whyRefused_13 : decode cX8_whyRefused 13 = .ok (.if_icmp .ge 30, 3) := by decide +kernel
theorem dX8_whyRefused_16 : decode cX8_whyRefused 16 = .ok (.iload_n 3, 1) := by decide +kernel
theorem dX8_whyRefused_17 : decode cX8_whyRefused 17 = .ok (.ifCond .ne 14, 3) := by decide +kernel
theorem dX8_whyRefused_20 : decode cX8_whyRefused 20 = .ok (.aload_n 0, 1) := by decide +kernel
theorem dX8_whyRefused_21 : decode cX8_whyRefused 21 = .ok (.iload_n 1, 1) := by decide +kernel
theorem dX8_whyRefused_22 : decode cX8_whyRefused 22 = .ok (.iload_n 2, 1) := by decide +kernel
theorem dX8_whyRefused_23 : decode cX8_whyRefused 23 = .ok (.iload 4, 2) := by decide +kernel
theorem dX8_whyRefused_25 : decode cX8_whyRefused 25 = .ok (.invokevirtual 231, 3) := by decide +kernel
theorem dX8_whyRefused_28 : decode cX8_whyRefused 28 = .ok (.ifCond .eq 7, 3) := by decide +kernel
theorem dX8_whyRefused_31 : decode cX8_whyRefused 31 = .ok (.iconst 1, 1) := by decide +kernel
theorem dX8_whyRefused_32 : decode cX8_whyRefused 32 = .ok (.goto 4, 3) := by decide +kernel
theorem dX8_whyRefused_35 : decode cX8_whyRefused 35 = .ok (.iconst 0, 1) := by decide +kernel
theorem dX8_whyRefused_36 : decode cX8_whyRefused 36 = .ok (.istore_n 3, 1) := by decide +kernel
theorem dX8_whyRefused_37 : decode cX8_whyRefused 37 = .ok (.iinc 4 1, 3) := by decide +kernel
theorem dX8_whyRefused_40 : decode cX8_whyRefused 40 = .ok (.goto (-35), 3) := by decide +kernel
theorem dX8_whyRefused_43 : decode cX8_whyRefused 43 = .ok (.aload_n 0, 1) := by decide +kernel
theorem dX8_whyRefused_44 : decode cX8_whyRefused 44 = .ok (.iload_n 2, 1) := by decide +kernel
theorem dX8_whyRefused_45 : decode cX8_whyRefused 45 = .ok (.invokevirtual 164, 3) := by decide +kernel
theorem dX8_whyRefused_48 : decode cX8_whyRefused 48 = .ok (.ifCond .ne 7, 3) := by decide +kernel
theorem dX8_whyRefused_51 : decode cX8_whyRefused 51 = .ok (.iconst 1, 1) := by decide +kernel
theorem dX8_whyRefused_52 : decode cX8_whyRefused 52 = .ok (.goto 12, 3) := by decide +kernel
theorem dX8_whyRefused_55 : decode cX8_whyRefused 55 = .ok (.iload_n 3, 1) := by decide +kernel
theorem dX8_whyRefused_56 : decode cX8_whyRefused 56 = .ok (.ifCond .eq 7, 3) := by decide +kernel
theorem dX8_whyRefused_59 : decode cX8_whyRefused 59 = .ok (.iconst 3, 1) := by decide +kernel
theorem dX8_whyRefused_60 : decode cX8_whyRefused 60 = .ok (.goto 4, 3) := by decide +kernel
theorem dX8_whyRefused_63 : decode cX8_whyRefused 63 = .ok (.iconst 2, 1) := by decide +kernel
theorem dX8_whyRefused_64 : decode cX8_whyRefused 64 = .ok (.ireturn, 1) := by decide +kernel
theorem dX8_joinNow_0 : decode cX8_joinNow 0 = .ok (.aload_n 0, 1) := by decide +kernel
theorem dX8_joinNow_1 : decode cX8_joinNow 1 = .ok (.iload_n 1, 1) := by decide +kernel
theorem dX8_joinNow_2 : decode cX8_joinNow 2 = .ok (.invokevirtual 177, 3) := by decide +kernel
theorem dX8_joinNow_5 : decode cX8_joinNow 5 = .ok (.ifCond .eq 11, 3) := by decide +kernel
theorem dX8_joinNow_8 : decode cX8_joinNow 8 = .ok (.aload_n 0, 1) := by decide +kernel
theorem dX8_joinNow_9 : decode cX8_joinNow 9 = .ok (.iload_n 2, 1) := by decide +kernel
theorem dX8_joinNow_10 : decode cX8_joinNow 10 = .ok (.invokevirtual 144, 3) := by decide +kernel
theorem dX8_joinNow_13 : decode cX8_joinNow 13 = .ok (.ifCond .ne 9, 3) := by decide +kernel
theorem dX8_joinNow_16 : decode cX8_joinNow 16 = .ok (.aload_n 0, 1) := by decide +kernel
theorem dX8_joinNow_17 : decode cX8_joinNow 17 = .ok (.iconst 1, 1) := by decide +kernel
theorem dX8_joinNow_18 : decode cX8_joinNow 18 = .ok (.invokevirtual 131, 3) := by decide +kernel
theorem dX8_joinNow_21 : decode cX8_joinNow 21 = .ok (.ireturn, 1) := by decide +kernel
theorem dX8_joinNow_22 : decode cX8_joinNow 22 = .ok (.aload_n 0, 1) := by decide +kernel
theorem dX8_joinNow_23 : decode cX8_joinNow 23 = .ok (.iload_n 1, 1) := by decide +kernel
theorem dX8_joinNow_24 : decode cX8_joinNow 24 = .ok (.iload_n 2, 1) := by decide +kernel
theorem dX8_joinNow_25 : decode cX8_joinNow 25 = .ok (.invokevirtual 189, 3) := by decide +kernel
theorem dX8_joinNow_28 : decode cX8_joinNow 28 = .ok (.iconst (-1), 1) := by decide +kernel
theorem dX8_joinNow_29 : decode cX8_joinNow 29 = .ok (.if_icmp .eq 9, 3) := by decide +kernel
theorem dX8_joinNow_32 : decode cX8_joinNow 32 = .ok (.aload_n 0, 1) := by decide +kernel
theorem dX8_joinNow_33 : decode cX8_joinNow 33 = .ok (.iconst 3, 1) := by decide +kernel
theorem dX8_joinNow_34 : decode cX8_joinNow 34 = .ok (.invokevirtual 131, 3) := by decide +kernel
theorem dX8_joinNow_37 : decode cX8_joinNow 37 = .ok (.ireturn, 1) := by decide +kernel
theorem dX8_joinNow_38 : decode cX8_joinNow 38 = .ok (.aload_n 0, 1) := by decide +kernel
theorem dX8_joinNow_39 : decode cX8_joinNow 39 = .ok (.iload_n 1, 1) := by decide +kernel
theorem dX8_joinNow_40 : decode cX8_joinNow 40 = .ok (.iload_n 2, 1) := by decide +kernel
theorem dX8_joinNow_41 : decode cX8_joinNow 41 = .ok (.invokevirtual 240, 3) := by decide +kernel
theorem dX8_joinNow_44 : decode cX8_joinNow 44 = .ok (.istore_n 3, 1) := by decide +kernel
theorem dX8_joinNow_45 : decode cX8_joinNow 45 = .ok (.iload_n 3, 1) := by decide +kernel
theorem dX8_joinNow_46 : decode cX8_joinNow 46 = .ok (.iconst (-1), 1) := by decide +kernel
theorem dX8_joinNow_47 : decode cX8_joinNow 47 = .ok (.if_icmp .ne 19, 3) := by decide +kernel
theorem dX8_joinNow_50 : decode cX8_joinNow 50 = .ok (.aload_n 0, 1) := by decide +kernel
theorem dX8_joinNow_51 : decode cX8_joinNow 51 = .ok (.aload_n 0, 1) := by decide +kernel
theorem dX8_joinNow_52 : decode cX8_joinNow 52 = .ok (.iload_n 1, 1) := by decide +kernel
theorem dX8_joinNow_53 : decode cX8_joinNow 53 = .ok (.iload_n 2, 1) := by decide +kernel
theorem dX8_joinNow_54 : decode cX8_joinNow 54 = .ok (.invokevirtual 246, 3) := by decide +kernel
theorem dX8_joinNow_57 : decode cX8_joinNow 57 = .ok (.putfield 249, 3) := by decide +kernel
theorem dX8_joinNow_60 : decode cX8_joinNow 60 = .ok (.aload_n 0, 1) := by decide +kernel
theorem dX8_joinNow_61 : decode cX8_joinNow 61 = .ok (.iconst 4, 1) := by decide +kernel
theorem dX8_joinNow_62 : decode cX8_joinNow 62 = .ok (.invokevirtual 131, 3) := by decide +kernel
theorem dX8_joinNow_65 : decode cX8_joinNow 65 = .ok (.ireturn, 1) := by decide +kernel
theorem dX8_joinNow_66 : decode cX8_joinNow 66 = .ok (.iload_n 3, 1) := by decide +kernel
theorem dX8_joinNow_67 : decode cX8_joinNow 67 = .ok (.iconst 1, 1) := by decide +kernel
theorem dX8_joinNow_68 : decode cX8_joinNow 68 = .ok (.isub, 1) := by decide +kernel
theorem dX8_joinNow_69 : decode cX8_joinNow 69 = .ok (.istore 4, 2) := by decide +kernel
theorem dX8_joinNow_71 : decode cX8_joinNow 71 = .ok (.iload 4, 2) := by decide +kernel
theorem dX8_joinNow_73 : decode cX8_joinNow 73 = .ok (.ifCond .lt 106, 3) := by decide +kernel
theorem dX8_joinNow_76 : decode cX8_joinNow 76 = .ok (.aload_n 0, 1) := by decide +kernel
theorem dX8_joinNow_77 : decode cX8_joinNow 77 = .ok (.iload_n 2, 1) := by decide +kernel
theorem dX8_joinNow_78 : decode cX8_joinNow 78 = .ok (.aload_n 0, 1) := by decide +kernel
theorem dX8_joinNow_79 : decode cX8_joinNow 79 = .ok (.getfield 45, 3) := by decide +kernel
theorem dX8_joinNow_82 : decode cX8_joinNow 82 = .ok (.iload 4, 2) := by decide +kernel
theorem dX8_joinNow_84 : decode cX8_joinNow 84 = .ok (.iaload, 1) := by decide +kernel
theorem dX8_joinNow_85 : decode cX8_joinNow 85 = .ok (.aload_n 0, 1) := by decide +kernel
theorem dX8_joinNow_86 : decode cX8_joinNow 86 = .ok (.getfield 45, 3) := by decide +kernel
theorem dX8_joinNow_89 : decode cX8_joinNow 89 = .ok (.iload 4, 2) := by decide +kernel
theorem dX8_joinNow_91 : decode cX8_joinNow 91 = .ok (.iconst 1, 1) := by decide +kernel
theorem dX8_joinNow_92 : decode cX8_joinNow 92 = .ok (.iadd, 1) := by decide +kernel
theorem dX8_joinNow_93 : decode cX8_joinNow 93 = .ok (.iaload, 1) := by decide +kernel
theorem dX8_joinNow_94 : decode cX8_joinNow 94 = .ok (.invokevirtual 234, 3) := by decide +kernel
theorem dX8_joinNow_97 : decode cX8_joinNow 97 = .ok (.istore 5, 2) := by decide +kernel
theorem dX8_joinNow_99 : decode cX8_joinNow 99 = .ok (.aload_n 0, 1) := by decide +kernel
theorem dX8_joinNow_100 : decode cX8_joinNow 100 = .ok (.getfield 7, 3) := by decide +kernel
theorem dX8_joinNow_103 : decode cX8_joinNow 103 = .ok (.bipush 105, 2) := by decide +kernel
theorem dX8_joinNow_105 : decode cX8_joinNow 105 = .ok (.iconst 4, 1) := by decide +kernel
theorem dX8_joinNow_106 : decode cX8_joinNow 106 = .ok (.iload 5, 2) := by decide +kernel
theorem dX8_joinNow_108 : decode cX8_joinNow 108 = .ok (.imul, 1) := by decide +kernel
theorem dX8_joinNow_109 : decode cX8_joinNow 109 = .ok (.iadd, 1) := by decide +kernel
theorem dX8_joinNow_110 : decode cX8_joinNow 110 = .ok (.aload_n 0, 1) := by decide +kernel
theorem dX8_joinNow_111 : decode cX8_joinNow 111 = .ok (.getfield 45, 3) := by decide +kernel
theorem dX8_joinNow_114 : decode cX8_joinNow 114 = .ok (.iload 4, 2) := by decide +kernel
theorem dX8_joinNow_116 : decode cX8_joinNow 116 = .ok (.iaload, 1) := by decide +kernel
theorem dX8_joinNow_117 : decode cX8_joinNow 117 = .ok (.iadd, 1) := by decide +kernel
theorem dX8_joinNow_118 : decode cX8_joinNow 118 = .ok (.iconst (-1), 1) := by decide +kernel
theorem dX8_joinNow_119 : decode cX8_joinNow 119 = .ok (.iastore, 1) := by decide +kernel
theorem dX8_joinNow_120 : decode cX8_joinNow 120 = .ok (.aload_n 0, 1) := by decide +kernel
theorem dX8_joinNow_121 : decode cX8_joinNow 121 = .ok (.getfield 7, 3) := by decide +kernel
theorem dX8_joinNow_124 : decode cX8_joinNow 124 = .ok (.bipush 105, 2) := by decide +kernel
theorem dX8_joinNow_126 : decode cX8_joinNow 126 = .ok (.iconst 4, 1) := by decide +kernel
theorem dX8_joinNow_127 : decode cX8_joinNow 127 = .ok (.iload 5, 2) := by decide +kernel
theorem dX8_joinNow_129 : decode cX8_joinNow 129 = .ok (.imul, 1) := by decide +kernel
theorem dX8_joinNow_130 : decode cX8_joinNow 130 = .ok (.iadd, 1) := by decide +kernel
theorem dX8_joinNow_131 : decode cX8_joinNow 131 = .ok (.aload_n 0, 1) := by decide +kernel
theorem dX8_joinNow_132 : decode cX8_joinNow 132 = .ok (.getfield 45, 3) := by decide +kernel
theorem dX8_joinNow_135 : decode cX8_joinNow 135 = .ok (.iload 4, 2) := by decide +kernel
theorem dX8_joinNow_137 : decode cX8_joinNow 137 = .ok (.iconst 1, 1) := by decide +kernel
theorem dX8_joinNow_138 : decode cX8_joinNow 138 = .ok (.iadd, 1) := by decide +kernel
theorem dX8_joinNow_139 : decode cX8_joinNow 139 = .ok (.iaload, 1) := by decide +kernel
theorem dX8_joinNow_140 : decode cX8_joinNow 140 = .ok (.iadd, 1) := by decide +kernel
theorem dX8_joinNow_141 : decode cX8_joinNow 141 = .ok (.iload_n 2, 1) := by decide +kernel
theorem dX8_joinNow_142 : decode cX8_joinNow 142 = .ok (.iastore, 1) := by decide +kernel
theorem dX8_joinNow_143 : decode cX8_joinNow 143 = .ok (.aload_n 0, 1) := by decide +kernel
theorem dX8_joinNow_144 : decode cX8_joinNow 144 = .ok (.getfield 7, 3) := by decide +kernel
theorem dX8_joinNow_147 : decode cX8_joinNow 147 = .ok (.iconst 4, 1) := by decide +kernel
theorem dX8_joinNow_148 : decode cX8_joinNow 148 = .ok (.iload 4, 2) := by decide +kernel
theorem dX8_joinNow_150 : decode cX8_joinNow 150 = .ok (.iadd, 1) := by decide +kernel
theorem dX8_joinNow_151 : decode cX8_joinNow 151 = .ok (.iload 5, 2) := by decide +kernel
theorem dX8_joinNow_153 : decode cX8_joinNow 153 = .ok (.iastore, 1) := by decide +kernel
theorem dX8_joinNow_154 : decode cX8_joinNow 154 = .ok (.aload_n 0, 1) := by decide +kernel
theorem dX8_joinNow_155 : decode cX8_joinNow 155 = .ok (.getfield 7, 3) := by decide +kernel
theorem dX8_joinNow_158 : decode cX8_joinNow 158 = .ok (.bipush 7, 2) := by decide +kernel
theorem dX8_joinNow_160 : decode cX8_joinNow 160 = .ok (.iload 4, 2) := by decide +kernel
theorem dX8_joinNow_162 : decode cX8_joinNow 162 = .ok (.iadd, 1) := by decide +kernel
theorem dX8_joinNow_163 : decode cX8_joinNow 163 = .ok (.aload_n 0, 1) := by decide +kernel
theorem dX8_joinNow_164 : decode cX8_joinNow 164 = .ok (.getfield 45, 3) := by decide +kernel
theorem dX8_joinNow_167 : decode cX8_joinNow 167 = .ok (.iload 4, 2) := by decide +kernel
theorem dX8_joinNow_169 : decode cX8_joinNow 169 = .ok (.iconst 1, 1) := by decide +kernel
theorem dX8_joinNow_170 : decode cX8_joinNow 170 = .ok (.iadd, 1) := by decide +kernel
theorem dX8_joinNow_171 : decode cX8_joinNow 171 = .ok (.iaload, 1) := by decide +kernel
theorem dX8_joinNow_172 : decode cX8_joinNow 172 = .ok (.iastore, 1) := by decide +kernel
theorem dX8_joinNow_173 : decode cX8_joinNow 173 = .ok (.iinc 4 (-1), 3) := by decide +kernel
theorem dX8_joinNow_176 : decode cX8_joinNow 176 = .ok (.goto (-105), 3) := by decide +kernel
theorem dX8_joinNow_179 : decode cX8_joinNow 179 = .ok (.aload_n 0, 1) := by decide +kernel
theorem dX8_joinNow_180 : decode cX8_joinNow 180 = .ok (.getfield 7, 3) := by decide +kernel
theorem dX8_joinNow_183 : decode cX8_joinNow 183 = .ok (.bipush 105, 2) := by decide +kernel
theorem dX8_joinNow_185 : decode cX8_joinNow 185 = .ok (.iconst 4, 1) := by decide +kernel
theorem dX8_joinNow_186 : decode cX8_joinNow 186 = .ok (.iload_n 1, 1) := by decide +kernel
theorem dX8_joinNow_187 : decode cX8_joinNow 187 = .ok (.imul, 1) := by decide +kernel
theorem dX8_joinNow_188 : decode cX8_joinNow 188 = .ok (.iadd, 1) := by decide +kernel
theorem dX8_joinNow_189 : decode cX8_joinNow 189 = .ok (.aload_n 0, 1) := by decide +kernel
theorem dX8_joinNow_190 : decode cX8_joinNow 190 = .ok (.getfield 45, 3) := by decide +kernel
theorem dX8_joinNow_193 : decode cX8_joinNow 193 = .ok (.iconst 0, 1) := by decide +kernel
theorem dX8_joinNow_194 : decode cX8_joinNow 194 = .ok (.iaload, 1) := by decide +kernel
theorem dX8_joinNow_195 : decode cX8_joinNow 195 = .ok (.iadd, 1) := by decide +kernel
theorem dX8_joinNow_196 : decode cX8_joinNow 196 = .ok (.iload_n 2, 1) := by decide +kernel
theorem dX8_joinNow_197 : decode cX8_joinNow 197 = .ok (.iastore, 1) := by decide +kernel
theorem dX8_joinNow_198 : decode cX8_joinNow 198 = .ok (.aload_n 0, 1) := by decide +kernel
theorem dX8_joinNow_199 : decode cX8_joinNow 199 = .ok (.getfield 7, 3) := by decide +kernel
theorem dX8_joinNow_202 : decode cX8_joinNow 202 = .ok (.iconst 3, 1) := by decide +kernel
theorem dX8_joinNow_203 : decode cX8_joinNow 203 = .ok (.iload_n 3, 1) := by decide +kernel
theorem dX8_joinNow_204 : decode cX8_joinNow 204 = .ok (.iastore, 1) := by decide +kernel
theorem dX8_joinNow_205 : decode cX8_joinNow 205 = .ok (.iload_n 3, 1) := by decide +kernel
theorem dX8_joinNow_206 : decode cX8_joinNow 206 = .ok (.ireturn, 1) := by decide +kernel
theorem dX8_join_0 : decode cX8_join 0 = .ok (.aload_n 0, 1) := by decide +kernel
theorem dX8_join_1 : decode cX8_join 1 = .ok (.invokevirtual 134, 3) := by decide +kernel
theorem dX8_join_4 : decode cX8_join 4 = .ok (.aload_n 0, 1) := by decide +kernel
theorem dX8_join_5 : decode cX8_join 5 = .ok (.aload_n 0, 1) := by decide +kernel
theorem dX8_join_6 : decode cX8_join 6 = .ok (.iload_n 1, 1) := by decide +kernel
theorem dX8_join_7 : decode cX8_join 7 = .ok (.iload_n 2, 1) := by decide +kernel
theorem dX8_join_8 : decode cX8_join 8 = .ok (.invokevirtual 252, 3) := by decide +kernel
theorem dX8_join_11 : decode cX8_join 11 = .ok (.iconst 1, 1) := by decide +kernel
theorem dX8_join_12 : decode cX8_join 12 = .ok (.iconst 3, 1) := by decide +kernel
theorem dX8_join_13 : decode cX8_join 13 = .ok (.invokevirtual 140, 3) := by decide +kernel
theorem dX8_join_16 : decode cX8_join 16 = .ok (.ireturn, 1) := by decide +kernel
theorem dX8_quitNow_0 : decode cX8_quitNow 0 = .ok (.aload_n 0, 1) := by decide +kernel
theorem dX8_quitNow_1 : decode cX8_quitNow 1 = .ok (.iload_n 1, 1) := by decide +kernel
theorem dX8_quitNow_2 : decode cX8_quitNow 2 = .ok (.invokevirtual 177, 3) := by decide +kernel
theorem dX8_quitNow_5 : decode cX8_quitNow 5 = .ok (.ifCond .eq 11, 3) := by decide +kernel
theorem dX8_quitNow_8 : decode cX8_quitNow 8 = .ok (.aload_n 0, 1) := by decide +kernel
theorem dX8_quitNow_9 : decode cX8_quitNow 9 = .ok (.iload_n 2, 1) := by decide +kernel
theorem dX8_quitNow_10 : decode cX8_quitNow 10 = .ok (.invokevirtual 144, 3) := by decide +kernel
theorem dX8_quitNow_13 : decode cX8_quitNow 13 = .ok (.ifCond .ne 9, 3) := by decide +kernel
theorem dX8_quitNow_16 : decode cX8_quitNow 16 = .ok (.aload_n 0, 1) := by decide +kernel
theorem dX8_quitNow_17 : decode cX8_quitNow 17 = .ok (.iconst 1, 1) := by decide +kernel
theorem dX8_quitNow_18 : decode cX8_quitNow 18 = .ok (.invokevirtual 131, 3) := by decide +kernel
theorem dX8_quitNow_21 : decode cX8_quitNow 21 = .ok (.ireturn, 1) := by decide +kernel
theorem dX8_quitNow_22 : decode cX8_quitNow 22 = .ok (.aload_n 0, 1) := by decide +kernel
theorem dX8_quitNow_23 : decode cX8_quitNow 23 = .ok (.iload_n 1, 1) := by decide +kernel
theorem dX8_quitNow_24 : decode cX8_quitNow 24 = .ok (.iload_n 2, 1) := by decide +kernel
theorem dX8_quitNow_25 : decode cX8_quitNow 25 = .ok (.invokevirtual 189, 3) := by decide +kernel
theorem dX8_quitNow_28 : decode cX8_quitNow 28 = .ok (.istore_n 3, 1) := by decide +kernel
theorem dX8_quitNow_29 : decode cX8_quitNow 29 = .ok (.iload_n 3, 1) := by decide +kernel
theorem dX8_quitNow_30 : decode cX8_quitNow 30 = .ok (.iconst (-1), 1) := by decide +kernel
theorem dX8_quitNow_31 : decode cX8_quitNow 31 = .ok (.if_icmp .ne 9, 3) := by decide +kernel
theorem dX8_quitNow_34 : decode cX8_quitNow 34 = .ok (.aload_n 0, 1) := by decide +kernel
theorem dX8_quitNow_35 : decode cX8_quitNow 35 = .ok (.iconst 3, 1) := by decide +kernel
theorem dX8_quitNow_36 : decode cX8_quitNow 36 = .ok (.invokevirtual 131, 3) := by decide +kernel
theorem dX8_quitNow_39 : decode cX8_quitNow 39 = .ok (.ireturn, 1) := by decide +kernel
theorem dX8_quitNow_40 : decode cX8_quitNow 40 = .ok (.aload_n 0, 1) := by decide +kernel
theorem dX8_quitNow_41 : decode cX8_quitNow 41 = .ok (.getfield 7, 3) := by decide +kernel
theorem dX8_quitNow_44 : decode cX8_quitNow 44 = .ok (.bipush 105, 2) := by decide +kernel
theorem dX8_quitNow_46 : decode cX8_quitNow 46 = .ok (.iconst 4, 1) := by decide +kernel
theorem dX8_quitNow_47 : decode cX8_quitNow 47 = .ok (.iload_n 1, 1) := by decide +kernel
theorem dX8_quitNow_48 : decode cX8_quitNow 48 = .ok (.imul, 1) := by decide +kernel
theorem dX8_quitNow_49 : decode cX8_quitNow 49 = .ok (.iadd, 1) := by decide +kernel
theorem dX8_quitNow_50 : decode cX8_quitNow 50 = .ok (.iload_n 3, 1) := by decide +kernel
theorem dX8_quitNow_51 : decode cX8_quitNow 51 = .ok (.iadd, 1) := by decide +kernel
theorem dX8_quitNow_52 : decode cX8_quitNow 52 = .ok (.iconst (-1), 1) := by decide +kernel
theorem dX8_quitNow_53 : decode cX8_quitNow 53 = .ok (.iastore, 1) := by decide +kernel
theorem dX8_quitNow_54 : decode cX8_quitNow 54 = .ok (.iload_n 3, 1) := by decide +kernel
theorem dX8_quitNow_55 : decode cX8_quitNow 55 = .ok (.ireturn, 1) := by decide +kernel
theorem dX8_quit_0 : decode cX8_quit 0 = .ok (.aload_n 0, 1) := by decide +kernel
theorem dX8_quit_1 : decode cX8_quit 1 = .ok (.invokevirtual 134, 3) := by decide +kernel
theorem dX8_quit_4 : decode cX8_quit 4 = .ok (.aload_n 0, 1) := by decide +kernel
theorem dX8_quit_5 : decode cX8_quit 5 = .ok (.aload_n 0, 1) := by decide +kernel
theorem dX8_quit_6 : decode cX8_quit 6 = .ok (.iload_n 1, 1) := by decide +kernel
theorem dX8_quit_7 : decode cX8_quit 7 = .ok (.iload_n 2, 1) := by decide +kernel
theorem dX8_quit_8 : decode cX8_quit 8 = .ok (.invokevirtual 255, 3) := by decide +kernel
theorem dX8_quit_11 : decode cX8_quit 11 = .ok (.iconst 1, 1) := by decide +kernel
theorem dX8_quit_12 : decode cX8_quit 12 = .ok (.iconst 3, 1) := by decide +kernel
theorem dX8_quit_13 : decode cX8_quit 13 = .ok (.invokevirtual 140, 3) := by decide +kernel
theorem dX8_quit_16 : decode cX8_quit 16 = .ok (.ireturn, 1) := by decide +kernel
theorem dX8_changeNow_0 : decode cX8_changeNow 0 = .ok (.aload_n 0, 1) := by decide +kernel
theorem dX8_changeNow_1 : decode cX8_changeNow 1 = .ok (.iload_n 1, 1) := by decide +kernel
theorem dX8_changeNow_2 : decode cX8_changeNow 2 = .ok (.invokevirtual 177, 3) := by decide +kernel
theorem dX8_changeNow_5 : decode cX8_changeNow 5 = .ok (.ifCond .eq 19, 3) := by decide +kernel
theorem dX8_changeNow_8 : decode cX8_changeNow 8 = .ok (.aload_n 0, 1) := by decide +kernel
theorem dX8_changeNow_9 : decode cX8_changeNow 9 = .ok (.iload_n 2, 1) := by decide +kernel
theorem dX8_changeNow_10 : decode cX8_changeNow 10 = .ok (.invokevirtual 144, 3) := by decide +kernel
theorem dX8_changeNow_13 : decode cX8_changeNow 13 = .ok (.ifCond .eq 11, 3) := by decide +kernel
theorem dX8_changeNow_16 : decode cX8_changeNow 16 = .ok (.aload_n 0, 1) := by decide +kernel
theorem dX8_changeNow_17 : decode cX8_changeNow 17 = .ok (.iload_n 3, 1) := by decide +kernel
theorem dX8_changeNow_18 : decode cX8_changeNow 18 = .ok (.invokevirtual 144, 3) := by decide +kernel
theorem dX8_changeNow_21 : decode cX8_changeNow 21 = .ok (.ifCond .ne 9, 3) := by decide +kernel
theorem dX8_changeNow_24 : decode cX8_changeNow 24 = .ok (.aload_n 0, 1) := by decide +kernel
theorem dX8_changeNow_25 : decode cX8_changeNow 25 = .ok (.iconst 1, 1) := by decide +kernel
theorem dX8_changeNow_26 : decode cX8_changeNow 26 = .ok (.invokevirtual 131, 3) := by decide +kernel
theorem dX8_changeNow_29 : decode cX8_changeNow 29 = .ok (.ireturn, 1) := by decide +kernel
theorem dX8_changeNow_30 : decode cX8_changeNow 30 = .ok (.aload_n 0, 1) := by decide +kernel
theorem dX8_changeNow_31 : decode cX8_changeNow 31 = .ok (.iload_n 1, 1) := by decide +kernel
theorem dX8_changeNow_32 : decode cX8_changeNow 32 = .ok (.iload_n 2, 1) := by decide +kernel
theorem dX8_changeNow_33 : decode cX8_changeNow 33 = .ok (.invokevirtual 189, 3) := by decide +kernel
theorem dX8_changeNow_36 : decode cX8_changeNow 36 = .ok (.istore 4, 2) := by decide +kernel
theorem dX8_changeNow_38 : decode cX8_changeNow 38 = .ok (.iload 4, 2) := by decide +kernel
theorem dX8_changeNow_40 : decode cX8_changeNow 40 = .ok (.iconst (-1), 1) := by decide +kernel
theorem dX8_changeNow_41 : decode cX8_changeNow 41 = .ok (.if_icmp .eq 13, 3) := by decide +kernel
theorem dX8_changeNow_44 : decode cX8_changeNow 44 = .ok (.aload_n 0, 1) := by decide +kernel
theorem dX8_changeNow_45 : decode cX8_changeNow 45 = .ok (.iload_n 1, 1) := by decide +kernel
theorem dX8_changeNow_46 : decode cX8_changeNow 46 = .ok (.iload_n 3, 1) := by decide +kernel
theorem dX8_changeNow_47 : decode cX8_changeNow 47 = .ok (.invokevirtual 189, 3) := by decide +kernel
theorem dX8_changeNow_50 : decode cX8_changeNow 50 = .ok (.iconst (-1), 1) := by decide +kernel
theorem dX8_changeNow_51 : decode cX8_changeNow 51 = .ok (.if_icmp .eq 9, 3) := by decide +kernel
theorem dX8_changeNow_54 : decode cX8_changeNow 54 = .ok (.aload_n 0, 1) := by decide +kernel
theorem dX8_changeNow_55 : decode cX8_changeNow 55 = .ok (.iconst 3, 1) := by decide +kernel
theorem dX8_changeNow_56 : decode cX8_changeNow 56 = .ok (.invokevirtual 131, 3) := by decide +kernel
theorem dX8_changeNow_59 : decode cX8_changeNow 59 = .ok (.ireturn, 1) := by decide +kernel
theorem dX8_changeNow_60 : decode cX8_changeNow 60 = .ok (.aload_n 0, 1) := by decide +kernel
theorem dX8_changeNow_61 : decode cX8_changeNow 61 = .ok (.getfield 7, 3) := by decide +kernel
theorem dX8_changeNow_64 : decode cX8_changeNow 64 = .ok (.bipush 105, 2) := by decide +kernel
theorem dX8_changeNow_66 : decode cX8_changeNow 66 = .ok (.iconst 4, 1) := by decide +kernel
theorem dX8_changeNow_67 : decode cX8_changeNow 67 = .ok (.iload_n 1, 1) := by decide +kernel
theorem dX8_changeNow_68 : decode cX8_changeNow 68 = .ok (.imul, 1) := by decide +kernel
theorem dX8_changeNow_69 : decode cX8_changeNow 69 = .ok (.iadd, 1) := by decide +kernel
theorem dX8_changeNow_70 : decode cX8_changeNow 70 = .ok (.iload 4, 2) := by decide +kernel
theorem dX8_changeNow_72 : decode cX8_changeNow 72 = .ok (.iadd, 1) := by decide +kernel
theorem dX8_changeNow_73 : decode cX8_changeNow 73 = .ok (.iconst (-1), 1) := by decide +kernel
theorem dX8_changeNow_74 : decode cX8_changeNow 74 = .ok (.iastore, 1) := by decide +kernel
theorem dX8_changeNow_75 : decode cX8_changeNow 75 = .ok (.aload_n 0, 1) := by decide +kernel
theorem dX8_changeNow_76 : decode cX8_changeNow 76 = .ok (.iload_n 1, 1) := by decide +kernel
theorem dX8_changeNow_77 : decode cX8_changeNow 77 = .ok (.iload_n 3, 1) := by decide +kernel
theorem dX8_changeNow_78 : decode cX8_changeNow 78 = .ok (.invokevirtual 252, 3) := by decide +kernel
theorem dX8_changeNow_81 : decode cX8_changeNow 81 = .ok (.istore 5, 2) := by decide +kernel
theorem dX8_changeNow_83 : decode cX8_changeNow 83 = .ok (.aload_n 0, 1) := by decide +kernel
theorem dX8_changeNow_84 : decode cX8_changeNow 84 = .ok (.getfield 103, 3) := by decide +kernel
theorem dX8_changeNow_87 : decode cX8_changeNow 87 = .ok (.ifCond .eq 18, 3) := by decide +kernel
theorem dX8_changeNow_90 : decode cX8_changeNow 90 = .ok (.aload_n 0, 1) := by decide +kernel
theorem dX8_changeNow_91 : decode cX8_changeNow 91 = .ok (.getfield 7, 3) := by decide +kernel
theorem dX8_changeNow_94 : decode cX8_changeNow 94 = .ok (.bipush 105, 2) := by decide +kernel
theorem dX8_changeNow_96 : decode cX8_changeNow 96 = .ok (.iconst 4, 1) := by decide +kernel
theorem dX8_changeNow_97 : decode cX8_changeNow 97 = .ok (.iload_n 1, 1) := by decide +kernel
theorem dX8_changeNow_98 : decode cX8_changeNow 98 = .ok (.imul, 1) := by decide +kernel
theorem dX8_changeNow_99 : decode cX8_changeNow 99 = .ok (.iadd, 1) := by decide +kernel
theorem dX8_changeNow_100 : decode cX8_changeNow 100 = .ok (.iload 4, 2) := by decide +kernel
theorem dX8_changeNow_102 : decode cX8_changeNow 102 = .ok (.iadd, 1) := by decide +kernel
theorem dX8_changeNow_103 : decode cX8_changeNow 103 = .ok (.iload_n 2, 1) := by decide +kernel
theorem dX8_changeNow_104 : decode cX8_changeNow 104 = .ok (.iastore, 1) := by decide +kernel
theorem dX8_changeNow_105 : decode cX8_changeNow 105 = .ok (.iload 5, 2) := by decide +kernel
theorem dX8_changeNow_107 : decode cX8_changeNow 107 = .ok (.ireturn, 1) := by decide +kernel
theorem dX8_change_0 : decode cX8_change 0 = .ok (.aload_n 0, 1) := by decide +kernel
theorem dX8_change_1 : decode cX8_change 1 = .ok (.invokevirtual 134, 3) := by decide +kernel
theorem dX8_change_4 : decode cX8_change 4 = .ok (.aload_n 0, 1) := by decide +kernel
theorem dX8_change_5 : decode cX8_change 5 = .ok (.aload_n 0, 1) := by decide +kernel
theorem dX8_change_6 : decode cX8_change 6 = .ok (.iload_n 1, 1) := by decide +kernel
theorem dX8_change_7 : decode cX8_change 7 = .ok (.iload_n 2, 1) := by decide +kernel
theorem dX8_change_8 : decode cX8_change 8 = .ok (.iload_n 3, 1) := by decide +kernel
theorem dX8_change_9 : decode cX8_change 9 = .ok (.invokevirtual 258, 3) := by decide +kernel
theorem dX8_change_12 : decode cX8_change 12 = .ok (.iconst 1, 1) := by decide +kernel
theorem dX8_change_13 : decode cX8_change 13 = .ok (.iconst 3, 1) := by decide +kernel
theorem dX8_change_14 : decode cX8_change 14 = .ok (.invokevirtual 140, 3) := by decide +kernel
theorem dX8_change_17 : decode cX8_change 17 = .ok (.ireturn, 1) := by decide +kernel
theorem dX8_refusalReason_0 : decode cX8_refusalReason 0 = .ok (.aload_n 0, 1) := by decide +kernel
theorem dX8_refusalReason_1 : decode cX8_refusalReason 1 = .ok (.getfield 249, 3) := by decide +kernel
theorem dX8_refusalReason_4 : decode cX8_refusalReason 4 = .ok (.ifCond .ne 11, 3) := by decide +kernel
theorem dX8_refusalReason_7 : decode cX8_refusalReason 7 = .ok (.aload_n 0, 1) := by decide +kernel
theorem dX8_refusalReason_8 : decode cX8_refusalReason 8 = .ok (.iconst 1, 1) := by decide +kernel
theorem dX8_refusalReason_9 : decode cX8_refusalReason 9 = .ok (.invokevirtual 106, 3) := by decide +kernel
theorem dX8_refusalReason_12 : decode cX8_refusalReason 12 = .ok (.goto 11, 3) := by decide +kernel
theorem dX8_refusalReason_15 : decode cX8_refusalReason 15 = .ok (.aload_n 0, 1) := by decide +kernel
theorem dX8_refusalReason_16 : decode cX8_refusalReason 16 = .ok (.aload_n 0, 1) := by decide +kernel
theorem dX8_refusalReason_17 : decode cX8_refusalReason 17 = .ok (.getfield 249, 3) := by decide +kernel
theorem dX8_refusalReason_20 : decode cX8_refusalReason 20 = .ok (.invokevirtual 113, 3) := by decide +kernel
theorem dX8_refusalReason_23 : decode cX8_refusalReason 23 = .ok (.ireturn, 1) := by decide +kernel
theorem dX8_chainMoves_0 : decode cX8_chainMoves 0 = .ok (.aload_n 0, 1) := by decide +kernel
theorem dX8_chainMoves_1 : decode cX8_chainMoves 1 = .ok (.getfield 7, 3) := by decide +kernel
theorem dX8_chainMoves_4 : decode cX8_chainMoves 4 = .ok (.iconst 3, 1) := by decide +kernel
theorem dX8_chainMoves_5 : decode cX8_chainMoves 5 = .ok (.iaload, 1) := by decide +kernel
theorem dX8_chainMoves_6 : decode cX8_chainMoves 6 = .ok (.iconst (-1), 1) := by decide +kernel
theorem dX8_chainMoves_7 : decode cX8_chainMoves 7 = .ok (.if_icmp .ne 11, 3) := by decide +kernel
theorem dX8_chainMoves_10 : decode cX8_chainMoves 10 = .ok (.aload_n 0, 1) := by decide +kernel
theorem dX8_chainMoves_11 : decode cX8_chainMoves 11 = .ok (.iconst 1, 1) := by decide +kernel
theorem dX8_chainMoves_12 : decode cX8_chainMoves 12 = .ok (.invokevirtual 106, 3) := by decide +kernel
theorem dX8_chainMoves_15 : decode cX8_chainMoves 15 = .ok (.goto 13, 3) := by decide +kernel
theorem dX8_chainMoves_18 : decode cX8_chainMoves 18 = .ok (.aload_n 0, 1) := by decide +kernel
theorem dX8_chainMoves_19 : decode cX8_chainMoves 19 = .ok (.aload_n 0, 1) := by decide +kernel
theorem dX8_chainMoves_20 : decode cX8_chainMoves 20 = .ok (.getfield 7, 3) := by decide +kernel
theorem dX8_chainMoves_23 : decode cX8_chainMoves 23 = .ok (.iconst 3, 1) := by decide +kernel
theorem dX8_chainMoves_24 : decode cX8_chainMoves 24 = .ok (.iaload, 1) := by decide +kernel
theorem dX8_chainMoves_25 : decode cX8_chainMoves 25 = .ok (.invokevirtual 113, 3) := by decide +kernel
theorem dX8_chainMoves_28 : decode cX8_chainMoves 28 = .ok (.ireturn, 1) := by decide +kernel
theorem dX8_chainPupil_0 : decode cX8_chainPupil 0 = .ok (.iload_n 1, 1) := by decide +kernel
theorem dX8_chainPupil_1 : decode cX8_chainPupil 1 = .ok (.iconst 0, 1) := by decide +kernel
theorem dX8_chainPupil_2 : decode cX8_chainPupil 2 = .ok (.aload_n 0, 1) := by decide +kernel
theorem dX8_chainPupil_3 : decode cX8_chainPupil 3 = .ok (.getfield 7, 3) := by decide +kernel
theorem dX8_chainPupil_6 : decode cX8_chainPupil 6 = .ok (.iconst 3, 1) := by decide +kernel
theorem dX8_chainPupil_7 : decode cX8_chainPupil 7 = .ok (.iaload, 1) := by decide +kernel
theorem dX8_chainPupil_8 : decode cX8_chainPupil 8 = .ok (.iconst 1, 1) := by decide +kernel
theorem dX8_chainPupil_9 : decode cX8_chainPupil 9 = .ok (.isub, 1) := by decide +kernel
theorem dX8_chainPupil_10 : decode cX8_chainPupil 10 = .ok (.invokestatic 120, 3) := by decide +kernel
theorem dX8_chainPupil_13 : decode cX8_chainPupil 13 = .ok (.ifCond .eq 18, 3) := by decide +kernel
theorem dX8_chainPupil_16 : decode cX8_chainPupil 16 = .ok (.aload_n 0, 1) := by decide +kernel
theorem dX8_chainPupil_17 : decode cX8_chainPupil 17 = .ok (.aload_n 0, 1) := by decide +kernel
theorem dX8_chainPupil_18 : decode cX8_chainPupil 18 = .ok (.getfield 7, 3) := by decide +kernel
theorem dX8_chainPupil_21 : decode cX8_chainPupil 21 = .ok (.iconst 4, 1) := by decide +kernel
theorem dX8_chainPupil_22 : decode cX8_chainPupil 22 = .ok (.iload_n 1, 1) := by decide +kernel
theorem dX8_chainPupil_23 : decode cX8_chainPupil 23 = .ok (.iadd, 1) := by decide +kernel
theorem dX8_chainPupil_24 : decode cX8_chainPupil 24 = .ok (.iaload, 1) := by decide +kernel
theorem dX8_chainPupil_25 : decode cX8_chainPupil 25 = .ok (.invokevirtual 113, 3) := by decide +kernel
theorem dX8_chainPupil_28 : decode cX8_chainPupil 28 = .ok (.goto 8, 3) := by decide +kernel
theorem dX8_chainPupil_31 : decode cX8_chainPupil 31 = .ok (.aload_n 0, 1) := by decide +kernel
theorem dX8_chainPupil_32 : decode cX8_chainPupil 32 = .ok (.iconst 1, 1) := by decide +kernel
theorem dX8_chainPupil_33 : decode cX8_chainPupil 33 = .ok (.invokevirtual 106, 3) := by decide +kernel
theorem dX8_chainPupil_36 : decode cX8_chainPupil 36 = .ok (.ireturn, 1) := by decide +kernel
theorem dX8_chainBlock_0 : decode cX8_chainBlock 0 = .ok (.iload_n 1, 1) := by decide +kernel
theorem dX8_chainBlock_1 : decode cX8_chainBlock 1 = .ok (.iconst 0, 1) := by decide +kernel
theorem dX8_chainBlock_2 : decode cX8_chainBlock 2 = .ok (.aload_n 0, 1) := by decide +kernel
theorem dX8_chainBlock_3 : decode cX8_chainBlock 3 = .ok (.getfield 7, 3) := by decide +kernel
theorem dX8_chainBlock_6 : decode cX8_chainBlock 6 = .ok (.iconst 3, 1) := by decide +kernel
theorem dX8_chainBlock_7 : decode cX8_chainBlock 7 = .ok (.iaload, 1) := by decide +kernel
theorem dX8_chainBlock_8 : decode cX8_chainBlock 8 = .ok (.iconst 1, 1) := by decide +kernel
theorem dX8_chainBlock_9 : decode cX8_chainBlock 9 = .ok (.isub, 1) := by decide +kernel
theorem dX8_chainBlock_10 : decode cX8_chainBlock 10 = .ok (.invokestatic 120, 3) := by decide +kernel
theorem dX8_chainBlock_13 : decode cX8_chainBlock 13 = .ok (.ifCond .eq 19, 3) := by decide +kernel
theorem dX8_chainBlock_16 : decode cX8_chainBlock 16 = .ok (.aload_n 0, 1) := by decide +kernel
theorem dX8_chainBlock_17 : decode cX8_chainBlock 17 = .ok (.aload_n 0, 1) := by decide +kernel
theorem dX8_chainBlock_18 : decode cX8_chainBlock 18 = .ok (.getfield 7, 3) := by decide +kernel
theorem dX8_chainBlock_21 : decode cX8_chainBlock 21 = .ok (.bipush 7, 2) := by decide +kernel
theorem dX8_chainBlock_23 : decode cX8_chainBlock 23 = .ok (.iload_n 1, 1) := by decide +kernel
theorem dX8_chainBlock_24 : decode cX8_chainBlock 24 = .ok (.iadd, 1) := by decide +kernel
theorem dX8_chainBlock_25 : decode cX8_chainBlock 25 = .ok (.iaload, 1) := by decide +kernel
theorem dX8_chainBlock_26 : decode cX8_chainBlock 26 = .ok (.invokevirtual 113, 3) := by decide +kernel
theorem dX8_chainBlock_29 : decode cX8_chainBlock 29 = .ok (.goto 8, 3) := by decide +kernel
theorem dX8_chainBlock_32 : decode cX8_chainBlock 32 = .ok (.aload_n 0, 1) := by decide +kernel
theorem dX8_chainBlock_33 : decode cX8_chainBlock 33 = .ok (.iconst 1, 1) := by decide +kernel
theorem dX8_chainBlock_34 : decode cX8_chainBlock 34 = .ok (.invokevirtual 106, 3) := by decide +kernel
theorem dX8_chainBlock_37 : decode cX8_chainBlock 37 = .ok (.ireturn, 1) := by decide +kernel
theorem dX8_common_0 : decode cX8_common 0 = .ok (.iconst 0, 1) := by decide +kernel
theorem dX8_common_1 : decode cX8_common 1 = .ok (.istore_n 3, 1) := by decide +kernel
theorem dX8_common_2 : decode cX8_common 2 = .ok (.iconst 0, 1) := by decide +kernel
theorem dX8_common_3 : decode cX8_common 3 = .ok (.istore 4, 2) := by decide +kernel
theorem dX8_common_5 : decode cX8_common 5 = .ok (.iload 4, 2) := by decide +kernel
theorem dX8_common_7 : decode cX8_common 7 = .ok (.aload_n 0, 1) := by decide +kernel
theorem dX8_common_8 : decode cX8_common 8 = .ok (.getfield 7, 3) := by decide +kernel
theorem dX8_common_11 : decode cX8_common 11 = .ok (.iconst 2, 1) := by decide +kernel
theorem dX8_common_12 : decode cX8_common 12 = .ok (.iaload, 1) := by decide +kernel
theorem dX8_common_13 : decode cX8_common 13 = .ok (.if_icmp .ge 37, 3) := by decide +kernel
theorem dX8_common_16 : decode cX8_common 16 = .ok (.iload_n 3, 1) := by decide +kernel
theorem dX8_common_17 : decode cX8_common 17 = .ok (.aload_n 0, 1) := by decide +kernel
theorem dX8_common_18 : decode cX8_common 18 = .ok (.iload 4, 2) := by decide +kernel
theorem dX8_common_20 : decode cX8_common 20 = .ok (.iload_n 1, 1) := by decide +kernel
theorem dX8_common_21 : decode cX8_common 21 = .ok (.invokevirtual 180, 3) := by decide +kernel
theorem dX8_common_24 : decode cX8_common 24 = .ok (.ifCond .eq 17, 3) := by decide +kernel
theorem dX8_common_27 : decode cX8_common 27 = .ok (.aload_n 0, 1) := by decide +kernel
theorem dX8_common_28 : decode cX8_common 28 = .ok (.iload 4, 2) := by decide +kernel
theorem dX8_common_30 : decode cX8_common 30 = .ok (.iload_n 2, 1) := by decide +kernel
theorem dX8_common_31 : decode cX8_common 31 = .ok (.invokevirtual 180, 3) := by decide +kernel
theorem dX8_common_34 : decode cX8_common 34 = .ok (.ifCond .eq 7, 3) := by decide +kernel
theorem dX8_common_37 : decode cX8_common 37 = .ok (.iconst 1, 1) := by decide +kernel
theorem dX8_common_38 : decode cX8_common 38 = .ok (.goto 4, 3) := by decide +kernel
theorem dX8_common_41 : decode cX8_common 41 = .ok (.iconst 0, 1) := by decide +kernel
theorem dX8_common_42 : decode cX8_common 42 = .ok (.iadd, 1) := by decide +kernel
theorem dX8_common_43 : decode cX8_common 43 = .ok (.istore_n 3, 1) := by decide +kernel
theorem dX8_common_44 : decode cX8_common 44 = .ok (.iinc 4 1, 3) := by decide +kernel
theorem dX8_common_47 : decode cX8_common 47 = .ok (.goto (-42), 3) := by decide +kernel
theorem dX8_common_50 : decode cX8_common 50 = .ok (.iload_n 3, 1) := by decide +kernel
theorem dX8_common_51 : decode cX8_common 51 = .ok (.ireturn, 1) := by decide +kernel
theorem dX8_wrongPair_0 : decode cX8_wrongPair 0 = .ok (.aload_n 0, 1) := by decide +kernel
theorem dX8_wrongPair_1 : decode cX8_wrongPair 1 = .ok (.iload_n 1, 1) := by decide +kernel
theorem dX8_wrongPair_2 : decode cX8_wrongPair 2 = .ok (.invokevirtual 144, 3) := by decide +kernel
theorem dX8_wrongPair_5 : decode cX8_wrongPair 5 = .ok (.ifCond .eq 11, 3) := by decide +kernel
theorem dX8_wrongPair_8 : decode cX8_wrongPair 8 = .ok (.aload_n 0, 1) := by decide +kernel
theorem dX8_wrongPair_9 : decode cX8_wrongPair 9 = .ok (.iload_n 2, 1) := by decide +kernel
theorem dX8_wrongPair_10 : decode cX8_wrongPair 10 = .ok (.invokevirtual 144, 3) := by decide +kernel
theorem dX8_wrongPair_13 : decode cX8_wrongPair 13 = .ok (.ifCond .ne 7, 3) := by decide +kernel
theorem dX8_wrongPair_16 : decode cX8_wrongPair 16 = .ok (.iconst 1, 1) := by decide +kernel
theorem dX8_wrongPair_17 : decode cX8_wrongPair 17 = .ok (.goto 13, 3) := by decide +kernel
theorem dX8_wrongPair_20 : decode cX8_wrongPair 20 = .ok (.iload_n 1, 1) := by decide +kernel
theorem dX8_wrongPair_21 : decode cX8_wrongPair 21 = .ok (.iload_n 2, 1) := by decide +kernel
theorem dX8_wrongPair_22 : decode cX8_wrongPair 22 = .ok (.if_icmp .ne 7, 3) := by decide +kernel
theorem dX8_wrongPair_25 : decode cX8_wrongPair 25 = .ok (.iconst 2, 1) := by decide +kernel
theorem dX8_wrongPair_26 : decode cX8_wrongPair 26 = .ok (.goto 4, 3) := by decide +kernel
theorem dX8_wrongPair_29 : decode cX8_wrongPair 29 = .ok (.iconst 0, 1) := by decide +kernel
theorem dX8_wrongPair_30 : decode cX8_wrongPair 30 = .ok (.ireturn, 1) := by decide +kernel
theorem dX8_commonWishes_0 : decode cX8_commonWishes 0 = .ok (.aload_n 0, 1) := by decide +kernel
theorem dX8_commonWishes_1 : decode cX8_commonWishes 1 = .ok (.aload_n 0, 1) := by decide +kernel
theorem dX8_commonWishes_2 : decode cX8_commonWishes 2 = .ok (.iload_n 1, 1) := by decide +kernel
theorem dX8_commonWishes_3 : decode cX8_commonWishes 3 = .ok (.iload_n 2, 1) := by decide +kernel
theorem dX8_commonWishes_4 : decode cX8_commonWishes 4 = .ok (.invokevirtual 261, 3) := by decide +kernel
theorem dX8_commonWishes_7 : decode cX8_commonWishes 7 = .ok (.putfield 96, 3) := by decide +kernel
theorem dX8_commonWishes_10 : decode cX8_commonWishes 10 = .ok (.aload_n 0, 1) := by decide +kernel
theorem dX8_commonWishes_11 : decode cX8_commonWishes 11 = .ok (.getfield 96, 3) := by decide +kernel
theorem dX8_commonWishes_14 : decode cX8_commonWishes 14 = .ok (.ifCond .ne 12, 3) := by decide +kernel
theorem dX8_commonWishes_17 : decode cX8_commonWishes 17 = .ok (.aload_n 0, 1) := by decide +kernel
theorem dX8_commonWishes_18 : decode cX8_commonWishes 18 = .ok (.iload_n 1, 1) := by decide +kernel
theorem dX8_commonWishes_19 : decode cX8_commonWishes 19 = .ok (.iload_n 2, 1) := by decide +kernel
theorem dX8_commonWishes_20 : decode cX8_commonWishes 20 = .ok (.invokevirtual 264, 3) := by decide +kernel
theorem dX8_commonWishes_23 : decode cX8_commonWishes 23 = .ok (.goto 4, 3) := by decide +kernel
theorem dX8_commonWishes_26 : decode cX8_commonWishes 26 = .ok (.iconst 0, 1) := by decide +kernel
theorem dX8_commonWishes_27 : decode cX8_commonWishes 27 = .ok (.ireturn, 1) := by decide +kernel
theorem dX8_clash_0 : decode cX8_clash 0 = .ok (.iconst 0, 1) := by decide +kernel
theorem dX8_clash_1 : decode cX8_clash 1 = .ok (.istore_n 3, 1) := by decide +kernel
theorem dX8_clash_2 : decode cX8_clash 2 = .ok (.iload_n 3, 1) := by decide +kernel
theorem dX8_clash_3 : decode cX8_clash 3 = .ok (.iconst 4, 1) := by decide +kernel
theorem dX8_clash_4 : decode cX8_clash 4 = .ok (.if_icmp .ge 51, 3) := by decide +kernel
theorem dX8_clash_7 : decode cX8_clash 7 = .ok (.iconst 0, 1) := by decide +kernel
theorem dX8_clash_8 : decode cX8_clash 8 = .ok (.istore 4, 2) := by decide +kernel
theorem dX8_clash_10 : decode cX8_clash 10 = .ok (.iload 4, 2) := by decide +kernel
theorem dX8_clash_12 : decode cX8_clash 12 = .ok (.iconst 4, 1) := by decide +kernel
theorem dX8_clash_13 : decode cX8_clash 13 = .ok (.if_icmp .ge 36, 3) := by decide +kernel
theorem dX8_clash_16 : decode cX8_clash 16 = .ok (.iload_n 3, 1) := by decide +kernel
theorem dX8_clash_17 : decode cX8_clash 17 = .ok (.iload 4, 2) := by decide +kernel
theorem dX8_clash_19 : decode cX8_clash 19 = .ok (.if_icmp .eq 24, 3) := by decide +kernel
theorem dX8_clash_22 : decode cX8_clash 22 = .ok (.aload_n 0, 1) := by decide +kernel
theorem dX8_clash_23 : decode cX8_clash 23 = .ok (.iload_n 1, 1) := by decide +kernel
theorem dX8_clash_24 : decode cX8_clash 24 = .ok (.iload_n 3, 1) := by decide +kernel
theorem dX8_clash_25 : decode cX8_clash 25 = .ok (.invokevirtual 154, 3) := by decide +kernel
theorem dX8_clash_28 : decode cX8_clash 28 = .ok (.ifCond .eq 15, 3) := by decide +kernel
theorem dX8_clash_31 : decode cX8_clash 31 = .ok (.aload_n 0, 1) := by decide +kernel
theorem dX8_clash_32 : decode cX8_clash 32 = .ok (.iload_n 2, 1) := by decide +kernel
theorem dX8_clash_33 : decode cX8_clash 33 = .ok (.iload 4, 2) := by decide +kernel
theorem dX8_clash_35 : decode cX8_clash 35 = .ok (.invokevirtual 154, 3) := by decide +kernel
theorem dX8_clash_38 : decode cX8_clash 38 = .ok (.ifCond .eq 5, 3) := by decide +kernel
theorem dX8_clash_41 : decode cX8_clash 41 = .ok (.iconst 0, 1) := by decide +kernel
theorem dX8_clash_42 : decode cX8_clash 42 = .ok (.ireturn, 1) := by decide +kernel
theorem dX8_clash_43 : decode cX8_clash 43 = .ok (.iinc 4 1, 3) := by decide +kernel
theorem dX8_clash_46 : decode cX8_clash 46 = .ok (.goto (-36), 3) := by decide +kernel
theorem dX8_clash_49 : decode cX8_clash 49 = .ok (.iinc 3 1, 3) := by decide +kernel
theorem dX8_clash_52 : decode cX8_clash 52 = .ok (.goto (-50), 3) := by decide +kernel
theorem dX8_clash_55 : decode cX8_clash 55 = .ok (.iconst 1, 1) := by decide +kernel
theorem dX8_clash_56 : decode cX8_clash 56 = .ok (.ireturn, 1) := by decide +kernel
theorem dX8_doClash_0 : decode cX8_doClash 0 = .ok (.aload_n 0, 1) := by decide +kernel
theorem dX8_doClash_1 : decode cX8_doClash 1 = .ok (.aload_n 0, 1) := by decide +kernel
theorem dX8_doClash_2 : decode cX8_doClash 2 = .ok (.iload_n 1, 1) := by decide +kernel
theorem dX8_doClash_3 : decode cX8_doClash 3 = .ok (.iload_n 2, 1) := by decide +kernel
theorem dX8_doClash_4 : decode cX8_doClash 4 = .ok (.invokevirtual 261, 3) := by decide +kernel
theorem dX8_doClash_7 : decode cX8_doClash 7 = .ok (.putfield 96, 3) := by decide +kernel
theorem dX8_doClash_10 : decode cX8_doClash 10 = .ok (.aload_n 0, 1) := by decide +kernel
theorem dX8_doClash_11 : decode cX8_doClash 11 = .ok (.getfield 96, 3) := by decide +kernel
theorem dX8_doClash_14 : decode cX8_doClash 14 = .ok (.ifCond .ne 16, 3) := by decide +kernel
theorem dX8_doClash_17 : decode cX8_doClash 17 = .ok (.aload_n 0, 1) := by decide +kernel
theorem dX8_doClash_18 : decode cX8_doClash 18 = .ok (.iload_n 1, 1) := by decide +kernel
theorem dX8_doClash_19 : decode cX8_doClash 19 = .ok (.iload_n 2, 1) := by decide +kernel
theorem dX8_doClash_20 : decode cX8_doClash 20 = .ok (.invokevirtual 267, 3) := by decide +kernel
theorem dX8_doClash_23 : decode cX8_doClash 23 = .ok (.ifCond .eq 7, 3) := by decide +kernel
theorem dX8_doClash_26 : decode cX8_doClash 26 = .ok (.iconst 1, 1) := by decide +kernel
theorem dX8_doClash_27 : decode cX8_doClash 27 = .ok (.goto 4, 3) := by decide +kernel
theorem dX8_doClash_30 : decode cX8_doClash 30 = .ok (.iconst 0, 1) := by decide +kernel
theorem dX8_doClash_31 : decode cX8_doClash 31 = .ok (.ireturn, 1) := by decide +kernel
theorem dX8_clashCount_0 : decode cX8_clashCount 0 = .ok (.iconst 0, 1) := by decide +kernel
theorem dX8_clashCount_1 : decode cX8_clashCount 1 = .ok (.istore_n 1, 1) := by decide +kernel
theorem dX8_clashCount_2 : decode cX8_clashCount 2 = .ok (.iconst 0, 1) := by decide +kernel
theorem dX8_clashCount_3 : decode cX8_clashCount 3 = .ok (.istore_n 2, 1) := by decide +kernel
theorem dX8_clashCount_4 : decode cX8_clashCount 4 = .ok (.iload_n 2, 1) := by decide +kernel
theorem dX8_clashCount_5 : decode cX8_clashCount 5 = .ok (.aload_n 0, 1) := by decide +kernel
theorem dX8_clashCount_6 : decode cX8_clashCount 6 = .ok (.getfield 7, 3) := by decide +kernel
theorem dX8_clashCount_9 : decode cX8_clashCount 9 = .ok (.iconst 2, 1) := by decide +kernel
theorem dX8_clashCount_10 : decode cX8_clashCount 10 = .ok (.iaload, 1) := by decide +kernel
theorem dX8_clashCount_11 : decode cX8_clashCount 11 = .ok (.if_icmp .ge 73, 3) := by decide +kernel
theorem dX8_clashCount_14 : decode cX8_clashCount 14 = .ok (.iconst 0, 1) := by decide +kernel
theorem dX8_clashCount_15 : decode cX8_clashCount 15 = .ok (.istore_n 3, 1) := by decide +kernel
theorem dX8_clashCount_16 : decode cX8_clashCount 16 = .ok (.iload_n 3, 1) := by decide +kernel
theorem dX8_clashCount_17 : decode cX8_clashCount 17 = .ok (.aload_n 0, 1) := by decide +kernel
theorem dX8_clashCount_18 : decode cX8_clashCount 18 = .ok (.getfield 7, 3) := by decide +kernel
theorem dX8_clashCount_21 : decode cX8_clashCount 21 = .ok (.bipush 45, 2) := by decide +kernel
theorem dX8_clashCount_23 : decode cX8_clashCount 23 = .ok (.iload_n 2, 1) := by decide +kernel
theorem dX8_clashCount_24 : decode cX8_clashCount 24 = .ok (.iadd, 1) := by decide +kernel
theorem dX8_clashCount_25 : decode cX8_clashCount 25 = .ok (.iaload, 1) := by decide +kernel
theorem dX8_clashCount_26 : decode cX8_clashCount 26 = .ok (.if_icmp .ge 52, 3) := by decide +kernel
theorem dX8_clashCount_29 : decode cX8_clashCount 29 = .ok (.iconst 0, 1) := by decide +kernel
theorem dX8_clashCount_30 : decode cX8_clashCount 30 = .ok (.istore 4, 2) := by decide +kernel
theorem dX8_clashCount_32 : decode cX8_clashCount 32 = .ok (.iload 4, 2) := by decide +kernel
theorem dX8_clashCount_34 : decode cX8_clashCount 34 = .ok (.iload_n 3, 1) := by decide +kernel
theorem dX8_clashCount_35 : decode cX8_clashCount 35 = .ok (.if_icmp .ge 37, 3) := by decide +kernel
theorem dX8_clashCount_38 : decode cX8_clashCount 38 = .ok (.iload_n 1, 1) := by decide +kernel
theorem dX8_clashCount_39 : decode cX8_clashCount 39 = .ok (.aload_n 0, 1) := by decide +kernel
theorem dX8_clashCount_40 : decode cX8_clashCount 40 = .ok (.aload_n 0, 1) := by decide +kernel
theorem dX8_clashCount_41 : decode cX8_clashCount 41 = .ok (.iload_n 2, 1) := by decide +kernel
theorem dX8_clashCount_42 : decode cX8_clashCount 42 = .ok (.iload 4, 2) := by decide +kernel
theorem dX8_clashCount_44 : decode cX8_clashCount 44 = .ok (.invokevirtual 128, 3) := by decide +kernel
theorem dX8_clashCount_47 : decode cX8_clashCount 47 = .ok (.aload_n 0, 1) := by decide +kernel
theorem dX8_clashCount_48 : decode cX8_clashCount 48 = .ok (.iload_n 2, 1) := by decide +kernel
theorem dX8_clashCount_49 : decode cX8_clashCount 49 = .ok (.iload_n 3, 1) := by decide +kernel
theorem dX8_clashCount_50 : decode cX8_clashCount 50 = .ok (.invokevirtual 128, 3) := by decide +kernel
theorem dX8_clashCount_53 : decode cX8_clashCount 53 = .ok (.invokevirtual 267, 3) := by decide +kernel
theorem dX8_clashCount_56 : decode cX8_clashCount 56 = .ok (.ifCond .eq 7, 3) := by decide +kernel
theorem dX8_clashCount_59 : decode cX8_clashCount 59 = .ok (.iconst 1, 1) := by decide +kernel
theorem dX8_clashCount_60 : decode cX8_clashCount 60 = .ok (.goto 4, 3) := by decide +kernel
theorem dX8_clashCount_63 : decode cX8_clashCount 63 = .ok (.iconst 0, 1) := by decide +kernel
theorem dX8_clashCount_64 : decode cX8_clashCount 64 = .ok (.iadd, 1) := by decide +kernel
theorem dX8_clashCount_65 : decode cX8_clashCount 65 = .ok (.istore_n 1, 1) := by decide +kernel
theorem dX8_clashCount_66 : decode cX8_clashCount 66 = .ok (.iinc 4 1, 3) := by decide +kernel
theorem dX8_clashCount_69 : decode cX8_clashCount 69 = .ok (.goto (-37), 3) := by decide +kernel
theorem dX8_clashCount_72 : decode cX8_clashCount 72 = .ok (.iinc 3 1, 3) := by decide +kernel
theorem dX8_clashCount_75 : decode cX8_clashCount 75 = .ok (.goto (-59), 3) := by decide +kernel
theorem dX8_clashCount_78 : decode cX8_clashCount 78 = .ok (.iinc 2 1, 3) := by decide +kernel
theorem dX8_clashCount_81 : decode cX8_clashCount 81 = .ok (.goto (-77), 3) := by decide +kernel
theorem dX8_clashCount_84 : decode cX8_clashCount 84 = .ok (.aload_n 0, 1) := by decide +kernel
theorem dX8_clashCount_85 : decode cX8_clashCount 85 = .ok (.iload_n 1, 1) := by decide +kernel
theorem dX8_clashCount_86 : decode cX8_clashCount 86 = .ok (.invokevirtual 113, 3) := by decide +kernel
theorem dX8_clashCount_89 : decode cX8_clashCount 89 = .ok (.ireturn, 1) := by decide +kernel
theorem dX8_findsArrangement_0 : decode cX8_findsArrangement 0 = .ok (.aload_n 0, 1) := by decide +kernel
theorem dX8_findsArrangement_1 : decode cX8_findsArrangement 1 = .ok (.getfield 7, 3) := by decide +kernel
theorem dX8_findsArrangement_4 : decode cX8_findsArrangement 4 = .ok (.iconst 0, 1) := by decide +kernel
theorem dX8_findsArrangement_5 : decode cX8_findsArrangement 5 = .ok (.iaload, 1) := by decide +kernel
theorem dX8_findsArrangement_6 : decode cX8_findsArrangement 6 = .ok (.istore_n 1, 1) := by decide +kernel
theorem dX8_findsArrangement_7 : decode cX8_findsArrangement 7 = .ok (.iconst 0, 1) := by decide +kernel
theorem dX8_findsArrangement_8 : decode cX8_findsArrangement 8 = .ok (.istore_n 2, 1) := by decide +kernel
theorem dX8_findsArrangement_9 : decode cX8_findsArrangement 9 = .ok (.iload_n 2, 1) := by decide +kernel
theorem dX8_findsArrangement_10 : decode cX8_findsArrangement 10 = .ok (.iload_n 1, 1) := by decide +kernel
theorem dX8_findsArrangement_11 : decode cX8_findsArrangement 11 = .ok (.if_icmp .ge 39, 3) := by decide +kernel
theorem dX8_findsArrangement_14 : decode cX8_findsArrangement 14 = .ok (.iconst 0, 1) := by decide +kernel
theorem dX8_findsArrangement_15 : decode cX8_findsArrangement 15 = .ok (.istore_n 3, 1) := by decide +kernel
theorem dX8_findsArrangement_16 : decode cX8_findsArrangement 16 = .ok (.iload_n 3, 1) := by decide +kernel
theorem dX8_findsArrangement_17 : decode cX8_findsArrangement 17 = .ok (.iload_n 2, 1) := by decide +kernel
theorem dX8_findsArrangement_18 : decode cX8_findsArrangement 18 = .ok (.if_icmp .ge 26, 3) := by decide +kernel
theorem dX8_findsArrangement_21 : decode cX8_findsArrangement 21 = .ok (.aload_n 0, 1) := by decide +kernel
theorem dX8_findsArrangement_22 : decode cX8_findsArrangement 22 = .ok (.getfield 48, 3) := by decide +kernel
theorem dX8_findsArrangement_25 : decode cX8_findsArrangement 25 = .ok (.bipush 7, 2) := by decide +kernel
theorem dX8_findsArrangement_27 : decode cX8_findsArrangement 27 = .ok (.iload_n 2, 1) := by decide +kernel
theorem dX8_findsArrangement_28 : decode cX8_findsArrangement 28 = .ok (.imul, 1) := by decide +kernel
theorem dX8_findsArrangement_29 : decode cX8_findsArrangement 29 = .ok (.iload_n 3, 1) := by decide +kernel
theorem dX8_findsArrangement_30 : decode cX8_findsArrangement 30 = .ok (.iadd, 1) := by decide +kernel
theorem dX8_findsArrangement_31 : decode cX8_findsArrangement 31 = .ok (.aload_n 0, 1) := by decide +kernel
theorem dX8_findsArrangement_32 : decode cX8_findsArrangement 32 = .ok (.iload_n 2, 1) := by decide +kernel
theorem dX8_findsArrangement_33 : decode cX8_findsArrangement 33 = .ok (.iload_n 3, 1) := by decide +kernel
theorem dX8_findsArrangement_34 : decode cX8_findsArrangement 34 = .ok (.invokevirtual 264, 3) := by decide +kernel
theorem dX8_findsArrangement_37 : decode cX8_findsArrangement 37 = .ok (.iastore, 1) := by decide +kernel
theorem dX8_findsArrangement_38 : decode cX8_findsArrangement 38 = .ok (.iinc 3 1, 3) := by decide +kernel
theorem dX8_findsArrangement_41 : decode cX8_findsArrangement 41 = .ok (.goto (-25), 3) := by decide +kernel
theorem dX8_findsArrangement_44 : decode cX8_findsArrangement 44 = .ok (.iinc 2 1, 3) := by decide +kernel
theorem dX8_findsArrangement_47 : decode cX8_findsArrangement 47 = .ok (.goto (-38), 3) := by decide +kernel
theorem dX8_findsArrangement_50 : decode cX8_findsArrangement 50 = .ok (.iconst 1, 1) := by decide +kernel
theorem dX8_findsArrangement_51 : decode cX8_findsArrangement 51 = .ok (.istore_n 2, 1) := by decide +kernel
theorem dX8_findsArrangement_52 : decode cX8_findsArrangement 52 = .ok (.iconst 0, 1) := by decide +kernel
theorem dX8_findsArrangement_53 : decode cX8_findsArrangement 53 = .ok (.istore_n 3, 1) := by decide +kernel
theorem dX8_findsArrangement_54 : decode cX8_findsArrangement 54 = .ok (.iload_n 3, 1) := by decide +kernel
theorem dX8_findsArrangement_55 : decode cX8_findsArrangement 55 = .ok (.iload_n 1, 1) := by decide +kernel
theorem dX8_findsArrangement_56 : decode cX8_findsArrangement 56 = .ok (.if_icmp .ge 18, 3) := by decide +kernel
theorem dX8_findsArrangement_59 : decode cX8_findsArrangement 59 = .ok (.iload_n 2, 1) := by decide +kernel
theorem dX8_findsArrangement_60 : decode cX8_findsArrangement 60 = .ok (.aload_n 0, 1) := by decide +kernel
theorem dX8_findsArrangement_61 : decode cX8_findsArrangement 61 = .ok (.getfield 7, 3) := by decide +kernel
theorem dX8_findsArrangement_64 : decode cX8_findsArrangement 64 = .ok (.iconst 1, 1) := by decide +kernel
theorem dX8_findsArrangement_65 : decode cX8_findsArrangement 65 = .ok (.iaload, 1) := by decide +kernel
theorem dX8_findsArrangement_66 : decode cX8_findsArrangement 66 = .ok (.imul, 1) := by decide +kernel
theorem dX8_findsArrangement_67 : decode cX8_findsArrangement 67 = .ok (.istore_n 2, 1) := by decide +kernel
theorem dX8_findsArrangement_68 : decode cX8_findsArrangement 68 = .ok (.iinc 3 1, 3) := by decide +kernel
theorem dX8_findsArrangement_71 : decode cX8_findsArrangement 71 = .ok (.goto (-17), 3) := by decide +kernel
theorem dX8_findsArrangement_74 : decode cX8_findsArrangement 74 = .ok (.iconst (-1), 1) := by decide +kernel
theorem dX8_findsArrangement_75 : decode cX8_findsArrangement 75 = .ok (.istore_n 3, 1) := by decide +kernel
theorem dX8_findsArrangement_76 : decode cX8_findsArrangement 76 = .ok (.iconst 0, 1) := by decide +kernel
theorem dX8_findsArrangement_77 : decode cX8_findsArrangement 77 = .ok (.istore 4, 2) := by decide +kernel
theorem dX8_findsArrangement_79 : decode cX8_findsArrangement 79 = .ok (.iload 4, 2) := by decide +kernel
theorem dX8_findsArrangement_81 : decode cX8_findsArrangement 81 = .ok (.iload_n 2, 1) := by decide +kernel
theorem dX8_findsArrangement_82 : decode cX8_findsArrangement 82 = .ok (.if_icmp .ge 175, 3) := by decide +kernel
theorem dX8_findsArrangement_85 : decode cX8_findsArrangement 85 = .ok (.iload 4, 2) := by decide +kernel
theorem dX8_findsArrangement_87 : decode cX8_findsArrangement 87 = .ok (.istore 5, 2) := by decide +kernel
theorem dX8_findsArrangement_89 : decode cX8_findsArrangement 89 = .ok (.iload_n 1, 1) := by decide +kernel
theorem dX8_findsArrangement_90 : decode cX8_findsArrangement 90 = .ok (.iconst 1, 1) := by decide +kernel
theorem dX8_findsArrangement_91 : decode cX8_findsArrangement 91 = .ok (.isub, 1) := by decide +kernel
theorem dX8_findsArrangement_92 : decode cX8_findsArrangement 92 = .ok (.istore 6, 2) := by decide +kernel
theorem dX8_findsArrangement_94 : decode cX8_findsArrangement 94 = .ok (.iload 6, 2) := by decide +kernel
theorem dX8_findsArrangement_96 : decode cX8_findsArrangement 96 = .ok (.ifCond .lt 36, 3) := by decide +kernel
theorem dX8_findsArrangement_99 : decode cX8_findsArrangement 99 = .ok (.aload_n 0, 1) := by decide +kernel
theorem dX8_findsArrangement_100 : decode cX8_findsArrangement 100 = .ok (.getfield 51, 3) := by decide +kernel
theorem dX8_findsArrangement_103 : decode cX8_findsArrangement 103 = .ok (.iload 6, 2) := by decide +kernel
theorem dX8_findsArrangement_105 : decode cX8_findsArrangement 105 = .ok (.iload 5, 2) := by decide +kernel
theorem dX8_findsArrangement_107 : decode cX8_findsArrangement 107 = .ok (.aload_n 0, 1) := by decide +kernel
theorem dX8_findsArrangement_108 : decode cX8_findsArrangement 108 = .ok (.getfield 7, 3) := by decide +kernel
theorem dX8_findsArrangement_111 : decode cX8_findsArrangement 111 = .ok (.iconst 1, 1) := by decide +kernel
theorem dX8_findsArrangement_112 : decode cX8_findsArrangement 112 = .ok (.iaload, 1) := by decide +kernel
theorem dX8_findsArrangement_113 : decode cX8_findsArrangement 113 = .ok (.irem, 1) := by decide +kernel
theorem dX8_findsArrangement_114 : decode cX8_findsArrangement 114 = .ok (.iastore, 1) := by decide +kernel
theorem dX8_findsArrangement_115 : decode cX8_findsArrangement 115 = .ok (.iload 5, 2) := by decide +kernel
theorem dX8_findsArrangement_117 : decode cX8_findsArrangement 117 = .ok (.aload_n 0, 1) := by decide +kernel
theorem dX8_findsArrangement_118 : decode cX8_findsArrangement 118 = .ok (.getfield 7, 3) := by decide +kernel
theorem dX8_findsArrangement_121 : decode cX8_findsArrangement 121 = .ok (.iconst 1, 1) := by decide +kernel
theorem dX8_findsArrangement_122 : decode cX8_findsArrangement 122 = .ok (.iaload, 1) := by decide +kernel
theorem dX8_findsArrangement_123 : decode cX8_findsArrangement 123 = .ok (.idiv, 1) := by decide +kernel
theorem dX8_findsArrangement_124 : decode cX8_findsArrangement 124 = .ok (.istore 5, 2) := by decide +kernel
theorem dX8_findsArrangement_126 : decode cX8_findsArrangement 126 = .ok (.iinc 6 (-1), 3) := by decide +kernel
theorem dX8_findsArrangement_129 : decode cX8_findsArrangement 129 = .ok (.goto (-35), 3) := by decide +kernel
theorem dX8_findsArrangement_132 : decode cX8_findsArrangement 132 = .ok (.iconst 0, 1) := by decide +kernel
theorem dX8_findsArrangement_133 : decode cX8_findsArrangement 133 = .ok (.istore 6, 2) := by decide +kernel
theorem dX8_findsArrangement_135 : decode cX8_findsArrangement 135 = .ok (.iconst 0, 1) := by decide +kernel
theorem dX8_findsArrangement_136 : decode cX8_findsArrangement 136 = .ok (.istore 7, 2) := by decide +kernel
theorem dX8_findsArrangement_138 : decode cX8_findsArrangement 138 = .ok (.iload 7, 2) := by decide +kernel
theorem dX8_findsArrangement_140 : decode cX8_findsArrangement 140 = .ok (.iload_n 1, 1) := by decide +kernel
theorem dX8_findsArrangement_141 : decode cX8_findsArrangement 141 = .ok (.if_icmp .ge 64, 3) := by decide +kernel
theorem dX8_findsArrangement_144 : decode cX8_findsArrangement 144 = .ok (.iconst 0, 1) := by decide +kernel
theorem dX8_findsArrangement_145 : decode cX8_findsArrangement 145 = .ok (.istore 8, 2) := by decide +kernel
theorem dX8_findsArrangement_147 : decode cX8_findsArrangement 147 = .ok (.iload 8, 2) := by decide +kernel
theorem dX8_findsArrangement_149 : decode cX8_findsArrangement 149 = .ok (.iload 7, 2) := by decide +kernel
theorem dX8_findsArrangement_151 : decode cX8_findsArrangement 151 = .ok (.if_icmp .ge 48, 3) := by decide +kernel
theorem dX8_findsArrangement_154 : decode cX8_findsArrangement 154 = .ok (.iload 6, 2) := by decide +kernel
theorem dX8_findsArrangement_156 : decode cX8_findsArrangement 156 = .ok (.aload_n 0, 1) := by decide +kernel
theorem dX8_findsArrangement_157 : decode cX8_findsArrangement 157 = .ok (.getfield 51, 3) := by decide +kernel
theorem dX8_findsArrangement_160 : decode cX8_findsArrangement 160 = .ok (.iload 7, 2) := by decide +kernel
theorem dX8_findsArrangement_162 : decode cX8_findsArrangement 162 = .ok (.iaload, 1) := by decide +kernel
theorem dX8_findsArrangement_163 : decode cX8_findsArrangement 163 = .ok (.aload_n 0, 1) := by decide +kernel
theorem dX8_findsArrangement_164 : decode cX8_findsArrangement 164 = .ok (.getfield 51, 3) := by decide +kernel
theorem dX8_findsArrangement_167 : decode cX8_findsArrangement 167 = .ok (.iload 8, 2) := by decide +kernel
theorem dX8_findsArrangement_169 : decode cX8_findsArrangement 169 = .ok (.iaload, 1) := by decide +kernel
theorem dX8_findsArrangement_170 : decode cX8_findsArrangement 170 = .ok (.if_icmp .ne 19, 3) := by decide +kernel
theorem dX8_findsArrangement_173 : decode cX8_findsArrangement 173 = .ok (.aload_n 0, 1) := by decide +kernel
theorem dX8_findsArrangement_174 : decode cX8_findsArrangement 174 = .ok (.getfield 48, 3) := by decide +kernel
theorem dX8_findsArrangement_177 : decode cX8_findsArrangement 177 = .ok (.bipush 7, 2) := by decide +kernel
theorem dX8_findsArrangement_179 : decode cX8_findsArrangement 179 = .ok (.iload 7, 2) := by decide +kernel
theorem dX8_findsArrangement_181 : decode cX8_findsArrangement 181 = .ok (.imul, 1) := by decide +kernel
theorem dX8_findsArrangement_182 : decode cX8_findsArrangement 182 = .ok (.iload 8, 2) := by decide +kernel
theorem dX8_findsArrangement_184 : decode cX8_findsArrangement 184 = .ok (.iadd, 1) := by decide +kernel
theorem dX8_findsArrangement_185 : decode cX8_findsArrangement 185 = .ok (.iaload, 1) := by decide +kernel
theorem dX8_findsArrangement_186 : decode cX8_findsArrangement 186 = .ok (.goto 4, 3) := by decide +kernel
theorem dX8_findsArrangement_189 : decode cX8_findsArrangement 189 = .ok (.iconst 0, 1) := by decide +kernel
theorem dX8_findsArrangement_190 : decode cX8_findsArrangement 190 = .ok (.iadd, 1) := by decide +kernel
theorem dX8_findsArrangement_191 : decode cX8_findsArrangement 191 = .ok (.istore 6, 2) := by decide +kernel
theorem dX8_findsArrangement_193 : decode cX8_findsArrangement 193 = .ok (.iinc 8 1, 3) := by decide +kernel
theorem dX8_findsArrangement_196 : decode cX8_findsArrangement 196 = .ok (.goto (-49), 3) := by decide +kernel
theorem dX8_findsArrangement_199 : decode cX8_findsArrangement 199 = .ok (.iinc 7 1, 3) := by decide +kernel
theorem dX8_findsArrangement_202 : decode cX8_findsArrangement 202 = .ok (.goto (-64), 3) := by decide +kernel
theorem dX8_findsArrangement_205 : decode cX8_findsArrangement 205 = .ok (.iload_n 3, 1) := by decide +kernel
theorem dX8_findsArrangement_206 : decode cX8_findsArrangement 206 = .ok (.iconst (-1), 1) := by decide +kernel
theorem dX8_findsArrangement_207 : decode cX8_findsArrangement 207 = .ok (.if_icmp .eq 12, 3) := by decide +kernel
theorem dX8_findsArrangement_210 : decode cX8_findsArrangement 210 = .ok (.iload 6, 2) := by decide +kernel
theorem dX8_findsArrangement_212 : decode cX8_findsArrangement 212 = .ok (.iload_n 3, 1) := by decide +kernel
theorem dX8_findsArrangement_213 : decode cX8_findsArrangement 213 = .ok (.if_icmp .lt 6, 3) := by decide +kernel
theorem dX8_findsArrangement_216 : decode cX8_findsArrangement 216 = .ok (.goto 35, 3) := by decide +kernel
theorem dX8_findsArrangement_219 : decode cX8_findsArrangement 219 = .ok (.iload 6, 2) := by decide +kernel
theorem dX8_findsArrangement_221 : decode cX8_findsArrangement 221 = .ok (.istore_n 3, 1) := by decide +kernel
theorem dX8_findsArrangement_222 : decode cX8_findsArrangement 222 = .ok (.iconst 0, 1) := by decide +kernel
theorem dX8_findsArrangement_223 : decode cX8_findsArrangement 223 = .ok (.istore 7, 2) := by decide +kernel
theorem dX8_findsArrangement_225 : decode cX8_findsArrangement 225 = .ok (.iload 7, 2) := by decide +kernel
theorem dX8_findsArrangement_227 : decode cX8_findsArrangement 227 = .ok (.iload_n 1, 1) := by decide +kernel
theorem dX8_findsArrangement_228 : decode cX8_findsArrangement 228 = .ok (.if_icmp .ge 23, 3) := by decide +kernel
theorem dX8_findsArrangement_231 : decode cX8_findsArrangement 231 = .ok (.aload_n 0, 1) := by decide +kernel
theorem dX8_findsArrangement_232 : decode cX8_findsArrangement 232 = .ok (.getfield 54, 3) := by decide +kernel
theorem dX8_findsArrangement_235 : decode cX8_findsArrangement 235 = .ok (.iload 7, 2) := by decide +kernel
theorem dX8_findsArrangement_237 : decode cX8_findsArrangement 237 = .ok (.aload_n 0, 1) := by decide +kernel
theorem dX8_findsArrangement_238 : decode cX8_findsArrangement 238 = .ok (.getfield 51, 3) := by decide +kernel
theorem dX8_findsArrangement_241 : decode cX8_findsArrangement 241 = .ok (.iload 7, 2) := by decide +kernel
theorem dX8_findsArrangement_243 : decode cX8_findsArrangement 243 = .ok (.iaload, 1) := by decide +kernel
theorem dX8_findsArrangement_244 : decode cX8_findsArrangement 244 = .ok (.iastore, 1) := by decide +kernel
theorem dX8_findsArrangement_245 : decode cX8_findsArrangement 245 = .ok (.iinc 7 1, 3) := by decide +kernel
theorem dX8_findsArrangement_248 : decode cX8_findsArrangement 248 = .ok (.goto (-23), 3) := by decide +kernel
theorem dX8_findsArrangement_251 : decode cX8_findsArrangement 251 = .ok (.iinc 4 1, 3) := by decide +kernel
theorem dX8_findsArrangement_254 : decode cX8_findsArrangement 254 = .ok (.goto (-175), 3) := by decide +kernel
theorem dX8_findsArrangement_257 : decode cX8_findsArrangement 257 = .ok (.iload_n 3, 1) := by decide +kernel
theorem dX8_findsArrangement_258 : decode cX8_findsArrangement 258 = .ok (.ireturn, 1) := by decide +kernel
theorem dX8_leastClashes_0 : decode cX8_leastClashes 0 = .ok (.aload_n 0, 1) := by decide +kernel
theorem dX8_leastClashes_1 : decode cX8_leastClashes 1 = .ok (.aload_n 0, 1) := by decide +kernel
theorem dX8_leastClashes_2 : decode cX8_leastClashes 2 = .ok (.invokevirtual 270, 3) := by decide +kernel
theorem dX8_leastClashes_5 : decode cX8_leastClashes 5 = .ok (.invokevirtual 113, 3) := by decide +kernel
theorem dX8_leastClashes_8 : decode cX8_leastClashes 8 = .ok (.ireturn, 1) := by decide +kernel
theorem dX8_leastClashesByTrial_0 : decode cX8_leastClashesByTrial 0 = .ok (.aload_n 0, 1) := by decide +kernel
theorem dX8_leastClashesByTrial_1 : decode cX8_leastClashesByTrial 1 = .ok (.aload_n 0, 1) := by decide +kernel
theorem dX8_leastClashesByTrial_2 : decode cX8_leastClashesByTrial 2 = .ok (.invokevirtual 270, 3) := by decide +kernel
theorem dX8_leastClashesByTrial_5 : decode cX8_leastClashesByTrial 5 = .ok (.invokevirtual 113, 3) := by decide +kernel
theorem dX8_leastClashesByTrial_8 : decode cX8_leastClashesByTrial 8 = .ok (.ireturn, 1) := by decide +kernel
theorem dX8_arrangeNow_0 : decode cX8_arrangeNow 0 = .ok (.iconst 0, 1) := by decide +kernel
theorem dX8_arrangeNow_1 : decode cX8_arrangeNow 1 = .ok (.istore_n 1, 1) := by decide +kernel
theorem dX8_arrangeNow_2 : decode cX8_arrangeNow 2 = .ok (.iload_n 1, 1) := by decide +kernel
theorem dX8_arrangeNow_3 : decode cX8_arrangeNow 3 = .ok (.aload_n 0, 1) := by decide +kernel
theorem dX8_arrangeNow_4 : decode cX8_arrangeNow 4 = .ok (.getfield 7, 3) := by decide +kernel
theorem dX8_arrangeNow_7 : decode cX8_arrangeNow 7 = .ok (.iconst 2, 1) := by decide +kernel
theorem dX8_arrangeNow_8 : decode cX8_arrangeNow 8 = .ok (.iaload, 1) := by decide +kernel
theorem dX8_arrangeNow_9 : decode cX8_arrangeNow 9 = .ok (.if_icmp .ge 23, 3) := by decide +kernel
theorem dX8_arrangeNow_12 : decode cX8_arrangeNow 12 = .ok (.aload_n 0, 1) := by decide +kernel
theorem dX8_arrangeNow_13 : decode cX8_arrangeNow 13 = .ok (.iload_n 1, 1) := by decide +kernel
theorem dX8_arrangeNow_14 : decode cX8_arrangeNow 14 = .ok (.invokevirtual 204, 3) := by decide +kernel
theorem dX8_arrangeNow_17 : decode cX8_arrangeNow 17 = .ok (.ifCond .le 9, 3) := by decide +kernel
theorem dX8_arrangeNow_20 : decode cX8_arrangeNow 20 = .ok (.aload_n 0, 1) := by decide +kernel
theorem dX8_arrangeNow_21 : decode cX8_arrangeNow 21 = .ok (.iconst 3, 1) := by decide +kernel
theorem dX8_arrangeNow_22 : decode cX8_arrangeNow 22 = .ok (.invokevirtual 131, 3) := by decide +kernel
theorem dX8_arrangeNow_25 : decode cX8_arrangeNow 25 = .ok (.ireturn, 1) := by decide +kernel
theorem dX8_arrangeNow_26 : decode cX8_arrangeNow 26 = .ok (.iinc 1 1, 3) := by decide +kernel
theorem dX8_arrangeNow_29 : decode cX8_arrangeNow 29 = .ok (.goto (-27), 3) := by decide +kernel
theorem dX8_arrangeNow_32 : decode cX8_arrangeNow 32 = .ok (.aload_n 0, 1) := by decide +kernel
theorem dX8_arrangeNow_33 : decode cX8_arrangeNow 33 = .ok (.invokevirtual 270, 3) := by decide +kernel
theorem dX8_arrangeNow_36 : decode cX8_arrangeNow 36 = .ok (.istore_n 1, 1) := by decide +kernel
theorem dX8_arrangeNow_37 : decode cX8_arrangeNow 37 = .ok (.iconst 0, 1) := by decide +kernel
theorem dX8_arrangeNow_38 : decode cX8_arrangeNow 38 = .ok (.istore_n 2, 1) := by decide +kernel
theorem dX8_arrangeNow_39 : decode cX8_arrangeNow 39 = .ok (.iload_n 2, 1) := by decide +kernel
theorem dX8_arrangeNow_40 : decode cX8_arrangeNow 40 = .ok (.aload_n 0, 1) := by decide +kernel
theorem dX8_arrangeNow_41 : decode cX8_arrangeNow 41 = .ok (.getfield 7, 3) := by decide +kernel
theorem dX8_arrangeNow_44 : decode cX8_arrangeNow 44 = .ok (.iconst 0, 1) := by decide +kernel
theorem dX8_arrangeNow_45 : decode cX8_arrangeNow 45 = .ok (.iaload, 1) := by decide +kernel
theorem dX8_arrangeNow_46 : decode cX8_arrangeNow 46 = .ok (.if_icmp .ge 50, 3) := by decide +kernel
theorem dX8_arrangeNow_49 : decode cX8_arrangeNow 49 = .ok (.iconst 0, 1) := by decide +kernel
theorem dX8_arrangeNow_50 : decode cX8_arrangeNow 50 = .ok (.istore_n 3, 1) := by decide +kernel
theorem dX8_arrangeNow_51 : decode cX8_arrangeNow 51 = .ok (.iload_n 3, 1) := by decide +kernel
theorem dX8_arrangeNow_52 : decode cX8_arrangeNow 52 = .ok (.iconst 4, 1) := by decide +kernel
theorem dX8_arrangeNow_53 : decode cX8_arrangeNow 53 = .ok (.if_icmp .ge 37, 3) := by decide +kernel
theorem dX8_arrangeNow_56 : decode cX8_arrangeNow 56 = .ok (.aload_n 0, 1) := by decide +kernel
theorem dX8_arrangeNow_57 : decode cX8_arrangeNow 57 = .ok (.getfield 7, 3) := by decide +kernel
theorem dX8_arrangeNow_60 : decode cX8_arrangeNow 60 = .ok (.bipush 17, 2) := by decide +kernel
theorem dX8_arrangeNow_62 : decode cX8_arrangeNow 62 = .ok (.iconst 4, 1) := by decide +kernel
theorem dX8_arrangeNow_63 : decode cX8_arrangeNow 63 = .ok (.iload_n 2, 1) := by decide +kernel
theorem dX8_arrangeNow_64 : decode cX8_arrangeNow 64 = .ok (.imul, 1) := by decide +kernel
theorem dX8_arrangeNow_65 : decode cX8_arrangeNow 65 = .ok (.iadd, 1) := by decide +kernel
theorem dX8_arrangeNow_66 : decode cX8_arrangeNow 66 = .ok (.iload_n 3, 1) := by decide +kernel
theorem dX8_arrangeNow_67 : decode cX8_arrangeNow 67 = .ok (.iadd, 1) := by decide +kernel
theorem dX8_arrangeNow_68 : decode cX8_arrangeNow 68 = .ok (.aload_n 0, 1) := by decide +kernel
theorem dX8_arrangeNow_69 : decode cX8_arrangeNow 69 = .ok (.getfield 54, 3) := by decide +kernel
theorem dX8_arrangeNow_72 : decode cX8_arrangeNow 72 = .ok (.iload_n 2, 1) := by decide +kernel
theorem dX8_arrangeNow_73 : decode cX8_arrangeNow 73 = .ok (.iaload, 1) := by decide +kernel
theorem dX8_arrangeNow_74 : decode cX8_arrangeNow 74 = .ok (.iload_n 3, 1) := by decide +kernel
theorem dX8_arrangeNow_75 : decode cX8_arrangeNow 75 = .ok (.if_icmp .ne 7, 3) := by decide +kernel
theorem dX8_arrangeNow_78 : decode cX8_arrangeNow 78 = .ok (.iconst 1, 1) := by decide +kernel
theorem dX8_arrangeNow_79 : decode cX8_arrangeNow 79 = .ok (.goto 4, 3) := by decide +kernel
theorem dX8_arrangeNow_82 : decode cX8_arrangeNow 82 = .ok (.iconst 0, 1) := by decide +kernel
theorem dX8_arrangeNow_83 : decode cX8_arrangeNow 83 = .ok (.iastore, 1) := by decide +kernel
theorem dX8_arrangeNow_84 : decode cX8_arrangeNow 84 = .ok (.iinc 3 1, 3) := by decide +kernel
theorem dX8_arrangeNow_87 : decode cX8_arrangeNow 87 = .ok (.goto (-36), 3) := by decide +kernel
theorem dX8_arrangeNow_90 : decode cX8_arrangeNow 90 = .ok (.iinc 2 1, 3) := by decide +kernel
theorem dX8_arrangeNow_93 : decode cX8_arrangeNow 93 = .ok (.goto (-54), 3) := by decide +kernel
theorem dX8_arrangeNow_96 : decode cX8_arrangeNow 96 = .ok (.iload_n 1, 1) := by decide +kernel
theorem dX8_arrangeNow_97 : decode cX8_arrangeNow 97 = .ok (.ireturn, 1) := by decide +kernel
theorem dX8_arrange_0 : decode cX8_arrange 0 = .ok (.aload_n 0, 1) := by decide +kernel
theorem dX8_arrange_1 : decode cX8_arrange 1 = .ok (.invokevirtual 134, 3) := by decide +kernel
theorem dX8_arrange_4 : decode cX8_arrange 4 = .ok (.aload_n 0, 1) := by decide +kernel
theorem dX8_arrange_5 : decode cX8_arrange 5 = .ok (.aload_n 0, 1) := by decide +kernel
theorem dX8_arrange_6 : decode cX8_arrange 6 = .ok (.invokevirtual 273, 3) := by decide +kernel
theorem dX8_arrange_9 : decode cX8_arrange 9 = .ok (.iconst 3, 1) := by decide +kernel
theorem dX8_arrange_10 : decode cX8_arrange 10 = .ok (.iconst 0, 1) := by decide +kernel
theorem dX8_arrange_11 : decode cX8_arrange 11 = .ok (.invokevirtual 140, 3) := by decide +kernel
theorem dX8_arrange_14 : decode cX8_arrange 14 = .ok (.ireturn, 1) := by decide +kernel
theorem dX8_writes_0 : decode cX8_writes 0 = .ok (.aload_n 0, 1) := by decide +kernel
theorem dX8_writes_1 : decode cX8_writes 1 = .ok (.getfield 32, 3) := by decide +kernel
theorem dX8_writes_4 : decode cX8_writes 4 = .ok (.aload_n 0, 1) := by decide +kernel
theorem dX8_writes_5 : decode cX8_writes 5 = .ok (.getfield 276, 3) := by decide +kernel
theorem dX8_writes_8 : decode cX8_writes 8 = .ok (.iload_n 1, 1) := by decide +kernel
theorem dX8_writes_9 : decode cX8_writes 9 = .ok (.castore, 1) := by decide +kernel
theorem dX8_writes_10 : decode cX8_writes 10 = .ok (.aload_n 0, 1) := by decide +kernel
theorem dX8_writes_11 : decode cX8_writes 11 = .ok (.dup, 1) := by decide +kernel
theorem dX8_writes_12 : decode cX8_writes 12 = .ok (.getfield 276, 3) := by decide +kernel
theorem dX8_writes_15 : decode cX8_writes 15 = .ok (.iconst 1, 1) := by decide +kernel
theorem dX8_writes_16 : decode cX8_writes 16 = .ok (.iadd, 1) := by decide +kernel
theorem dX8_writes_17 : decode cX8_writes 17 = .ok (.putfield 276, 3) := by decide +kernel
theorem dX8_writes_20 : decode cX8_writes 20 = .ok (.return_, 1) := by decide +kernel
theorem dX8_writeTimetable_0 : decode cX8_writeTimetable 0 = .ok (.aload_n 0, 1) := by decide +kernel
theorem dX8_writeTimetable_1 : decode cX8_writeTimetable 1 = .ok (.iload_n 1, 1) := by decide +kernel
theorem dX8_writeTimetable_2 : decode cX8_writeTimetable 2 = .ok (.invokevirtual 177, 3) := by decide +kernel
theorem dX8_writeTimetable_5 : decode cX8_writeTimetable 5 = .ok (.ifCond .ne 9, 3) := by decide +kernel
theorem dX8_writeTimetable_8 : decode cX8_writeTimetable 8 = .ok (.aload_n 0, 1) := by decide +kernel
theorem dX8_writeTimetable_9 : decode cX8_writeTimetable 9 = .ok (.iconst 1, 1) := by decide +kernel
theorem dX8_writeTimetable_10 : decode cX8_writeTimetable 10 = .ok (.invokevirtual 106, 3) := by decide +kernel
theorem dX8_writeTimetable_13 : decode cX8_writeTimetable 13 = .ok (.ireturn, 1) := by decide +kernel
theorem dX8_writeTimetable_14 : decode cX8_writeTimetable 14 = .ok (.aload_n 0, 1) := by decide +kernel
theorem dX8_writeTimetable_15 : decode cX8_writeTimetable 15 = .ok (.iconst 0, 1) := by decide +kernel
theorem dX8_writeTimetable_16 : decode cX8_writeTimetable 16 = .ok (.putfield 276, 3) := by decide +kernel
theorem dX8_writeTimetable_19 : decode cX8_writeTimetable 19 = .ok (.iload_n 1, 1) := by decide +kernel
theorem dX8_writeTimetable_20 : decode cX8_writeTimetable 20 = .ok (.bipush 9, 2) := by decide +kernel
theorem dX8_writeTimetable_22 : decode cX8_writeTimetable 22 = .ok (.if_icmp .le 15, 3) := by decide +kernel
theorem dX8_writeTimetable_25 : decode cX8_writeTimetable 25 = .ok (.aload_n 0, 1) := by decide +kernel
theorem dX8_writeTimetable_26 : decode cX8_writeTimetable 26 = .ok (.bipush 48, 2) := by decide +kernel
theorem dX8_writeTimetable_28 : decode cX8_writeTimetable 28 = .ok (.iload_n 1, 1) := by decide +kernel
theorem dX8_writeTimetable_29 : decode cX8_writeTimetable 29 = .ok (.bipush 10, 2) := by decide +kernel
theorem dX8_writeTimetable_31 : decode cX8_writeTimetable 31 = .ok (.idiv, 1) := by decide +kernel
theorem dX8_writeTimetable_32 : decode cX8_writeTimetable 32 = .ok (.iadd, 1) := by decide +kernel
theorem dX8_writeTimetable_33 : decode cX8_writeTimetable 33 = .ok (.i2c, 1) := by decide +kernel
theorem dX8_writeTimetable_34 : decode cX8_writeTimetable 34 = .ok (.invokevirtual 279, 3) := by decide +kernel
theorem dX8_writeTimetable_37 : decode cX8_writeTimetable 37 = .ok (.aload_n 0, 1) := by decide +kernel
theorem dX8_writeTimetable_38 : decode cX8_writeTimetable 38 = .ok (.bipush 48, 2) := by decide +kernel
theorem dX8_writeTimetable_40 : decode cX8_writeTimetable 40 = .ok (.iload_n 1, 1) := by decide +kernel
theorem dX8_writeTimetable_41 : decode cX8_writeTimetable 41 = .ok (.bipush 10, 2) := by decide +kernel
theorem dX8_writeTimetable_43 : decode cX8_writeTimetable 43 = .ok (.irem, 1) := by decide +kernel
theorem dX8_writeTimetable_44 : decode cX8_writeTimetable 44 = .ok (.iadd, 1) := by decide +kernel
theorem dX8_writeTimetable_45 : decode cX8_writeTimetable 45 = .ok (.i2c, 1) := by decide +kernel
theorem dX8_writeTimetable_46 : decode cX8_writeTimetable 46 = .ok (.invokevirtual 279, 3) := by decide +kernel
theorem dX8_writeTimetable_49 : decode cX8_writeTimetable 49 = .ok (.aload_n 0, 1) := by decide +kernel
theorem dX8_writeTimetable_50 : decode cX8_writeTimetable 50 = .ok (.bipush 58, 2) := by decide +kernel
theorem dX8_writeTimetable_52 : decode cX8_writeTimetable 52 = .ok (.invokevirtual 279, 3) := by decide +kernel
theorem dX8_writeTimetable_55 : decode cX8_writeTimetable 55 = .ok (.iconst 0, 1) := by decide +kernel
theorem dX8_writeTimetable_56 : decode cX8_writeTimetable 56 = .ok (.istore_n 2, 1) := by decide +kernel
theorem dX8_writeTimetable_57 : decode cX8_writeTimetable 57 = .ok (.iload_n 2, 1) := by decide +kernel
theorem dX8_writeTimetable_58 : decode cX8_writeTimetable 58 = .ok (.aload_n 0, 1) := by decide +kernel
theorem dX8_writeTimetable_59 : decode cX8_writeTimetable 59 = .ok (.getfield 7, 3) := by decide +kernel
theorem dX8_writeTimetable_62 : decode cX8_writeTimetable 62 = .ok (.iconst 1, 1) := by decide +kernel
theorem dX8_writeTimetable_63 : decode cX8_writeTimetable 63 = .ok (.iaload, 1) := by decide +kernel
theorem dX8_writeTimetable_64 : decode cX8_writeTimetable 64 = .ok (.if_icmp .ge 65, 3) := by decide +kernel
theorem dX8_writeTimetable_67 : decode cX8_writeTimetable 67 = .ok (.aload_n 0, 1) := by decide +kernel
theorem dX8_writeTimetable_68 : decode cX8_writeTimetable 68 = .ok (.iload_n 1, 1) := by decide +kernel
theorem dX8_writeTimetable_69 : decode cX8_writeTimetable 69 = .ok (.iload_n 2, 1) := by decide +kernel
theorem dX8_writeTimetable_70 : decode cX8_writeTimetable 70 = .ok (.invokevirtual 124, 3) := by decide +kernel
theorem dX8_writeTimetable_73 : decode cX8_writeTimetable 73 = .ok (.istore_n 3, 1) := by decide +kernel
theorem dX8_writeTimetable_74 : decode cX8_writeTimetable 74 = .ok (.aload_n 0, 1) := by decide +kernel
theorem dX8_writeTimetable_75 : decode cX8_writeTimetable 75 = .ok (.bipush 32, 2) := by decide +kernel
theorem dX8_writeTimetable_77 : decode cX8_writeTimetable 77 = .ok (.invokevirtual 279, 3) := by decide +kernel
theorem dX8_writeTimetable_80 : decode cX8_writeTimetable 80 = .ok (.aload_n 0, 1) := by decide +kernel
theorem dX8_writeTimetable_81 : decode cX8_writeTimetable 81 = .ok (.iload_n 3, 1) := by decide +kernel
theorem dX8_writeTimetable_82 : decode cX8_writeTimetable 82 = .ok (.iconst (-1), 1) := by decide +kernel
theorem dX8_writeTimetable_83 : decode cX8_writeTimetable 83 = .ok (.if_icmp .ne 8, 3) := by decide +kernel
theorem dX8_writeTimetable_86 : decode cX8_writeTimetable 86 = .ok (.bipush 45, 2) := by decide +kernel
theorem dX8_writeTimetable_88 : decode cX8_writeTimetable 88 = .ok (.goto 8, 3) := by decide +kernel
theorem dX8_writeTimetable_91 : decode cX8_writeTimetable 91 = .ok (.bipush 48, 2) := by decide +kernel
theorem dX8_writeTimetable_93 : decode cX8_writeTimetable 93 = .ok (.iload_n 3, 1) := by decide +kernel
theorem dX8_writeTimetable_94 : decode cX8_writeTimetable 94 = .ok (.iadd, 1) := by decide +kernel
theorem dX8_writeTimetable_95 : decode cX8_writeTimetable 95 = .ok (.i2c, 1) := by decide +kernel
theorem dX8_writeTimetable_96 : decode cX8_writeTimetable 96 = .ok (.invokevirtual 279, 3) := by decide +kernel
theorem dX8_writeTimetable_99 : decode cX8_writeTimetable 99 = .ok (.iload_n 3, 1) := by decide +kernel
theorem dX8_writeTimetable_100 : decode cX8_writeTimetable 100 = .ok (.iconst (-1), 1) := by decide +kernel
theorem dX8_writeTimetable_101 : decode cX8_writeTimetable 101 = .ok (.if_icmp .eq 22, 3) := by decide +kernel
theorem dX8_writeTimetable_104 : decode cX8_writeTimetable 104 = .ok (.iload_n 3, 1) := by decide +kernel
theorem dX8_writeTimetable_105 : decode cX8_writeTimetable 105 = .ok (.aload_n 0, 1) := by decide +kernel
theorem dX8_writeTimetable_106 : decode cX8_writeTimetable 106 = .ok (.getfield 7, 3) := by decide +kernel
theorem dX8_writeTimetable_109 : decode cX8_writeTimetable 109 = .ok (.bipush 93, 2) := by decide +kernel
theorem dX8_writeTimetable_111 : decode cX8_writeTimetable 111 = .ok (.iload_n 1, 1) := by decide +kernel
theorem dX8_writeTimetable_112 : decode cX8_writeTimetable 112 = .ok (.iadd, 1) := by decide +kernel
theorem dX8_writeTimetable_113 : decode cX8_writeTimetable 113 = .ok (.iaload, 1) := by decide +kernel
theorem dX8_writeTimetable_114 : decode cX8_writeTimetable 114 = .ok (.if_icmp .ne 9, 3) := by decide +kernel
theorem dX8_writeTimetable_117 : decode cX8_writeTimetable 117 = .ok (.aload_n 0, 1) := by decide +kernel
theorem dX8_writeTimetable_118 : decode cX8_writeTimetable 118 = .ok (.bipush 33, 2) := by decide +kernel
theorem dX8_writeTimetable_120 : decode cX8_writeTimetable 120 = .ok (.invokevirtual 279, 3) := by decide +kernel
theorem dX8_writeTimetable_123 : decode cX8_writeTimetable 123 = .ok (.iinc 2 1, 3) := by decide +kernel
theorem dX8_writeTimetable_126 : decode cX8_writeTimetable 126 = .ok (.goto (-69), 3) := by decide +kernel
theorem dX8_writeTimetable_129 : decode cX8_writeTimetable 129 = .ok (.aload_n 0, 1) := by decide +kernel
theorem dX8_writeTimetable_130 : decode cX8_writeTimetable 130 = .ok (.aload_n 0, 1) := by decide +kernel
theorem dX8_writeTimetable_131 : decode cX8_writeTimetable 131 = .ok (.getfield 276, 3) := by decide +kernel
theorem dX8_writeTimetable_134 : decode cX8_writeTimetable 134 = .ok (.invokevirtual 113, 3) := by decide +kernel
theorem dX8_writeTimetable_137 : decode cX8_writeTimetable 137 = .ok (.ireturn, 1) := by decide +kernel
theorem dX8_lineAt_0 : decode cX8_lineAt 0 = .ok (.aload_n 0, 1) := by decide +kernel
theorem dX8_lineAt_1 : decode cX8_lineAt 1 = .ok (.iload_n 1, 1) := by decide +kernel
theorem dX8_lineAt_2 : decode cX8_lineAt 2 = .ok (.iconst 0, 1) := by decide +kernel
theorem dX8_lineAt_3 : decode cX8_lineAt 3 = .ok (.aload_n 0, 1) := by decide +kernel
theorem dX8_lineAt_4 : decode cX8_lineAt 4 = .ok (.getfield 276, 3) := by decide +kernel
theorem dX8_lineAt_7 : decode cX8_lineAt 7 = .ok (.iconst 1, 1) := by decide +kernel
theorem dX8_lineAt_8 : decode cX8_lineAt 8 = .ok (.isub, 1) := by decide +kernel
theorem dX8_lineAt_9 : decode cX8_lineAt 9 = .ok (.invokestatic 120, 3) := by decide +kernel
theorem dX8_lineAt_12 : decode cX8_lineAt 12 = .ok (.ifCond .eq 7, 3) := by decide +kernel
theorem dX8_lineAt_15 : decode cX8_lineAt 15 = .ok (.iconst 0, 1) := by decide +kernel
theorem dX8_lineAt_16 : decode cX8_lineAt 16 = .ok (.goto 4, 3) := by decide +kernel
theorem dX8_lineAt_19 : decode cX8_lineAt 19 = .ok (.iconst 1, 1) := by decide +kernel
theorem dX8_lineAt_20 : decode cX8_lineAt 20 = .ok (.putfield 96, 3) := by decide +kernel
theorem dX8_lineAt_23 : decode cX8_lineAt 23 = .ok (.aload_n 0, 1) := by decide +kernel
theorem dX8_lineAt_24 : decode cX8_lineAt 24 = .ok (.getfield 96, 3) := by decide +kernel
theorem dX8_lineAt_27 : decode cX8_lineAt 27 = .ok (.ifCond .ne 12, 3) := by decide +kernel
theorem dX8_lineAt_30 : decode cX8_lineAt 30 = .ok (.aload_n 0, 1) := by decide +kernel
theorem dX8_lineAt_31 : decode cX8_lineAt 31 = .ok (.getfield 32, 3) := by decide +kernel
theorem dX8_lineAt_34 : decode cX8_lineAt 34 = .ok (.iload_n 1, 1) := by decide +kernel
theorem dX8_lineAt_35 : decode cX8_lineAt 35 = .ok (.caload, 1) := by decide +kernel
theorem dX8_lineAt_36 : decode cX8_lineAt 36 = .ok (.goto 5, 3) := by decide +kernel
theorem dX8_lineAt_39 : decode cX8_lineAt 39 = .ok (.bipush 32, 2) := by decide +kernel
theorem dX8_lineAt_41 : decode cX8_lineAt 41 = .ok (.ireturn, 1) := by decide +kernel
theorem dX8_type_0 : decode cX8_type 0 = .ok (.iload_n 1, 1) := by decide +kernel
theorem dX8_type_1 : decode cX8_type 1 = .ok (.bipush 32, 2) := by decide +kernel
theorem dX8_type_3 : decode cX8_type 3 = .ok (.bipush 126, 2) := by decide +kernel
theorem dX8_type_5 : decode cX8_type 5 = .ok (.invokestatic 120, 3) := by decide +kernel
theorem dX8_type_8 : decode cX8_type 8 = .ok (.ifCond .ne 9, 3) := by decide +kernel
theorem dX8_type_11 : decode cX8_type 11 = .ok (.aload_n 0, 1) := by decide +kernel
theorem dX8_type_12 : decode cX8_type 12 = .ok (.iconst 1, 1) := by decide +kernel
theorem dX8_type_13 : decode cX8_type 13 = .ok (.invokevirtual 106, 3) := by decide +kernel
theorem dX8_type_16 : decode cX8_type 16 = .ok (.ireturn, 1) := by decide +kernel
theorem dX8_type_17 : decode cX8_type 17 = .ok (.aload_n 0, 1) := by decide +kernel
theorem dX8_type_18 : decode cX8_type 18 = .ok (.getfield 283, 3) := by decide +kernel
theorem dX8_type_21 : decode cX8_type 21 = .ok (.bipush 60, 2) := by decide +kernel
theorem dX8_type_23 : decode cX8_type 23 = .ok (.if_icmp .ne 9, 3) := by decide +kernel
theorem dX8_type_26 : decode cX8_type 26 = .ok (.aload_n 0, 1) := by decide +kernel
theorem dX8_type_27 : decode cX8_type 27 = .ok (.iconst 2, 1) := by decide +kernel
theorem dX8_type_28 : decode cX8_type 28 = .ok (.invokevirtual 106, 3) := by decide +kernel
theorem dX8_type_31 : decode cX8_type 31 = .ok (.ireturn, 1) := by decide +kernel
theorem dX8_type_32 : decode cX8_type 32 = .ok (.aload_n 0, 1) := by decide +kernel
theorem dX8_type_33 : decode cX8_type 33 = .ok (.getfield 36, 3) := by decide +kernel
theorem dX8_type_36 : decode cX8_type 36 = .ok (.aload_n 0, 1) := by decide +kernel
theorem dX8_type_37 : decode cX8_type 37 = .ok (.getfield 283, 3) := by decide +kernel
theorem dX8_type_40 : decode cX8_type 40 = .ok (.iload_n 1, 1) := by decide +kernel
theorem dX8_type_41 : decode cX8_type 41 = .ok (.castore, 1) := by decide +kernel
theorem dX8_type_42 : decode cX8_type 42 = .ok (.aload_n 0, 1) := by decide +kernel
theorem dX8_type_43 : decode cX8_type 43 = .ok (.dup, 1) := by decide +kernel
theorem dX8_type_44 : decode cX8_type 44 = .ok (.getfield 283, 3) := by decide +kernel
theorem dX8_type_47 : decode cX8_type 47 = .ok (.iconst 1, 1) := by decide +kernel
theorem dX8_type_48 : decode cX8_type 48 = .ok (.iadd, 1) := by decide +kernel
theorem dX8_type_49 : decode cX8_type 49 = .ok (.putfield 283, 3) := by decide +kernel
theorem dX8_type_52 : decode cX8_type 52 = .ok (.aload_n 0, 1) := by decide +kernel
theorem dX8_type_53 : decode cX8_type 53 = .ok (.aload_n 0, 1) := by decide +kernel
theorem dX8_type_54 : decode cX8_type 54 = .ok (.getfield 283, 3) := by decide +kernel
theorem dX8_type_57 : decode cX8_type 57 = .ok (.invokevirtual 113, 3) := by decide +kernel
theorem dX8_type_60 : decode cX8_type 60 = .ok (.ireturn, 1) := by decide +kernel
theorem dX8_isDigit_0 : decode cX8_isDigit 0 = .ok (.iload_n 1, 1) := by decide +kernel
theorem dX8_isDigit_1 : decode cX8_isDigit 1 = .ok (.aload_n 0, 1) := by decide +kernel
theorem dX8_isDigit_2 : decode cX8_isDigit 2 = .ok (.getfield 286, 3) := by decide +kernel
theorem dX8_isDigit_5 : decode cX8_isDigit 5 = .ok (.if_icmp .ge 29, 3) := by decide +kernel
theorem dX8_isDigit_8 : decode cX8_isDigit 8 = .ok (.aload_n 0, 1) := by decide +kernel
theorem dX8_isDigit_9 : decode cX8_isDigit 9 = .ok (.getfield 36, 3) := by decide +kernel
theorem dX8_isDigit_12 : decode cX8_isDigit 12 = .ok (.iload_n 1, 1) := by decide +kernel
theorem dX8_isDigit_13 : decode cX8_isDigit 13 = .ok (.caload, 1) := by decide +kernel
theorem dX8_isDigit_14 : decode cX8_isDigit 14 = .ok (.bipush 48, 2) := by decide +kernel
theorem dX8_isDigit_16 : decode cX8_isDigit 16 = .ok (.if_icmp .lt 18, 3) := by decide +kernel
theorem dX8_isDigit_19 : decode cX8_isDigit 19 = .ok (.aload_n 0, 1) := by decide +kernel
theorem dX8_isDigit_20 : decode cX8_isDigit 20 = .ok (.getfield 36, 3) := by decide +kernel
theorem dX8_isDigit_23 : decode cX8_isDigit 23 = .ok (.iload_n 1, 1) := by decide +kernel
theorem dX8_isDigit_24 : decode cX8_isDigit 24 = .ok (.caload, 1) := by decide +kernel
theorem dX8_isDigit_25 : decode cX8_isDigit 25 = .ok (.bipush 57, 2) := by decide +kernel
theorem dX8_isDigit_27 : decode cX8_isDigit 27 = .ok (.if_icmp .gt 7, 3) := by decide +kernel
theorem dX8_isDigit_30 : decode cX8_isDigit 30 = .ok (.iconst 1, 1) := by decide +kernel
theorem dX8_isDigit_31 : decode cX8_isDigit 31 = .ok (.goto 4, 3) := by decide +kernel
theorem dX8_isDigit_34 : decode cX8_isDigit 34 = .ok (.iconst 0, 1) := by decide +kernel
theorem dX8_isDigit_35 : decode cX8_isDigit 35 = .ok (.ireturn, 1) := by decide +kernel
theorem dX8_reads_0 : decode cX8_reads 0 = .ok (.iload_n 2, 1) := by decide +kernel
theorem dX8_reads_1 : decode cX8_reads 1 = .ok (.istore_n 3, 1) := by decide +kernel
theorem dX8_reads_2 : decode cX8_reads 2 = .ok (.iconst 0, 1) := by decide +kernel
theorem dX8_reads_3 : decode cX8_reads 3 = .ok (.istore 4, 2) := by decide +kernel
theorem dX8_reads_5 : decode cX8_reads 5 = .ok (.iconst 0, 1) := by decide +kernel
theorem dX8_reads_6 : decode cX8_reads 6 = .ok (.istore 5, 2) := by decide +kernel
theorem dX8_reads_8 : decode cX8_reads 8 = .ok (.iload 5, 2) := by decide +kernel
theorem dX8_reads_10 : decode cX8_reads 10 = .ok (.aload_n 1, 1) := by decide +kernel
theorem dX8_reads_11 : decode cX8_reads 11 = .ok (.invokevirtual 289, 3) := by decide +kernel
theorem dX8_reads_14 : decode cX8_reads 14 = .ok (.if_icmp .ge 154, 3) := by decide +kernel
theorem dX8_reads_17 : decode cX8_reads 17 = .ok (.aload_n 1, 1) := by decide +kernel
theorem dX8_reads_18 : decode cX8_reads 18 = .ok (.iload 5, 2) := by decide +kernel
theorem dX8_reads_20 : decode cX8_reads 20 = .ok (.invokevirtual 292, 3) := by decide +kernel
theorem dX8_reads_23 : decode cX8_reads 23 = .ok (.istore 6, 2) := by decide +kernel
theorem dX8_reads_25 : decode cX8_reads 25 = .ok (.iload 6, 2) := by decide +kernel
theorem dX8_reads_27 : decode cX8_reads 27 = .ok (.bipush 68, 2) := by decide +kernel
theorem dX8_reads_29 : decode cX8_reads 29 = .ok (.if_icmp .eq 10, 3) := by decide +kernel
theorem dX8_reads_32 : decode cX8_reads 32 = .ok (.iload 6, 2) := by decide +kernel
theorem dX8_reads_34 : decode cX8_reads 34 = .ok (.bipush 78, 2) := by decide +kernel
theorem dX8_reads_36 : decode cX8_reads 36 = .ok (.if_icmp .ne 7, 3) := by decide +kernel
theorem dX8_reads_39 : decode cX8_reads 39 = .ok (.iconst 1, 1) := by decide +kernel
theorem dX8_reads_40 : decode cX8_reads 40 = .ok (.goto 4, 3) := by decide +kernel
theorem dX8_reads_43 : decode cX8_reads 43 = .ok (.iconst 0, 1) := by decide +kernel
theorem dX8_reads_44 : decode cX8_reads 44 = .ok (.istore 7, 2) := by decide +kernel
theorem dX8_reads_46 : decode cX8_reads 46 = .ok (.iload 7, 2) := by decide +kernel
theorem dX8_reads_48 : decode cX8_reads 48 = .ok (.ifCond .eq 14, 3) := by decide +kernel
theorem dX8_reads_51 : decode cX8_reads 51 = .ok (.aload_n 0, 1) := by decide +kernel
theorem dX8_reads_52 : decode cX8_reads 52 = .ok (.iload_n 3, 1) := by decide +kernel
theorem dX8_reads_53 : decode cX8_reads 53 = .ok (.invokevirtual 296, 3) := by decide +kernel
theorem dX8_reads_56 : decode cX8_reads 56 = .ok (.ifCond .ne 32, 3) := by decide +kernel
theorem dX8_reads_59 : decode cX8_reads 59 = .ok (.goto 22, 3) := by decide +kernel
theorem dX8_reads_62 : decode cX8_reads 62 = .ok (.iload_n 3, 1) := by decide +kernel
theorem dX8_reads_63 : decode cX8_reads 63 = .ok (.aload_n 0, 1) := by decide +kernel
theorem dX8_reads_64 : decode cX8_reads 64 = .ok (.getfield 286, 3) := by decide +kernel
theorem dX8_reads_67 : decode cX8_reads 67 = .ok (.if_icmp .ge 14, 3) := by decide +kernel
theorem dX8_reads_70 : decode cX8_reads 70 = .ok (.aload_n 0, 1) := by decide +kernel
theorem dX8_reads_71 : decode cX8_reads 71 = .ok (.getfield 36, 3) := by decide +kernel
theorem dX8_reads_74 : decode cX8_reads 74 = .ok (.iload_n 3, 1) := by decide +kernel
theorem dX8_reads_75 : decode cX8_reads 75 = .ok (.caload, 1) := by decide +kernel
theorem dX8_reads_76 : decode cX8_reads 76 = .ok (.iload 6, 2) := by decide +kernel
theorem dX8_reads_78 : decode cX8_reads 78 = .ok (.if_icmp .eq 10, 3) := by decide +kernel
theorem dX8_reads_81 : decode cX8_reads 81 = .ok (.aload_n 0, 1) := by decide +kernel
theorem dX8_reads_82 : decode cX8_reads 82 = .ok (.iload_n 3, 1) := by decide +kernel
theorem dX8_reads_83 : decode cX8_reads 83 = .ok (.putfield 299, 3) := by decide +kernel
theorem dX8_reads_86 : decode cX8_reads 86 = .ok (.iconst 0, 1) := by decide +kernel
theorem dX8_reads_87 : decode cX8_reads 87 = .ok (.ireturn, 1) := by decide +kernel
theorem dX8_reads_88 : decode cX8_reads 88 = .ok (.iload 7, 2) := by decide +kernel
theorem dX8_reads_90 : decode cX8_reads 90 = .ok (.ifCond .eq 69, 3) := by decide +kernel
theorem dX8_reads_93 : decode cX8_reads 93 = .ok (.aload_n 0, 1) := by decide +kernel
theorem dX8_reads_94 : decode cX8_reads 94 = .ok (.getfield 93, 3) := by decide +kernel
theorem dX8_reads_97 : decode cX8_reads 97 = .ok (.iload 4, 2) := by decide +kernel
theorem dX8_reads_99 : decode cX8_reads 99 = .ok (.aload_n 0, 1) := by decide +kernel
theorem dX8_reads_100 : decode cX8_reads 100 = .ok (.getfield 36, 3) := by decide +kernel
theorem dX8_reads_103 : decode cX8_reads 103 = .ok (.iload_n 3, 1) := by decide +kernel
theorem dX8_reads_104 : decode cX8_reads 104 = .ok (.caload, 1) := by decide +kernel
theorem dX8_reads_105 : decode cX8_reads 105 = .ok (.bipush 48, 2) := by decide +kernel
theorem dX8_reads_107 : decode cX8_reads 107 = .ok (.isub, 1) := by decide +kernel
theorem dX8_reads_108 : decode cX8_reads 108 = .ok (.iastore, 1) := by decide +kernel
theorem dX8_reads_109 : decode cX8_reads 109 = .ok (.iload 6, 2) := by decide +kernel
theorem dX8_reads_111 : decode cX8_reads 111 = .ok (.bipush 78, 2) := by decide +kernel
theorem dX8_reads_113 : decode cX8_reads 113 = .ok (.if_icmp .ne 43, 3) := by decide +kernel
theorem dX8_reads_116 : decode cX8_reads 116 = .ok (.aload_n 0, 1) := by decide +kernel
theorem dX8_reads_117 : decode cX8_reads 117 = .ok (.iload_n 3, 1) := by decide +kernel
theorem dX8_reads_118 : decode cX8_reads 118 = .ok (.iconst 1, 1) := by decide +kernel
theorem dX8_reads_119 : decode cX8_reads 119 = .ok (.iadd, 1) := by decide +kernel
theorem dX8_reads_120 : decode cX8_reads 120 = .ok (.invokevirtual 296, 3) := by decide +kernel
theorem dX8_reads_123 : decode cX8_reads 123 = .ok (.ifCond .eq 33, 3) := by decide +kernel
theorem dX8_reads_126 : decode cX8_reads 126 = .ok (.iinc 3 1, 3) := by decide +kernel
theorem dX8_reads_129 : decode cX8_reads 129 = .ok (.aload_n 0, 1) := by decide +kernel
theorem dX8_reads_130 : decode cX8_reads 130 = .ok (.getfield 93, 3) := by decide +kernel
theorem dX8_reads_133 : decode cX8_reads 133 = .ok (.iload 4, 2) := by decide +kernel
theorem dX8_reads_135 : decode cX8_reads 135 = .ok (.bipush 10, 2) := by decide +kernel
theorem dX8_reads_137 : decode cX8_reads 137 = .ok (.aload_n 0, 1) := by decide +kernel
theorem dX8_reads_138 : decode cX8_reads 138 = .ok (.getfield 93, 3) := by decide +kernel
theorem dX8_reads_141 : decode cX8_reads 141 = .ok (.iload 4, 2) := by decide +kernel
theorem dX8_reads_143 : decode cX8_reads 143 = .ok (.iaload, 1) := by decide +kernel
theorem dX8_reads_144 : decode cX8_reads 144 = .ok (.imul, 1) := by decide +kernel
theorem dX8_reads_145 : decode cX8_reads 145 = .ok (.aload_n 0, 1) := by decide +kernel
theorem dX8_reads_146 : decode cX8_reads 146 = .ok (.getfield 36, 3) := by decide +kernel
theorem dX8_reads_149 : decode cX8_reads 149 = .ok (.iload_n 3, 1) := by decide +kernel
theorem dX8_reads_150 : decode cX8_reads 150 = .ok (.caload, 1) := by decide +kernel
theorem dX8_reads_151 : decode cX8_reads 151 = .ok (.iadd, 1) := by decide +kernel
theorem dX8_reads_152 : decode cX8_reads 152 = .ok (.bipush 48, 2) := by decide +kernel
theorem dX8_reads_154 : decode cX8_reads 154 = .ok (.isub, 1) := by decide +kernel
theorem dX8_reads_155 : decode cX8_reads 155 = .ok (.iastore, 1) := by decide +kernel
theorem dX8_reads_156 : decode cX8_reads 156 = .ok (.iinc 4 1, 3) := by decide +kernel
theorem dX8_reads_159 : decode cX8_reads 159 = .ok (.iinc 3 1, 3) := by decide +kernel
theorem dX8_reads_162 : decode cX8_reads 162 = .ok (.iinc 5 1, 3) := by decide +kernel
theorem dX8_reads_165 : decode cX8_reads 165 = .ok (.goto (-157), 3) := by decide +kernel
theorem dX8_reads_168 : decode cX8_reads 168 = .ok (.aload_n 0, 1) := by decide +kernel
theorem dX8_reads_169 : decode cX8_reads 169 = .ok (.iload_n 3, 1) := by decide +kernel
theorem dX8_reads_170 : decode cX8_reads 170 = .ok (.putfield 299, 3) := by decide +kernel
theorem dX8_reads_173 : decode cX8_reads 173 = .ok (.iconst 1, 1) := by decide +kernel
theorem dX8_reads_174 : decode cX8_reads 174 = .ok (.ireturn, 1) := by decide +kernel
theorem dX8_parses_0 : decode cX8_parses 0 = .ok (.aload_n 0, 1) := by decide +kernel
theorem dX8_parses_1 : decode cX8_parses 1 = .ok (.iconst 0, 1) := by decide +kernel
theorem dX8_parses_2 : decode cX8_parses 2 = .ok (.putfield 302, 3) := by decide +kernel
theorem dX8_parses_5 : decode cX8_parses 5 = .ok (.iconst 0, 1) := by decide +kernel
theorem dX8_parses_6 : decode cX8_parses 6 = .ok (.istore_n 1, 1) := by decide +kernel
theorem dX8_parses_7 : decode cX8_parses 7 = .ok (.iload_n 1, 1) := by decide +kernel
theorem dX8_parses_8 : decode cX8_parses 8 = .ok (.istore_n 2, 1) := by decide +kernel
theorem dX8_parses_9 : decode cX8_parses 9 = .ok (.iconst (-1), 1) := by decide +kernel
theorem dX8_parses_10 : decode cX8_parses 10 = .ok (.istore_n 3, 1) := by decide +kernel
theorem dX8_parses_11 : decode cX8_parses 11 = .ok (.iconst 0, 1) := by decide +kernel
theorem dX8_parses_12 : decode cX8_parses 12 = .ok (.istore 4, 2) := by decide +kernel
theorem dX8_parses_14 : decode cX8_parses 14 = .ok (.iload 4, 2) := by decide +kernel
theorem dX8_parses_16 : decode cX8_parses 16 = .ok (.aload_n 0, 1) := by decide +kernel
theorem dX8_parses_17 : decode cX8_parses 17 = .ok (.getfield 83, 3) := by decide +kernel
theorem dX8_parses_20 : decode cX8_parses 20 = .ok (.arraylength, 1) := by decide +kernel
theorem dX8_parses_21 : decode cX8_parses 21 = .ok (.if_icmp .ge 49, 3) := by decide +kernel
theorem dX8_parses_24 : decode cX8_parses 24 = .ok (.iload_n 3, 1) := by decide +kernel
theorem dX8_parses_25 : decode cX8_parses 25 = .ok (.iconst (-1), 1) := by decide +kernel
theorem dX8_parses_26 : decode cX8_parses 26 = .ok (.if_icmp .ne 44, 3) := by decide +kernel
theorem dX8_parses_29 : decode cX8_parses 29 = .ok (.aload_n 0, 1) := by decide +kernel
theorem dX8_parses_30 : decode cX8_parses 30 = .ok (.aload_n 0, 1) := by decide +kernel
theorem dX8_parses_31 : decode cX8_parses 31 = .ok (.getfield 83, 3) := by decide +kernel
theorem dX8_parses_34 : decode cX8_parses 34 = .ok (.iload 4, 2) := by decide +kernel
theorem dX8_parses_36 : decode cX8_parses 36 = .ok (.aaload, 1) := by decide +kernel
theorem dX8_parses_37 : decode cX8_parses 37 = .ok (.iload_n 1, 1) := by decide +kernel
theorem dX8_parses_38 : decode cX8_parses 38 = .ok (.invokevirtual 305, 3) := by decide +kernel
theorem dX8_parses_41 : decode cX8_parses 41 = .ok (.ifCond .eq 6, 3) := by decide +kernel
theorem dX8_parses_44 : decode cX8_parses 44 = .ok (.iload 4, 2) := by decide +kernel
theorem dX8_parses_46 : decode cX8_parses 46 = .ok (.istore_n 3, 1) := by decide +kernel
theorem dX8_parses_47 : decode cX8_parses 47 = .ok (.aload_n 0, 1) := by decide +kernel
theorem dX8_parses_48 : decode cX8_parses 48 = .ok (.getfield 299, 3) := by decide +kernel
theorem dX8_parses_51 : decode cX8_parses 51 = .ok (.iload_n 2, 1) := by decide +kernel
theorem dX8_parses_52 : decode cX8_parses 52 = .ok (.if_icmp .le 10, 3) := by decide +kernel
theorem dX8_parses_55 : decode cX8_parses 55 = .ok (.aload_n 0, 1) := by decide +kernel
theorem dX8_parses_56 : decode cX8_parses 56 = .ok (.getfield 299, 3) := by decide +kernel
theorem dX8_parses_59 : decode cX8_parses 59 = .ok (.goto 4, 3) := by decide +kernel
theorem dX8_parses_62 : decode cX8_parses 62 = .ok (.iload_n 2, 1) := by decide +kernel
theorem dX8_parses_63 : decode cX8_parses 63 = .ok (.istore_n 2, 1) := by decide +kernel
theorem dX8_parses_64 : decode cX8_parses 64 = .ok (.iinc 4 1, 3) := by decide +kernel
theorem dX8_parses_67 : decode cX8_parses 67 = .ok (.goto (-53), 3) := by decide +kernel
theorem dX8_parses_70 : decode cX8_parses 70 = .ok (.iload_n 3, 1) := by decide +kernel
theorem dX8_parses_71 : decode cX8_parses 71 = .ok (.iconst (-1), 1) := by decide +kernel
theorem dX8_parses_72 : decode cX8_parses 72 = .ok (.if_icmp .ne 5, 3) := by decide +kernel
theorem dX8_parses_75 : decode cX8_parses 75 = .ok (.iload_n 2, 1) := by decide +kernel
theorem dX8_parses_76 : decode cX8_parses 76 = .ok (.ireturn, 1) := by decide +kernel
theorem dX8_parses_77 : decode cX8_parses 77 = .ok (.aload_n 0, 1) := by decide +kernel
theorem dX8_parses_78 : decode cX8_parses 78 = .ok (.getfield 87, 3) := by decide +kernel
theorem dX8_parses_81 : decode cX8_parses 81 = .ok (.aload_n 0, 1) := by decide +kernel
theorem dX8_parses_82 : decode cX8_parses 82 = .ok (.getfield 302, 3) := by decide +kernel
theorem dX8_parses_85 : decode cX8_parses 85 = .ok (.iload_n 3, 1) := by decide +kernel
theorem dX8_parses_86 : decode cX8_parses 86 = .ok (.iastore, 1) := by decide +kernel
theorem dX8_parses_87 : decode cX8_parses 87 = .ok (.iconst 0, 1) := by decide +kernel
theorem dX8_parses_88 : decode cX8_parses 88 = .ok (.istore 4, 2) := by decide +kernel
theorem dX8_parses_90 : decode cX8_parses 90 = .ok (.iload 4, 2) := by decide +kernel
theorem dX8_parses_92 : decode cX8_parses 92 = .ok (.iconst 3, 1) := by decide +kernel
theorem dX8_parses_93 : decode cX8_parses 93 = .ok (.if_icmp .ge 30, 3) := by decide +kernel
theorem dX8_parses_96 : decode cX8_parses 96 = .ok (.aload_n 0, 1) := by decide +kernel
theorem dX8_parses_97 : decode cX8_parses 97 = .ok (.getfield 90, 3) := by decide +kernel
theorem dX8_parses_100 : decode cX8_parses 100 = .ok (.iconst 3, 1) := by decide +kernel
theorem dX8_parses_101 : decode cX8_parses 101 = .ok (.aload_n 0, 1) := by decide +kernel
theorem dX8_parses_102 : decode cX8_parses 102 = .ok (.getfield 302, 3) := by decide +kernel
theorem dX8_parses_105 : decode cX8_parses 105 = .ok (.imul, 1) := by decide +kernel
theorem dX8_parses_106 : decode cX8_parses 106 = .ok (.iload 4, 2) := by decide +kernel
theorem dX8_parses_108 : decode cX8_parses 108 = .ok (.iadd, 1) := by decide +kernel
theorem dX8_parses_109 : decode cX8_parses 109 = .ok (.aload_n 0, 1) := by decide +kernel
theorem dX8_parses_110 : decode cX8_parses 110 = .ok (.getfield 93, 3) := by decide +kernel
theorem dX8_parses_113 : decode cX8_parses 113 = .ok (.iload 4, 2) := by decide +kernel
theorem dX8_parses_115 : decode cX8_parses 115 = .ok (.iaload, 1) := by decide +kernel
theorem dX8_parses_116 : decode cX8_parses 116 = .ok (.iastore, 1) := by decide +kernel
theorem dX8_parses_117 : decode cX8_parses 117 = .ok (.iinc 4 1, 3) := by decide +kernel
theorem dX8_parses_120 : decode cX8_parses 120 = .ok (.goto (-30), 3) := by decide +kernel
theorem dX8_parses_123 : decode cX8_parses 123 = .ok (.aload_n 0, 1) := by decide +kernel
theorem dX8_parses_124 : decode cX8_parses 124 = .ok (.dup, 1) := by decide +kernel
theorem dX8_parses_125 : decode cX8_parses 125 = .ok (.getfield 302, 3) := by decide +kernel
theorem dX8_parses_128 : decode cX8_parses 128 = .ok (.iconst 1, 1) := by decide +kernel
theorem dX8_parses_129 : decode cX8_parses 129 = .ok (.iadd, 1) := by decide +kernel
theorem dX8_parses_130 : decode cX8_parses 130 = .ok (.putfield 302, 3) := by decide +kernel
theorem dX8_parses_133 : decode cX8_parses 133 = .ok (.aload_n 0, 1) := by decide +kernel
theorem dX8_parses_134 : decode cX8_parses 134 = .ok (.getfield 299, 3) := by decide +kernel
theorem dX8_parses_137 : decode cX8_parses 137 = .ok (.istore_n 1, 1) := by decide +kernel
theorem dX8_parses_138 : decode cX8_parses 138 = .ok (.iload_n 1, 1) := by decide +kernel
theorem dX8_parses_139 : decode cX8_parses 139 = .ok (.aload_n 0, 1) := by decide +kernel
theorem dX8_parses_140 : decode cX8_parses 140 = .ok (.getfield 286, 3) := by decide +kernel
theorem dX8_parses_143 : decode cX8_parses 143 = .ok (.if_icmp .ne 5, 3) := by decide +kernel
theorem dX8_parses_146 : decode cX8_parses 146 = .ok (.iconst (-1), 1) := by decide +kernel
theorem dX8_parses_147 : decode cX8_parses 147 = .ok (.ireturn, 1) := by decide +kernel
theorem dX8_parses_148 : decode cX8_parses 148 = .ok (.aload_n 0, 1) := by decide +kernel
theorem dX8_parses_149 : decode cX8_parses 149 = .ok (.getfield 36, 3) := by decide +kernel
theorem dX8_parses_152 : decode cX8_parses 152 = .ok (.iload_n 1, 1) := by decide +kernel
theorem dX8_parses_153 : decode cX8_parses 153 = .ok (.caload, 1) := by decide +kernel
theorem dX8_parses_154 : decode cX8_parses 154 = .ok (.bipush 59, 2) := by decide +kernel
theorem dX8_parses_156 : decode cX8_parses 156 = .ok (.if_icmp .eq 5, 3) := by decide +kernel
theorem dX8_parses_159 : decode cX8_parses 159 = .ok (.iload_n 1, 1) := by decide +kernel
theorem dX8_parses_160 : decode cX8_parses 160 = .ok (.ireturn, 1) := by decide +kernel
theorem dX8_parses_161 : decode cX8_parses 161 = .ok (.iinc 1 1, 3) := by decide +kernel
theorem dX8_parses_164 : decode cX8_parses 164 = .ok (.goto (-157), 3) := by decide +kernel
theorem dX8_acts_0 : decode cX8_acts 0 = .ok (.iload_n 1, 1) := by decide +kernel
theorem dX8_acts_1 : decode cX8_acts 1 = .ok (.tableswitch 133 0 10 #[59, 65, 71, 78, 85, 90, 97, 104, 110, 117, 124], 59) := by decide +kernel
theorem dX8_acts_60 : decode cX8_acts 60 = .ok (.aload_n 0, 1) := by decide +kernel
theorem dX8_acts_61 : decode cX8_acts 61 = .ok (.iload_n 2, 1) := by decide +kernel
theorem dX8_acts_62 : decode cX8_acts 62 = .ok (.invokevirtual 137, 3) := by decide +kernel
theorem dX8_acts_65 : decode cX8_acts 65 = .ok (.ireturn, 1) := by decide +kernel
theorem dX8_acts_66 : decode cX8_acts 66 = .ok (.aload_n 0, 1) := by decide +kernel
theorem dX8_acts_67 : decode cX8_acts 67 = .ok (.iload_n 2, 1) := by decide +kernel
theorem dX8_acts_68 : decode cX8_acts 68 = .ok (.invokevirtual 158, 3) := by decide +kernel
theorem dX8_acts_71 : decode cX8_acts 71 = .ok (.ireturn, 1) := by decide +kernel
theorem dX8_acts_72 : decode cX8_acts 72 = .ok (.aload_n 0, 1) := by decide +kernel
theorem dX8_acts_73 : decode cX8_acts 73 = .ok (.iload_n 2, 1) := by decide +kernel
theorem dX8_acts_74 : decode cX8_acts 74 = .ok (.iload_n 3, 1) := by decide +kernel
theorem dX8_acts_75 : decode cX8_acts 75 = .ok (.invokevirtual 167, 3) := by decide +kernel
theorem dX8_acts_78 : decode cX8_acts 78 = .ok (.ireturn, 1) := by decide +kernel
theorem dX8_acts_79 : decode cX8_acts 79 = .ok (.aload_n 0, 1) := by decide +kernel
theorem dX8_acts_80 : decode cX8_acts 80 = .ok (.iload_n 2, 1) := by decide +kernel
theorem dX8_acts_81 : decode cX8_acts 81 = .ok (.iload_n 3, 1) := by decide +kernel
theorem dX8_acts_82 : decode cX8_acts 82 = .ok (.invokevirtual 170, 3) := by decide +kernel
theorem dX8_acts_85 : decode cX8_acts 85 = .ok (.ireturn, 1) := by decide +kernel
theorem dX8_acts_86 : decode cX8_acts 86 = .ok (.aload_n 0, 1) := by decide +kernel
theorem dX8_acts_87 : decode cX8_acts 87 = .ok (.invokevirtual 173, 3) := by decide +kernel
theorem dX8_acts_90 : decode cX8_acts 90 = .ok (.ireturn, 1) := by decide +kernel
theorem dX8_acts_91 : decode cX8_acts 91 = .ok (.aload_n 0, 1) := by decide +kernel
theorem dX8_acts_92 : decode cX8_acts 92 = .ok (.iload_n 2, 1) := by decide +kernel
theorem dX8_acts_93 : decode cX8_acts 93 = .ok (.iload_n 3, 1) := by decide +kernel
theorem dX8_acts_94 : decode cX8_acts 94 = .ok (.invokevirtual 183, 3) := by decide +kernel
theorem dX8_acts_97 : decode cX8_acts 97 = .ok (.ireturn, 1) := by decide +kernel
theorem dX8_acts_98 : decode cX8_acts 98 = .ok (.aload_n 0, 1) := by decide +kernel
theorem dX8_acts_99 : decode cX8_acts 99 = .ok (.iload_n 2, 1) := by decide +kernel
theorem dX8_acts_100 : decode cX8_acts 100 = .ok (.iload_n 3, 1) := by decide +kernel
theorem dX8_acts_101 : decode cX8_acts 101 = .ok (.invokevirtual 186, 3) := by decide +kernel
theorem dX8_acts_104 : decode cX8_acts 104 = .ok (.ireturn, 1) := by decide +kernel
theorem dX8_acts_105 : decode cX8_acts 105 = .ok (.aload_n 0, 1) := by decide +kernel
theorem dX8_acts_106 : decode cX8_acts 106 = .ok (.iload_n 2, 1) := by decide +kernel
theorem dX8_acts_107 : decode cX8_acts 107 = .ok (.invokevirtual 211, 3) := by decide +kernel
theorem dX8_acts_110 : decode cX8_acts 110 = .ok (.ireturn, 1) := by decide +kernel
theorem dX8_acts_111 : decode cX8_acts 111 = .ok (.aload_n 0, 1) := by decide +kernel
theorem dX8_acts_112 : decode cX8_acts 112 = .ok (.iload_n 2, 1) := by decide +kernel
theorem dX8_acts_113 : decode cX8_acts 113 = .ok (.iload_n 3, 1) := by decide +kernel
theorem dX8_acts_114 : decode cX8_acts 114 = .ok (.invokevirtual 252, 3) := by decide +kernel
theorem dX8_acts_117 : decode cX8_acts 117 = .ok (.ireturn, 1) := by decide +kernel
theorem dX8_acts_118 : decode cX8_acts 118 = .ok (.aload_n 0, 1) := by decide +kernel
theorem dX8_acts_119 : decode cX8_acts 119 = .ok (.iload_n 2, 1) := by decide +kernel
theorem dX8_acts_120 : decode cX8_acts 120 = .ok (.iload_n 3, 1) := by decide +kernel
theorem dX8_acts_121 : decode cX8_acts 121 = .ok (.invokevirtual 255, 3) := by decide +kernel
theorem dX8_acts_124 : decode cX8_acts 124 = .ok (.ireturn, 1) := by decide +kernel
theorem dX8_acts_125 : decode cX8_acts 125 = .ok (.aload_n 0, 1) := by decide +kernel
theorem dX8_acts_126 : decode cX8_acts 126 = .ok (.iload_n 2, 1) := by decide +kernel
theorem dX8_acts_127 : decode cX8_acts 127 = .ok (.iload_n 3, 1) := by decide +kernel
theorem dX8_acts_128 : decode cX8_acts 128 = .ok (.iload 4, 2) := by decide +kernel
theorem dX8_acts_130 : decode cX8_acts 130 = .ok (.invokevirtual 258, 3) := by decide +kernel
theorem dX8_acts_133 : decode cX8_acts 133 = .ok (.ireturn, 1) := by decide +kernel
theorem dX8_acts_134 : decode cX8_acts 134 = .ok (.aload_n 0, 1) := by decide +kernel
theorem dX8_acts_135 : decode cX8_acts 135 = .ok (.invokevirtual 273, 3) := by decide +kernel
theorem dX8_acts_138 : decode cX8_acts 138 = .ok (.ireturn, 1) := by decide +kernel
theorem dX8_execute_0 : decode cX8_execute 0 = .ok (.aload_n 0, 1) := by decide +kernel
theorem dX8_execute_1 : decode cX8_execute 1 = .ok (.aload_n 0, 1) := by decide +kernel
theorem dX8_execute_2 : decode cX8_execute 2 = .ok (.getfield 283, 3) := by decide +kernel
theorem dX8_execute_5 : decode cX8_execute 5 = .ok (.putfield 286, 3) := by decide +kernel
theorem dX8_execute_8 : decode cX8_execute 8 = .ok (.aload_n 0, 1) := by decide +kernel
theorem dX8_execute_9 : decode cX8_execute 9 = .ok (.iconst 0, 1) := by decide +kernel
theorem dX8_execute_10 : decode cX8_execute 10 = .ok (.putfield 283, 3) := by decide +kernel
theorem dX8_execute_13 : decode cX8_execute 13 = .ok (.aload_n 0, 1) := by decide +kernel
theorem dX8_execute_14 : decode cX8_execute 14 = .ok (.invokevirtual 309, 3) := by decide +kernel
theorem dX8_execute_17 : decode cX8_execute 17 = .ok (.istore_n 1, 1) := by decide +kernel
theorem dX8_execute_18 : decode cX8_execute 18 = .ok (.iload_n 1, 1) := by decide +kernel
theorem dX8_execute_19 : decode cX8_execute 19 = .ok (.iconst (-1), 1) := by decide +kernel
theorem dX8_execute_20 : decode cX8_execute 20 = .ok (.if_icmp .eq 14, 3) := by decide +kernel
theorem dX8_execute_23 : decode cX8_execute 23 = .ok (.aload_n 0, 1) := by decide +kernel
theorem dX8_execute_24 : decode cX8_execute 24 = .ok (.iload_n 1, 1) := by decide +kernel
theorem dX8_execute_25 : decode cX8_execute 25 = .ok (.putfield 25, 3) := by decide +kernel
theorem dX8_execute_28 : decode cX8_execute 28 = .ok (.aload_n 0, 1) := by decide +kernel
theorem dX8_execute_29 : decode cX8_execute 29 = .ok (.iconst 1, 1) := by decide +kernel
theorem dX8_execute_30 : decode cX8_execute 30 = .ok (.invokevirtual 106, 3) := by decide +kernel
theorem dX8_execute_33 : decode cX8_execute 33 = .ok (.ireturn, 1) := by decide +kernel
theorem dX8_execute_34 : decode cX8_execute 34 = .ok (.aload_n 0, 1) := by decide +kernel
theorem dX8_execute_35 : decode cX8_execute 35 = .ok (.invokevirtual 134, 3) := by decide +kernel
theorem dX8_execute_38 : decode cX8_execute 38 = .ok (.aload_n 0, 1) := by decide +kernel
theorem dX8_execute_39 : decode cX8_execute 39 = .ok (.getfield 7, 3) := by decide +kernel
theorem dX8_execute_42 : decode cX8_execute 42 = .ok (.aload_n 0, 1) := by decide +kernel
theorem dX8_execute_43 : decode cX8_execute 43 = .ok (.getfield 19, 3) := by decide +kernel
theorem dX8_execute_46 : decode cX8_execute 46 = .ok (.invokestatic 99, 3) := by decide +kernel
theorem dX8_execute_49 : decode cX8_execute 49 = .ok (.iconst 0, 1) := by decide +kernel
theorem dX8_execute_50 : decode cX8_execute 50 = .ok (.istore_n 2, 1) := by decide +kernel
theorem dX8_execute_51 : decode cX8_execute 51 = .ok (.iload_n 2, 1) := by decide +kernel
theorem dX8_execute_52 : decode cX8_execute 52 = .ok (.aload_n 0, 1) := by decide +kernel
theorem dX8_execute_53 : decode cX8_execute 53 = .ok (.getfield 302, 3) := by decide +kernel
theorem dX8_execute_56 : decode cX8_execute 56 = .ok (.if_icmp .ge 88, 3) := by decide +kernel
theorem dX8_execute_59 : decode cX8_execute 59 = .ok (.aload_n 0, 1) := by decide +kernel
theorem dX8_execute_60 : decode cX8_execute 60 = .ok (.aload_n 0, 1) := by decide +kernel
theorem dX8_execute_61 : decode cX8_execute 61 = .ok (.getfield 87, 3) := by decide +kernel
theorem dX8_execute_64 : decode cX8_execute 64 = .ok (.iload_n 2, 1) := by decide +kernel
theorem dX8_execute_65 : decode cX8_execute 65 = .ok (.iaload, 1) := by decide +kernel
theorem dX8_execute_66 : decode cX8_execute 66 = .ok (.aload_n 0, 1) := by decide +kernel
theorem dX8_execute_67 : decode cX8_execute 67 = .ok (.getfield 90, 3) := by decide +kernel
theorem dX8_execute_70 : decode cX8_execute 70 = .ok (.iconst 3, 1) := by decide +kernel
theorem dX8_execute_71 : decode cX8_execute 71 = .ok (.iload_n 2, 1) := by decide +kernel
theorem dX8_execute_72 : decode cX8_execute 72 = .ok (.imul, 1) := by decide +kernel
theorem dX8_execute_73 : decode cX8_execute 73 = .ok (.iaload, 1) := by decide +kernel
theorem dX8_execute_74 : decode cX8_execute 74 = .ok (.aload_n 0, 1) := by decide +kernel
theorem dX8_execute_75 : decode cX8_execute 75 = .ok (.getfield 90, 3) := by decide +kernel
theorem dX8_execute_78 : decode cX8_execute 78 = .ok (.iconst 3, 1) := by decide +kernel
theorem dX8_execute_79 : decode cX8_execute 79 = .ok (.iload_n 2, 1) := by decide +kernel
theorem dX8_execute_80 : decode cX8_execute 80 = .ok (.imul, 1) := by decide +kernel
theorem dX8_execute_81 : decode cX8_execute 81 = .ok (.iconst 1, 1) := by decide +kernel
theorem dX8_execute_82 : decode cX8_execute 82 = .ok (.iadd, 1) := by decide +kernel
theorem dX8_execute_83 : decode cX8_execute 83 = .ok (.iaload, 1) := by decide +kernel
theorem dX8_execute_84 : decode cX8_execute 84 = .ok (.aload_n 0, 1) := by decide +kernel
theorem dX8_execute_85 : decode cX8_execute 85 = .ok (.getfield 90, 3) := by decide +kernel
theorem dX8_execute_88 : decode cX8_execute 88 = .ok (.iconst 3, 1) := by decide +kernel
theorem dX8_execute_89 : decode cX8_execute 89 = .ok (.iload_n 2, 1) := by decide +kernel
theorem dX8_execute_90 : decode cX8_execute 90 = .ok (.imul, 1) := by decide +kernel
theorem dX8_execute_91 : decode cX8_execute 91 = .ok (.iconst 2, 1) := by decide +kernel
theorem dX8_execute_92 : decode cX8_execute 92 = .ok (.iadd, 1) := by decide +kernel
theorem dX8_execute_93 : decode cX8_execute 93 = .ok (.iaload, 1) := by decide +kernel
theorem dX8_execute_94 : decode cX8_execute 94 = .ok (.invokevirtual 312, 3) := by decide +kernel
theorem dX8_execute_97 : decode cX8_execute 97 = .ok (.istore_n 3, 1) := by decide +kernel
theorem dX8_execute_98 : decode cX8_execute 98 = .ok (.aload_n 0, 1) := by decide +kernel
theorem dX8_execute_99 : decode cX8_execute 99 = .ok (.getfield 103, 3) := by decide +kernel
theorem dX8_execute_102 : decode cX8_execute 102 = .ok (.ifCond .ne 6, 3) := by decide +kernel
theorem dX8_execute_105 : decode cX8_execute 105 = .ok (.goto 33, 3) := by decide +kernel
theorem dX8_execute_108 : decode cX8_execute 108 = .ok (.aload_n 0, 1) := by decide +kernel
theorem dX8_execute_109 : decode cX8_execute 109 = .ok (.iload_n 2, 1) := by decide +kernel
theorem dX8_execute_110 : decode cX8_execute 110 = .ok (.putfield 29, 3) := by decide +kernel
theorem dX8_execute_113 : decode cX8_execute 113 = .ok (.aload_n 0, 1) := by decide +kernel
theorem dX8_execute_114 : decode cX8_execute 114 = .ok (.aload_n 0, 1) := by decide +kernel
theorem dX8_execute_115 : decode cX8_execute 115 = .ok (.getfield 103, 3) := by decide +kernel
theorem dX8_execute_118 : decode cX8_execute 118 = .ok (.putfield 315, 3) := by decide +kernel
theorem dX8_execute_121 : decode cX8_execute 121 = .ok (.aload_n 0, 1) := by decide +kernel
theorem dX8_execute_122 : decode cX8_execute 122 = .ok (.getfield 19, 3) := by decide +kernel
theorem dX8_execute_125 : decode cX8_execute 125 = .ok (.aload_n 0, 1) := by decide +kernel
theorem dX8_execute_126 : decode cX8_execute 126 = .ok (.getfield 7, 3) := by decide +kernel
theorem dX8_execute_129 : decode cX8_execute 129 = .ok (.invokestatic 99, 3) := by decide +kernel
theorem dX8_execute_132 : decode cX8_execute 132 = .ok (.aload_n 0, 1) := by decide +kernel
theorem dX8_execute_133 : decode cX8_execute 133 = .ok (.iconst 2, 1) := by decide +kernel
theorem dX8_execute_134 : decode cX8_execute 134 = .ok (.invokevirtual 106, 3) := by decide +kernel
theorem dX8_execute_137 : decode cX8_execute 137 = .ok (.ireturn, 1) := by decide +kernel
theorem dX8_execute_138 : decode cX8_execute 138 = .ok (.iinc 2 1, 3) := by decide +kernel
theorem dX8_execute_141 : decode cX8_execute 141 = .ok (.goto (-90), 3) := by decide +kernel
theorem dX8_execute_144 : decode cX8_execute 144 = .ok (.aload_n 0, 1) := by decide +kernel
theorem dX8_execute_145 : decode cX8_execute 145 = .ok (.aload_n 0, 1) := by decide +kernel
theorem dX8_execute_146 : decode cX8_execute 146 = .ok (.getfield 302, 3) := by decide +kernel
theorem dX8_execute_149 : decode cX8_execute 149 = .ok (.iconst 0, 1) := by decide +kernel
theorem dX8_execute_150 : decode cX8_execute 150 = .ok (.iconst 0, 1) := by decide +kernel
theorem dX8_execute_151 : decode cX8_execute 151 = .ok (.invokevirtual 140, 3) := by decide +kernel
theorem dX8_execute_154 : decode cX8_execute 154 = .ok (.ireturn, 1) := by decide +kernel
theorem dX8_errorPosition_0 : decode cX8_errorPosition 0 = .ok (.aload_n 0, 1) := by decide +kernel
theorem dX8_errorPosition_1 : decode cX8_errorPosition 1 = .ok (.getfield 25, 3) := by decide +kernel
theorem dX8_errorPosition_4 : decode cX8_errorPosition 4 = .ok (.iconst (-1), 1) := by decide +kernel
theorem dX8_errorPosition_5 : decode cX8_errorPosition 5 = .ok (.if_icmp .ne 11, 3) := by decide +kernel
theorem dX8_errorPosition_8 : decode cX8_errorPosition 8 = .ok (.aload_n 0, 1) := by decide +kernel
theorem dX8_errorPosition_9 : decode cX8_errorPosition 9 = .ok (.iconst 1, 1) := by decide +kernel
theorem dX8_errorPosition_10 : decode cX8_errorPosition 10 = .ok (.invokevirtual 106, 3) := by decide +kernel
theorem dX8_errorPosition_13 : decode cX8_errorPosition 13 = .ok (.goto 11, 3) := by decide +kernel
theorem dX8_errorPosition_16 : decode cX8_errorPosition 16 = .ok (.aload_n 0, 1) := by decide +kernel
theorem dX8_errorPosition_17 : decode cX8_errorPosition 17 = .ok (.aload_n 0, 1) := by decide +kernel
theorem dX8_errorPosition_18 : decode cX8_errorPosition 18 = .ok (.getfield 25, 3) := by decide +kernel
theorem dX8_errorPosition_21 : decode cX8_errorPosition 21 = .ok (.invokevirtual 113, 3) := by decide +kernel
theorem dX8_errorPosition_24 : decode cX8_errorPosition 24 = .ok (.ireturn, 1) := by decide +kernel
theorem dX8_failedCommand_0 : decode cX8_failedCommand 0 = .ok (.aload_n 0, 1) := by decide +kernel
theorem dX8_failedCommand_1 : decode cX8_failedCommand 1 = .ok (.getfield 29, 3) := by decide +kernel
theorem dX8_failedCommand_4 : decode cX8_failedCommand 4 = .ok (.iconst (-1), 1) := by decide +kernel
theorem dX8_failedCommand_5 : decode cX8_failedCommand 5 = .ok (.if_icmp .ne 11, 3) := by decide +kernel
theorem dX8_failedCommand_8 : decode cX8_failedCommand 8 = .ok (.aload_n 0, 1) := by decide +kernel
theorem dX8_failedCommand_9 : decode cX8_failedCommand 9 = .ok (.iconst 1, 1) := by decide +kernel
theorem dX8_failedCommand_10 : decode cX8_failedCommand 10 = .ok (.invokevirtual 106, 3) := by decide +kernel
theorem dX8_failedCommand_13 : decode cX8_failedCommand 13 = .ok (.goto 11, 3) := by decide +kernel
theorem dX8_failedCommand_16 : decode cX8_failedCommand 16 = .ok (.aload_n 0, 1) := by decide +kernel
theorem dX8_failedCommand_17 : decode cX8_failedCommand 17 = .ok (.aload_n 0, 1) := by decide +kernel
theorem dX8_failedCommand_18 : decode cX8_failedCommand 18 = .ok (.getfield 29, 3) := by decide +kernel
theorem dX8_failedCommand_21 : decode cX8_failedCommand 21 = .ok (.invokevirtual 113, 3) := by decide +kernel
theorem dX8_failedCommand_24 : decode cX8_failedCommand 24 = .ok (.ireturn, 1) := by decide +kernel
theorem dX8_failureKind_0 : decode cX8_failureKind 0 = .ok (.aload_n 0, 1) := by decide +kernel
theorem dX8_failureKind_1 : decode cX8_failureKind 1 = .ok (.getfield 29, 3) := by decide +kernel
theorem dX8_failureKind_4 : decode cX8_failureKind 4 = .ok (.iconst (-1), 1) := by decide +kernel
theorem dX8_failureKind_5 : decode cX8_failureKind 5 = .ok (.if_icmp .ne 11, 3) := by decide +kernel
theorem dX8_failureKind_8 : decode cX8_failureKind 8 = .ok (.aload_n 0, 1) := by decide +kernel
theorem dX8_failureKind_9 : decode cX8_failureKind 9 = .ok (.iconst 1, 1) := by decide +kernel
theorem dX8_failureKind_10 : decode cX8_failureKind 10 = .ok (.invokevirtual 106, 3) := by decide +kernel
theorem dX8_failureKind_13 : decode cX8_failureKind 13 = .ok (.goto 11, 3) := by decide +kernel
theorem dX8_failureKind_16 : decode cX8_failureKind 16 = .ok (.aload_n 0, 1) := by decide +kernel
theorem dX8_failureKind_17 : decode cX8_failureKind 17 = .ok (.aload_n 0, 1) := by decide +kernel
theorem dX8_failureKind_18 : decode cX8_failureKind 18 = .ok (.getfield 315, 3) := by decide +kernel
theorem dX8_failureKind_21 : decode cX8_failureKind 21 = .ok (.invokevirtual 113, 3) := by decide +kernel

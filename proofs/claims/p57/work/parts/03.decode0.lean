theorem dX0_init_0 : decode cX0_init 0 = .ok (.aload_n 0, 1) := by decide +kernel
theorem dX0_init_1 : decode cX0_init 1 = .ok (.invokespecial 3, 3) := by decide +kernel
theorem dX0_init_4 : decode cX0_init 4 = .ok (.aload_n 0, 1) := by decide +kernel
theorem dX0_init_5 : decode cX0_init 5 = .ok (.aload_n 1, 1) := by decide +kernel
theorem dX0_init_6 : decode cX0_init 6 = .ok (.putfield 9, 3) := by decide +kernel
theorem dX0_init_9 : decode cX0_init 9 = .ok (.aload_n 0, 1) := by decide +kernel
theorem dX0_init_10 : decode cX0_init 10 = .ok (.bipush 49, 2) := by decide +kernel
theorem dX0_init_12 : decode cX0_init 12 = .ok (.newarray .int, 2) := by decide +kernel
theorem dX0_init_14 : decode cX0_init 14 = .ok (.putfield 15, 3) := by decide +kernel
theorem dX0_init_17 : decode cX0_init 17 = .ok (.aload_n 0, 1) := by decide +kernel
theorem dX0_init_18 : decode cX0_init 18 = .ok (.bipush 7, 2) := by decide +kernel
theorem dX0_init_20 : decode cX0_init 20 = .ok (.newarray .int, 2) := by decide +kernel
theorem dX0_init_22 : decode cX0_init 22 = .ok (.putfield 19, 3) := by decide +kernel
theorem dX0_init_25 : decode cX0_init 25 = .ok (.aload_n 0, 1) := by decide +kernel
theorem dX0_init_26 : decode cX0_init 26 = .ok (.bipush 7, 2) := by decide +kernel
theorem dX0_init_28 : decode cX0_init 28 = .ok (.newarray .int, 2) := by decide +kernel
theorem dX0_init_30 : decode cX0_init 30 = .ok (.putfield 22, 3) := by decide +kernel
theorem dX0_init_33 : decode cX0_init 33 = .ok (.aload_n 0, 1) := by decide +kernel
theorem dX0_init_34 : decode cX0_init 34 = .ok (.bipush 28, 2) := by decide +kernel
theorem dX0_init_36 : decode cX0_init 36 = .ok (.newarray .int, 2) := by decide +kernel
theorem dX0_init_38 : decode cX0_init 38 = .ok (.putfield 25, 3) := by decide +kernel
theorem dX0_init_41 : decode cX0_init 41 = .ok (.return_, 1) := by decide +kernel
theorem dX0_findBest_0 : decode cX0_findBest 0 = .ok (.aload_n 0, 1) := by decide +kernel
theorem dX0_findBest_1 : decode cX0_findBest 1 = .ok (.invokevirtual 28, 3) := by decide +kernel
theorem dX0_findBest_4 : decode cX0_findBest 4 = .ok (.aload_n 0, 1) := by decide +kernel
theorem dX0_findBest_5 : decode cX0_findBest 5 = .ok (.bipush 37, 2) := by decide +kernel
theorem dX0_findBest_7 : decode cX0_findBest 7 = .ok (.putfield 31, 3) := by decide +kernel
theorem dX0_findBest_10 : decode cX0_findBest 10 = .ok (.aload_n 0, 1) := by decide +kernel
theorem dX0_findBest_11 : decode cX0_findBest 11 = .ok (.iconst 0, 1) := by decide +kernel
theorem dX0_findBest_12 : decode cX0_findBest 12 = .ok (.iconst 0, 1) := by decide +kernel
theorem dX0_findBest_13 : decode cX0_findBest 13 = .ok (.invokestatic 35, 3) := by decide +kernel
theorem dX0_findBest_16 : decode cX0_findBest 16 = .ok (.aload_n 0, 1) := by decide +kernel
theorem dX0_findBest_17 : decode cX0_findBest 17 = .ok (.getfield 31, 3) := by decide +kernel
theorem dX0_findBest_20 : decode cX0_findBest 20 = .ok (.ireturn, 1) := by decide +kernel
theorem dX0_fewestByTrial_0 : decode cX0_fewestByTrial 0 = .ok (.aload_n 0, 1) := by decide +kernel
theorem dX0_fewestByTrial_1 : decode cX0_fewestByTrial 1 = .ok (.invokevirtual 28, 3) := by decide +kernel
theorem dX0_fewestByTrial_4 : decode cX0_fewestByTrial 4 = .ok (.aload_n 0, 1) := by decide +kernel
theorem dX0_fewestByTrial_5 : decode cX0_fewestByTrial 5 = .ok (.iconst 0, 1) := by decide +kernel
theorem dX0_fewestByTrial_6 : decode cX0_fewestByTrial 6 = .ok (.iconst 0, 1) := by decide +kernel
theorem dX0_fewestByTrial_7 : decode cX0_fewestByTrial 7 = .ok (.invokestatic 39, 3) := by decide +kernel
theorem dX0_fewestByTrial_10 : decode cX0_fewestByTrial 10 = .ok (.ireturn, 1) := by decide +kernel
theorem dX0_carryOut_0 : decode cX0_carryOut 0 = .ok (.aload_n 0, 1) := by decide +kernel
theorem dX0_carryOut_1 : decode cX0_carryOut 1 = .ok (.invokevirtual 43, 3) := by decide +kernel
theorem dX0_carryOut_4 : decode cX0_carryOut 4 = .ok (.istore_n 1, 1) := by decide +kernel
theorem dX0_carryOut_5 : decode cX0_carryOut 5 = .ok (.iconst 0, 1) := by decide +kernel
theorem dX0_carryOut_6 : decode cX0_carryOut 6 = .ok (.istore_n 2, 1) := by decide +kernel
theorem dX0_carryOut_7 : decode cX0_carryOut 7 = .ok (.iload_n 2, 1) := by decide +kernel
theorem dX0_carryOut_8 : decode cX0_carryOut 8 = .ok (.aload_n 0, 1) := by decide +kernel
theorem dX0_carryOut_9 : decode cX0_carryOut 9 = .ok (.getfield 9, 3) := by decide +kernel
theorem dX0_carryOut_12 : decode cX0_carryOut 12 = .ok (.getfield 47, 3) := by decide +kernel
theorem dX0_carryOut_15 : decode cX0_carryOut 15 = .ok (.if_icmp .ge 28, 3) := by decide +kernel
theorem dX0_carryOut_18 : decode cX0_carryOut 18 = .ok (.aload_n 0, 1) := by decide +kernel
theorem dX0_carryOut_19 : decode cX0_carryOut 19 = .ok (.getfield 9, 3) := by decide +kernel
theorem dX0_carryOut_22 : decode cX0_carryOut 22 = .ok (.iload_n 2, 1) := by decide +kernel
theorem dX0_carryOut_23 : decode cX0_carryOut 23 = .ok (.iconst 1, 1) := by decide +kernel
theorem dX0_carryOut_24 : decode cX0_carryOut 24 = .ok (.aload_n 0, 1) := by decide +kernel
theorem dX0_carryOut_25 : decode cX0_carryOut 25 = .ok (.getfield 22, 3) := by decide +kernel
theorem dX0_carryOut_28 : decode cX0_carryOut 28 = .ok (.iload_n 2, 1) := by decide +kernel
theorem dX0_carryOut_29 : decode cX0_carryOut 29 = .ok (.invokestatic 52, 3) := by decide +kernel
theorem dX0_carryOut_32 : decode cX0_carryOut 32 = .ok (.ishl, 1) := by decide +kernel
theorem dX0_carryOut_33 : decode cX0_carryOut 33 = .ok (.invokevirtual 56, 3) := by decide +kernel
theorem dX0_carryOut_36 : decode cX0_carryOut 36 = .ok (.pop, 1) := by decide +kernel
theorem dX0_carryOut_37 : decode cX0_carryOut 37 = .ok (.iinc 2 1, 3) := by decide +kernel
theorem dX0_carryOut_40 : decode cX0_carryOut 40 = .ok (.goto (-33), 3) := by decide +kernel
theorem dX0_carryOut_43 : decode cX0_carryOut 43 = .ok (.iload_n 1, 1) := by decide +kernel
theorem dX0_carryOut_44 : decode cX0_carryOut 44 = .ok (.ireturn, 1) := by decide +kernel
theorem dX0_collectCommon_0 : decode cX0_collectCommon 0 = .ok (.iconst 0, 1) := by decide +kernel
theorem dX0_collectCommon_1 : decode cX0_collectCommon 1 = .ok (.istore_n 1, 1) := by decide +kernel
theorem dX0_collectCommon_2 : decode cX0_collectCommon 2 = .ok (.iload_n 1, 1) := by decide +kernel
theorem dX0_collectCommon_3 : decode cX0_collectCommon 3 = .ok (.bipush 49, 2) := by decide +kernel
theorem dX0_collectCommon_5 : decode cX0_collectCommon 5 = .ok (.if_icmp .ge 18, 3) := by decide +kernel
theorem dX0_collectCommon_8 : decode cX0_collectCommon 8 = .ok (.aload_n 0, 1) := by decide +kernel
theorem dX0_collectCommon_9 : decode cX0_collectCommon 9 = .ok (.getfield 15, 3) := by decide +kernel
theorem dX0_collectCommon_12 : decode cX0_collectCommon 12 = .ok (.iload_n 1, 1) := by decide +kernel
theorem dX0_collectCommon_13 : decode cX0_collectCommon 13 = .ok (.iconst 0, 1) := by decide +kernel
theorem dX0_collectCommon_14 : decode cX0_collectCommon 14 = .ok (.invokestatic 60, 3) := by decide +kernel
theorem dX0_collectCommon_17 : decode cX0_collectCommon 17 = .ok (.iinc 1 1, 3) := by decide +kernel
theorem dX0_collectCommon_20 : decode cX0_collectCommon 20 = .ok (.goto (-18), 3) := by decide +kernel
theorem dX0_collectCommon_23 : decode cX0_collectCommon 23 = .ok (.iconst 0, 1) := by decide +kernel
theorem dX0_collectCommon_24 : decode cX0_collectCommon 24 = .ok (.istore_n 1, 1) := by decide +kernel
theorem dX0_collectCommon_25 : decode cX0_collectCommon 25 = .ok (.iload_n 1, 1) := by decide +kernel
theorem dX0_collectCommon_26 : decode cX0_collectCommon 26 = .ok (.aload_n 0, 1) := by decide +kernel
theorem dX0_collectCommon_27 : decode cX0_collectCommon 27 = .ok (.getfield 9, 3) := by decide +kernel
theorem dX0_collectCommon_30 : decode cX0_collectCommon 30 = .ok (.getfield 64, 3) := by decide +kernel
theorem dX0_collectCommon_33 : decode cX0_collectCommon 33 = .ok (.if_icmp .ge 21, 3) := by decide +kernel
theorem dX0_collectCommon_36 : decode cX0_collectCommon 36 = .ok (.aload_n 0, 1) := by decide +kernel
theorem dX0_collectCommon_37 : decode cX0_collectCommon 37 = .ok (.aload_n 0, 1) := by decide +kernel
theorem dX0_collectCommon_38 : decode cX0_collectCommon 38 = .ok (.getfield 9, 3) := by decide +kernel
theorem dX0_collectCommon_41 : decode cX0_collectCommon 41 = .ok (.iload_n 1, 1) := by decide +kernel
theorem dX0_collectCommon_42 : decode cX0_collectCommon 42 = .ok (.invokevirtual 67, 3) := by decide +kernel
theorem dX0_collectCommon_45 : decode cX0_collectCommon 45 = .ok (.invokevirtual 71, 3) := by decide +kernel
theorem dX0_collectCommon_48 : decode cX0_collectCommon 48 = .ok (.iinc 1 1, 3) := by decide +kernel
theorem dX0_collectCommon_51 : decode cX0_collectCommon 51 = .ok (.goto (-26), 3) := by decide +kernel
theorem dX0_collectCommon_54 : decode cX0_collectCommon 54 = .ok (.return_, 1) := by decide +kernel
theorem dX0_countPairs_0 : decode cX0_countPairs 0 = .ok (.iconst 0, 1) := by decide +kernel
theorem dX0_countPairs_1 : decode cX0_countPairs 1 = .ok (.istore_n 2, 1) := by decide +kernel
theorem dX0_countPairs_2 : decode cX0_countPairs 2 = .ok (.iload_n 2, 1) := by decide +kernel
theorem dX0_countPairs_3 : decode cX0_countPairs 3 = .ok (.bipush 7, 2) := by decide +kernel
theorem dX0_countPairs_5 : decode cX0_countPairs 5 = .ok (.if_icmp .ge 67, 3) := by decide +kernel
theorem dX0_countPairs_8 : decode cX0_countPairs 8 = .ok (.iconst 0, 1) := by decide +kernel
theorem dX0_countPairs_9 : decode cX0_countPairs 9 = .ok (.istore_n 3, 1) := by decide +kernel
theorem dX0_countPairs_10 : decode cX0_countPairs 10 = .ok (.iload_n 3, 1) := by decide +kernel
theorem dX0_countPairs_11 : decode cX0_countPairs 11 = .ok (.bipush 7, 2) := by decide +kernel
theorem dX0_countPairs_13 : decode cX0_countPairs 13 = .ok (.if_icmp .ge 53, 3) := by decide +kernel
theorem dX0_countPairs_16 : decode cX0_countPairs 16 = .ok (.iload_n 1, 1) := by decide +kernel
theorem dX0_countPairs_17 : decode cX0_countPairs 17 = .ok (.iload_n 2, 1) := by decide +kernel
theorem dX0_countPairs_18 : decode cX0_countPairs 18 = .ok (.invokestatic 75, 3) := by decide +kernel
theorem dX0_countPairs_21 : decode cX0_countPairs 21 = .ok (.ifCond .eq 39, 3) := by decide +kernel
theorem dX0_countPairs_24 : decode cX0_countPairs 24 = .ok (.iload_n 1, 1) := by decide +kernel
theorem dX0_countPairs_25 : decode cX0_countPairs 25 = .ok (.iload_n 3, 1) := by decide +kernel
theorem dX0_countPairs_26 : decode cX0_countPairs 26 = .ok (.invokestatic 75, 3) := by decide +kernel
theorem dX0_countPairs_29 : decode cX0_countPairs 29 = .ok (.ifCond .eq 31, 3) := by decide +kernel
theorem dX0_countPairs_32 : decode cX0_countPairs 32 = .ok (.iload_n 2, 1) := by decide +kernel
theorem dX0_countPairs_33 : decode cX0_countPairs 33 = .ok (.bipush 7, 2) := by decide +kernel
theorem dX0_countPairs_35 : decode cX0_countPairs 35 = .ok (.imul, 1) := by decide +kernel
theorem dX0_countPairs_36 : decode cX0_countPairs 36 = .ok (.iload_n 3, 1) := by decide +kernel
theorem dX0_countPairs_37 : decode cX0_countPairs 37 = .ok (.iadd, 1) := by decide +kernel
theorem dX0_countPairs_38 : decode cX0_countPairs 38 = .ok (.istore 4, 2) := by decide +kernel
theorem dX0_countPairs_40 : decode cX0_countPairs 40 = .ok (.aload_n 0, 1) := by decide +kernel
theorem dX0_countPairs_41 : decode cX0_countPairs 41 = .ok (.getfield 15, 3) := by decide +kernel
theorem dX0_countPairs_44 : decode cX0_countPairs 44 = .ok (.iload 4, 2) := by decide +kernel
theorem dX0_countPairs_46 : decode cX0_countPairs 46 = .ok (.aload_n 0, 1) := by decide +kernel
theorem dX0_countPairs_47 : decode cX0_countPairs 47 = .ok (.getfield 15, 3) := by decide +kernel
theorem dX0_countPairs_50 : decode cX0_countPairs 50 = .ok (.iload 4, 2) := by decide +kernel
theorem dX0_countPairs_52 : decode cX0_countPairs 52 = .ok (.invokestatic 52, 3) := by decide +kernel
theorem dX0_countPairs_55 : decode cX0_countPairs 55 = .ok (.iconst 1, 1) := by decide +kernel
theorem dX0_countPairs_56 : decode cX0_countPairs 56 = .ok (.iadd, 1) := by decide +kernel
theorem dX0_countPairs_57 : decode cX0_countPairs 57 = .ok (.invokestatic 60, 3) := by decide +kernel
theorem dX0_countPairs_60 : decode cX0_countPairs 60 = .ok (.iinc 3 1, 3) := by decide +kernel
theorem dX0_countPairs_63 : decode cX0_countPairs 63 = .ok (.goto (-53), 3) := by decide +kernel
theorem dX0_countPairs_66 : decode cX0_countPairs 66 = .ok (.iinc 2 1, 3) := by decide +kernel
theorem dX0_countPairs_69 : decode cX0_countPairs 69 = .ok (.goto (-67), 3) := by decide +kernel
theorem dX0_countPairs_72 : decode cX0_countPairs 72 = .ok (.return_, 1) := by decide +kernel
theorem dX0_settle_0 : decode cX0_settle 0 = .ok (.iload_n 2, 1) := by decide +kernel
theorem dX0_settle_1 : decode cX0_settle 1 = .ok (.aload_n 0, 1) := by decide +kernel
theorem dX0_settle_2 : decode cX0_settle 2 = .ok (.getfield 31, 3) := by decide +kernel
theorem dX0_settle_5 : decode cX0_settle 5 = .ok (.if_icmp .lt 4, 3) := by decide +kernel
theorem dX0_settle_8 : decode cX0_settle 8 = .ok (.return_, 1) := by decide +kernel
theorem dX0_settle_9 : decode cX0_settle 9 = .ok (.iload_n 1, 1) := by decide +kernel
theorem dX0_settle_10 : decode cX0_settle 10 = .ok (.aload_n 0, 1) := by decide +kernel
theorem dX0_settle_11 : decode cX0_settle 11 = .ok (.getfield 9, 3) := by decide +kernel
theorem dX0_settle_14 : decode cX0_settle 14 = .ok (.getfield 47, 3) := by decide +kernel
theorem dX0_settle_17 : decode cX0_settle 17 = .ok (.if_icmp .ge 9, 3) := by decide +kernel
theorem dX0_settle_20 : decode cX0_settle 20 = .ok (.iload_n 1, 1) := by decide +kernel
theorem dX0_settle_21 : decode cX0_settle 21 = .ok (.bipush 7, 2) := by decide +kernel
theorem dX0_settle_23 : decode cX0_settle 23 = .ok (.if_icmp .lt 20, 3) := by decide +kernel
theorem dX0_settle_26 : decode cX0_settle 26 = .ok (.aload_n 0, 1) := by decide +kernel
theorem dX0_settle_27 : decode cX0_settle 27 = .ok (.iload_n 2, 1) := by decide +kernel
theorem dX0_settle_28 : decode cX0_settle 28 = .ok (.putfield 31, 3) := by decide +kernel
theorem dX0_settle_31 : decode cX0_settle 31 = .ok (.aload_n 0, 1) := by decide +kernel
theorem dX0_settle_32 : decode cX0_settle 32 = .ok (.getfield 19, 3) := by decide +kernel
theorem dX0_settle_35 : decode cX0_settle 35 = .ok (.aload_n 0, 1) := by decide +kernel
theorem dX0_settle_36 : decode cX0_settle 36 = .ok (.getfield 22, 3) := by decide +kernel
theorem dX0_settle_39 : decode cX0_settle 39 = .ok (.invokestatic 79, 3) := by decide +kernel
theorem dX0_settle_42 : decode cX0_settle 42 = .ok (.return_, 1) := by decide +kernel
theorem dX0_settle_43 : decode cX0_settle 43 = .ok (.aload_n 0, 1) := by decide +kernel
theorem dX0_settle_44 : decode cX0_settle 44 = .ok (.iload_n 1, 1) := by decide +kernel
theorem dX0_settle_45 : decode cX0_settle 45 = .ok (.invokevirtual 83, 3) := by decide +kernel
theorem dX0_settle_48 : decode cX0_settle 48 = .ok (.iconst 0, 1) := by decide +kernel
theorem dX0_settle_49 : decode cX0_settle 49 = .ok (.istore_n 3, 1) := by decide +kernel
theorem dX0_settle_50 : decode cX0_settle 50 = .ok (.iload_n 3, 1) := by decide +kernel
theorem dX0_settle_51 : decode cX0_settle 51 = .ok (.aload_n 0, 1) := by decide +kernel
theorem dX0_settle_52 : decode cX0_settle 52 = .ok (.getfield 9, 3) := by decide +kernel
theorem dX0_settle_55 : decode cX0_settle 55 = .ok (.getfield 86, 3) := by decide +kernel
theorem dX0_settle_58 : decode cX0_settle 58 = .ok (.if_icmp .ge 39, 3) := by decide +kernel
theorem dX0_settle_61 : decode cX0_settle 61 = .ok (.aload_n 0, 1) := by decide +kernel
theorem dX0_settle_62 : decode cX0_settle 62 = .ok (.getfield 19, 3) := by decide +kernel
theorem dX0_settle_65 : decode cX0_settle 65 = .ok (.iload_n 1, 1) := by decide +kernel
theorem dX0_settle_66 : decode cX0_settle 66 = .ok (.iload_n 3, 1) := by decide +kernel
theorem dX0_settle_67 : decode cX0_settle 67 = .ok (.invokestatic 60, 3) := by decide +kernel
theorem dX0_settle_70 : decode cX0_settle 70 = .ok (.aload_n 0, 1) := by decide +kernel
theorem dX0_settle_71 : decode cX0_settle 71 = .ok (.iload_n 1, 1) := by decide +kernel
theorem dX0_settle_72 : decode cX0_settle 72 = .ok (.iconst 1, 1) := by decide +kernel
theorem dX0_settle_73 : decode cX0_settle 73 = .ok (.iadd, 1) := by decide +kernel
theorem dX0_settle_74 : decode cX0_settle 74 = .ok (.iload_n 2, 1) := by decide +kernel
theorem dX0_settle_75 : decode cX0_settle 75 = .ok (.aload_n 0, 1) := by decide +kernel
theorem dX0_settle_76 : decode cX0_settle 76 = .ok (.getfield 25, 3) := by decide +kernel
theorem dX0_settle_79 : decode cX0_settle 79 = .ok (.iload_n 1, 1) := by decide +kernel
theorem dX0_settle_80 : decode cX0_settle 80 = .ok (.iconst 4, 1) := by decide +kernel
theorem dX0_settle_81 : decode cX0_settle 81 = .ok (.imul, 1) := by decide +kernel
theorem dX0_settle_82 : decode cX0_settle 82 = .ok (.iload_n 3, 1) := by decide +kernel
theorem dX0_settle_83 : decode cX0_settle 83 = .ok (.iadd, 1) := by decide +kernel
theorem dX0_settle_84 : decode cX0_settle 84 = .ok (.invokestatic 52, 3) := by decide +kernel
theorem dX0_settle_87 : decode cX0_settle 87 = .ok (.iadd, 1) := by decide +kernel
theorem dX0_settle_88 : decode cX0_settle 88 = .ok (.invokestatic 35, 3) := by decide +kernel
theorem dX0_settle_91 : decode cX0_settle 91 = .ok (.iinc 3 1, 3) := by decide +kernel
theorem dX0_settle_94 : decode cX0_settle 94 = .ok (.goto (-44), 3) := by decide +kernel
theorem dX0_settle_97 : decode cX0_settle 97 = .ok (.return_, 1) := by decide +kernel
theorem dX0_tryAll_0 : decode cX0_tryAll 0 = .ok (.iload_n 1, 1) := by decide +kernel
theorem dX0_tryAll_1 : decode cX0_tryAll 1 = .ok (.aload_n 0, 1) := by decide +kernel
theorem dX0_tryAll_2 : decode cX0_tryAll 2 = .ok (.getfield 9, 3) := by decide +kernel
theorem dX0_tryAll_5 : decode cX0_tryAll 5 = .ok (.getfield 47, 3) := by decide +kernel
theorem dX0_tryAll_8 : decode cX0_tryAll 8 = .ok (.if_icmp .ge 9, 3) := by decide +kernel
theorem dX0_tryAll_11 : decode cX0_tryAll 11 = .ok (.iload_n 1, 1) := by decide +kernel
theorem dX0_tryAll_12 : decode cX0_tryAll 12 = .ok (.bipush 7, 2) := by decide +kernel
theorem dX0_tryAll_14 : decode cX0_tryAll 14 = .ok (.if_icmp .lt 5, 3) := by decide +kernel
theorem dX0_tryAll_17 : decode cX0_tryAll 17 = .ok (.iload_n 2, 1) := by decide +kernel
theorem dX0_tryAll_18 : decode cX0_tryAll 18 = .ok (.ireturn, 1) := by decide +kernel
theorem dX0_tryAll_19 : decode cX0_tryAll 19 = .ok (.aload_n 0, 1) := by decide +kernel
theorem dX0_tryAll_20 : decode cX0_tryAll 20 = .ok (.iload_n 1, 1) := by decide +kernel
theorem dX0_tryAll_21 : decode cX0_tryAll 21 = .ok (.invokevirtual 83, 3) := by decide +kernel
theorem dX0_tryAll_24 : decode cX0_tryAll 24 = .ok (.bipush 37, 2) := by decide +kernel
theorem dX0_tryAll_26 : decode cX0_tryAll 26 = .ok (.istore_n 3, 1) := by decide +kernel
theorem dX0_tryAll_27 : decode cX0_tryAll 27 = .ok (.iconst 0, 1) := by decide +kernel
theorem dX0_tryAll_28 : decode cX0_tryAll 28 = .ok (.istore 4, 2) := by decide +kernel
theorem dX0_tryAll_30 : decode cX0_tryAll 30 = .ok (.iload 4, 2) := by decide +kernel
theorem dX0_tryAll_32 : decode cX0_tryAll 32 = .ok (.aload_n 0, 1) := by decide +kernel
theorem dX0_tryAll_33 : decode cX0_tryAll 33 = .ok (.getfield 9, 3) := by decide +kernel
theorem dX0_tryAll_36 : decode cX0_tryAll 36 = .ok (.getfield 86, 3) := by decide +kernel
theorem dX0_tryAll_39 : decode cX0_tryAll 39 = .ok (.if_icmp .ge 50, 3) := by decide +kernel
theorem dX0_tryAll_42 : decode cX0_tryAll 42 = .ok (.aload_n 0, 1) := by decide +kernel
theorem dX0_tryAll_43 : decode cX0_tryAll 43 = .ok (.getfield 19, 3) := by decide +kernel
theorem dX0_tryAll_46 : decode cX0_tryAll 46 = .ok (.iload_n 1, 1) := by decide +kernel
theorem dX0_tryAll_47 : decode cX0_tryAll 47 = .ok (.iload 4, 2) := by decide +kernel
theorem dX0_tryAll_49 : decode cX0_tryAll 49 = .ok (.invokestatic 60, 3) := by decide +kernel
theorem dX0_tryAll_52 : decode cX0_tryAll 52 = .ok (.aload_n 0, 1) := by decide +kernel
theorem dX0_tryAll_53 : decode cX0_tryAll 53 = .ok (.getfield 25, 3) := by decide +kernel
theorem dX0_tryAll_56 : decode cX0_tryAll 56 = .ok (.iload_n 1, 1) := by decide +kernel
theorem dX0_tryAll_57 : decode cX0_tryAll 57 = .ok (.iconst 4, 1) := by decide +kernel
theorem dX0_tryAll_58 : decode cX0_tryAll 58 = .ok (.imul, 1) := by decide +kernel
theorem dX0_tryAll_59 : decode cX0_tryAll 59 = .ok (.iload 4, 2) := by decide +kernel
theorem dX0_tryAll_61 : decode cX0_tryAll 61 = .ok (.iadd, 1) := by decide +kernel
theorem dX0_tryAll_62 : decode cX0_tryAll 62 = .ok (.invokestatic 52, 3) := by decide +kernel
theorem dX0_tryAll_65 : decode cX0_tryAll 65 = .ok (.istore 5, 2) := by decide +kernel
theorem dX0_tryAll_67 : decode cX0_tryAll 67 = .ok (.iload_n 3, 1) := by decide +kernel
theorem dX0_tryAll_68 : decode cX0_tryAll 68 = .ok (.aload_n 0, 1) := by decide +kernel
theorem dX0_tryAll_69 : decode cX0_tryAll 69 = .ok (.iload_n 1, 1) := by decide +kernel
theorem dX0_tryAll_70 : decode cX0_tryAll 70 = .ok (.iconst 1, 1) := by decide +kernel
theorem dX0_tryAll_71 : decode cX0_tryAll 71 = .ok (.iadd, 1) := by decide +kernel
theorem dX0_tryAll_72 : decode cX0_tryAll 72 = .ok (.iload_n 2, 1) := by decide +kernel
theorem dX0_tryAll_73 : decode cX0_tryAll 73 = .ok (.iload 5, 2) := by decide +kernel
theorem dX0_tryAll_75 : decode cX0_tryAll 75 = .ok (.iadd, 1) := by decide +kernel
theorem dX0_tryAll_76 : decode cX0_tryAll 76 = .ok (.invokestatic 39, 3) := by decide +kernel
theorem dX0_tryAll_79 : decode cX0_tryAll 79 = .ok (.invokestatic 89, 3) := by decide +kernel
theorem dX0_tryAll_82 : decode cX0_tryAll 82 = .ok (.istore_n 3, 1) := by decide +kernel
theorem dX0_tryAll_83 : decode cX0_tryAll 83 = .ok (.iinc 4 1, 3) := by decide +kernel
theorem dX0_tryAll_86 : decode cX0_tryAll 86 = .ok (.goto (-56), 3) := by decide +kernel
theorem dX0_tryAll_89 : decode cX0_tryAll 89 = .ok (.iload_n 3, 1) := by decide +kernel
theorem dX0_tryAll_90 : decode cX0_tryAll 90 = .ok (.ireturn, 1) := by decide +kernel
theorem dX0_weigh_0 : decode cX0_weigh 0 = .ok (.iload_n 1, 1) := by decide +kernel
theorem dX0_weigh_1 : decode cX0_weigh 1 = .ok (.iconst 4, 1) := by decide +kernel
theorem dX0_weigh_2 : decode cX0_weigh 2 = .ok (.imul, 1) := by decide +kernel
theorem dX0_weigh_3 : decode cX0_weigh 3 = .ok (.istore_n 2, 1) := by decide +kernel
theorem dX0_weigh_4 : decode cX0_weigh 4 = .ok (.iconst 0, 1) := by decide +kernel
theorem dX0_weigh_5 : decode cX0_weigh 5 = .ok (.istore_n 3, 1) := by decide +kernel
theorem dX0_weigh_6 : decode cX0_weigh 6 = .ok (.iload_n 3, 1) := by decide +kernel
theorem dX0_weigh_7 : decode cX0_weigh 7 = .ok (.iconst 4, 1) := by decide +kernel
theorem dX0_weigh_8 : decode cX0_weigh 8 = .ok (.if_icmp .ge 20, 3) := by decide +kernel
theorem dX0_weigh_11 : decode cX0_weigh 11 = .ok (.aload_n 0, 1) := by decide +kernel
theorem dX0_weigh_12 : decode cX0_weigh 12 = .ok (.getfield 25, 3) := by decide +kernel
theorem dX0_weigh_15 : decode cX0_weigh 15 = .ok (.iload_n 2, 1) := by decide +kernel
theorem dX0_weigh_16 : decode cX0_weigh 16 = .ok (.iload_n 3, 1) := by decide +kernel
theorem dX0_weigh_17 : decode cX0_weigh 17 = .ok (.iadd, 1) := by decide +kernel
theorem dX0_weigh_18 : decode cX0_weigh 18 = .ok (.iconst 0, 1) := by decide +kernel
theorem dX0_weigh_19 : decode cX0_weigh 19 = .ok (.invokestatic 60, 3) := by decide +kernel
theorem dX0_weigh_22 : decode cX0_weigh 22 = .ok (.iinc 3 1, 3) := by decide +kernel
theorem dX0_weigh_25 : decode cX0_weigh 25 = .ok (.goto (-19), 3) := by decide +kernel
theorem dX0_weigh_28 : decode cX0_weigh 28 = .ok (.iconst 0, 1) := by decide +kernel
theorem dX0_weigh_29 : decode cX0_weigh 29 = .ok (.istore_n 3, 1) := by decide +kernel
theorem dX0_weigh_30 : decode cX0_weigh 30 = .ok (.iload_n 3, 1) := by decide +kernel
theorem dX0_weigh_31 : decode cX0_weigh 31 = .ok (.iload_n 1, 1) := by decide +kernel
theorem dX0_weigh_32 : decode cX0_weigh 32 = .ok (.if_icmp .ge 53, 3) := by decide +kernel
theorem dX0_weigh_35 : decode cX0_weigh 35 = .ok (.iload_n 2, 1) := by decide +kernel
theorem dX0_weigh_36 : decode cX0_weigh 36 = .ok (.aload_n 0, 1) := by decide +kernel
theorem dX0_weigh_37 : decode cX0_weigh 37 = .ok (.getfield 19, 3) := by decide +kernel
theorem dX0_weigh_40 : decode cX0_weigh 40 = .ok (.iload_n 3, 1) := by decide +kernel
theorem dX0_weigh_41 : decode cX0_weigh 41 = .ok (.invokestatic 52, 3) := by decide +kernel
theorem dX0_weigh_44 : decode cX0_weigh 44 = .ok (.iadd, 1) := by decide +kernel
theorem dX0_weigh_45 : decode cX0_weigh 45 = .ok (.istore 4, 2) := by decide +kernel
theorem dX0_weigh_47 : decode cX0_weigh 47 = .ok (.aload_n 0, 1) := by decide +kernel
theorem dX0_weigh_48 : decode cX0_weigh 48 = .ok (.getfield 25, 3) := by decide +kernel
theorem dX0_weigh_51 : decode cX0_weigh 51 = .ok (.iload 4, 2) := by decide +kernel
theorem dX0_weigh_53 : decode cX0_weigh 53 = .ok (.aload_n 0, 1) := by decide +kernel
theorem dX0_weigh_54 : decode cX0_weigh 54 = .ok (.getfield 25, 3) := by decide +kernel
theorem dX0_weigh_57 : decode cX0_weigh 57 = .ok (.iload 4, 2) := by decide +kernel
theorem dX0_weigh_59 : decode cX0_weigh 59 = .ok (.invokestatic 52, 3) := by decide +kernel
theorem dX0_weigh_62 : decode cX0_weigh 62 = .ok (.aload_n 0, 1) := by decide +kernel
theorem dX0_weigh_63 : decode cX0_weigh 63 = .ok (.getfield 15, 3) := by decide +kernel
theorem dX0_weigh_66 : decode cX0_weigh 66 = .ok (.iload_n 1, 1) := by decide +kernel
theorem dX0_weigh_67 : decode cX0_weigh 67 = .ok (.bipush 7, 2) := by decide +kernel
theorem dX0_weigh_69 : decode cX0_weigh 69 = .ok (.imul, 1) := by decide +kernel
theorem dX0_weigh_70 : decode cX0_weigh 70 = .ok (.iload_n 3, 1) := by decide +kernel
theorem dX0_weigh_71 : decode cX0_weigh 71 = .ok (.iadd, 1) := by decide +kernel
theorem dX0_weigh_72 : decode cX0_weigh 72 = .ok (.invokestatic 52, 3) := by decide +kernel
theorem dX0_weigh_75 : decode cX0_weigh 75 = .ok (.iadd, 1) := by decide +kernel
theorem dX0_weigh_76 : decode cX0_weigh 76 = .ok (.invokestatic 60, 3) := by decide +kernel
theorem dX0_weigh_79 : decode cX0_weigh 79 = .ok (.iinc 3 1, 3) := by decide +kernel
theorem dX0_weigh_82 : decode cX0_weigh 82 = .ok (.goto (-52), 3) := by decide +kernel
theorem dX0_weigh_85 : decode cX0_weigh 85 = .ok (.return_, 1) := by decide +kernel
theorem dX1_init_0 : decode cX1_init 0 = .ok (.aload_n 0, 1) := by decide +kernel
theorem dX1_init_1 : decode cX1_init 1 = .ok (.invokespecial 3, 3) := by decide +kernel
theorem dX1_init_4 : decode cX1_init 4 = .ok (.aload_n 0, 1) := by decide +kernel
theorem dX1_init_5 : decode cX1_init 5 = .ok (.aload_n 1, 1) := by decide +kernel
theorem dX1_init_6 : decode cX1_init 6 = .ok (.putfield 9, 3) := by decide +kernel
theorem dX1_init_9 : decode cX1_init 9 = .ok (.aload_n 0, 1) := by decide +kernel
theorem dX1_init_10 : decode cX1_init 10 = .ok (.iconst 4, 1) := by decide +kernel
theorem dX1_init_11 : decode cX1_init 11 = .ok (.newarray .int, 2) := by decide +kernel
theorem dX1_init_13 : decode cX1_init 13 = .ok (.putfield 15, 3) := by decide +kernel
theorem dX1_init_16 : decode cX1_init 16 = .ok (.aload_n 0, 1) := by decide +kernel
theorem dX1_init_17 : decode cX1_init 17 = .ok (.iconst 4, 1) := by decide +kernel
theorem dX1_init_18 : decode cX1_init 18 = .ok (.newarray .int, 2) := by decide +kernel
theorem dX1_init_20 : decode cX1_init 20 = .ok (.putfield 19, 3) := by decide +kernel
theorem dX1_init_23 : decode cX1_init 23 = .ok (.aload_n 0, 1) := by decide +kernel
theorem dX1_init_24 : decode cX1_init 24 = .ok (.iconst 4, 1) := by decide +kernel
theorem dX1_init_25 : decode cX1_init 25 = .ok (.newarray .int, 2) := by decide +kernel
theorem dX1_init_27 : decode cX1_init 27 = .ok (.putfield 22, 3) := by decide +kernel
theorem dX1_init_30 : decode cX1_init 30 = .ok (.return_, 1) := by decide +kernel
theorem dX1_fewestMoves_0 : decode cX1_fewestMoves 0 = .ok (.aload_n 0, 1) := by decide +kernel
theorem dX1_fewestMoves_1 : decode cX1_fewestMoves 1 = .ok (.getfield 9, 3) := by decide +kernel
theorem dX1_fewestMoves_4 : decode cX1_fewestMoves 4 = .ok (.iload_n 1, 1) := by decide +kernel
theorem dX1_fewestMoves_5 : decode cX1_fewestMoves 5 = .ok (.iconst 0, 1) := by decide +kernel
theorem dX1_fewestMoves_6 : decode cX1_fewestMoves 6 = .ok (.invokevirtual 25, 3) := by decide +kernel
theorem dX1_fewestMoves_9 : decode cX1_fewestMoves 9 = .ok (.istore_n 3, 1) := by decide +kernel
theorem dX1_fewestMoves_10 : decode cX1_fewestMoves 10 = .ok (.iconst 0, 1) := by decide +kernel
theorem dX1_fewestMoves_11 : decode cX1_fewestMoves 11 = .ok (.istore 4, 2) := by decide +kernel
theorem dX1_fewestMoves_13 : decode cX1_fewestMoves 13 = .ok (.iload 4, 2) := by decide +kernel
theorem dX1_fewestMoves_15 : decode cX1_fewestMoves 15 = .ok (.iconst 4, 1) := by decide +kernel
theorem dX1_fewestMoves_16 : decode cX1_fewestMoves 16 = .ok (.if_icmp .ge 69, 3) := by decide +kernel
theorem dX1_fewestMoves_19 : decode cX1_fewestMoves 19 = .ok (.aload_n 0, 1) := by decide +kernel
theorem dX1_fewestMoves_20 : decode cX1_fewestMoves 20 = .ok (.getfield 15, 3) := by decide +kernel
theorem dX1_fewestMoves_23 : decode cX1_fewestMoves 23 = .ok (.iload 4, 2) := by decide +kernel
theorem dX1_fewestMoves_25 : decode cX1_fewestMoves 25 = .ok (.aload_n 0, 1) := by decide +kernel
theorem dX1_fewestMoves_26 : decode cX1_fewestMoves 26 = .ok (.getfield 9, 3) := by decide +kernel
theorem dX1_fewestMoves_29 : decode cX1_fewestMoves 29 = .ok (.iload_n 1, 1) := by decide +kernel
theorem dX1_fewestMoves_30 : decode cX1_fewestMoves 30 = .ok (.iload 4, 2) := by decide +kernel
theorem dX1_fewestMoves_32 : decode cX1_fewestMoves 32 = .ok (.invokevirtual 31, 3) := by decide +kernel
theorem dX1_fewestMoves_35 : decode cX1_fewestMoves 35 = .ok (.invokestatic 34, 3) := by decide +kernel
theorem dX1_fewestMoves_38 : decode cX1_fewestMoves 38 = .ok (.aload_n 0, 1) := by decide +kernel
theorem dX1_fewestMoves_39 : decode cX1_fewestMoves 39 = .ok (.getfield 19, 3) := by decide +kernel
theorem dX1_fewestMoves_42 : decode cX1_fewestMoves 42 = .ok (.iload 4, 2) := by decide +kernel
theorem dX1_fewestMoves_44 : decode cX1_fewestMoves 44 = .ok (.aload_n 0, 1) := by decide +kernel
theorem dX1_fewestMoves_45 : decode cX1_fewestMoves 45 = .ok (.getfield 9, 3) := by decide +kernel
theorem dX1_fewestMoves_48 : decode cX1_fewestMoves 48 = .ok (.iload 4, 2) := by decide +kernel
theorem dX1_fewestMoves_50 : decode cX1_fewestMoves 50 = .ok (.invokevirtual 38, 3) := by decide +kernel
theorem dX1_fewestMoves_53 : decode cX1_fewestMoves 53 = .ok (.invokestatic 34, 3) := by decide +kernel
theorem dX1_fewestMoves_56 : decode cX1_fewestMoves 56 = .ok (.aload_n 0, 1) := by decide +kernel
theorem dX1_fewestMoves_57 : decode cX1_fewestMoves 57 = .ok (.getfield 22, 3) := by decide +kernel
theorem dX1_fewestMoves_60 : decode cX1_fewestMoves 60 = .ok (.iload 4, 2) := by decide +kernel
theorem dX1_fewestMoves_62 : decode cX1_fewestMoves 62 = .ok (.iload_n 3, 1) := by decide +kernel
theorem dX1_fewestMoves_63 : decode cX1_fewestMoves 63 = .ok (.iload 4, 2) := by decide +kernel
theorem dX1_fewestMoves_65 : decode cX1_fewestMoves 65 = .ok (.invokestatic 42, 3) := by decide +kernel
theorem dX1_fewestMoves_68 : decode cX1_fewestMoves 68 = .ok (.ifCond .eq 7, 3) := by decide +kernel
theorem dX1_fewestMoves_71 : decode cX1_fewestMoves 71 = .ok (.iconst 0, 1) := by decide +kernel
theorem dX1_fewestMoves_72 : decode cX1_fewestMoves 72 = .ok (.goto 4, 3) := by decide +kernel
theorem dX1_fewestMoves_75 : decode cX1_fewestMoves 75 = .ok (.iconst (-1), 1) := by decide +kernel
theorem dX1_fewestMoves_76 : decode cX1_fewestMoves 76 = .ok (.invokestatic 34, 3) := by decide +kernel
theorem dX1_fewestMoves_79 : decode cX1_fewestMoves 79 = .ok (.iinc 4 1, 3) := by decide +kernel
theorem dX1_fewestMoves_82 : decode cX1_fewestMoves 82 = .ok (.goto (-69), 3) := by decide +kernel
theorem dX1_fewestMoves_85 : decode cX1_fewestMoves 85 = .ok (.iconst 1, 1) := by decide +kernel
theorem dX1_fewestMoves_86 : decode cX1_fewestMoves 86 = .ok (.istore 4, 2) := by decide +kernel
theorem dX1_fewestMoves_88 : decode cX1_fewestMoves 88 = .ok (.iload 4, 2) := by decide +kernel
theorem dX1_fewestMoves_90 : decode cX1_fewestMoves 90 = .ok (.iconst 4, 1) := by decide +kernel
theorem dX1_fewestMoves_91 : decode cX1_fewestMoves 91 = .ok (.if_icmp .ge 15, 3) := by decide +kernel
theorem dX1_fewestMoves_94 : decode cX1_fewestMoves 94 = .ok (.aload_n 0, 1) := by decide +kernel
theorem dX1_fewestMoves_95 : decode cX1_fewestMoves 95 = .ok (.iload 4, 2) := by decide +kernel
theorem dX1_fewestMoves_97 : decode cX1_fewestMoves 97 = .ok (.invokevirtual 46, 3) := by decide +kernel
theorem dX1_fewestMoves_100 : decode cX1_fewestMoves 100 = .ok (.iinc 4 1, 3) := by decide +kernel
theorem dX1_fewestMoves_103 : decode cX1_fewestMoves 103 = .ok (.goto (-15), 3) := by decide +kernel
theorem dX1_fewestMoves_106 : decode cX1_fewestMoves 106 = .ok (.aload_n 0, 1) := by decide +kernel
theorem dX1_fewestMoves_107 : decode cX1_fewestMoves 107 = .ok (.getfield 22, 3) := by decide +kernel
theorem dX1_fewestMoves_110 : decode cX1_fewestMoves 110 = .ok (.aload_n 0, 1) := by decide +kernel
theorem dX1_fewestMoves_111 : decode cX1_fewestMoves 111 = .ok (.iload_n 2, 1) := by decide +kernel
theorem dX1_fewestMoves_112 : decode cX1_fewestMoves 112 = .ok (.invokevirtual 50, 3) := by decide +kernel
theorem dX1_fewestMoves_115 : decode cX1_fewestMoves 115 = .ok (.invokestatic 53, 3) := by decide +kernel
theorem dX1_fewestMoves_118 : decode cX1_fewestMoves 118 = .ok (.ireturn, 1) := by decide +kernel
theorem dX1_fewestMovesByTrial_0 : decode cX1_fewestMovesByTrial 0 = .ok (.iload_n 2, 1) := by decide +kernel
theorem dX1_fewestMovesByTrial_1 : decode cX1_fewestMovesByTrial 1 = .ok (.aload_n 0, 1) := by decide +kernel
theorem dX1_fewestMovesByTrial_2 : decode cX1_fewestMovesByTrial 2 = .ok (.getfield 9, 3) := by decide +kernel
theorem dX1_fewestMovesByTrial_5 : decode cX1_fewestMovesByTrial 5 = .ok (.iload_n 1, 1) := by decide +kernel
theorem dX1_fewestMovesByTrial_6 : decode cX1_fewestMovesByTrial 6 = .ok (.invokevirtual 57, 3) := by decide +kernel
theorem dX1_fewestMovesByTrial_9 : decode cX1_fewestMovesByTrial 9 = .ok (.iand, 1) := by decide +kernel
theorem dX1_fewestMovesByTrial_10 : decode cX1_fewestMovesByTrial 10 = .ok (.istore_n 3, 1) := by decide +kernel
theorem dX1_fewestMovesByTrial_11 : decode cX1_fewestMovesByTrial 11 = .ok (.iconst 0, 1) := by decide +kernel
theorem dX1_fewestMovesByTrial_12 : decode cX1_fewestMovesByTrial 12 = .ok (.istore 4, 2) := by decide +kernel
theorem dX1_fewestMovesByTrial_14 : decode cX1_fewestMovesByTrial 14 = .ok (.iload 4, 2) := by decide +kernel
theorem dX1_fewestMovesByTrial_16 : decode cX1_fewestMovesByTrial 16 = .ok (.iconst 4, 1) := by decide +kernel
theorem dX1_fewestMovesByTrial_17 : decode cX1_fewestMovesByTrial 17 = .ok (.if_icmp .ge 55, 3) := by decide +kernel
theorem dX1_fewestMovesByTrial_20 : decode cX1_fewestMovesByTrial 20 = .ok (.iconst 0, 1) := by decide +kernel
theorem dX1_fewestMovesByTrial_21 : decode cX1_fewestMovesByTrial 21 = .ok (.istore 5, 2) := by decide +kernel
theorem dX1_fewestMovesByTrial_23 : decode cX1_fewestMovesByTrial 23 = .ok (.iload 5, 2) := by decide +kernel
theorem dX1_fewestMovesByTrial_25 : decode cX1_fewestMovesByTrial 25 = .ok (.iconst 4, 1) := by decide +kernel
theorem dX1_fewestMovesByTrial_26 : decode cX1_fewestMovesByTrial 26 = .ok (.if_icmp .ge 40, 3) := by decide +kernel
theorem dX1_fewestMovesByTrial_29 : decode cX1_fewestMovesByTrial 29 = .ok (.iload_n 3, 1) := by decide +kernel
theorem dX1_fewestMovesByTrial_30 : decode cX1_fewestMovesByTrial 30 = .ok (.iload 5, 2) := by decide +kernel
theorem dX1_fewestMovesByTrial_32 : decode cX1_fewestMovesByTrial 32 = .ok (.invokestatic 42, 3) := by decide +kernel
theorem dX1_fewestMovesByTrial_35 : decode cX1_fewestMovesByTrial 35 = .ok (.ifCond .eq 25, 3) := by decide +kernel
theorem dX1_fewestMovesByTrial_38 : decode cX1_fewestMovesByTrial 38 = .ok (.aload_n 0, 1) := by decide +kernel
theorem dX1_fewestMovesByTrial_39 : decode cX1_fewestMovesByTrial 39 = .ok (.getfield 9, 3) := by decide +kernel
theorem dX1_fewestMovesByTrial_42 : decode cX1_fewestMovesByTrial 42 = .ok (.iload_n 1, 1) := by decide +kernel
theorem dX1_fewestMovesByTrial_43 : decode cX1_fewestMovesByTrial 43 = .ok (.iload 5, 2) := by decide +kernel
theorem dX1_fewestMovesByTrial_45 : decode cX1_fewestMovesByTrial 45 = .ok (.iload 4, 2) := by decide +kernel
theorem dX1_fewestMovesByTrial_47 : decode cX1_fewestMovesByTrial 47 = .ok (.iconst 1, 1) := by decide +kernel
theorem dX1_fewestMovesByTrial_48 : decode cX1_fewestMovesByTrial 48 = .ok (.iload 5, 2) := by decide +kernel
theorem dX1_fewestMovesByTrial_50 : decode cX1_fewestMovesByTrial 50 = .ok (.ishl, 1) := by decide +kernel
theorem dX1_fewestMovesByTrial_51 : decode cX1_fewestMovesByTrial 51 = .ok (.invokestatic 60, 3) := by decide +kernel
theorem dX1_fewestMovesByTrial_54 : decode cX1_fewestMovesByTrial 54 = .ok (.ifCond .eq 6, 3) := by decide +kernel
theorem dX1_fewestMovesByTrial_57 : decode cX1_fewestMovesByTrial 57 = .ok (.iload 4, 2) := by decide +kernel
theorem dX1_fewestMovesByTrial_59 : decode cX1_fewestMovesByTrial 59 = .ok (.ireturn, 1) := by decide +kernel
theorem dX1_fewestMovesByTrial_60 : decode cX1_fewestMovesByTrial 60 = .ok (.iinc 5 1, 3) := by decide +kernel
theorem dX1_fewestMovesByTrial_63 : decode cX1_fewestMovesByTrial 63 = .ok (.goto (-40), 3) := by decide +kernel
theorem dX1_fewestMovesByTrial_66 : decode cX1_fewestMovesByTrial 66 = .ok (.iinc 4 1, 3) := by decide +kernel
theorem dX1_fewestMovesByTrial_69 : decode cX1_fewestMovesByTrial 69 = .ok (.goto (-55), 3) := by decide +kernel
theorem dX1_fewestMovesByTrial_72 : decode cX1_fewestMovesByTrial 72 = .ok (.iconst (-1), 1) := by decide +kernel
theorem dX1_fewestMovesByTrial_73 : decode cX1_fewestMovesByTrial 73 = .ok (.ireturn, 1) := by decide +kernel
theorem dX1_reasonAgainst_0 : decode cX1_reasonAgainst 0 = .ok (.aload_n 0, 1) := by decide +kernel
theorem dX1_reasonAgainst_1 : decode cX1_reasonAgainst 1 = .ok (.getfield 9, 3) := by decide +kernel
theorem dX1_reasonAgainst_4 : decode cX1_reasonAgainst 4 = .ok (.iload_n 1, 1) := by decide +kernel
theorem dX1_reasonAgainst_5 : decode cX1_reasonAgainst 5 = .ok (.invokevirtual 57, 3) := by decide +kernel
theorem dX1_reasonAgainst_8 : decode cX1_reasonAgainst 8 = .ok (.istore_n 3, 1) := by decide +kernel
theorem dX1_reasonAgainst_9 : decode cX1_reasonAgainst 9 = .ok (.iload_n 3, 1) := by decide +kernel
theorem dX1_reasonAgainst_10 : decode cX1_reasonAgainst 10 = .ok (.ifCond .ne 5, 3) := by decide +kernel
theorem dX1_reasonAgainst_13 : decode cX1_reasonAgainst 13 = .ok (.iconst 1, 1) := by decide +kernel
theorem dX1_reasonAgainst_14 : decode cX1_reasonAgainst 14 = .ok (.ireturn, 1) := by decide +kernel
theorem dX1_reasonAgainst_15 : decode cX1_reasonAgainst 15 = .ok (.iload_n 3, 1) := by decide +kernel
theorem dX1_reasonAgainst_16 : decode cX1_reasonAgainst 16 = .ok (.iload_n 2, 1) := by decide +kernel
theorem dX1_reasonAgainst_17 : decode cX1_reasonAgainst 17 = .ok (.iand, 1) := by decide +kernel
theorem dX1_reasonAgainst_18 : decode cX1_reasonAgainst 18 = .ok (.ifCond .ne 7, 3) := by decide +kernel
theorem dX1_reasonAgainst_21 : decode cX1_reasonAgainst 21 = .ok (.iconst 2, 1) := by decide +kernel
theorem dX1_reasonAgainst_22 : decode cX1_reasonAgainst 22 = .ok (.goto 4, 3) := by decide +kernel
theorem dX1_reasonAgainst_25 : decode cX1_reasonAgainst 25 = .ok (.iconst 3, 1) := by decide +kernel
theorem dX1_reasonAgainst_26 : decode cX1_reasonAgainst 26 = .ok (.ireturn, 1) := by decide +kernel
theorem dX1_carryOut_0 : decode cX1_carryOut 0 = .ok (.aload_n 0, 1) := by decide +kernel
theorem dX1_carryOut_1 : decode cX1_carryOut 1 = .ok (.getfield 9, 3) := by decide +kernel
theorem dX1_carryOut_4 : decode cX1_carryOut 4 = .ok (.iload_n 1, 1) := by decide +kernel
theorem dX1_carryOut_5 : decode cX1_carryOut 5 = .ok (.invokevirtual 64, 3) := by decide +kernel
theorem dX1_carryOut_8 : decode cX1_carryOut 8 = .ok (.istore_n 3, 1) := by decide +kernel
theorem dX1_carryOut_9 : decode cX1_carryOut 9 = .ok (.aload_n 0, 1) := by decide +kernel
theorem dX1_carryOut_10 : decode cX1_carryOut 10 = .ok (.iload_n 2, 1) := by decide +kernel
theorem dX1_carryOut_11 : decode cX1_carryOut 11 = .ok (.iload_n 3, 1) := by decide +kernel
theorem dX1_carryOut_12 : decode cX1_carryOut 12 = .ok (.invokevirtual 67, 3) := by decide +kernel
theorem dX1_carryOut_15 : decode cX1_carryOut 15 = .ok (.istore 4, 2) := by decide +kernel
theorem dX1_carryOut_17 : decode cX1_carryOut 17 = .ok (.aload_n 0, 1) := by decide +kernel
theorem dX1_carryOut_18 : decode cX1_carryOut 18 = .ok (.iload_n 3, 1) := by decide +kernel
theorem dX1_carryOut_19 : decode cX1_carryOut 19 = .ok (.invokevirtual 50, 3) := by decide +kernel
theorem dX1_carryOut_22 : decode cX1_carryOut 22 = .ok (.istore 5, 2) := by decide +kernel
theorem dX1_carryOut_24 : decode cX1_carryOut 24 = .ok (.iload 5, 2) := by decide +kernel
theorem dX1_carryOut_26 : decode cX1_carryOut 26 = .ok (.istore 6, 2) := by decide +kernel
theorem dX1_carryOut_28 : decode cX1_carryOut 28 = .ok (.iconst 0, 1) := by decide +kernel
theorem dX1_carryOut_29 : decode cX1_carryOut 29 = .ok (.istore 7, 2) := by decide +kernel
theorem dX1_carryOut_31 : decode cX1_carryOut 31 = .ok (.iload 7, 2) := by decide +kernel
theorem dX1_carryOut_33 : decode cX1_carryOut 33 = .ok (.iload 4, 2) := by decide +kernel
theorem dX1_carryOut_35 : decode cX1_carryOut 35 = .ok (.if_icmp .ge 64, 3) := by decide +kernel
theorem dX1_carryOut_38 : decode cX1_carryOut 38 = .ok (.aload_n 0, 1) := by decide +kernel
theorem dX1_carryOut_39 : decode cX1_carryOut 39 = .ok (.iload 6, 2) := by decide +kernel
theorem dX1_carryOut_41 : decode cX1_carryOut 41 = .ok (.iload 4, 2) := by decide +kernel
theorem dX1_carryOut_43 : decode cX1_carryOut 43 = .ok (.iload 7, 2) := by decide +kernel
theorem dX1_carryOut_45 : decode cX1_carryOut 45 = .ok (.isub, 1) := by decide +kernel
theorem dX1_carryOut_46 : decode cX1_carryOut 46 = .ok (.iconst 1, 1) := by decide +kernel
theorem dX1_carryOut_47 : decode cX1_carryOut 47 = .ok (.isub, 1) := by decide +kernel
theorem dX1_carryOut_48 : decode cX1_carryOut 48 = .ok (.invokevirtual 70, 3) := by decide +kernel
theorem dX1_carryOut_51 : decode cX1_carryOut 51 = .ok (.istore 8, 2) := by decide +kernel
theorem dX1_carryOut_53 : decode cX1_carryOut 53 = .ok (.aload_n 0, 1) := by decide +kernel
theorem dX1_carryOut_54 : decode cX1_carryOut 54 = .ok (.getfield 9, 3) := by decide +kernel
theorem dX1_carryOut_57 : decode cX1_carryOut 57 = .ok (.iload 7, 2) := by decide +kernel
theorem dX1_carryOut_59 : decode cX1_carryOut 59 = .ok (.aload_n 0, 1) := by decide +kernel
theorem dX1_carryOut_60 : decode cX1_carryOut 60 = .ok (.getfield 15, 3) := by decide +kernel
theorem dX1_carryOut_63 : decode cX1_carryOut 63 = .ok (.iload 6, 2) := by decide +kernel
theorem dX1_carryOut_65 : decode cX1_carryOut 65 = .ok (.invokestatic 53, 3) := by decide +kernel
theorem dX1_carryOut_68 : decode cX1_carryOut 68 = .ok (.aload_n 0, 1) := by decide +kernel
theorem dX1_carryOut_69 : decode cX1_carryOut 69 = .ok (.getfield 19, 3) := by decide +kernel
theorem dX1_carryOut_72 : decode cX1_carryOut 72 = .ok (.iload 8, 2) := by decide +kernel
theorem dX1_carryOut_74 : decode cX1_carryOut 74 = .ok (.invokestatic 53, 3) := by decide +kernel
theorem dX1_carryOut_77 : decode cX1_carryOut 77 = .ok (.iconst (-1), 1) := by decide +kernel
theorem dX1_carryOut_78 : decode cX1_carryOut 78 = .ok (.ixor, 1) := by decide +kernel
theorem dX1_carryOut_79 : decode cX1_carryOut 79 = .ok (.iand, 1) := by decide +kernel
theorem dX1_carryOut_80 : decode cX1_carryOut 80 = .ok (.iconst 0, 1) := by decide +kernel
theorem dX1_carryOut_81 : decode cX1_carryOut 81 = .ok (.invokestatic 73, 3) := by decide +kernel
theorem dX1_carryOut_84 : decode cX1_carryOut 84 = .ok (.iload 8, 2) := by decide +kernel
theorem dX1_carryOut_86 : decode cX1_carryOut 86 = .ok (.invokevirtual 76, 3) := by decide +kernel
theorem dX1_carryOut_89 : decode cX1_carryOut 89 = .ok (.iload 8, 2) := by decide +kernel
theorem dX1_carryOut_91 : decode cX1_carryOut 91 = .ok (.istore 6, 2) := by decide +kernel
theorem dX1_carryOut_93 : decode cX1_carryOut 93 = .ok (.iinc 7 1, 3) := by decide +kernel
theorem dX1_carryOut_96 : decode cX1_carryOut 96 = .ok (.goto (-65), 3) := by decide +kernel
theorem dX1_carryOut_99 : decode cX1_carryOut 99 = .ok (.aload_n 0, 1) := by decide +kernel
theorem dX1_carryOut_100 : decode cX1_carryOut 100 = .ok (.getfield 9, 3) := by decide +kernel
theorem dX1_carryOut_103 : decode cX1_carryOut 103 = .ok (.iload_n 2, 1) := by decide +kernel
theorem dX1_carryOut_104 : decode cX1_carryOut 104 = .ok (.iload 5, 2) := by decide +kernel
theorem dX1_carryOut_106 : decode cX1_carryOut 106 = .ok (.iload 4, 2) := by decide +kernel
theorem dX1_carryOut_108 : decode cX1_carryOut 108 = .ok (.invokevirtual 80, 3) := by decide +kernel
theorem dX1_carryOut_111 : decode cX1_carryOut 111 = .ok (.aload_n 0, 1) := by decide +kernel
theorem dX1_carryOut_112 : decode cX1_carryOut 112 = .ok (.getfield 9, 3) := by decide +kernel
theorem dX1_carryOut_115 : decode cX1_carryOut 115 = .ok (.iload_n 1, 1) := by decide +kernel
theorem dX1_carryOut_116 : decode cX1_carryOut 116 = .ok (.iload_n 2, 1) := by decide +kernel
theorem dX1_carryOut_117 : decode cX1_carryOut 117 = .ok (.iload 5, 2) := by decide +kernel
theorem dX1_carryOut_119 : decode cX1_carryOut 119 = .ok (.invokevirtual 83, 3) := by decide +kernel
theorem dX1_carryOut_122 : decode cX1_carryOut 122 = .ok (.iload 4, 2) := by decide +kernel
theorem dX1_carryOut_124 : decode cX1_carryOut 124 = .ok (.ireturn, 1) := by decide +kernel
theorem dX1_measure_0 : decode cX1_measure 0 = .ok (.iconst 0, 1) := by decide +kernel
theorem dX1_measure_1 : decode cX1_measure 1 = .ok (.istore_n 2, 1) := by decide +kernel
theorem dX1_measure_2 : decode cX1_measure 2 = .ok (.iload_n 2, 1) := by decide +kernel
theorem dX1_measure_3 : decode cX1_measure 3 = .ok (.iconst 4, 1) := by decide +kernel
theorem dX1_measure_4 : decode cX1_measure 4 = .ok (.if_icmp .ge 42, 3) := by decide +kernel
theorem dX1_measure_7 : decode cX1_measure 7 = .ok (.aload_n 0, 1) := by decide +kernel
theorem dX1_measure_8 : decode cX1_measure 8 = .ok (.getfield 22, 3) := by decide +kernel
theorem dX1_measure_11 : decode cX1_measure 11 = .ok (.iload_n 2, 1) := by decide +kernel
theorem dX1_measure_12 : decode cX1_measure 12 = .ok (.invokestatic 53, 3) := by decide +kernel
theorem dX1_measure_15 : decode cX1_measure 15 = .ok (.iconst (-1), 1) := by decide +kernel
theorem dX1_measure_16 : decode cX1_measure 16 = .ok (.if_icmp .ne 24, 3) := by decide +kernel
theorem dX1_measure_19 : decode cX1_measure 19 = .ok (.aload_n 0, 1) := by decide +kernel
theorem dX1_measure_20 : decode cX1_measure 20 = .ok (.iload_n 2, 1) := by decide +kernel
theorem dX1_measure_21 : decode cX1_measure 21 = .ok (.iload_n 1, 1) := by decide +kernel
theorem dX1_measure_22 : decode cX1_measure 22 = .ok (.iconst 1, 1) := by decide +kernel
theorem dX1_measure_23 : decode cX1_measure 23 = .ok (.isub, 1) := by decide +kernel
theorem dX1_measure_24 : decode cX1_measure 24 = .ok (.invokevirtual 70, 3) := by decide +kernel
theorem dX1_measure_27 : decode cX1_measure 27 = .ok (.iconst (-1), 1) := by decide +kernel
theorem dX1_measure_28 : decode cX1_measure 28 = .ok (.if_icmp .eq 12, 3) := by decide +kernel
theorem dX1_measure_31 : decode cX1_measure 31 = .ok (.aload_n 0, 1) := by decide +kernel
theorem dX1_measure_32 : decode cX1_measure 32 = .ok (.getfield 22, 3) := by decide +kernel
theorem dX1_measure_35 : decode cX1_measure 35 = .ok (.iload_n 2, 1) := by decide +kernel
theorem dX1_measure_36 : decode cX1_measure 36 = .ok (.iload_n 1, 1) := by decide +kernel
theorem dX1_measure_37 : decode cX1_measure 37 = .ok (.invokestatic 34, 3) := by decide +kernel
theorem dX1_measure_40 : decode cX1_measure 40 = .ok (.iinc 2 1, 3) := by decide +kernel
theorem dX1_measure_43 : decode cX1_measure 43 = .ok (.goto (-41), 3) := by decide +kernel
theorem dX1_measure_46 : decode cX1_measure 46 = .ok (.return_, 1) := by decide +kernel
theorem dX1_nextBlock_0 : decode cX1_nextBlock 0 = .ok (.iconst 0, 1) := by decide +kernel
theorem dX1_nextBlock_1 : decode cX1_nextBlock 1 = .ok (.istore_n 3, 1) := by decide +kernel
theorem dX1_nextBlock_2 : decode cX1_nextBlock 2 = .ok (.iload_n 3, 1) := by decide +kernel
theorem dX1_nextBlock_3 : decode cX1_nextBlock 3 = .ok (.iconst 4, 1) := by decide +kernel
theorem dX1_nextBlock_4 : decode cX1_nextBlock 4 = .ok (.if_icmp .ge 49, 3) := by decide +kernel
theorem dX1_nextBlock_7 : decode cX1_nextBlock 7 = .ok (.aload_n 0, 1) := by decide +kernel
theorem dX1_nextBlock_8 : decode cX1_nextBlock 8 = .ok (.getfield 15, 3) := by decide +kernel
theorem dX1_nextBlock_11 : decode cX1_nextBlock 11 = .ok (.iload_n 1, 1) := by decide +kernel
theorem dX1_nextBlock_12 : decode cX1_nextBlock 12 = .ok (.invokestatic 53, 3) := by decide +kernel
theorem dX1_nextBlock_15 : decode cX1_nextBlock 15 = .ok (.aload_n 0, 1) := by decide +kernel
theorem dX1_nextBlock_16 : decode cX1_nextBlock 16 = .ok (.getfield 19, 3) := by decide +kernel
theorem dX1_nextBlock_19 : decode cX1_nextBlock 19 = .ok (.iload_n 3, 1) := by decide +kernel
theorem dX1_nextBlock_20 : decode cX1_nextBlock 20 = .ok (.invokestatic 53, 3) := by decide +kernel
theorem dX1_nextBlock_23 : decode cX1_nextBlock 23 = .ok (.iconst (-1), 1) := by decide +kernel
theorem dX1_nextBlock_24 : decode cX1_nextBlock 24 = .ok (.ixor, 1) := by decide +kernel
theorem dX1_nextBlock_25 : decode cX1_nextBlock 25 = .ok (.iand, 1) := by decide +kernel
theorem dX1_nextBlock_26 : decode cX1_nextBlock 26 = .ok (.istore 4, 2) := by decide +kernel
theorem dX1_nextBlock_28 : decode cX1_nextBlock 28 = .ok (.aload_n 0, 1) := by decide +kernel
theorem dX1_nextBlock_29 : decode cX1_nextBlock 29 = .ok (.getfield 22, 3) := by decide +kernel
theorem dX1_nextBlock_32 : decode cX1_nextBlock 32 = .ok (.iload_n 3, 1) := by decide +kernel
theorem dX1_nextBlock_33 : decode cX1_nextBlock 33 = .ok (.invokestatic 53, 3) := by decide +kernel
theorem dX1_nextBlock_36 : decode cX1_nextBlock 36 = .ok (.iload_n 2, 1) := by decide +kernel
theorem dX1_nextBlock_37 : decode cX1_nextBlock 37 = .ok (.if_icmp .ne 10, 3) := by decide +kernel
theorem dX1_nextBlock_40 : decode cX1_nextBlock 40 = .ok (.iload 4, 2) := by decide +kernel
theorem dX1_nextBlock_42 : decode cX1_nextBlock 42 = .ok (.ifCond .eq 5, 3) := by decide +kernel
theorem dX1_nextBlock_45 : decode cX1_nextBlock 45 = .ok (.iload_n 3, 1) := by decide +kernel
theorem dX1_nextBlock_46 : decode cX1_nextBlock 46 = .ok (.ireturn, 1) := by decide +kernel
theorem dX1_nextBlock_47 : decode cX1_nextBlock 47 = .ok (.iinc 3 1, 3) := by decide +kernel
theorem dX1_nextBlock_50 : decode cX1_nextBlock 50 = .ok (.goto (-48), 3) := by decide +kernel
theorem dX1_nextBlock_53 : decode cX1_nextBlock 53 = .ok (.iconst (-1), 1) := by decide +kernel
theorem dX1_nextBlock_54 : decode cX1_nextBlock 54 = .ok (.ireturn, 1) := by decide +kernel
theorem dX1_nearest_0 : decode cX1_nearest 0 = .ok (.iconst (-1), 1) := by decide +kernel
theorem dX1_nearest_1 : decode cX1_nearest 1 = .ok (.istore_n 2, 1) := by decide +kernel
theorem dX1_nearest_2 : decode cX1_nearest 2 = .ok (.iconst 0, 1) := by decide +kernel
theorem dX1_nearest_3 : decode cX1_nearest 3 = .ok (.istore_n 3, 1) := by decide +kernel
theorem dX1_nearest_4 : decode cX1_nearest 4 = .ok (.iload_n 3, 1) := by decide +kernel
theorem dX1_nearest_5 : decode cX1_nearest 5 = .ok (.iconst 4, 1) := by decide +kernel
theorem dX1_nearest_6 : decode cX1_nearest 6 = .ok (.if_icmp .ge 65, 3) := by decide +kernel
theorem dX1_nearest_9 : decode cX1_nearest 9 = .ok (.aload_n 0, 1) := by decide +kernel
theorem dX1_nearest_10 : decode cX1_nearest 10 = .ok (.getfield 22, 3) := by decide +kernel
theorem dX1_nearest_13 : decode cX1_nearest 13 = .ok (.iload_n 3, 1) := by decide +kernel
theorem dX1_nearest_14 : decode cX1_nearest 14 = .ok (.invokestatic 53, 3) := by decide +kernel
theorem dX1_nearest_17 : decode cX1_nearest 17 = .ok (.istore 4, 2) := by decide +kernel
theorem dX1_nearest_19 : decode cX1_nearest 19 = .ok (.iload_n 1, 1) := by decide +kernel
theorem dX1_nearest_20 : decode cX1_nearest 20 = .ok (.iload_n 3, 1) := by decide +kernel
theorem dX1_nearest_21 : decode cX1_nearest 21 = .ok (.invokestatic 42, 3) := by decide +kernel
theorem dX1_nearest_24 : decode cX1_nearest 24 = .ok (.ifCond .eq 13, 3) := by decide +kernel
theorem dX1_nearest_27 : decode cX1_nearest 27 = .ok (.iload 4, 2) := by decide +kernel
theorem dX1_nearest_29 : decode cX1_nearest 29 = .ok (.iconst (-1), 1) := by decide +kernel
theorem dX1_nearest_30 : decode cX1_nearest 30 = .ok (.if_icmp .eq 7, 3) := by decide +kernel
theorem dX1_nearest_33 : decode cX1_nearest 33 = .ok (.iconst 1, 1) := by decide +kernel
theorem dX1_nearest_34 : decode cX1_nearest 34 = .ok (.goto 4, 3) := by decide +kernel
theorem dX1_nearest_37 : decode cX1_nearest 37 = .ok (.iconst 0, 1) := by decide +kernel
theorem dX1_nearest_38 : decode cX1_nearest 38 = .ok (.istore 5, 2) := by decide +kernel
theorem dX1_nearest_40 : decode cX1_nearest 40 = .ok (.iload 5, 2) := by decide +kernel
theorem dX1_nearest_42 : decode cX1_nearest 42 = .ok (.ifCond .eq 23, 3) := by decide +kernel
theorem dX1_nearest_45 : decode cX1_nearest 45 = .ok (.iload_n 2, 1) := by decide +kernel
theorem dX1_nearest_46 : decode cX1_nearest 46 = .ok (.iconst (-1), 1) := by decide +kernel
theorem dX1_nearest_47 : decode cX1_nearest 47 = .ok (.if_icmp .eq 16, 3) := by decide +kernel
theorem dX1_nearest_50 : decode cX1_nearest 50 = .ok (.iload 4, 2) := by decide +kernel
theorem dX1_nearest_52 : decode cX1_nearest 52 = .ok (.aload_n 0, 1) := by decide +kernel
theorem dX1_nearest_53 : decode cX1_nearest 53 = .ok (.getfield 22, 3) := by decide +kernel
theorem dX1_nearest_56 : decode cX1_nearest 56 = .ok (.iload_n 2, 1) := by decide +kernel
theorem dX1_nearest_57 : decode cX1_nearest 57 = .ok (.invokestatic 53, 3) := by decide +kernel
theorem dX1_nearest_60 : decode cX1_nearest 60 = .ok (.if_icmp .ge 5, 3) := by decide +kernel
theorem dX1_nearest_63 : decode cX1_nearest 63 = .ok (.iload_n 3, 1) := by decide +kernel
theorem dX1_nearest_64 : decode cX1_nearest 64 = .ok (.istore_n 2, 1) := by decide +kernel
theorem dX1_nearest_65 : decode cX1_nearest 65 = .ok (.iinc 3 1, 3) := by decide +kernel
theorem dX1_nearest_68 : decode cX1_nearest 68 = .ok (.goto (-64), 3) := by decide +kernel
theorem dX1_nearest_71 : decode cX1_nearest 71 = .ok (.iload_n 2, 1) := by decide +kernel
theorem dX1_nearest_72 : decode cX1_nearest 72 = .ok (.ireturn, 1) := by decide +kernel
theorem dX1_leadsToRoom_0 : decode cX1_leadsToRoom 0 = .ok (.iload_n 3, 1) := by decide +kernel
theorem dX1_leadsToRoom_1 : decode cX1_leadsToRoom 1 = .ok (.ifCond .le 8, 3) := by decide +kernel
theorem dX1_leadsToRoom_4 : decode cX1_leadsToRoom 4 = .ok (.iload_n 3, 1) := by decide +kernel
theorem dX1_leadsToRoom_5 : decode cX1_leadsToRoom 5 = .ok (.iconst 4, 1) := by decide +kernel
theorem dX1_leadsToRoom_6 : decode cX1_leadsToRoom 6 = .ok (.if_icmp .le 14, 3) := by decide +kernel
theorem dX1_leadsToRoom_9 : decode cX1_leadsToRoom 9 = .ok (.aload_n 0, 1) := by decide +kernel
theorem dX1_leadsToRoom_10 : decode cX1_leadsToRoom 10 = .ok (.iload_n 1, 1) := by decide +kernel
theorem dX1_leadsToRoom_11 : decode cX1_leadsToRoom 11 = .ok (.iconst 0, 1) := by decide +kernel
theorem dX1_leadsToRoom_12 : decode cX1_leadsToRoom 12 = .ok (.invokevirtual 25, 3) := by decide +kernel
theorem dX1_leadsToRoom_15 : decode cX1_leadsToRoom 15 = .ok (.iload_n 2, 1) := by decide +kernel
theorem dX1_leadsToRoom_16 : decode cX1_leadsToRoom 16 = .ok (.invokestatic 42, 3) := by decide +kernel
theorem dX1_leadsToRoom_19 : decode cX1_leadsToRoom 19 = .ok (.ireturn, 1) := by decide +kernel
theorem dX1_leadsToRoom_20 : decode cX1_leadsToRoom 20 = .ok (.aload_n 0, 1) := by decide +kernel
theorem dX1_leadsToRoom_21 : decode cX1_leadsToRoom 21 = .ok (.iload_n 1, 1) := by decide +kernel
theorem dX1_leadsToRoom_22 : decode cX1_leadsToRoom 22 = .ok (.invokevirtual 57, 3) := by decide +kernel
theorem dX1_leadsToRoom_25 : decode cX1_leadsToRoom 25 = .ok (.iload 4, 2) := by decide +kernel
theorem dX1_leadsToRoom_27 : decode cX1_leadsToRoom 27 = .ok (.iconst (-1), 1) := by decide +kernel
theorem dX1_leadsToRoom_28 : decode cX1_leadsToRoom 28 = .ok (.ixor, 1) := by decide +kernel
theorem dX1_leadsToRoom_29 : decode cX1_leadsToRoom 29 = .ok (.iand, 1) := by decide +kernel
theorem dX1_leadsToRoom_30 : decode cX1_leadsToRoom 30 = .ok (.istore 5, 2) := by decide +kernel
theorem dX1_leadsToRoom_32 : decode cX1_leadsToRoom 32 = .ok (.iconst 0, 1) := by decide +kernel
theorem dX1_leadsToRoom_33 : decode cX1_leadsToRoom 33 = .ok (.istore 6, 2) := by decide +kernel
theorem dX1_leadsToRoom_35 : decode cX1_leadsToRoom 35 = .ok (.iload 6, 2) := by decide +kernel
theorem dX1_leadsToRoom_37 : decode cX1_leadsToRoom 37 = .ok (.iconst 4, 1) := by decide +kernel
theorem dX1_leadsToRoom_38 : decode cX1_leadsToRoom 38 = .ok (.if_icmp .ge 63, 3) := by decide +kernel
theorem dX1_leadsToRoom_41 : decode cX1_leadsToRoom 41 = .ok (.aload_n 0, 1) := by decide +kernel
theorem dX1_leadsToRoom_42 : decode cX1_leadsToRoom 42 = .ok (.iload_n 1, 1) := by decide +kernel
theorem dX1_leadsToRoom_43 : decode cX1_leadsToRoom 43 = .ok (.iload_n 2, 1) := by decide +kernel
theorem dX1_leadsToRoom_44 : decode cX1_leadsToRoom 44 = .ok (.invokevirtual 31, 3) := by decide +kernel
theorem dX1_leadsToRoom_47 : decode cX1_leadsToRoom 47 = .ok (.aload_n 0, 1) := by decide +kernel
theorem dX1_leadsToRoom_48 : decode cX1_leadsToRoom 48 = .ok (.iload 6, 2) := by decide +kernel
theorem dX1_leadsToRoom_50 : decode cX1_leadsToRoom 50 = .ok (.invokevirtual 38, 3) := by decide +kernel
theorem dX1_leadsToRoom_53 : decode cX1_leadsToRoom 53 = .ok (.iconst (-1), 1) := by decide +kernel
theorem dX1_leadsToRoom_54 : decode cX1_leadsToRoom 54 = .ok (.ixor, 1) := by decide +kernel
theorem dX1_leadsToRoom_55 : decode cX1_leadsToRoom 55 = .ok (.iand, 1) := by decide +kernel
theorem dX1_leadsToRoom_56 : decode cX1_leadsToRoom 56 = .ok (.istore 7, 2) := by decide +kernel
theorem dX1_leadsToRoom_58 : decode cX1_leadsToRoom 58 = .ok (.iload 5, 2) := by decide +kernel
theorem dX1_leadsToRoom_60 : decode cX1_leadsToRoom 60 = .ok (.iload 6, 2) := by decide +kernel
theorem dX1_leadsToRoom_62 : decode cX1_leadsToRoom 62 = .ok (.invokestatic 42, 3) := by decide +kernel
theorem dX1_leadsToRoom_65 : decode cX1_leadsToRoom 65 = .ok (.ifCond .eq 30, 3) := by decide +kernel
theorem dX1_leadsToRoom_68 : decode cX1_leadsToRoom 68 = .ok (.iload 7, 2) := by decide +kernel
theorem dX1_leadsToRoom_70 : decode cX1_leadsToRoom 70 = .ok (.ifCond .eq 25, 3) := by decide +kernel
theorem dX1_leadsToRoom_73 : decode cX1_leadsToRoom 73 = .ok (.aload_n 0, 1) := by decide +kernel
theorem dX1_leadsToRoom_74 : decode cX1_leadsToRoom 74 = .ok (.iload_n 1, 1) := by decide +kernel
theorem dX1_leadsToRoom_75 : decode cX1_leadsToRoom 75 = .ok (.iload 6, 2) := by decide +kernel
theorem dX1_leadsToRoom_77 : decode cX1_leadsToRoom 77 = .ok (.iload_n 3, 1) := by decide +kernel
theorem dX1_leadsToRoom_78 : decode cX1_leadsToRoom 78 = .ok (.iconst 1, 1) := by decide +kernel
theorem dX1_leadsToRoom_79 : decode cX1_leadsToRoom 79 = .ok (.isub, 1) := by decide +kernel
theorem dX1_leadsToRoom_80 : decode cX1_leadsToRoom 80 = .ok (.iload 4, 2) := by decide +kernel
theorem dX1_leadsToRoom_82 : decode cX1_leadsToRoom 82 = .ok (.iconst 1, 1) := by decide +kernel
theorem dX1_leadsToRoom_83 : decode cX1_leadsToRoom 83 = .ok (.iload 6, 2) := by decide +kernel
theorem dX1_leadsToRoom_85 : decode cX1_leadsToRoom 85 = .ok (.ishl, 1) := by decide +kernel
theorem dX1_leadsToRoom_86 : decode cX1_leadsToRoom 86 = .ok (.ior, 1) := by decide +kernel
theorem dX1_leadsToRoom_87 : decode cX1_leadsToRoom 87 = .ok (.invokestatic 60, 3) := by decide +kernel
theorem dX1_leadsToRoom_90 : decode cX1_leadsToRoom 90 = .ok (.ifCond .eq 5, 3) := by decide +kernel
theorem dX1_leadsToRoom_93 : decode cX1_leadsToRoom 93 = .ok (.iconst 1, 1) := by decide +kernel
theorem dX1_leadsToRoom_94 : decode cX1_leadsToRoom 94 = .ok (.ireturn, 1) := by decide +kernel
theorem dX1_leadsToRoom_95 : decode cX1_leadsToRoom 95 = .ok (.iinc 6 1, 3) := by decide +kernel
theorem dX1_leadsToRoom_98 : decode cX1_leadsToRoom 98 = .ok (.goto (-63), 3) := by decide +kernel
theorem dX1_leadsToRoom_101 : decode cX1_leadsToRoom 101 = .ok (.iconst 0, 1) := by decide +kernel
theorem dX1_leadsToRoom_102 : decode cX1_leadsToRoom 102 = .ok (.ireturn, 1) := by decide +kernel
theorem dX2_init_0 : decode cX2_init 0 = .ok (.aload_n 0, 1) := by decide +kernel
theorem dX2_init_1 : decode cX2_init 1 = .ok (.invokespecial 3, 3) := by decide +kernel
theorem dX2_init_4 : decode cX2_init 4 = .ok (.aload_n 0, 1) := by decide +kernel
theorem dX2_init_5 : decode cX2_init 5 = .ok (.aload_n 1, 1) := by decide +kernel
theorem dX2_init_6 : decode cX2_init 6 = .ok (.putfield 9, 3) := by decide +kernel
theorem dX2_init_9 : decode cX2_init 9 = .ok (.aload_n 0, 1) := by decide +kernel
theorem dX2_init_10 : decode cX2_init 10 = .ok (.aload_n 2, 1) := by decide +kernel
theorem dX2_init_11 : decode cX2_init 11 = .ok (.putfield 15, 3) := by decide +kernel
theorem dX2_init_14 : decode cX2_init 14 = .ok (.aload_n 0, 1) := by decide +kernel
theorem dX2_init_15 : decode cX2_init 15 = .ok (.aload_n 3, 1) := by decide +kernel
theorem dX2_init_16 : decode cX2_init 16 = .ok (.putfield 19, 3) := by decide +kernel
theorem dX2_init_19 : decode cX2_init 19 = .ok (.aload_n 0, 1) := by decide +kernel
theorem dX2_init_20 : decode cX2_init 20 = .ok (.aload 4, 2) := by decide +kernel
theorem dX2_init_22 : decode cX2_init 22 = .ok (.putfield 23, 3) := by decide +kernel
theorem dX2_init_25 : decode cX2_init 25 = .ok (.aload_n 0, 1) := by decide +kernel
theorem dX2_init_26 : decode cX2_init 26 = .ok (.iconst 0, 1) := by decide +kernel
theorem dX2_init_27 : decode cX2_init 27 = .ok (.putfield 27, 3) := by decide +kernel
theorem dX2_init_30 : decode cX2_init 30 = .ok (.return_, 1) := by decide +kernel
theorem dX2_faultOf_0 : decode cX2_faultOf 0 = .ok (.iload_n 1, 1) := by decide +kernel
theorem dX2_faultOf_1 : decode cX2_faultOf 1 = .ok (.tableswitch 166 0 11 #[63, 69, 75, 82, 89, 107, 114, 121, 127, 134, 141, 150], 63) := by decide +kernel
theorem dX2_faultOf_64 : decode cX2_faultOf 64 = .ok (.aload_n 0, 1) := by decide +kernel
theorem dX2_faultOf_65 : decode cX2_faultOf 65 = .ok (.iload_n 2, 1) := by decide +kernel
theorem dX2_faultOf_66 : decode cX2_faultOf 66 = .ok (.invokevirtual 31, 3) := by decide +kernel
theorem dX2_faultOf_69 : decode cX2_faultOf 69 = .ok (.ireturn, 1) := by decide +kernel
theorem dX2_faultOf_70 : decode cX2_faultOf 70 = .ok (.aload_n 0, 1) := by decide +kernel
theorem dX2_faultOf_71 : decode cX2_faultOf 71 = .ok (.iload_n 2, 1) := by decide +kernel
theorem dX2_faultOf_72 : decode cX2_faultOf 72 = .ok (.invokevirtual 35, 3) := by decide +kernel
theorem dX2_faultOf_75 : decode cX2_faultOf 75 = .ok (.ireturn, 1) := by decide +kernel
theorem dX2_faultOf_76 : decode cX2_faultOf 76 = .ok (.aload_n 0, 1) := by decide +kernel
theorem dX2_faultOf_77 : decode cX2_faultOf 77 = .ok (.iload_n 2, 1) := by decide +kernel
theorem dX2_faultOf_78 : decode cX2_faultOf 78 = .ok (.iload_n 3, 1) := by decide +kernel
theorem dX2_faultOf_79 : decode cX2_faultOf 79 = .ok (.invokevirtual 38, 3) := by decide +kernel
theorem dX2_faultOf_82 : decode cX2_faultOf 82 = .ok (.ireturn, 1) := by decide +kernel
theorem dX2_faultOf_83 : decode cX2_faultOf 83 = .ok (.aload_n 0, 1) := by decide +kernel
theorem dX2_faultOf_84 : decode cX2_faultOf 84 = .ok (.iload_n 2, 1) := by decide +kernel
theorem dX2_faultOf_85 : decode cX2_faultOf 85 = .ok (.iload_n 3, 1) := by decide +kernel
theorem dX2_faultOf_86 : decode cX2_faultOf 86 = .ok (.invokevirtual 42, 3) := by decide +kernel
theorem dX2_faultOf_89 : decode cX2_faultOf 89 = .ok (.ireturn, 1) := by decide +kernel
theorem dX2_faultOf_90 : decode cX2_faultOf 90 = .ok (.aload_n 0, 1) := by decide +kernel
theorem dX2_faultOf_91 : decode cX2_faultOf 91 = .ok (.getfield 9, 3) := by decide +kernel
theorem dX2_faultOf_94 : decode cX2_faultOf 94 = .ok (.getfield 45, 3) := by decide +kernel
theorem dX2_faultOf_97 : decode cX2_faultOf 97 = .ok (.bipush 12, 2) := by decide +kernel
theorem dX2_faultOf_99 : decode cX2_faultOf 99 = .ok (.if_icmp .lt 7, 3) := by decide +kernel
theorem dX2_faultOf_102 : decode cX2_faultOf 102 = .ok (.iconst 3, 1) := by decide +kernel
theorem dX2_faultOf_103 : decode cX2_faultOf 103 = .ok (.goto 4, 3) := by decide +kernel
theorem dX2_faultOf_106 : decode cX2_faultOf 106 = .ok (.iconst 0, 1) := by decide +kernel
theorem dX2_faultOf_107 : decode cX2_faultOf 107 = .ok (.ireturn, 1) := by decide +kernel
theorem dX2_faultOf_108 : decode cX2_faultOf 108 = .ok (.aload_n 0, 1) := by decide +kernel
theorem dX2_faultOf_109 : decode cX2_faultOf 109 = .ok (.iload_n 2, 1) := by decide +kernel
theorem dX2_faultOf_110 : decode cX2_faultOf 110 = .ok (.iload_n 3, 1) := by decide +kernel
theorem dX2_faultOf_111 : decode cX2_faultOf 111 = .ok (.invokevirtual 50, 3) := by decide +kernel
theorem dX2_faultOf_114 : decode cX2_faultOf 114 = .ok (.ireturn, 1) := by decide +kernel
theorem dX2_faultOf_115 : decode cX2_faultOf 115 = .ok (.aload_n 0, 1) := by decide +kernel
theorem dX2_faultOf_116 : decode cX2_faultOf 116 = .ok (.iload_n 2, 1) := by decide +kernel
theorem dX2_faultOf_117 : decode cX2_faultOf 117 = .ok (.iload_n 3, 1) := by decide +kernel
theorem dX2_faultOf_118 : decode cX2_faultOf 118 = .ok (.invokevirtual 53, 3) := by decide +kernel
theorem dX2_faultOf_121 : decode cX2_faultOf 121 = .ok (.ireturn, 1) := by decide +kernel
theorem dX2_faultOf_122 : decode cX2_faultOf 122 = .ok (.aload_n 0, 1) := by decide +kernel
theorem dX2_faultOf_123 : decode cX2_faultOf 123 = .ok (.iload_n 2, 1) := by decide +kernel
theorem dX2_faultOf_124 : decode cX2_faultOf 124 = .ok (.invokevirtual 56, 3) := by decide +kernel
theorem dX2_faultOf_127 : decode cX2_faultOf 127 = .ok (.ireturn, 1) := by decide +kernel
theorem dX2_faultOf_128 : decode cX2_faultOf 128 = .ok (.aload_n 0, 1) := by decide +kernel
theorem dX2_faultOf_129 : decode cX2_faultOf 129 = .ok (.iload_n 2, 1) := by decide +kernel
theorem dX2_faultOf_130 : decode cX2_faultOf 130 = .ok (.iload_n 3, 1) := by decide +kernel
theorem dX2_faultOf_131 : decode cX2_faultOf 131 = .ok (.invokevirtual 59, 3) := by decide +kernel
theorem dX2_faultOf_134 : decode cX2_faultOf 134 = .ok (.ireturn, 1) := by decide +kernel
theorem dX2_faultOf_135 : decode cX2_faultOf 135 = .ok (.aload_n 0, 1) := by decide +kernel
theorem dX2_faultOf_136 : decode cX2_faultOf 136 = .ok (.iload_n 2, 1) := by decide +kernel
theorem dX2_faultOf_137 : decode cX2_faultOf 137 = .ok (.iload_n 3, 1) := by decide +kernel
theorem dX2_faultOf_138 : decode cX2_faultOf 138 = .ok (.invokevirtual 62, 3) := by decide +kernel
theorem dX2_faultOf_141 : decode cX2_faultOf 141 = .ok (.ireturn, 1) := by decide +kernel
theorem dX2_faultOf_142 : decode cX2_faultOf 142 = .ok (.aload_n 0, 1) := by decide +kernel
theorem dX2_faultOf_143 : decode cX2_faultOf 143 = .ok (.iload_n 2, 1) := by decide +kernel
theorem dX2_faultOf_144 : decode cX2_faultOf 144 = .ok (.iload_n 3, 1) := by decide +kernel
theorem dX2_faultOf_145 : decode cX2_faultOf 145 = .ok (.iload 4, 2) := by decide +kernel
theorem dX2_faultOf_147 : decode cX2_faultOf 147 = .ok (.invokevirtual 65, 3) := by decide +kernel
theorem dX2_faultOf_150 : decode cX2_faultOf 150 = .ok (.ireturn, 1) := by decide +kernel
theorem dX2_faultOf_151 : decode cX2_faultOf 151 = .ok (.aload_n 0, 1) := by decide +kernel
theorem dX2_faultOf_152 : decode cX2_faultOf 152 = .ok (.getfield 9, 3) := by decide +kernel
theorem dX2_faultOf_155 : decode cX2_faultOf 155 = .ok (.invokevirtual 69, 3) := by decide +kernel
theorem dX2_faultOf_158 : decode cX2_faultOf 158 = .ok (.ifCond .le 7, 3) := by decide +kernel
theorem dX2_faultOf_161 : decode cX2_faultOf 161 = .ok (.iconst 3, 1) := by decide +kernel
theorem dX2_faultOf_162 : decode cX2_faultOf 162 = .ok (.goto 4, 3) := by decide +kernel
theorem dX2_faultOf_165 : decode cX2_faultOf 165 = .ok (.iconst 0, 1) := by decide +kernel
theorem dX2_faultOf_166 : decode cX2_faultOf 166 = .ok (.ireturn, 1) := by decide +kernel
theorem dX2_faultOf_167 : decode cX2_faultOf 167 = .ok (.iconst 0, 1) := by decide +kernel
theorem dX2_faultOf_168 : decode cX2_faultOf 168 = .ok (.ireturn, 1) := by decide +kernel
theorem dX2_perform_0 : decode cX2_perform 0 = .ok (.iload_n 1, 1) := by decide +kernel
theorem dX2_perform_1 : decode cX2_perform 1 = .ok (.tableswitch 211 0 11 #[63, 72, 81, 102, 125, 133, 143, 153, 162, 172, 182, 203], 63) := by decide +kernel
theorem dX2_perform_64 : decode cX2_perform 64 = .ok (.aload_n 0, 1) := by decide +kernel
theorem dX2_perform_65 : decode cX2_perform 65 = .ok (.getfield 9, 3) := by decide +kernel
theorem dX2_perform_68 : decode cX2_perform 68 = .ok (.iload_n 2, 1) := by decide +kernel
theorem dX2_perform_69 : decode cX2_perform 69 = .ok (.invokevirtual 73, 3) := by decide +kernel
theorem dX2_perform_72 : decode cX2_perform 72 = .ok (.ireturn, 1) := by decide +kernel
theorem dX2_perform_73 : decode cX2_perform 73 = .ok (.aload_n 0, 1) := by decide +kernel
theorem dX2_perform_74 : decode cX2_perform 74 = .ok (.getfield 9, 3) := by decide +kernel
theorem dX2_perform_77 : decode cX2_perform 77 = .ok (.iload_n 2, 1) := by decide +kernel
theorem dX2_perform_78 : decode cX2_perform 78 = .ok (.invokevirtual 76, 3) := by decide +kernel
theorem dX2_perform_81 : decode cX2_perform 81 = .ok (.ireturn, 1) := by decide +kernel
theorem dX2_perform_82 : decode cX2_perform 82 = .ok (.aload_n 0, 1) := by decide +kernel
theorem dX2_perform_83 : decode cX2_perform 83 = .ok (.getfield 9, 3) := by decide +kernel
theorem dX2_perform_86 : decode cX2_perform 86 = .ok (.iload_n 2, 1) := by decide +kernel
theorem dX2_perform_87 : decode cX2_perform 87 = .ok (.aload_n 0, 1) := by decide +kernel
theorem dX2_perform_88 : decode cX2_perform 88 = .ok (.getfield 9, 3) := by decide +kernel
theorem dX2_perform_91 : decode cX2_perform 91 = .ok (.iload_n 2, 1) := by decide +kernel
theorem dX2_perform_92 : decode cX2_perform 92 = .ok (.invokevirtual 79, 3) := by decide +kernel
theorem dX2_perform_95 : decode cX2_perform 95 = .ok (.iconst 1, 1) := by decide +kernel
theorem dX2_perform_96 : decode cX2_perform 96 = .ok (.iload_n 3, 1) := by decide +kernel
theorem dX2_perform_97 : decode cX2_perform 97 = .ok (.ishl, 1) := by decide +kernel
theorem dX2_perform_98 : decode cX2_perform 98 = .ok (.ior, 1) := by decide +kernel
theorem dX2_perform_99 : decode cX2_perform 99 = .ok (.invokevirtual 82, 3) := by decide +kernel
theorem dX2_perform_102 : decode cX2_perform 102 = .ok (.ireturn, 1) := by decide +kernel
theorem dX2_perform_103 : decode cX2_perform 103 = .ok (.aload_n 0, 1) := by decide +kernel
theorem dX2_perform_104 : decode cX2_perform 104 = .ok (.getfield 9, 3) := by decide +kernel
theorem dX2_perform_107 : decode cX2_perform 107 = .ok (.iload_n 2, 1) := by decide +kernel
theorem dX2_perform_108 : decode cX2_perform 108 = .ok (.aload_n 0, 1) := by decide +kernel
theorem dX2_perform_109 : decode cX2_perform 109 = .ok (.getfield 9, 3) := by decide +kernel
theorem dX2_perform_112 : decode cX2_perform 112 = .ok (.iload_n 2, 1) := by decide +kernel
theorem dX2_perform_113 : decode cX2_perform 113 = .ok (.invokevirtual 79, 3) := by decide +kernel
theorem dX2_perform_116 : decode cX2_perform 116 = .ok (.iconst 1, 1) := by decide +kernel
theorem dX2_perform_117 : decode cX2_perform 117 = .ok (.iload_n 3, 1) := by decide +kernel
theorem dX2_perform_118 : decode cX2_perform 118 = .ok (.ishl, 1) := by decide +kernel
theorem dX2_perform_119 : decode cX2_perform 119 = .ok (.iconst (-1), 1) := by decide +kernel
theorem dX2_perform_120 : decode cX2_perform 120 = .ok (.ixor, 1) := by decide +kernel
theorem dX2_perform_121 : decode cX2_perform 121 = .ok (.iand, 1) := by decide +kernel
theorem dX2_perform_122 : decode cX2_perform 122 = .ok (.invokevirtual 82, 3) := by decide +kernel
theorem dX2_perform_125 : decode cX2_perform 125 = .ok (.ireturn, 1) := by decide +kernel
theorem dX2_perform_126 : decode cX2_perform 126 = .ok (.aload_n 0, 1) := by decide +kernel
theorem dX2_perform_127 : decode cX2_perform 127 = .ok (.getfield 9, 3) := by decide +kernel
theorem dX2_perform_130 : decode cX2_perform 130 = .ok (.invokevirtual 85, 3) := by decide +kernel
theorem dX2_perform_133 : decode cX2_perform 133 = .ok (.ireturn, 1) := by decide +kernel
theorem dX2_perform_134 : decode cX2_perform 134 = .ok (.aload_n 0, 1) := by decide +kernel
theorem dX2_perform_135 : decode cX2_perform 135 = .ok (.getfield 9, 3) := by decide +kernel
theorem dX2_perform_138 : decode cX2_perform 138 = .ok (.iload_n 2, 1) := by decide +kernel
theorem dX2_perform_139 : decode cX2_perform 139 = .ok (.iload_n 3, 1) := by decide +kernel
theorem dX2_perform_140 : decode cX2_perform 140 = .ok (.invokevirtual 88, 3) := by decide +kernel
theorem dX2_perform_143 : decode cX2_perform 143 = .ok (.ireturn, 1) := by decide +kernel
theorem dX2_perform_144 : decode cX2_perform 144 = .ok (.aload_n 0, 1) := by decide +kernel
theorem dX2_perform_145 : decode cX2_perform 145 = .ok (.getfield 9, 3) := by decide +kernel
theorem dX2_perform_148 : decode cX2_perform 148 = .ok (.iload_n 2, 1) := by decide +kernel
theorem dX2_perform_149 : decode cX2_perform 149 = .ok (.iload_n 3, 1) := by decide +kernel
theorem dX2_perform_150 : decode cX2_perform 150 = .ok (.invokevirtual 91, 3) := by decide +kernel
theorem dX2_perform_153 : decode cX2_perform 153 = .ok (.ireturn, 1) := by decide +kernel
theorem dX2_perform_154 : decode cX2_perform 154 = .ok (.aload_n 0, 1) := by decide +kernel
theorem dX2_perform_155 : decode cX2_perform 155 = .ok (.getfield 15, 3) := by decide +kernel
theorem dX2_perform_158 : decode cX2_perform 158 = .ok (.iload_n 2, 1) := by decide +kernel
theorem dX2_perform_159 : decode cX2_perform 159 = .ok (.invokevirtual 94, 3) := by decide +kernel
theorem dX2_perform_162 : decode cX2_perform 162 = .ok (.ireturn, 1) := by decide +kernel
theorem dX2_perform_163 : decode cX2_perform 163 = .ok (.aload_n 0, 1) := by decide +kernel
theorem dX2_perform_164 : decode cX2_perform 164 = .ok (.getfield 19, 3) := by decide +kernel
theorem dX2_perform_167 : decode cX2_perform 167 = .ok (.iload_n 2, 1) := by decide +kernel
theorem dX2_perform_168 : decode cX2_perform 168 = .ok (.iload_n 3, 1) := by decide +kernel
theorem dX2_perform_169 : decode cX2_perform 169 = .ok (.invokevirtual 99, 3) := by decide +kernel
theorem dX2_perform_172 : decode cX2_perform 172 = .ok (.ireturn, 1) := by decide +kernel
theorem dX2_perform_173 : decode cX2_perform 173 = .ok (.aload_n 0, 1) := by decide +kernel
theorem dX2_perform_174 : decode cX2_perform 174 = .ok (.getfield 9, 3) := by decide +kernel
theorem dX2_perform_177 : decode cX2_perform 177 = .ok (.iload_n 2, 1) := by decide +kernel
theorem dX2_perform_178 : decode cX2_perform 178 = .ok (.iload_n 3, 1) := by decide +kernel
theorem dX2_perform_179 : decode cX2_perform 179 = .ok (.invokevirtual 104, 3) := by decide +kernel
theorem dX2_perform_182 : decode cX2_perform 182 = .ok (.ireturn, 1) := by decide +kernel
theorem dX2_perform_183 : decode cX2_perform 183 = .ok (.aload_n 0, 1) := by decide +kernel
theorem dX2_perform_184 : decode cX2_perform 184 = .ok (.getfield 9, 3) := by decide +kernel
theorem dX2_perform_187 : decode cX2_perform 187 = .ok (.iload_n 2, 1) := by decide +kernel
theorem dX2_perform_188 : decode cX2_perform 188 = .ok (.iload_n 3, 1) := by decide +kernel
theorem dX2_perform_189 : decode cX2_perform 189 = .ok (.invokevirtual 104, 3) := by decide +kernel
theorem dX2_perform_192 : decode cX2_perform 192 = .ok (.pop, 1) := by decide +kernel
theorem dX2_perform_193 : decode cX2_perform 193 = .ok (.aload_n 0, 1) := by decide +kernel
theorem dX2_perform_194 : decode cX2_perform 194 = .ok (.getfield 19, 3) := by decide +kernel
theorem dX2_perform_197 : decode cX2_perform 197 = .ok (.iload_n 2, 1) := by decide +kernel
theorem dX2_perform_198 : decode cX2_perform 198 = .ok (.iload 4, 2) := by decide +kernel
theorem dX2_perform_200 : decode cX2_perform 200 = .ok (.invokevirtual 99, 3) := by decide +kernel
theorem dX2_perform_203 : decode cX2_perform 203 = .ok (.ireturn, 1) := by decide +kernel
theorem dX2_perform_204 : decode cX2_perform 204 = .ok (.aload_n 0, 1) := by decide +kernel
theorem dX2_perform_205 : decode cX2_perform 205 = .ok (.getfield 23, 3) := by decide +kernel
theorem dX2_perform_208 : decode cX2_perform 208 = .ok (.invokevirtual 107, 3) := by decide +kernel
theorem dX2_perform_211 : decode cX2_perform 211 = .ok (.ireturn, 1) := by decide +kernel
theorem dX2_perform_212 : decode cX2_perform 212 = .ok (.iconst (-1), 1) := by decide +kernel
theorem dX2_perform_213 : decode cX2_perform 213 = .ok (.ireturn, 1) := by decide +kernel
theorem dX2_faultOfJoiner_0 : decode cX2_faultOfJoiner 0 = .ok (.aload_n 0, 1) := by decide +kernel
theorem dX2_faultOfJoiner_1 : decode cX2_faultOfJoiner 1 = .ok (.getfield 9, 3) := by decide +kernel
theorem dX2_faultOfJoiner_4 : decode cX2_faultOfJoiner 4 = .ok (.iload_n 1, 1) := by decide +kernel
theorem dX2_faultOfJoiner_5 : decode cX2_faultOfJoiner 5 = .ok (.invokevirtual 111, 3) := by decide +kernel
theorem dX2_faultOfJoiner_8 : decode cX2_faultOfJoiner 8 = .ok (.ifCond .eq 14, 3) := by decide +kernel
theorem dX2_faultOfJoiner_11 : decode cX2_faultOfJoiner 11 = .ok (.aload_n 0, 1) := by decide +kernel
theorem dX2_faultOfJoiner_12 : decode cX2_faultOfJoiner 12 = .ok (.getfield 9, 3) := by decide +kernel
theorem dX2_faultOfJoiner_15 : decode cX2_faultOfJoiner 15 = .ok (.iload_n 2, 1) := by decide +kernel
theorem dX2_faultOfJoiner_16 : decode cX2_faultOfJoiner 16 = .ok (.invokevirtual 115, 3) := by decide +kernel
theorem dX2_faultOfJoiner_19 : decode cX2_faultOfJoiner 19 = .ok (.ifCond .ne 5, 3) := by decide +kernel
theorem dX2_faultOfJoiner_22 : decode cX2_faultOfJoiner 22 = .ok (.iconst 1, 1) := by decide +kernel
theorem dX2_faultOfJoiner_23 : decode cX2_faultOfJoiner 23 = .ok (.ireturn, 1) := by decide +kernel
theorem dX2_faultOfJoiner_24 : decode cX2_faultOfJoiner 24 = .ok (.aload_n 0, 1) := by decide +kernel
theorem dX2_faultOfJoiner_25 : decode cX2_faultOfJoiner 25 = .ok (.getfield 9, 3) := by decide +kernel
theorem dX2_faultOfJoiner_28 : decode cX2_faultOfJoiner 28 = .ok (.iload_n 1, 1) := by decide +kernel
theorem dX2_faultOfJoiner_29 : decode cX2_faultOfJoiner 29 = .ok (.iload_n 2, 1) := by decide +kernel
theorem dX2_faultOfJoiner_30 : decode cX2_faultOfJoiner 30 = .ok (.invokevirtual 118, 3) := by decide +kernel
theorem dX2_faultOfJoiner_33 : decode cX2_faultOfJoiner 33 = .ok (.iconst (-1), 1) := by decide +kernel
theorem dX2_faultOfJoiner_34 : decode cX2_faultOfJoiner 34 = .ok (.if_icmp .eq 7, 3) := by decide +kernel
theorem dX2_faultOfJoiner_37 : decode cX2_faultOfJoiner 37 = .ok (.iconst 3, 1) := by decide +kernel
theorem dX2_faultOfJoiner_38 : decode cX2_faultOfJoiner 38 = .ok (.goto 4, 3) := by decide +kernel
theorem dX2_faultOfJoiner_41 : decode cX2_faultOfJoiner 41 = .ok (.iconst 0, 1) := by decide +kernel
theorem dX2_faultOfJoiner_42 : decode cX2_faultOfJoiner 42 = .ok (.ireturn, 1) := by decide +kernel
theorem dX2_faultOfNewSubject_0 : decode cX2_faultOfNewSubject 0 = .ok (.iload_n 1, 1) := by decide +kernel
theorem dX2_faultOfNewSubject_1 : decode cX2_faultOfNewSubject 1 = .ok (.iconst 1, 1) := by decide +kernel
theorem dX2_faultOfNewSubject_2 : decode cX2_faultOfNewSubject 2 = .ok (.if_icmp .lt 9, 3) := by decide +kernel
theorem dX2_faultOfNewSubject_5 : decode cX2_faultOfNewSubject 5 = .ok (.iload_n 1, 1) := by decide +kernel
theorem dX2_faultOfNewSubject_6 : decode cX2_faultOfNewSubject 6 = .ok (.bipush 9, 2) := by decide +kernel
theorem dX2_faultOfNewSubject_8 : decode cX2_faultOfNewSubject 8 = .ok (.if_icmp .le 5, 3) := by decide +kernel
theorem dX2_faultOfNewSubject_11 : decode cX2_faultOfNewSubject 11 = .ok (.iconst 2, 1) := by decide +kernel
theorem dX2_faultOfNewSubject_12 : decode cX2_faultOfNewSubject 12 = .ok (.ireturn, 1) := by decide +kernel
theorem dX2_faultOfNewSubject_13 : decode cX2_faultOfNewSubject 13 = .ok (.aload_n 0, 1) := by decide +kernel
theorem dX2_faultOfNewSubject_14 : decode cX2_faultOfNewSubject 14 = .ok (.getfield 9, 3) := by decide +kernel
theorem dX2_faultOfNewSubject_17 : decode cX2_faultOfNewSubject 17 = .ok (.getfield 121, 3) := by decide +kernel
theorem dX2_faultOfNewSubject_20 : decode cX2_faultOfNewSubject 20 = .ok (.bipush 7, 2) := by decide +kernel
theorem dX2_faultOfNewSubject_22 : decode cX2_faultOfNewSubject 22 = .ok (.if_icmp .lt 7, 3) := by decide +kernel
theorem dX2_faultOfNewSubject_25 : decode cX2_faultOfNewSubject 25 = .ok (.iconst 3, 1) := by decide +kernel
theorem dX2_faultOfNewSubject_26 : decode cX2_faultOfNewSubject 26 = .ok (.goto 4, 3) := by decide +kernel
theorem dX2_faultOfNewSubject_29 : decode cX2_faultOfNewSubject 29 = .ok (.iconst 0, 1) := by decide +kernel
theorem dX2_faultOfNewSubject_30 : decode cX2_faultOfNewSubject 30 = .ok (.ireturn, 1) := by decide +kernel
theorem dX2_faultOfBlocks_0 : decode cX2_faultOfBlocks 0 = .ok (.iload_n 1, 1) := by decide +kernel
theorem dX2_faultOfBlocks_1 : decode cX2_faultOfBlocks 1 = .ok (.iconst 1, 1) := by decide +kernel
theorem dX2_faultOfBlocks_2 : decode cX2_faultOfBlocks 2 = .ok (.if_icmp .lt 8, 3) := by decide +kernel
theorem dX2_faultOfBlocks_5 : decode cX2_faultOfBlocks 5 = .ok (.iload_n 1, 1) := by decide +kernel
theorem dX2_faultOfBlocks_6 : decode cX2_faultOfBlocks 6 = .ok (.iconst 4, 1) := by decide +kernel
theorem dX2_faultOfBlocks_7 : decode cX2_faultOfBlocks 7 = .ok (.if_icmp .le 5, 3) := by decide +kernel
theorem dX2_faultOfBlocks_10 : decode cX2_faultOfBlocks 10 = .ok (.iconst 2, 1) := by decide +kernel
theorem dX2_faultOfBlocks_11 : decode cX2_faultOfBlocks 11 = .ok (.ireturn, 1) := by decide +kernel
theorem dX2_faultOfBlocks_12 : decode cX2_faultOfBlocks 12 = .ok (.iconst 0, 1) := by decide +kernel
theorem dX2_faultOfBlocks_13 : decode cX2_faultOfBlocks 13 = .ok (.istore_n 2, 1) := by decide +kernel
theorem dX2_faultOfBlocks_14 : decode cX2_faultOfBlocks 14 = .ok (.iload_n 2, 1) := by decide +kernel
theorem dX2_faultOfBlocks_15 : decode cX2_faultOfBlocks 15 = .ok (.aload_n 0, 1) := by decide +kernel
theorem dX2_faultOfBlocks_16 : decode cX2_faultOfBlocks 16 = .ok (.getfield 9, 3) := by decide +kernel
theorem dX2_faultOfBlocks_19 : decode cX2_faultOfBlocks 19 = .ok (.getfield 121, 3) := by decide +kernel
theorem dX2_faultOfBlocks_22 : decode cX2_faultOfBlocks 22 = .ok (.if_icmp .ge 24, 3) := by decide +kernel
theorem dX2_faultOfBlocks_25 : decode cX2_faultOfBlocks 25 = .ok (.aload_n 0, 1) := by decide +kernel
theorem dX2_faultOfBlocks_26 : decode cX2_faultOfBlocks 26 = .ok (.getfield 9, 3) := by decide +kernel
theorem dX2_faultOfBlocks_29 : decode cX2_faultOfBlocks 29 = .ok (.iload_n 2, 1) := by decide +kernel
theorem dX2_faultOfBlocks_30 : decode cX2_faultOfBlocks 30 = .ok (.invokevirtual 79, 3) := by decide +kernel
theorem dX2_faultOfBlocks_33 : decode cX2_faultOfBlocks 33 = .ok (.iload_n 1, 1) := by decide +kernel
theorem dX2_faultOfBlocks_34 : decode cX2_faultOfBlocks 34 = .ok (.ishr, 1) := by decide +kernel
theorem dX2_faultOfBlocks_35 : decode cX2_faultOfBlocks 35 = .ok (.ifCond .eq 5, 3) := by decide +kernel
theorem dX2_faultOfBlocks_38 : decode cX2_faultOfBlocks 38 = .ok (.iconst 3, 1) := by decide +kernel
theorem dX2_faultOfBlocks_39 : decode cX2_faultOfBlocks 39 = .ok (.ireturn, 1) := by decide +kernel
theorem dX2_faultOfBlocks_40 : decode cX2_faultOfBlocks 40 = .ok (.iinc 2 1, 3) := by decide +kernel
theorem dX2_faultOfBlocks_43 : decode cX2_faultOfBlocks 43 = .ok (.goto (-29), 3) := by decide +kernel
theorem dX2_faultOfBlocks_46 : decode cX2_faultOfBlocks 46 = .ok (.iconst 0, 1) := by decide +kernel
theorem dX2_faultOfBlocks_47 : decode cX2_faultOfBlocks 47 = .ok (.ireturn, 1) := by decide +kernel
theorem dX2_faultOfOpening_0 : decode cX2_faultOfOpening 0 = .ok (.aload_n 0, 1) := by decide +kernel
theorem dX2_faultOfOpening_1 : decode cX2_faultOfOpening 1 = .ok (.getfield 9, 3) := by decide +kernel
theorem dX2_faultOfOpening_4 : decode cX2_faultOfOpening 4 = .ok (.iload_n 1, 1) := by decide +kernel
theorem dX2_faultOfOpening_5 : decode cX2_faultOfOpening 5 = .ok (.iload_n 2, 1) := by decide +kernel
theorem dX2_faultOfOpening_6 : decode cX2_faultOfOpening 6 = .ok (.invokevirtual 127, 3) := by decide +kernel
theorem dX2_faultOfOpening_9 : decode cX2_faultOfOpening 9 = .ok (.ifCond .ne 5, 3) := by decide +kernel
theorem dX2_faultOfOpening_12 : decode cX2_faultOfOpening 12 = .ok (.iconst 1, 1) := by decide +kernel
theorem dX2_faultOfOpening_13 : decode cX2_faultOfOpening 13 = .ok (.ireturn, 1) := by decide +kernel
theorem dX2_faultOfOpening_14 : decode cX2_faultOfOpening 14 = .ok (.aload_n 0, 1) := by decide +kernel
theorem dX2_faultOfOpening_15 : decode cX2_faultOfOpening 15 = .ok (.getfield 9, 3) := by decide +kernel
theorem dX2_faultOfOpening_18 : decode cX2_faultOfOpening 18 = .ok (.iload_n 1, 1) := by decide +kernel
theorem dX2_faultOfOpening_19 : decode cX2_faultOfOpening 19 = .ok (.invokevirtual 79, 3) := by decide +kernel
theorem dX2_faultOfOpening_22 : decode cX2_faultOfOpening 22 = .ok (.iload_n 2, 1) := by decide +kernel
theorem dX2_faultOfOpening_23 : decode cX2_faultOfOpening 23 = .ok (.invokestatic 131, 3) := by decide +kernel
theorem dX2_faultOfOpening_26 : decode cX2_faultOfOpening 26 = .ok (.ifCond .eq 7, 3) := by decide +kernel
theorem dX2_faultOfOpening_29 : decode cX2_faultOfOpening 29 = .ok (.iconst 3, 1) := by decide +kernel
theorem dX2_faultOfOpening_30 : decode cX2_faultOfOpening 30 = .ok (.goto 4, 3) := by decide +kernel
theorem dX2_faultOfOpening_33 : decode cX2_faultOfOpening 33 = .ok (.iconst 0, 1) := by decide +kernel
theorem dX2_faultOfOpening_34 : decode cX2_faultOfOpening 34 = .ok (.ireturn, 1) := by decide +kernel
theorem dX2_faultOfClosing_0 : decode cX2_faultOfClosing 0 = .ok (.aload_n 0, 1) := by decide +kernel
theorem dX2_faultOfClosing_1 : decode cX2_faultOfClosing 1 = .ok (.getfield 9, 3) := by decide +kernel
theorem dX2_faultOfClosing_4 : decode cX2_faultOfClosing 4 = .ok (.iload_n 1, 1) := by decide +kernel
theorem dX2_faultOfClosing_5 : decode cX2_faultOfClosing 5 = .ok (.iload_n 2, 1) := by decide +kernel
theorem dX2_faultOfClosing_6 : decode cX2_faultOfClosing 6 = .ok (.invokevirtual 127, 3) := by decide +kernel
theorem dX2_faultOfClosing_9 : decode cX2_faultOfClosing 9 = .ok (.ifCond .ne 5, 3) := by decide +kernel
theorem dX2_faultOfClosing_12 : decode cX2_faultOfClosing 12 = .ok (.iconst 1, 1) := by decide +kernel
theorem dX2_faultOfClosing_13 : decode cX2_faultOfClosing 13 = .ok (.ireturn, 1) := by decide +kernel
theorem dX2_faultOfClosing_14 : decode cX2_faultOfClosing 14 = .ok (.aload_n 0, 1) := by decide +kernel
theorem dX2_faultOfClosing_15 : decode cX2_faultOfClosing 15 = .ok (.getfield 9, 3) := by decide +kernel
theorem dX2_faultOfClosing_18 : decode cX2_faultOfClosing 18 = .ok (.iload_n 1, 1) := by decide +kernel
theorem dX2_faultOfClosing_19 : decode cX2_faultOfClosing 19 = .ok (.invokevirtual 79, 3) := by decide +kernel
theorem dX2_faultOfClosing_22 : decode cX2_faultOfClosing 22 = .ok (.iload_n 2, 1) := by decide +kernel
theorem dX2_faultOfClosing_23 : decode cX2_faultOfClosing 23 = .ok (.invokestatic 131, 3) := by decide +kernel
theorem dX2_faultOfClosing_26 : decode cX2_faultOfClosing 26 = .ok (.ifCond .eq 19, 3) := by decide +kernel
theorem dX2_faultOfClosing_29 : decode cX2_faultOfClosing 29 = .ok (.aload_n 0, 1) := by decide +kernel
theorem dX2_faultOfClosing_30 : decode cX2_faultOfClosing 30 = .ok (.getfield 9, 3) := by decide +kernel
theorem dX2_faultOfClosing_33 : decode cX2_faultOfClosing 33 = .ok (.iload_n 1, 1) := by decide +kernel
theorem dX2_faultOfClosing_34 : decode cX2_faultOfClosing 34 = .ok (.iload_n 2, 1) := by decide +kernel
theorem dX2_faultOfClosing_35 : decode cX2_faultOfClosing 35 = .ok (.invokevirtual 134, 3) := by decide +kernel
theorem dX2_faultOfClosing_38 : decode cX2_faultOfClosing 38 = .ok (.ifCond .ne 7, 3) := by decide +kernel
theorem dX2_faultOfClosing_41 : decode cX2_faultOfClosing 41 = .ok (.iconst 1, 1) := by decide +kernel
theorem dX2_faultOfClosing_42 : decode cX2_faultOfClosing 42 = .ok (.goto 4, 3) := by decide +kernel
theorem dX2_faultOfClosing_45 : decode cX2_faultOfClosing 45 = .ok (.iconst 0, 1) := by decide +kernel
theorem dX2_faultOfClosing_46 : decode cX2_faultOfClosing 46 = .ok (.istore_n 3, 1) := by decide +kernel
theorem dX2_faultOfClosing_47 : decode cX2_faultOfClosing 47 = .ok (.iload_n 3, 1) := by decide +kernel
theorem dX2_faultOfClosing_48 : decode cX2_faultOfClosing 48 = .ok (.ifCond .eq 7, 3) := by decide +kernel
theorem dX2_faultOfClosing_51 : decode cX2_faultOfClosing 51 = .ok (.iconst 0, 1) := by decide +kernel
theorem dX2_faultOfClosing_52 : decode cX2_faultOfClosing 52 = .ok (.goto 4, 3) := by decide +kernel
theorem dX2_faultOfClosing_55 : decode cX2_faultOfClosing 55 = .ok (.iconst 3, 1) := by decide +kernel
theorem dX2_faultOfClosing_56 : decode cX2_faultOfClosing 56 = .ok (.ireturn, 1) := by decide +kernel
theorem dX2_faultOfWish_0 : decode cX2_faultOfWish 0 = .ok (.aload_n 0, 1) := by decide +kernel
theorem dX2_faultOfWish_1 : decode cX2_faultOfWish 1 = .ok (.iload_n 1, 1) := by decide +kernel
theorem dX2_faultOfWish_2 : decode cX2_faultOfWish 2 = .ok (.iload_n 2, 1) := by decide +kernel
theorem dX2_faultOfWish_3 : decode cX2_faultOfWish 3 = .ok (.invokevirtual 53, 3) := by decide +kernel
theorem dX2_faultOfWish_6 : decode cX2_faultOfWish 6 = .ok (.istore_n 3, 1) := by decide +kernel
theorem dX2_faultOfWish_7 : decode cX2_faultOfWish 7 = .ok (.iload_n 3, 1) := by decide +kernel
theorem dX2_faultOfWish_8 : decode cX2_faultOfWish 8 = .ok (.ifCond .eq 5, 3) := by decide +kernel
theorem dX2_faultOfWish_11 : decode cX2_faultOfWish 11 = .ok (.iload_n 3, 1) := by decide +kernel
theorem dX2_faultOfWish_12 : decode cX2_faultOfWish 12 = .ok (.ireturn, 1) := by decide +kernel
theorem dX2_faultOfWish_13 : decode cX2_faultOfWish 13 = .ok (.aload_n 0, 1) := by decide +kernel
theorem dX2_faultOfWish_14 : decode cX2_faultOfWish 14 = .ok (.getfield 9, 3) := by decide +kernel
theorem dX2_faultOfWish_17 : decode cX2_faultOfWish 17 = .ok (.getfield 137, 3) := by decide +kernel
theorem dX2_faultOfWish_20 : decode cX2_faultOfWish 20 = .ok (.iload_n 1, 1) := by decide +kernel
theorem dX2_faultOfWish_21 : decode cX2_faultOfWish 21 = .ok (.invokestatic 141, 3) := by decide +kernel
theorem dX2_faultOfWish_24 : decode cX2_faultOfWish 24 = .ok (.iconst 3, 1) := by decide +kernel
theorem dX2_faultOfWish_25 : decode cX2_faultOfWish 25 = .ok (.if_icmp .lt 7, 3) := by decide +kernel
theorem dX2_faultOfWish_28 : decode cX2_faultOfWish 28 = .ok (.iconst 3, 1) := by decide +kernel
theorem dX2_faultOfWish_29 : decode cX2_faultOfWish 29 = .ok (.goto 4, 3) := by decide +kernel
theorem dX2_faultOfWish_32 : decode cX2_faultOfWish 32 = .ok (.iconst 0, 1) := by decide +kernel
theorem dX2_faultOfWish_33 : decode cX2_faultOfWish 33 = .ok (.ireturn, 1) := by decide +kernel
theorem dX2_faultOfReserve_0 : decode cX2_faultOfReserve 0 = .ok (.aload_n 0, 1) := by decide +kernel
theorem dX2_faultOfReserve_1 : decode cX2_faultOfReserve 1 = .ok (.getfield 9, 3) := by decide +kernel
theorem dX2_faultOfReserve_4 : decode cX2_faultOfReserve 4 = .ok (.iload_n 1, 1) := by decide +kernel
theorem dX2_faultOfReserve_5 : decode cX2_faultOfReserve 5 = .ok (.invokevirtual 111, 3) := by decide +kernel
theorem dX2_faultOfReserve_8 : decode cX2_faultOfReserve 8 = .ok (.ifCond .eq 14, 3) := by decide +kernel
theorem dX2_faultOfReserve_11 : decode cX2_faultOfReserve 11 = .ok (.aload_n 0, 1) := by decide +kernel
theorem dX2_faultOfReserve_12 : decode cX2_faultOfReserve 12 = .ok (.getfield 9, 3) := by decide +kernel
theorem dX2_faultOfReserve_15 : decode cX2_faultOfReserve 15 = .ok (.iload_n 2, 1) := by decide +kernel
theorem dX2_faultOfReserve_16 : decode cX2_faultOfReserve 16 = .ok (.invokevirtual 115, 3) := by decide +kernel
theorem dX2_faultOfReserve_19 : decode cX2_faultOfReserve 19 = .ok (.ifCond .ne 5, 3) := by decide +kernel
theorem dX2_faultOfReserve_22 : decode cX2_faultOfReserve 22 = .ok (.iconst 1, 1) := by decide +kernel
theorem dX2_faultOfReserve_23 : decode cX2_faultOfReserve 23 = .ok (.ireturn, 1) := by decide +kernel
theorem dX2_faultOfReserve_24 : decode cX2_faultOfReserve 24 = .ok (.aload_n 0, 1) := by decide +kernel
theorem dX2_faultOfReserve_25 : decode cX2_faultOfReserve 25 = .ok (.getfield 9, 3) := by decide +kernel
theorem dX2_faultOfReserve_28 : decode cX2_faultOfReserve 28 = .ok (.iload_n 1, 1) := by decide +kernel
theorem dX2_faultOfReserve_29 : decode cX2_faultOfReserve 29 = .ok (.invokevirtual 145, 3) := by decide +kernel
theorem dX2_faultOfReserve_32 : decode cX2_faultOfReserve 32 = .ok (.iload_n 2, 1) := by decide +kernel
theorem dX2_faultOfReserve_33 : decode cX2_faultOfReserve 33 = .ok (.invokestatic 131, 3) := by decide +kernel
theorem dX2_faultOfReserve_36 : decode cX2_faultOfReserve 36 = .ok (.ifCond .ne 18, 3) := by decide +kernel
theorem dX2_faultOfReserve_39 : decode cX2_faultOfReserve 39 = .ok (.aload_n 0, 1) := by decide +kernel
theorem dX2_faultOfReserve_40 : decode cX2_faultOfReserve 40 = .ok (.getfield 9, 3) := by decide +kernel
theorem dX2_faultOfReserve_43 : decode cX2_faultOfReserve 43 = .ok (.getfield 148, 3) := by decide +kernel
theorem dX2_faultOfReserve_46 : decode cX2_faultOfReserve 46 = .ok (.iload_n 1, 1) := by decide +kernel
theorem dX2_faultOfReserve_47 : decode cX2_faultOfReserve 47 = .ok (.invokestatic 141, 3) := by decide +kernel
theorem dX2_faultOfReserve_50 : decode cX2_faultOfReserve 50 = .ok (.iload_n 2, 1) := by decide +kernel
theorem dX2_faultOfReserve_51 : decode cX2_faultOfReserve 51 = .ok (.if_icmp .ne 7, 3) := by decide +kernel

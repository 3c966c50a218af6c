theorem dX0_init_0 : decode cX0_init 0 = .ok (.aload_n 0, 1) := by decide +kernel
theorem dX0_init_1 : decode cX0_init 1 = .ok (.invokespecial 3, 3) := by decide +kernel
theorem dX0_init_4 : decode cX0_init 4 = .ok (.aload_n 0, 1) := by decide +kernel
theorem dX0_init_5 : decode cX0_init 5 = .ok (.aload_n 1, 1) := by decide +kernel
theorem dX0_init_6 : decode cX0_init 6 = .ok (.putfield 9, 3) := by decide +kernel
theorem dX0_init_9 : decode cX0_init 9 = .ok (.aload_n 0, 1) := by decide +kernel
theorem dX0_init_10 : decode cX0_init 10 = .ok (.bipush 49, 2) := by decide +kernel
theorem dX0_init_12 : decode cX0_init 12 = .ok (.newarray .int, 2) := by decide +kernel
theorem dX0_init_14 : decode cX0_init 14 = .ok (.putfield 15, 3) := by decide +kernel
theorem dX0_init_17 : decode cX0_init 17 = .ok (.aload_n 0, 1) := by decide +kernel
theorem dX0_init_18 : decode cX0_init 18 = .ok (.bipush 7, 2) := by decide +kernel
theorem dX0_init_20 : decode cX0_init 20 = .ok (.newarray .int, 2) := by decide +kernel
theorem dX0_init_22 : decode cX0_init 22 = .ok (.putfield 19, 3) := by decide +kernel
theorem dX0_init_25 : decode cX0_init 25 = .ok (.aload_n 0, 1) := by decide +kernel
theorem dX0_init_26 : decode cX0_init 26 = .ok (.bipush 7, 2) := by decide +kernel
theorem dX0_init_28 : decode cX0_init 28 = .ok (.newarray .int, 2) := by decide +kernel
theorem dX0_init_30 : decode cX0_init 30 = .ok (.putfield 22, 3) := by decide +kernel
theorem dX0_init_33 : decode cX0_init 33 = .ok (.aload_n 0, 1) := by decide +kernel
theorem dX0_init_34 : decode cX0_init 34 = .ok (.bipush 28, 2) := by decide +kernel
theorem dX0_init_36 : decode cX0_init 36 = .ok (.newarray .int, 2) := by decide +kernel
theorem dX0_init_38 : decode cX0_init 38 = .ok (.putfield 25, 3) := by decide +kernel
theorem dX0_init_41 : decode cX0_init 41 = .ok (.return_, 1) := by decide +kernel
theorem dX0_findBest_0 : decode cX0_findBest 0 = .ok (.aload_n 0, 1) := by decide +kernel
theorem dX0_findBest_1 : decode cX0_findBest 1 = .ok (.invokevirtual 28, 3) := by decide +kernel
theorem dX0_findBest_4 : decode cX0_findBest 4 = .ok (.aload_n 0, 1) := by decide +kernel
theorem dX0_findBest_5 : decode cX0_findBest 5 = .ok (.bipush 37, 2) := by decide +kernel
theorem dX0_findBest_7 : decode cX0_findBest 7 = .ok (.putfield 31, 3) := by decide +kernel
theorem dX0_findBest_10 : decode cX0_findBest 10 = .ok (.aload_n 0, 1) := by decide +kernel
theorem dX0_findBest_11 : decode cX0_findBest 11 = .ok (.iconst 0, 1) := by decide +kernel
theorem dX0_findBest_12 : decode cX0_findBest 12 = .ok (.iconst 0, 1) := by decide +kernel
theorem dX0_findBest_13 : decode cX0_findBest 13 = .ok (.invokestatic 35, 3) := by decide +kernel
theorem dX0_findBest_16 : decode cX0_findBest 16 = .ok (.aload_n 0, 1) := by decide +kernel
theorem dX0_findBest_17 : decode cX0_findBest 17 = .ok (.getfield 31, 3) := by decide +kernel
theorem dX0_findBest_20 : decode cX0_findBest 20 = .ok (.ireturn, 1) := by decide +kernel
theorem dX0_fewestByTrial_0 : decode cX0_fewestByTrial 0 = .ok (.aload_n 0, 1) := by decide +kernel
theorem dX0_fewestByTrial_1 : decode cX0_fewestByTrial 1 = .ok (.invokevirtual 28, 3) := by decide +kernel
theorem dX0_fewestByTrial_4 : decode cX0_fewestByTrial 4 = .ok (.aload_n 0, 1) := by decide +kernel
theorem dX0_fewestByTrial_5 : decode cX0_fewestByTrial 5 = .ok (.iconst 0, 1) := by decide +kernel
theorem dX0_fewestByTrial_6 : decode cX0_fewestByTrial 6 = .ok (.iconst 0, 1) := by decide +kernel
theorem dX0_fewestByTrial_7 : decode cX0_fewestByTrial 7 = .ok (.invokestatic 39, 3) := by decide +kernel
theorem dX0_fewestByTrial_10 : decode cX0_fewestByTrial 10 = .ok (.ireturn, 1) := by decide +kernel
theorem dX0_carryOut_0 : decode cX0_carryOut 0 = .ok (.aload_n 0, 1) := by decide +kernel
theorem dX0_carryOut_1 : decode cX0_carryOut 1 = .ok (.invokevirtual 43, 3) := by decide +kernel
theorem dX0_carryOut_4 : decode cX0_carryOut 4 = .ok (.istore_n 1, 1) := by decide +kernel
theorem dX0_carryOut_5 : decode cX0_carryOut 5 = .ok (.iconst 0, 1) := by decide +kernel
theorem dX0_carryOut_6 : decode cX0_carryOut 6 = .ok (.istore_n 2, 1) := by decide +kernel
theorem dX0_carryOut_7 : decode cX0_carryOut 7 = .ok (.iload_n 2, 1) := by decide +kernel
theorem dX0_carryOut_8 : decode cX0_carryOut 8 = .ok (.aload_n 0, 1) := by decide +kernel
theorem dX0_carryOut_9 : decode cX0_carryOut 9 = .ok (.getfield 9, 3) := by decide +kernel
theorem dX0_carryOut_12 : decode cX0_carryOut 12 = .ok (.getfield 47, 3) := by decide +kernel
theorem dX0_carryOut_15 : decode cX0_carryOut 15 = .ok (.if_icmp .ge 28, 3) := by decide +kernel
theorem dX0_carryOut_18 : decode cX0_carryOut 18 = .ok (.aload_n 0, 1) := by decide +kernel
theorem dX0_carryOut_19 : decode cX0_carryOut 19 = .ok (.getfield 9, 3) := by decide +kernel
theorem dX0_carryOut_22 : decode cX0_carryOut 22 = .ok (.iload_n 2, 1) := by decide +kernel
theorem dX0_carryOut_23 : decode cX0_carryOut 23 = .ok (.iconst 1, 1) := by decide +kernel
theorem dX0_carryOut_24 : decode cX0_carryOut 24 = .ok (.aload_n 0, 1) := by decide +kernel
theorem dX0_carryOut_25 : decode cX0_carryOut 25 = .ok (.getfield 22, 3) := by decide +kernel
theorem dX0_carryOut_28 : decode cX0_carryOut 28 = .ok (.iload_n 2, 1) := by decide +kernel
theorem dX0_carryOut_29 : decode cX0_carryOut 29 = .ok (.invokestatic 52, 3) := by decide +kernel
theorem dX0_carryOut_32 : decode cX0_carryOut 32 = .ok (.ishl, 1) := by decide +kernel
theorem dX0_carryOut_33 : decode cX0_carryOut 33 = .ok (.invokevirtual 56, 3) := by decide +kernel
theorem dX0_carryOut_36 : decode cX0_carryOut 36 = .ok (.pop, 1) := by decide +kernel
theorem dX0_carryOut_37 : decode cX0_carryOut 37 = .ok (.iinc 2 1, 3) := by decide +kernel
theorem dX0_carryOut_40 : decode cX0_carryOut 40 = .ok (.goto (-33), 3) := by decide +kernel
theorem dX0_carryOut_43 : decode cX0_carryOut 43 = .ok (.iload_n 1, 1) := by decide +kernel
theorem dX0_carryOut_44 : decode cX0_carryOut 44 = .ok (.ireturn, 1) := by decide +kernel
theorem dX0_collectCommon_0 : decode cX0_collectCommon 0 = .ok (.iconst 0, 1) := by decide +kernel
theorem dX0_collectCommon_1 : decode cX0_collectCommon 1 = .ok (.istore_n 1, 1) := by decide +kernel
theorem dX0_collectCommon_2 : decode cX0_collectCommon 2 = .ok (.iload_n 1, 1) := by decide +kernel
theorem dX0_collectCommon_3 : decode cX0_collectCommon 3 = .ok (.bipush 49, 2) := by decide +kernel
theorem dX0_collectCommon_5 : decode cX0_collectCommon 5 = .ok (.if_icmp .ge 18, 3) := by decide +kernel
theorem dX0_collectCommon_8 : decode cX0_collectCommon 8 = .ok (.aload_n 0, 1) := by decide +kernel
theorem dX0_collectCommon_9 : decode cX0_collectCommon 9 = .ok (.getfield 15, 3) := by decide +kernel
theorem dX0_collectCommon_12 : decode cX0_collectCommon 12 = .ok (.iload_n 1, 1) := by decide +kernel
theorem dX0_collectCommon_13 : decode cX0_collectCommon 13 = .ok (.iconst 0, 1) := by decide +kernel
theorem dX0_collectCommon_14 : decode cX0_collectCommon 14 = .ok (.invokestatic 60, 3) := by decide +kernel
theorem dX0_collectCommon_17 : decode cX0_collectCommon 17 = .ok (.iinc 1 1, 3) := by decide +kernel
theorem dX0_collectCommon_20 : decode cX0_collectCommon 20 = .ok (.goto (-18), 3) := by decide +kernel
theorem dX0_collectCommon_23 : decode cX0_collectCommon 23 = .ok (.iconst 0, 1) := by decide +kernel
theorem dX0_collectCommon_24 : decode cX0_collectCommon 24 = .ok (.istore_n 1, 1) := by decide +kernel
theorem dX0_collectCommon_25 : decode cX0_collectCommon 25 = .ok (.iload_n 1, 1) := by decide +kernel
theorem dX0_collectCommon_26 : decode cX0_collectCommon 26 = .ok (.aload_n 0, 1) := by decide +kernel
theorem dX0_collectCommon_27 : decode cX0_collectCommon 27 = .ok (.getfield 9, 3) := by decide +kernel
theorem dX0_collectCommon_30 : decode cX0_collectCommon 30 = .ok (.getfield 64, 3) := by decide +kernel
theorem dX0_collectCommon_33 : decode cX0_collectCommon 33 = .ok (.if_icmp .ge 21, 3) := by decide +kernel
theorem dX0_collectCommon_36 : decode cX0_collectCommon 36 = .ok (.aload_n 0, 1) := by decide +kernel
theorem dX0_collectCommon_37 : decode cX0_collectCommon 37 = .ok (.aload_n 0, 1) := by decide +kernel
theorem dX0_collectCommon_38 : decode cX0_collectCommon 38 = .ok (.getfield 9, 3) := by decide +kernel
theorem dX0_collectCommon_41 : decode cX0_collectCommon 41 = .ok (.iload_n 1, 1) := by decide +kernel
theorem dX0_collectCommon_42 : decode cX0_collectCommon 42 = .ok (.invokevirtual 67, 3) := by decide +kernel
theorem dX0_collectCommon_45 : decode cX0_collectCommon 45 = .ok (.invokevirtual 71, 3) := by decide +kernel
theorem dX0_collectCommon_48 : decode cX0_collectCommon 48 = .ok (.iinc 1 1, 3) := by decide +kernel
theorem dX0_collectCommon_51 : decode cX0_collectCommon 51 = .ok (.goto (-26), 3) := by decide +kernel
theorem dX0_collectCommon_54 : decode cX0_collectCommon 54 = .ok (.return_, 1) := by decide +kernel
theorem dX0_countPairs_0 : decode cX0_countPairs 0 = .ok (.iconst 0, 1) := by decide +kernel
theorem dX0_countPairs_1 : decode cX0_countPairs 1 = .ok (.istore_n 2, 1) := by decide +kernel
theorem dX0_countPairs_2 : decode cX0_countPairs 2 = .ok (.iload_n 2, 1) := by decide +kernel
theorem dX0_countPairs_3 : decode cX0_countPairs 3 = .ok (.bipush 7, 2) := by decide +kernel
theorem dX0_countPairs_5 : decode cX0_countPairs 5 = .ok (.if_icmp .ge 67, 3) := by decide +kernel
theorem dX0_countPairs_8 : decode cX0_countPairs 8 = .ok (.iconst 0, 1) := by decide +kernel
theorem dX0_countPairs_9 : decode cX0_countPairs 9 = .ok (.istore_n 3, 1) := by decide +kernel
theorem dX0_countPairs_10 : decode cX0_countPairs 10 = .ok (.iload_n 3, 1) := by decide +kernel
theorem dX0_countPairs_11 : decode cX0_countPairs 11 = .ok (.bipush 7, 2) := by decide +kernel
theorem dX0_countPairs_13 : decode cX0_countPairs 13 = .ok (.if_icmp .ge 53, 3) := by decide +kernel
theorem dX0_countPairs_16 : decode cX0_countPairs 16 = .ok (.iload_n 1, 1) := by decide +kernel
theorem dX0_countPairs_17 : decode cX0_countPairs 17 = .ok (.iload_n 2, 1) := by decide +kernel
theorem dX0_countPairs_18 : decode cX0_countPairs 18 = .ok (.invokestatic 75, 3) := by decide +kernel
theorem dX0_countPairs_21 : decode cX0_countPairs 21 = .ok (.ifCond .eq 39, 3) := by decide +kernel
theorem dX0_countPairs_24 : decode cX0_countPairs 24 = .ok (.iload_n 1, 1) := by decide +kernel
theorem dX0_countPairs_25 : decode cX0_countPairs 25 = .ok (.iload_n 3, 1) := by decide +kernel
theorem dX0_countPairs_26 : decode cX0_countPairs 26 = .ok (.invokestatic 75, 3) := by decide +kernel
theorem dX0_countPairs_29 : decode cX0_countPairs 29 = .ok (.ifCond .eq 31, 3) := by decide +kernel
theorem dX0_countPairs_32 : decode cX0_countPairs 32 = .ok (.iload_n 2, 1) := by decide +kernel
theorem dX0_countPairs_33 : decode cX0_countPairs 33 = .ok (.bipush 7, 2) := by decide +kernel
theorem dX0_countPairs_35 : decode cX0_countPairs 35 = .ok (.imul, 1) := by decide +kernel
theorem dX0_countPairs_36 : decode cX0_countPairs 36 = .ok (.iload_n 3, 1) := by decide +kernel
theorem dX0_countPairs_37 : decode cX0_countPairs 37 = .ok (.iadd, 1) := by decide +kernel
theorem dX0_countPairs_38 : decode cX0_countPairs 38 = .ok (.istore 4, 2) := by decide +kernel
theorem dX0_countPairs_40 : decode cX0_countPairs 40 = .ok (.aload_n 0, 1) := by decide +kernel
theorem dX0_countPairs_41 : decode cX0_countPairs 41 = .ok (.getfield 15, 3) := by decide +kernel
theorem dX0_countPairs_44 : decode cX0_countPairs 44 = .ok (.iload 4, 2) := by decide +kernel
theorem dX0_countPairs_46 : decode cX0_countPairs 46 = .ok (.aload_n 0, 1) := by decide +kernel
theorem dX0_countPairs_47 : decode cX0_countPairs 47 = .ok (.getfield 15, 3) := by decide +kernel
theorem dX0_countPairs_50 : decode cX0_countPairs 50 = .ok (.iload 4, 2) := by decide +kernel
theorem dX0_countPairs_52 : decode cX0_countPairs 52 = .ok (.invokestatic 52, 3) := by decide +kernel
theorem dX0_countPairs_55 : decode cX0_countPairs 55 = .ok (.iconst 1, 1) := by decide +kernel
theorem dX0_countPairs_56 : decode cX0_countPairs 56 = .ok (.iadd, 1) := by decide +kernel
theorem dX0_countPairs_57 : decode cX0_countPairs 57 = .ok (.invokestatic 60, 3) := by decide +kernel
theorem dX0_countPairs_60 : decode cX0_countPairs 60 = .ok (.iinc 3 1, 3) := by decide +kernel
theorem dX0_countPairs_63 : decode cX0_countPairs 63 = .ok (.goto (-53), 3) := by decide +kernel
theorem dX0_countPairs_66 : decode cX0_countPairs 66 = .ok (.iinc 2 1, 3) := by decide +kernel
theorem dX0_countPairs_69 : decode cX0_countPairs 69 = .ok (.goto (-67), 3) := by decide +kernel
theorem dX0_countPairs_72 : decode cX0_countPairs 72 = .ok (.return_, 1) := by decide +kernel
theorem dX0_settle_0 : decode cX0_settle 0 = .ok (.iload_n 2, 1) := by decide +kernel
theorem dX0_settle_1 : decode cX0_settle 1 = .ok (.aload_n 0, 1) := by decide +kernel
theorem dX0_settle_2 : decode cX0_settle 2 = .ok (.getfield 31, 3) := by decide +kernel
theorem dX0_settle_5 : decode cX0_settle 5 = .ok (.if_icmp .lt 4, 3) := by decide +kernel
theorem dX0_settle_8 : decode cX0_settle 8 = .ok (.return_, 1) := by decide +kernel
theorem dX0_settle_9 : decode cX0_settle 9 = .ok (.iload_n 1, 1) := by decide +kernel
theorem dX0_settle_10 : decode cX0_settle 10 = .ok (.aload_n 0, 1) := by decide +kernel
theorem dX0_settle_11 : decode cX0_settle 11 = .ok (.getfield 9, 3) := by decide +kernel
theorem dX0_settle_14 : decode cX0_settle 14 = .ok (.getfield 47, 3) := by decide +kernel
theorem dX0_settle_17 : decode cX0_settle 17 = .ok (.if_icmp .ge 9, 3) := by decide +kernel
theorem dX0_settle_20 : decode cX0_settle 20 = .ok (.iload_n 1, 1) := by decide +kernel
theorem dX0_settle_21 : decode cX0_settle 21 = .ok (.bipush 7, 2) := by decide +kernel
theorem dX0_settle_23 : decode cX0_settle 23 = .ok (.if_icmp .lt 20, 3) := by decide +kernel
theorem dX0_settle_26 : decode cX0_settle 26 = .ok (.aload_n 0, 1) := by decide +kernel
theorem dX0_settle_27 : decode cX0_settle 27 = .ok (.iload_n 2, 1) := by decide +kernel
theorem dX0_settle_28 : decode cX0_settle 28 = .ok (.putfield 31, 3) := by decide +kernel
theorem dX0_settle_31 : decode cX0_settle 31 = .ok (.aload_n 0, 1) := by decide +kernel
theorem dX0_settle_32 : decode cX0_settle 32 = .ok (.getfield 19, 3) := by decide +kernel
theorem dX0_settle_35 : decode cX0_settle 35 = .ok (.aload_n 0, 1) := by decide +kernel
theorem dX0_settle_36 : decode cX0_settle 36 = .ok (.getfield 22, 3) := by decide +kernel
theorem dX0_settle_39 : decode cX0_settle 39 = .ok (.invokestatic 79, 3) := by decide +kernel
theorem dX0_settle_42 : decode cX0_settle 42 = .ok (.return_, 1) := by decide +kernel
theorem dX0_settle_43 : decode cX0_settle 43 = .ok (.aload_n 0, 1) := by decide +kernel
theorem dX0_settle_44 : decode cX0_settle 44 = .ok (.iload_n 1, 1) := by decide +kernel
theorem dX0_settle_45 : decode cX0_settle 45 = .ok (.invokevirtual 83, 3) := by decide +kernel
theorem dX0_settle_48 : decode cX0_settle 48 = .ok (.iconst 0, 1) := by decide +kernel
theorem dX0_settle_49 : decode cX0_settle 49 = .ok (.istore_n 3, 1) := by decide +kernel
theorem dX0_settle_50 : decode cX0_settle 50 = .ok (.iload_n 3, 1) := by decide +kernel
theorem dX0_settle_51 : decode cX0_settle 51 = .ok (.aload_n 0, 1) := by decide +kernel
theorem dX0_settle_52 : decode cX0_settle 52 = .ok (.getfield 9, 3) := by decide +kernel
theorem dX0_settle_55 : decode cX0_settle 55 = .ok (.getfield 86, 3) := by decide +kernel
theorem dX0_settle_58 : decode cX0_settle 58 = .ok (.if_icmp .ge 39, 3) := by decide +kernel
theorem dX0_settle_61 : decode cX0_settle 61 = .ok (.aload_n 0, 1) := by decide +kernel
theorem dX0_settle_62 : decode cX0_settle 62 = .ok (.getfield 19, 3) := by decide +kernel
theorem dX0_settle_65 : decode cX0_settle 65 = .ok (.iload_n 1, 1) := by decide +kernel
theorem dX0_settle_66 : decode cX0_settle 66 = .ok (.iload_n 3, 1) := by decide +kernel
theorem dX0_settle_67 : decode cX0_settle 67 = .ok (.invokestatic 60, 3) := by decide +kernel
theorem dX0_settle_70 : decode cX0_settle 70 = .ok (.aload_n 0, 1) := by decide +kernel
theorem dX0_settle_71 : decode cX0_settle 71 = .ok (.iload_n 1, 1) := by decide +kernel
theorem dX0_settle_72 : decode cX0_settle 72 = .ok (.iconst 1, 1) := by decide +kernel
theorem dX0_settle_73 : decode cX0_settle 73 = .ok (.iadd, 1) := by decide +kernel
theorem dX0_settle_74 : decode cX0_settle 74 = .ok (.iload_n 2, 1) := by decide +kernel
theorem dX0_settle_75 : decode cX0_settle 75 = .ok (.aload_n 0, 1) := by decide +kernel
theorem dX0_settle_76 : decode cX0_settle 76 = .ok (.getfield 25, 3) := by decide +kernel
theorem dX0_settle_79 : decode cX0_settle 79 = .ok (.iload_n 1, 1) := by decide +kernel
theorem dX0_settle_80 : decode cX0_settle 80 = .ok (.iconst 4, 1) := by decide +kernel
theorem dX0_settle_81 : decode cX0_settle 81 = .ok (.imul, 1) := by decide +kernel
theorem dX0_settle_82 : decode cX0_settle 82 = .ok (.iload_n 3, 1) := by decide +kernel
theorem dX0_settle_83 : decode cX0_settle 83 = .ok (.iadd, 1) := by decide +kernel
theorem dX0_settle_84 : decode cX0_settle 84 = .ok (.invokestatic 52, 3) := by decide +kernel
theorem dX0_settle_87 : decode cX0_settle 87 = .ok (.iadd, 1) := by decide +kernel
theorem dX0_settle_88 : decode cX0_settle 88 = .ok (.invokestatic 35, 3) := by decide +kernel
theorem dX0_settle_91 : decode cX0_settle 91 = .ok (.iinc 3 1, 3) := by decide +kernel
theorem dX0_settle_94 : decode cX0_settle 94 = .ok (.goto (-44), 3) := by decide +kernel
theorem dX0_settle_97 : decode cX0_settle 97 = .ok (.return_, 1) := by decide +kernel
theorem dX0_tryAll_0 : decode cX0_tryAll 0 = .ok (.iload_n 1, 1) := by decide +kernel
theorem dX0_tryAll_1 : decode cX0_tryAll 1 = .ok (.aload_n 0, 1) := by decide +kernel
theorem dX0_tryAll_2 : decode cX0_tryAll 2 = .ok (.getfield 9, 3) := by decide +kernel
theorem dX0_tryAll_5 : decode cX0_tryAll 5 = .ok (.getfield 47, 3) := by decide +kernel
theorem dX0_tryAll_8 : decode cX0_tryAll 8 = .ok (.if_icmp .ge 9, 3) := by decide +kernel
theorem dX0_tryAll_11 : decode cX0_tryAll 11 = .ok (.iload_n 1, 1) := by decide +kernel
theorem dX0_tryAll_12 : decode cX0_tryAll 12 = .ok (.bipush 7, 2) := by decide +kernel
theorem dX0_tryAll_14 : decode cX0_tryAll 14 = .ok (.if_icmp .lt 5, 3) := by decide +kernel
theorem dX0_tryAll_17 : decode cX0_tryAll 17 = .ok (.iload_n 2, 1) := by decide +kernel
theorem dX0_tryAll_18 : decode cX0_tryAll 18 = .ok (.ireturn, 1) := by decide +kernel
theorem dX0_tryAll_19 : decode cX0_tryAll 19 = .ok (.aload_n 0, 1) := by decide +kernel
theorem dX0_tryAll_20 : decode cX0_tryAll 20 = .ok (.iload_n 1, 1) := by decide +kernel
theorem dX0_tryAll_21 : decode cX0_tryAll 21 = .ok (.invokevirtual 83, 3) := by decide +kernel
theorem dX0_tryAll_24 : decode cX0_tryAll 24 = .ok (.bipush 37, 2) := by decide +kernel
theorem dX0_tryAll_26 : decode cX0_tryAll 26 = .ok (.istore_n 3, 1) := by decide +kernel
theorem dX0_tryAll_27 : decode cX0_tryAll 27 = .ok (.iconst 0, 1) := by decide +kernel
theorem dX0_tryAll_28 : decode cX0_tryAll 28 = .ok (.istore 4, 2) := by decide +kernel
theorem dX0_tryAll_30 : decode cX0_tryAll 30 = .ok (.iload 4, 2) := by decide +kernel
theorem dX0_tryAll_32 : decode cX0_tryAll 32 = .ok (.aload_n 0, 1) := by decide +kernel
theorem dX0_tryAll_33 : decode cX0_tryAll 33 = .ok (.getfield 9, 3) := by decide +kernel
theorem dX0_tryAll_36 : decode cX0_tryAll 36 = .ok (.getfield 86, 3) := by decide +kernel
theorem dX0_tryAll_39 : decode cX0_tryAll 39 = .ok (.if_icmp .ge 50, 3) := by decide +kernel
theorem dX0_tryAll_42 : decode cX0_tryAll 42 = .ok (.aload_n 0, 1) := by decide +kernel
theorem dX0_tryAll_43 : decode cX0_tryAll 43 = .ok (.getfield 19, 3) := by decide +kernel
theorem dX0_tryAll_46 : decode cX0_tryAll 46 = .ok (.iload_n 1, 1) := by decide +kernel
theorem dX0_tryAll_47 : decode cX0_tryAll 47 = .ok (.iload 4, 2) := by decide +kernel
theorem dX0_tryAll_49 : decode cX0_tryAll 49 = .ok (.invokestatic 60, 3) := by decide +kernel
theorem dX0_tryAll_52 : decode cX0_tryAll 52 = .ok (.aload_n 0, 1) := by decide +kernel
theorem dX0_tryAll_53 : decode cX0_tryAll 53 = .ok (.getfield 25, 3) := by decide +kernel
theorem dX0_tryAll_56 : decode cX0_tryAll 56 = .ok (.iload_n 1, 1) := by decide +kernel
theorem dX0_tryAll_57 : decode cX0_tryAll 57 = .ok (.iconst 4, 1) := by decide +kernel
theorem dX0_tryAll_58 : decode cX0_tryAll 58 = .ok (.imul, 1) := by decide +kernel
theorem dX0_tryAll_59 : decode cX0_tryAll 59 = .ok (.iload 4, 2) := by decide +kernel
theorem dX0_tryAll_61 : decode cX0_tryAll 61 = .ok (.iadd, 1) := by decide +kernel
theorem dX0_tryAll_62 : decode cX0_tryAll 62 = .ok (.invokestatic 52, 3) := by decide +kernel
theorem dX0_tryAll_65 : decode cX0_tryAll 65 = .ok (.istore 5, 2) := by decide +kernel
theorem dX0_tryAll_67 : decode cX0_tryAll 67 = .ok (.iload_n 3, 1) := by decide +kernel
theorem dX0_tryAll_68 : decode cX0_tryAll 68 = .ok (.aload_n 0, 1) := by decide +kernel
theorem dX0_tryAll_69 : decode cX0_tryAll 69 = .ok (.iload_n 1, 1) := by decide +kernel
theorem dX0_tryAll_70 : decode cX0_tryAll 70 = .ok (.iconst 1, 1) := by decide +kernel
theorem dX0_tryAll_71 : decode cX0_tryAll 71 = .ok (.iadd, 1) := by decide +kernel
theorem dX0_tryAll_72 : decode cX0_tryAll 72 = .ok (.iload_n 2, 1) := by decide +kernel
theorem dX0_tryAll_73 : decode cX0_tryAll 73 = .ok (.iload 5, 2) := by decide +kernel
theorem dX0_tryAll_75 : decode cX0_tryAll 75 = .ok (.iadd, 1) := by decide +kernel
theorem dX0_tryAll_76 : decode cX0_tryAll 76 = .ok (.invokestatic 39, 3) := by decide +kernel
theorem dX0_tryAll_79 : decode cX0_tryAll 79 = .ok (.invokestatic 89, 3) := by decide +kernel
theorem dX0_tryAll_82 : decode cX0_tryAll 82 = .ok (.istore_n 3, 1) := by decide +kernel
theorem dX0_tryAll_83 : decode cX0_tryAll 83 = .ok (.iinc 4 1, 3) := by decide +kernel
theorem dX0_tryAll_86 : decode cX0_tryAll 86 = .ok (.goto (-56), 3) := by decide +kernel
theorem dX0_tryAll_89 : decode cX0_tryAll 89 = .ok (.iload_n 3, 1) := by decide +kernel
theorem dX0_tryAll_90 : decode cX0_tryAll 90 = .ok (.ireturn, 1) := by decide +kernel
theorem dX0_weigh_0 : decode cX0_weigh 0 = .ok (.iload_n 1, 1) := by decide +kernel
theorem dX0_weigh_1 : decode cX0_weigh 1 = .ok (.iconst 4, 1) := by decide +kernel
theorem dX0_weigh_2 : decode cX0_weigh 2 = .ok (.imul, 1) := by decide +kernel
theorem dX0_weigh_3 : decode cX0_weigh 3 = .ok (.istore_n 2, 1) := by decide +kernel
theorem dX0_weigh_4 : decode cX0_weigh 4 = .ok (.iconst 0, 1) := by decide +kernel
theorem dX0_weigh_5 : decode cX0_weigh 5 = .ok (.istore_n 3, 1) := by decide +kernel
theorem dX0_weigh_6 : decode cX0_weigh 6 = .ok (.iload_n 3, 1) := by decide +kernel
theorem dX0_weigh_7 : decode cX0_weigh 7 = .ok (.iconst 4, 1) := by decide +kernel
theorem dX0_weigh_8 : decode cX0_weigh 8 = .ok (.if_icmp .ge 20, 3) := by decide +kernel
theorem dX0_weigh_11 : decode cX0_weigh 11 = .ok (.aload_n 0, 1) := by decide +kernel
theorem dX0_weigh_12 : decode cX0_weigh 12 = .ok (.getfield 25, 3) := by decide +kernel
theorem dX0_weigh_15 : decode cX0_weigh 15 = .ok (.iload_n 2, 1) := by decide +kernel
theorem dX0_weigh_16 : decode cX0_weigh 16 = .ok (.iload_n 3, 1) := by decide +kernel
theorem dX0_weigh_17 : decode cX0_weigh 17 = .ok (.iadd, 1) := by decide +kernel
theorem dX0_weigh_18 : decode cX0_weigh 18 = .ok (.iconst 0, 1) := by decide +kernel
theorem dX0_weigh_19 : decode cX0_weigh 19 = .ok (.invokestatic 60, 3) := by decide +kernel
theorem dX0_weigh_22 : decode cX0_weigh 22 = .ok (.iinc 3 1, 3) := by decide +kernel
theorem dX0_weigh_25 : decode cX0_weigh 25 = .ok (.goto (-19), 3) := by decide +kernel
theorem dX0_weigh_28 : decode cX0_weigh 28 = .ok (.iconst 0, 1) := by decide +kernel
theorem dX0_weigh_29 : decode cX0_weigh 29 = .ok (.istore_n 3, 1) := by decide +kernel
theorem dX0_weigh_30 : decode cX0_weigh 30 = .ok (.iload_n 3, 1) := by decide +kernel
theorem dX0_weigh_31 : decode cX0_weigh 31 = .ok (.iload_n 1, 1) := by decide +kernel
theorem dX0_weigh_32 : decode cX0_weigh 32 = .ok (.if_icmp .ge 53, 3) := by decide +kernel
theorem dX0_weigh_35 : decode cX0_weigh 35 = .ok (.iload_n 2, 1) := by decide +kernel
theorem dX0_weigh_36 : decode cX0_weigh 36 = .ok (.aload_n 0, 1) := by decide +kernel
theorem dX0_weigh_37 : decode cX0_weigh 37 = .ok (.getfield 19, 3) := by decide +kernel
theorem dX0_weigh_40 : decode cX0_weigh 40 = .ok (.iload_n 3, 1) := by decide +kernel
theorem dX0_weigh_41 : decode cX0_weigh 41 = .ok (.invokestatic 52, 3) := by decide +kernel
theorem dX0_weigh_44 : decode cX0_weigh 44 = .ok (.iadd, 1) := by decide +kernel
theorem dX0_weigh_45 : decode cX0_weigh 45 = .ok (.istore 4, 2) := by decide +kernel
theorem dX0_weigh_47 : decode cX0_weigh 47 = .ok (.aload_n 0, 1) := by decide +kernel
theorem dX0_weigh_48 : decode cX0_weigh 48 = .ok (.getfield 25, 3) := by decide +kernel
theorem dX0_weigh_51 : decode cX0_weigh 51 = .ok (.iload 4, 2) := by decide +kernel
theorem dX0_weigh_53 : decode cX0_weigh 53 = .ok (.aload_n 0, 1) := by decide +kernel
theorem dX0_weigh_54 : decode cX0_weigh 54 = .ok (.getfield 25, 3) := by decide +kernel
theorem dX0_weigh_57 : decode cX0_weigh 57 = .ok (.iload 4, 2) := by decide +kernel
theorem dX0_weigh_59 : decode cX0_weigh 59 = .ok (.invokestatic 52, 3) := by decide +kernel
theorem dX0_weigh_62 : decode cX0_weigh 62 = .ok (.aload_n 0, 1) := by decide +kernel
theorem dX0_weigh_63 : decode cX0_weigh 63 = .ok (.getfield 15, 3) := by decide +kernel
theorem dX0_weigh_66 : decode cX0_weigh 66 = .ok (.iload_n 1, 1) := by decide +kernel
theorem dX0_weigh_67 : decode cX0_weigh 67 = .ok (.bipush 7, 2) := by decide +kernel
theorem dX0_weigh_69 : decode cX0_weigh 69 = .ok (.imul, 1) := by decide +kernel
theorem dX0_weigh_70 : decode cX0_weigh 70 = .ok (.iload_n 3, 1) := by decide +kernel
theorem dX0_weigh_71 : decode cX0_weigh 71 = .ok (.iadd, 1) := by decide +kernel
theorem dX0_weigh_72 : decode cX0_weigh 72 = .ok (.invokestatic 52, 3) := by decide +kernel
theorem dX0_weigh_75 : decode cX0_weigh 75 = .ok (.iadd, 1) := by decide +kernel
theorem dX0_weigh_76 : decode cX0_weigh 76 = .ok (.invokestatic 60, 3) := by decide +kernel
theorem dX0_weigh_79 : decode cX0_weigh 79 = .ok (.iinc 3 1, 3) := by decide +kernel
theorem dX0_weigh_82 : decode cX0_weigh 82 = .ok (.goto (-52), 3) := by decide +kernel
theorem dX0_weigh_85 : decode cX0_weigh 85 = .ok (.return_, 1) := by decide +kernel
theorem dX1_init_0 : decode cX1_init 0 = .ok (.aload_n 0, 1) := by decide +kernel
theorem dX1_init_1 : decode cX1_init 1 = .ok (.invokespecial 3, 3) := by decide +kernel
theorem dX1_init_4 : decode cX1_init 4 = .ok (.aload_n 0, 1) := by decide +kernel
theorem dX1_init_5 : decode cX1_init 5 = .ok (.aload_n 1, 1) := by decide +kernel
theorem dX1_init_6 : decode cX1_init 6 = .ok (.putfield 9, 3) := by decide +kernel
theorem dX1_init_9 : decode cX1_init 9 = .ok (.aload_n 0, 1) := by decide +kernel
theorem dX1_init_10 : decode cX1_init 10 = .ok (.iconst 4, 1) := by decide +kernel
theorem dX1_init_11 : decode cX1_init 11 = .ok (.newarray .int, 2) := by decide +kernel
theorem dX1_init_13 : decode cX1_init 13 = .ok (.putfield 15, 3) := by decide +kernel
theorem dX1_init_16 : decode cX1_init 16 = .ok (.aload_n 0, 1) := by decide +kernel
theorem dX1_init_17 : decode cX1_init 17 = .ok (.iconst 4, 1) := by decide +kernel
theorem dX1_init_18 : decode cX1_init 18 = .ok (.newarray .int, 2) := by decide +kernel
theorem dX1_init_20 : decode cX1_init 20 = .ok (.putfield 19, 3) := by decide +kernel
theorem dX1_init_23 : decode cX1_init 23 = .ok (.aload_n 0, 1) := by decide +kernel
theorem dX1_init_24 : decode cX1_init 24 = .ok (.iconst 4, 1) := by decide +kernel
theorem dX1_init_25 : decode cX1_init 25 = .ok (.newarray .int, 2) := by decide +kernel
theorem dX1_init_27 : decode cX1_init 27 = .ok (.putfield 22, 3) := by decide +kernel
theorem dX1_init_30 : decode cX1_init 30 = .ok (.return_, 1) := by decide +kernel
theorem dX1_fewestMoves_0 : decode cX1_fewestMoves 0 = .ok (.aload_n 0, 1) := by decide +kernel
theorem dX1_fewestMoves_1 : decode cX1_fewestMoves 1 = .ok (.getfield 9, 3) := by decide +kernel
theorem dX1_fewestMoves_4 : decode cX1_fewestMoves 4 = .ok (.iload_n 1, 1) := by decide +kernel
theorem dX1_fewestMoves_5 : decode cX1_fewestMoves 5 = .ok (.iconst 0, 1) := by decide +kernel
theorem dX1_fewestMoves_6 : decode cX1_fewestMoves 6 = .ok (.invokevirtual 25, 3) := by decide +kernel
theorem dX1_fewestMoves_9 : decode cX1_fewestMoves 9 = .ok (.istore_n 3, 1) := by decide +kernel
theorem dX1_fewestMoves_10 : decode cX1_fewestMoves 10 = .ok (.iconst 0, 1) := by decide +kernel
theorem dX1_fewestMoves_11 : decode cX1_fewestMoves 11 = .ok (.istore 4, 2) := by decide +kernel
theorem dX1_fewestMoves_13 : decode cX1_fewestMoves 13 = .ok (.iload 4, 2) := by decide +kernel
theorem dX1_fewestMoves_15 : decode cX1_fewestMoves 15 = .ok (.iconst 4, 1) := by decide +kernel
theorem dX1_fewestMoves_16 : decode cX1_fewestMoves 16 = .ok (.if_icmp .ge 69, 3) := by decide +kernel
theorem dX1_fewestMoves_19 : decode cX1_fewestMoves 19 = .ok (.aload_n 0, 1) := by decide +kernel
theorem dX1_fewestMoves_20 : decode cX1_fewestMoves 20 = .ok (.getfield 15, 3) := by decide +kernel
theorem dX1_fewestMoves_23 : decode cX1_fewestMoves 23 = .ok (.iload 4, 2) := by decide +kernel
theorem dX1_fewestMoves_25 : decode cX1_fewestMoves 25 = .ok (.aload_n 0, 1) := by decide +kernel
theorem dX1_fewestMoves_26 : decode cX1_fewestMoves 26 = .ok (.getfield 9, 3) := by decide +kernel
theorem dX1_fewestMoves_29 : decode cX1_fewestMoves 29 = .ok (.iload_n 1, 1) := by decide +kernel
theorem dX1_fewestMoves_30 : decode cX1_fewestMoves 30 = .ok (.iload 4, 2) := by decide +kernel
theorem dX1_fewestMoves_32 : decode cX1_fewestMoves 32 = .ok (.invokevirtual 31, 3) := by decide +kernel
theorem dX1_fewestMoves_35 : decode cX1_fewestMoves 35 = .ok (.invokestatic 34, 3) := by decide +kernel
theorem dX1_fewestMoves_38 : decode cX1_fewestMoves 38 = .ok (.aload_n 0, 1) := by decide +kernel
theorem dX1_fewestMoves_39 : decode cX1_fewestMoves 39 = .ok (.getfield 19, 3) := by decide +kernel
theorem dX1_fewestMoves_42 : decode cX1_fewestMoves 42 = .ok (.iload 4, 2) := by decide +kernel
theorem dX1_fewestMoves_44 : decode cX1_fewestMoves 44 = .ok (.aload_n 0, 1) := by decide +kernel
theorem dX1_fewestMoves_45 : decode cX1_fewestMoves 45 = .ok (.getfield 9, 3) := by decide +kernel
theorem dX1_fewestMoves_48 : decode cX1_fewestMoves 48 = .ok (.iload 4, 2) := by decide +kernel
theorem dX1_fewestMoves_50 : decode cX1_fewestMoves 50 = .ok (.invokevirtual 38, 3) := by decide +kernel
theorem dX1_fewestMoves_53 : decode cX1_fewestMoves 53 = .ok (.invokestatic 34, 3) := by decide +kernel
theorem dX1_fewestMoves_56 : decode cX1_fewestMoves 56 = .ok (.aload_n 0, 1) := by decide +kernel
theorem dX1_fewestMoves_57 : decode cX1_fewestMoves 57 = .ok (.getfield 22, 3) := by decide +kernel
theorem dX1_fewestMoves_60 : decode cX1_fewestMoves 60 = .ok (.iload 4, 2) := by decide +kernel
theorem dX1_fewestMoves_62 : decode cX1_fewestMoves 62 = .ok (.iload_n 3, 1) := by decide +kernel
theorem dX1_fewestMoves_63 : decode cX1_fewestMoves 63 = .ok (.iload 4, 2) := by decide +kernel
theorem dX1_fewestMoves_65 : decode cX1_fewestMoves 65 = .ok (.invokestatic 42, 3) := by decide +kernel
theorem dX1_fewestMoves_68 : decode cX1_fewestMoves 68 = .ok (.ifCond .eq 7, 3) := by decide +kernel
theorem dX1_fewestMoves_71 : decode cX1_fewestMoves 71 = .ok (.iconst 0, 1) := by decide +kernel
theorem dX1_fewestMoves_72 : decode cX1_fewestMoves 72 = .ok (.goto 4, 3) := by decide +kernel
theorem dX1_fewestMoves_75 : decode cX1_fewestMoves 75 = .ok (.iconst (-1), 1) := by decide +kernel
theorem dX1_fewestMoves_76 : decode cX1_fewestMoves 76 = .ok (.invokestatic 34, 3) := by decide +kernel
theorem dX1_fewestMoves_79 : decode cX1_fewestMoves 79 = .ok (.iinc 4 1, 3) := by decide +kernel
theorem dX1_fewestMoves_82 : decode cX1_fewestMoves 82 = .ok (.goto (-69), 3) := by decide +kernel
theorem dX1_fewestMoves_85 : decode cX1_fewestMoves 85 = .ok (.iconst 1, 1) := by decide +kernel
theorem dX1_fewestMoves_86 : decode cX1_fewestMoves 86 = .ok (.istore 4, 2) := by decide +kernel
theorem dX1_fewestMoves_88 : decode cX1_fewestMoves 88 = .ok (.iload 4, 2) := by decide +kernel
theorem dX1_fewestMoves_90 : decode cX1_fewestMoves 90 = .ok (.iconst 4, 1) := by decide +kernel
theorem dX1_fewestMoves_91 : decode cX1_fewestMoves 91 = .ok (.if_icmp .ge 15, 3) := by decide +kernel
theorem dX1_fewestMoves_94 : decode cX1_fewestMoves 94 = .ok (.aload_n 0, 1) := by decide +kernel
theorem dX1_fewestMoves_95 : decode cX1_fewestMoves 95 = .ok (.iload 4, 2) := by decide +kernel
theorem dX1_fewestMoves_97 : decode cX1_fewestMoves 97 = .ok (.invokevirtual 46, 3) := by decide +kernel
theorem dX1_fewestMoves_100 : decode cX1_fewestMoves 100 = .ok (.iinc 4 1, 3) := by decide +kernel
theorem dX1_fewestMoves_103 : decode cX1_fewestMoves 103 = .ok (.goto (-15), 3) := by decide +kernel
theorem dX1_fewestMoves_106 : decode cX1_fewestMoves 106 = .ok (.aload_n 0, 1) := by decide +kernel
theorem dX1_fewestMoves_107 : decode cX1_fewestMoves 107 = .ok (.getfield 22, 3) := by decide +kernel
theorem dX1_fewestMoves_110 : decode cX1_fewestMoves 110 = .ok (.aload_n 0, 1) := by decide +kernel
theorem dX1_fewestMoves_111 : decode cX1_fewestMoves 111 = .ok (.iload_n 2, 1) := by decide +kernel
theorem dX1_fewestMoves_112 : decode cX1_fewestMoves 112 = .ok (.invokevirtual 50, 3) := by decide +kernel
theorem dX1_fewestMoves_115 : decode cX1_fewestMoves 115 = .ok (.invokestatic 53, 3) := by decide +kernel
theorem dX1_fewestMoves_118 : decode cX1_fewestMoves 118 = .ok (.ireturn, 1) := by decide +kernel
theorem dX1_fewestMovesByTrial_0 : decode cX1_fewestMovesByTrial 0 = .ok (.iload_n 2, 1) := by decide +kernel
theorem dX1_fewestMovesByTrial_1 : decode cX1_fewestMovesByTrial 1 = .ok (.aload_n 0, 1) := by decide +kernel
theorem dX1_fewestMovesByTrial_2 : decode cX1_fewestMovesByTrial 2 = .ok (.getfield 9, 3) := by decide +kernel
theorem dX1_fewestMovesByTrial_5 : decode cX1_fewestMovesByTrial 5 = .ok (.iload_n 1, 1) := by decide +kernel
theorem dX1_fewestMovesByTrial_6 : decode cX1_fewestMovesByTrial 6 = .ok (.invokevirtual 57, 3) := by decide +kernel
theorem dX1_fewestMovesByTrial_9 : decode cX1_fewestMovesByTrial 9 = .ok (.iand, 1) := by decide +kernel
theorem dX1_fewestMovesByTrial_10 : decode cX1_fewestMovesByTrial 10 = .ok (.istore_n 3, 1) := by decide +kernel
theorem dX1_fewestMovesByTrial_11 : decode cX1_fewestMovesByTrial 11 = .ok (.iconst 0, 1) := by decide +kernel
theorem dX1_fewestMovesByTrial_12 : decode cX1_fewestMovesByTrial 12 = .ok (.istore 4, 2) := by decide +kernel
theorem dX1_fewestMovesByTrial_14 : decode cX1_fewestMovesByTrial 14 = .ok (.iload 4, 2) := by decide +kernel
theorem dX1_fewestMovesByTrial_16 : decode cX1_fewestMovesByTrial 16 = .ok (.iconst 4, 1) := by decide +kernel
theorem dX1_fewestMovesByTrial_17 : decode cX1_fewestMovesByTrial 17 = .ok (.if_icmp .ge 55, 3) := by decide +kernel
theorem dX1_fewestMovesByTrial_20 : decode cX1_fewestMovesByTrial 20 = .ok (.iconst 0, 1) := by decide +kernel
theorem dX1_fewestMovesByTrial_21 : decode cX1_fewestMovesByTrial 21 = .ok (.istore 5, 2) := by decide +kernel
theorem dX1_fewestMovesByTrial_23 : decode cX1_fewestMovesByTrial 23 = .ok (.iload 5, 2) := by decide +kernel
theorem dX1_fewestMovesByTrial_25 : decode cX1_fewestMovesByTrial 25 = .ok (.iconst 4, 1) := by decide +kernel
theorem dX1_fewestMovesByTrial_26 : decode cX1_fewestMovesByTrial 26 = .ok (.if_icmp .ge 40, 3) := by decide +kernel
theorem dX1_fewestMovesByTrial_29 : decode cX1_fewestMovesByTrial 29 = .ok (.iload_n 3, 1) := by decide +kernel
theorem dX1_fewestMovesByTrial_30 : decode cX1_fewestMovesByTrial 30 = .ok (.iload 5, 2) := by decide +kernel
theorem dX1_fewestMovesByTrial_32 : decode cX1_fewestMovesByTrial 32 = .ok (.invokestatic 42, 3) := by decide +kernel
theorem dX1_fewestMovesByTrial_35 : decode cX1_fewestMovesByTrial 35 = .ok (.ifCond .eq 25, 3) := by decide +kernel
theorem dX1_fewestMovesByTrial_38 : decode cX1_fewestMovesByTrial 38 = .ok (.aload_n 0, 1) := by decide +kernel
theorem dX1_fewestMovesByTrial_39 : decode cX1_fewestMovesByTrial 39 = .ok (.getfield 9, 3) := by decide +kernel
theorem dX1_fewestMovesByTrial_42 : decode cX1_fewestMovesByTrial 42 = .ok (.iload_n 1, 1) := by decide +kernel
theorem dX1_fewestMovesByTrial_43 : decode cX1_fewestMovesByTrial 43 = .ok (.iload 5, 2) := by decide +kernel
theorem dX1_fewestMovesByTrial_45 : decode cX1_fewestMovesByTrial 45 = .ok (.iload 4, 2) := by decide +kernel
theorem dX1_fewestMovesByTrial_47 : decode cX1_fewestMovesByTrial 47 = .ok (.iconst 1, 1) := by decide +kernel
theorem dX1_fewestMovesByTrial_48 : decode cX1_fewestMovesByTrial 48 = .ok (.iload 5, 2) := by decide +kernel
theorem dX1_fewestMovesByTrial_50 : decode cX1_fewestMovesByTrial 50 = .ok (.ishl, 1) := by decide +kernel
theorem dX1_fewestMovesByTrial_51 : decode cX1_fewestMovesByTrial 51 = .ok (.invokestatic 60, 3) := by decide +kernel
theorem dX1_fewestMovesByTrial_54 : decode cX1_fewestMovesByTrial 54 = .ok (.ifCond .eq 6, 3) := by decide +kernel
theorem dX1_fewestMovesByTrial_57 : decode cX1_fewestMovesByTrial 57 = .ok (.iload 4, 2) := by decide +kernel
theorem dX1_fewestMovesByTrial_59 : decode cX1_fewestMovesByTrial 59 = .ok (.ireturn, 1) := by decide +kernel
theorem dX1_fewestMovesByTrial_60 : decode cX1_fewestMovesByTrial 60 = .ok (.iinc 5 1, 3) := by decide +kernel
theorem dX1_fewestMovesByTrial_63 : decode cX1_fewestMovesByTrial 63 = .ok (.goto (-40), 3) := by decide +kernel
theorem dX1_fewestMovesByTrial_66 : decode cX1_fewestMovesByTrial 66 = .ok (.iinc 4 1, 3) := by decide +kernel
theorem dX1_fewestMovesByTrial_69 : decode cX1_fewestMovesByTrial 69 = .ok (.goto (-55), 3) := by decide +kernel
theorem dX1_fewestMovesByTrial_72 : decode cX1_fewestMovesByTrial 72 = .ok (.iconst (-1), 1) := by decide +kernel
theorem dX1_fewestMovesByTrial_73 : decode cX1_fewestMovesByTrial 73 = .ok (.ireturn, 1) := by decide +kernel
theorem dX1_reasonAgainst_0 : decode cX1_reasonAgainst 0 = .ok (.aload_n 0, 1) := by decide +kernel
theorem dX1_reasonAgainst_1 : decode cX1_reasonAgainst 1 = .ok (.getfield 9, 3) := by decide +kernel
theorem dX1_reasonAgainst_4 : decode cX1_reasonAgainst 4 = .ok (.iload_n 1, 1) := by decide +kernel
theorem dX1_reasonAgainst_5 : decode cX1_reasonAgainst 5 = .ok (.invokevirtual 57, 3) := by decide +kernel
theorem dX1_reasonAgainst_8 : decode cX1_reasonAgainst 8 = .ok (.istore_n 3, 1) := by decide +kernel
theorem dX1_reasonAgainst_9 : decode cX1_reasonAgainst 9 = .ok (.iload_n 3, 1) := by decide +kernel
theorem dX1_reasonAgainst_10 : decode cX1_reasonAgainst 10 = .ok (.ifCond .ne 5, 3) := by decide +kernel
theorem dX1_reasonAgainst_13 : decode cX1_reasonAgainst 13 = .ok (.iconst 1, 1) := by decide +kernel
theorem dX1_reasonAgainst_14 : decode cX1_reasonAgainst 14 = .ok (.ireturn, 1) := by decide +kernel
theorem dX1_reasonAgainst_15 : decode cX1_reasonAgainst 15 = .ok (.iload_n 3, 1) := by decide +kernel
theorem dX1_reasonAgainst_16 : decode cX1_reasonAgainst 16 = .ok (.iload_n 2, 1) := by decide +kernel
theorem dX1_reasonAgainst_17 : decode cX1_reasonAgainst 17 = .ok (.iand, 1) := by decide +kernel
theorem dX1_reasonAgainst_18 : decode cX1_reasonAgainst 18 = .ok (.ifCond .ne 7, 3) := by decide +kernel
theorem dX1_reasonAgainst_21 : decode cX1_reasonAgainst 21 = .ok (.iconst 2, 1) := by decide +kernel
theorem dX1_reasonAgainst_22 : decode cX1_reasonAgainst 22 = .ok (.goto 4, 3) := by decide +kernel
theorem dX1_reasonAgainst_25 : decode cX1_reasonAgainst 25 = .ok (.iconst 3, 1) := by decide +kernel
theorem dX1_reasonAgainst_26 : decode cX1_reasonAgainst 26 = .ok (.ireturn, 1) := by decide +kernel
theorem dX1_carryOut_0 : decode cX1_carryOut 0 = .ok (.aload_n 0, 1) := by decide +kernel
theorem dX1_carryOut_1 : decode cX1_carryOut 1 = .ok (.getfield 9, 3) := by decide +kernel
theorem dX1_carryOut_4 : decode cX1_carryOut 4 = .ok (.iload_n 1, 1) := by decide +kernel
theorem dX1_carryOut_5 : decode cX1_carryOut 5 = .ok (.invokevirtual 64, 3) := by decide +kernel
theorem dX1_carryOut_8 : decode cX1_carryOut 8 = .ok (.istore_n 3, 1) := by decide +kernel
theorem dX1_carryOut_9 : decode cX1_carryOut 9 = .ok (.aload_n 0, 1) := by decide +kernel
theorem dX1_carryOut_10 : decode cX1_carryOut 10 = .ok (.iload_n 2, 1) := by decide +kernel
theorem dX1_carryOut_11 : decode cX1_carryOut 11 = .ok (.iload_n 3, 1) := by decide +kernel
theorem dX1_carryOut_12 : decode cX1_carryOut 12 = .ok (.invokevirtual 67, 3) := by decide +kernel
theorem dX1_carryOut_15 : decode cX1_carryOut 15 = .ok (.istore 4, 2) := by decide +kernel
theorem dX1_carryOut_17 : decode cX1_carryOut 17 = .ok (.aload_n 0, 1) := by decide +kernel
theorem dX1_carryOut_18 : decode cX1_carryOut 18 = .ok (.iload_n 3, 1) := by decide +kernel
theorem dX1_carryOut_19 : decode cX1_carryOut 19 = .ok (.invokevirtual 50, 3) := by decide +kernel
theorem dX1_carryOut_22 : decode cX1_carryOut 22 = .ok (.istore 5, 2) := by decide +kernel
theorem dX1_carryOut_24 : decode cX1_carryOut 24 = .ok (.iload 5, 2) := by decide +kernel
theorem dX1_carryOut_26 : decode cX1_carryOut 26 = .ok (.istore 6, 2) := by decide +kernel
theorem dX1_carryOut_28 : decode cX1_carryOut 28 = .ok (.iconst 0, 1) := by decide +kernel
theorem dX1_carryOut_29 : decode cX1_carryOut 29 = .ok (.istore 7, 2) := by decide +kernel
theorem dX1_carryOut_31 : decode cX1_carryOut 31 = .ok (.iload 7, 2) := by decide +kernel
theorem dX1_carryOut_33 : decode cX1_carryOut 33 = .ok (.iload 4, 2) := by decide +kernel
theorem dX1_carryOut_35 : decode cX1_carryOut 35 = .ok (.if_icmp .ge 64, 3) := by decide +kernel
theorem dX1_carryOut_38 : decode cX1_carryOut 38 = .ok (.aload_n 0, 1) := by decide +kernel
theorem dX1_carryOut_39 : decode cX1_carryOut 39 = .ok (.iload 6, 2) := by decide +kernel
theorem dX1_carryOut_41 : decode cX1_carryOut 41 = .ok (.iload 4, 2) := by decide +kernel
theorem dX1_carryOut_43 : decode cX1_carryOut 43 = .ok (.iload 7, 2) := by decide +kernel
theorem dX1_carryOut_45 : decode cX1_carryOut 45 = .ok (.isub, 1) := by decide +kernel
theorem dX1_carryOut_46 : decode cX1_carryOut 46 = .ok (.iconst 1, 1) := by decide +kernel
theorem dX1_carryOut_47 : decode cX1_carryOut 47 = .ok (.isub, 1) := by decide +kernel
theorem dX1_carryOut_48 : decode cX1_carryOut 48 = .ok (.invokevirtual 70, 3) := by decide +kernel
theorem dX1_carryOut_51 : decode cX1_carryOut 51 = .ok (.istore 8, 2) := by decide +kernel
theorem dX1_carryOut_53 : decode cX1_carryOut 53 = .ok (.aload_n 0, 1) := by decide +kernel
theorem dX1_carryOut_54 : decode cX1_carryOut 54 = .ok (.getfield 9, 3) := by decide +kernel
theorem dX1_carryOut_57 : decode cX1_carryOut 57 = .ok (.iload 7, 2) := by decide +kernel
theorem dX1_carryOut_59 : decode cX1_carryOut 59 = .ok (.aload_n 0, 1) := by decide +kernel
theorem dX1_carryOut_60 : decode cX1_carryOut 60 = .ok (.getfield 15, 3) := by decide +kernel
theorem dX1_carryOut_63 : decode cX1_carryOut 63 = .ok (.iload 6, 2) := by decide +kernel
theorem dX1_carryOut_65 : decode cX1_carryOut 65 = .ok (.invokestatic 53, 3) := by decide +kernel
theorem dX1_carryOut_68 : decode cX1_carryOut 68 = .ok (.aload_n 0, 1) := by decide +kernel
theorem dX1_carryOut_69 : decode cX1_carryOut 69 = .ok (.getfield 19, 3) := by decide +kernel
theorem dX1_carryOut_72 : decode cX1_carryOut 72 = .ok (.iload 8, 2) := by decide +kernel
theorem dX1_carryOut_74 : decode cX1_carryOut 74 = .ok (.invokestatic 53, 3) := by decide +kernel
theorem dX1_carryOut_77 : decode cX1_carryOut 77 = .ok (.iconst (-1), 1) := by decide +kernel
theorem dX1_carryOut_78 : decode cX1_carryOut 78 = .ok (.ixor, 1) := by decide +kernel
theorem dX1_carryOut_79 : decode cX1_carryOut 79 = .ok (.iand, 1) := by decide +kernel
theorem dX1_carryOut_80 : decode cX1_carryOut 80 = .ok (.iconst 0, 1) := by decide +kernel
theorem dX1_carryOut_81 : decode cX1_carryOut 81 = .ok (.invokestatic 73, 3) := by decide +kernel
theorem dX1_carryOut_84 : decode cX1_carryOut 84 = .ok (.iload 8, 2) := by decide +kernel
theorem dX1_carryOut_86 : decode cX1_carryOut 86 = .ok (.invokevirtual 76, 3) := by decide +kernel
theorem dX1_carryOut_89 : decode cX1_carryOut 89 = .ok (.iload 8, 2) := by decide +kernel
theorem dX1_carryOut_91 : decode cX1_carryOut 91 = .ok (.istore 6, 2) := by decide +kernel
theorem dX1_carryOut_93 : decode cX1_carryOut 93 = .ok (.iinc 7 1, 3) := by decide +kernel
theorem dX1_carryOut_96 : decode cX1_carryOut 96 = .ok (.goto (-65), 3) := by decide +kernel
theorem dX1_carryOut_99 : decode cX1_carryOut 99 = .ok (.aload_n 0, 1) := by decide +kernel
theorem dX1_carryOut_100 : decode cX1_carryOut 100 = .ok (.getfield 9, 3) := by decide +kernel
theorem dX1_carryOut_103 : decode cX1_carryOut 103 = .ok (.iload_n 2, 1) := by decide +kernel
theorem dX1_carryOut_104 : decode cX1_carryOut 104 = .ok (.iload 5, 2) := by decide +kernel
theorem dX1_carryOut_106 : decode cX1_carryOut 106 = .ok (.iload 4, 2) := by decide +kernel
theorem dX1_carryOut_108 : decode cX1_carryOut 108 = .ok (.invokevirtual 80, 3) := by decide +kernel
theorem dX1_carryOut_111 : decode cX1_carryOut 111 = .ok (.aload_n 0, 1) := by decide +kernel
theorem dX1_carryOut_112 : decode cX1_carryOut 112 = .ok (.getfield 9, 3) := by decide +kernel
theorem dX1_carryOut_115 : decode cX1_carryOut 115 = .ok (.iload_n 1, 1) := by decide +kernel
theorem dX1_carryOut_116 : decode cX1_carryOut 116 = .ok (.iload_n 2, 1) := by decide +kernel
theorem dX1_carryOut_117 : decode cX1_carryOut 117 = .ok (.iload 5, 2) := by decide +kernel
theorem dX1_carryOut_119 : decode cX1_carryOut 119 = .ok (.invokevirtual 83, 3) := by decide +kernel
theorem dX1_carryOut_122 : decode cX1_carryOut 122 = .ok (.iload 4, 2) := by decide +kernel
theorem dX1_carryOut_124 : decode cX1_carryOut 124 = .ok (.ireturn, 1) := by decide +kernel
theorem dX1_measure_0 : decode cX1_measure 0 = .ok (.iconst 0, 1) := by decide +kernel
theorem dX1_measure_1 : decode cX1_measure 1 = .ok (.istore_n 2, 1) := by decide +kernel
theorem dX1_measure_2 : decode cX1_measure 2 = .ok (.iload_n 2, 1) := by decide +kernel
theorem dX1_measure_3 : decode cX1_measure 3 = .ok (.iconst 4, 1) := by decide +kernel
theorem dX1_measure_4 : decode cX1_measure 4 = .ok (.if_icmp .ge 42, 3) := by decide +kernel
theorem dX1_measure_7 : decode cX1_measure 7 = .ok (.aload_n 0, 1) := by decide +kernel
theorem dX1_measure_8 : decode cX1_measure 8 = .ok (.getfield 22, 3) := by decide +kernel
theorem dX1_measure_11 : decode cX1_measure 11 = .ok (.iload_n 2, 1) := by decide +kernel
theorem dX1_measure_12 : decode cX1_measure 12 = .ok (.invokestatic 53, 3) := by decide +kernel
theorem dX1_measure_15 : decode cX1_measure 15 = .ok (.iconst (-1), 1) := by decide +kernel
theorem dX1_measure_16 : decode cX1_measure 16 = .ok (.if_icmp .ne 24, 3) := by decide +kernel
theorem dX1_measure_19 : decode cX1_measure 19 = .ok (.aload_n 0, 1) := by decide +kernel
theorem dX1_measure_20 : decode cX1_measure 20 = .ok (.iload_n 2, 1) := by decide +kernel
theorem dX1_measure_21 : decode cX1_measure 21 = .ok (.iload_n 1, 1) := by decide +kernel
theorem dX1_measure_22 : decode cX1_measure 22 = .ok (.iconst 1, 1) := by decide +kernel
theorem dX1_measure_23 : decode cX1_measure 23 = .ok (.isub, 1) := by decide +kernel
theorem dX1_measure_24 : decode cX1_measure 24 = .ok (.invokevirtual 70, 3) := by decide +kernel
theorem dX1_measure_27 : decode cX1_measure 27 = .ok (.iconst (-1), 1) := by decide +kernel
theorem dX1_measure_28 : decode cX1_measure 28 = .ok (.if_icmp .eq 12, 3) := by decide +kernel
theorem dX1_measure_31 : decode cX1_measure 31 = .ok (.aload_n 0, 1) := by decide +kernel
theorem dX1_measure_32 : decode cX1_measure 32 = .ok (.getfield 22, 3) := by decide +kernel
theorem dX1_measure_35 : decode cX1_measure 35 = .ok (.iload_n 2, 1) := by decide +kernel
theorem dX1_measure_36 : decode cX1_measure 36 = .ok (.iload_n 1, 1) := by decide +kernel
theorem dX1_measure_37 : decode cX1_measure 37 = .ok (.invokestatic 34, 3) := by decide +kernel
theorem dX1_measure_40 : decode cX1_measure 40 = .ok (.iinc 2 1, 3) := by decide +kernel
theorem dX1_measure_43 : decode cX1_measure 43 = .ok (.goto (-41), 3) := by decide +kernel
theorem dX1_measure_46 : decode cX1_measure 46 = .ok (.return_, 1) := by decide +kernel
theorem dX1_nextBlock_0 : decode cX1_nextBlock 0 = .ok (.iconst 0, 1) := by decide +kernel
theorem dX1_nextBlock_1 : decode cX1_nextBlock 1 = .ok (.istore_n 3, 1) := by decide +kernel
theorem dX1_nextBlock_2 : decode cX1_nextBlock 2 = .ok (.iload_n 3, 1) := by decide +kernel
theorem dX1_nextBlock_3 : decode cX1_nextBlock 3 = .ok (.iconst 4, 1) := by decide +kernel
theorem dX1_nextBlock_4 : decode cX1_nextBlock 4 = .ok (.if_icmp .ge 49, 3) := by decide +kernel
theorem dX1_nextBlock_7 : decode cX1_nextBlock 7 = .ok (.aload_n 0, 1) := by decide +kernel
theorem dX1_nextBlock_8 : decode cX1_nextBlock 8 = .ok (.getfield 15, 3) := by decide +kernel
theorem dX1_nextBlock_11 : decode cX1_nextBlock 11 = .ok (.iload_n 1, 1) := by decide +kernel
theorem dX1_nextBlock_12 : decode cX1_nextBlock 12 = .ok (.invokestatic 53, 3) := by decide +kernel
theorem dX1_nextBlock_15 : decode cX1_nextBlock 15 = .ok (.aload_n 0, 1) := by decide +kernel
theorem dX1_nextBlock_16 : decode cX1_nextBlock 16 = .ok (.getfield 19, 3) := by decide +kernel
theorem dX1_nextBlock_19 : decode cX1_nextBlock 19 = .ok (.iload_n 3, 1) := by decide +kernel
theorem dX1_nextBlock_20 : decode cX1_nextBlock 20 = .ok (.invokestatic 53, 3) := by decide +kernel
theorem dX1_nextBlock_23 : decode cX1_nextBlock 23 = .ok (.iconst (-1), 1) := by decide +kernel
theorem dX1_nextBlock_24 : decode cX1_nextBlock 24 = .ok (.ixor, 1) := by decide +kernel
theorem dX1_nextBlock_25 : decode cX1_nextBlock 25 = .ok (.iand, 1) := by decide +kernel
theorem dX1_nextBlock_26 : decode cX1_nextBlock 26 = .ok (.istore 4, 2) := by decide +kernel
theorem dX1_nextBlock_28 : decode cX1_nextBlock 28 = .ok (.aload_n 0, 1) := by decide +kernel
theorem dX1_nextBlock_29 : decode cX1_nextBlock 29 = .ok (.getfield 22, 3) := by decide +kernel
theorem dX1_nextBlock_32 : decode cX1_nextBlock 32 = .ok (.iload_n 3, 1) := by decide +kernel
theorem dX1_nextBlock_33 : decode cX1_nextBlock 33 = .ok (.invokestatic 53, 3) := by decide +kernel
theorem dX1_nextBlock_36 : decode cX1_nextBlock 36 = .ok (.iload_n 2, 1) := by decide +kernel
theorem dX1_nextBlock_37 : decode cX1_nextBlock 37 = .ok (.if_icmp .ne 10, 3) := by decide +kernel
theorem dX1_nextBlock_40 : decode cX1_nextBlock 40 = .ok (.iload 4, 2) := by decide +kernel
theorem dX1_nextBlock_42 : decode cX1_nextBlock 42 = .ok (.ifCond .eq 5, 3) := by decide +kernel
theorem dX1_nextBlock_45 : decode cX1_nextBlock 45 = .ok (.iload_n 3, 1) := by decide +kernel
theorem dX1_nextBlock_46 : decode cX1_nextBlock 46 = .ok (.ireturn, 1) := by decide +kernel
theorem dX1_nextBlock_47 : decode cX1_nextBlock 47 = .ok (.iinc 3 1, 3) := by decide +kernel
theorem dX1_nextBlock_50 : decode cX1_nextBlock 50 = .ok (.goto (-48), 3) := by decide +kernel
theorem dX1_nextBlock_53 : decode cX1_nextBlock 53 = .ok (.iconst (-1), 1) := by decide +kernel
theorem dX1_nextBlock_54 : decode cX1_nextBlock 54 = .ok (.ireturn, 1) := by decide +kernel
theorem dX1_nearest_0 : decode cX1_nearest 0 = .ok (.iconst (-1), 1) := by decide +kernel
theorem dX1_nearest_1 : decode cX1_nearest 1 = .ok (.istore_n 2, 1) := by decide +kernel
theorem dX1_nearest_2 : decode cX1_nearest 2 = .ok (.iconst 0, 1) := by decide +kernel
theorem dX1_nearest_3 : decode cX1_nearest 3 = .ok (.istore_n 3, 1) := by decide +kernel
theorem dX1_nearest_4 : decode cX1_nearest 4 = .ok (.iload_n 3, 1) := by decide +kernel
theorem dX1_nearest_5 : decode cX1_nearest 5 = .ok (.iconst 4, 1) := by decide +kernel
theorem dX1_nearest_6 : decode cX1_nearest 6 = .ok (.if_icmp .ge 65, 3) := by decide +kernel
theorem dX1_nearest_9 : decode cX1_nearest 9 = .ok (.aload_n 0, 1) := by decide +kernel
theorem dX1_nearest_10 : decode cX1_nearest 10 = .ok (.getfield 22, 3) := by decide +kernel
theorem dX1_nearest_13 : decode cX1_nearest 13 = .ok (.iload_n 3, 1) := by decide +kernel
theorem dX1_nearest_14 : decode cX1_nearest 14 = .ok (.invokestatic 53, 3) := by decide +kernel
theorem dX1_nearest_17 : decode cX1_nearest 17 = .ok (.istore 4, 2) := by decide +kernel
theorem dX1_nearest_19 : decode cX1_nearest 19 = .ok (.iload_n 1, 1) := by decide +kernel
theorem dX1_nearest_20 : decode cX1_nearest 20 = .ok (.iload_n 3, 1) := by decide +kernel
theorem dX1_nearest_21 : decode cX1_nearest 21 = .ok (.invokestatic 42, 3) := by decide +kernel
theorem dX1_nearest_24 : decode cX1_nearest 24 = .ok (.ifCond .eq 13, 3) := by decide +kernel
theorem dX1_nearest_27 : decode cX1_nearest 27 = .ok (.iload 4, 2) := by decide +kernel
theorem dX1_nearest_29 : decode cX1_nearest 29 = .ok (.iconst (-1), 1) := by decide +kernel
theorem dX1_nearest_30 : decode cX1_nearest 30 = .ok (.if_icmp .eq 7, 3) := by decide +kernel
theorem dX1_nearest_33 : decode cX1_nearest 33 = .ok (.iconst 1, 1) := by decide +kernel
theorem dX1_nearest_34 : decode cX1_nearest 34 = .ok (.goto 4, 3) := by decide +kernel
theorem dX1_nearest_37 : decode cX1_nearest 37 = .ok (.iconst 0, 1) := by decide +kernel
theorem dX1_nearest_38 : decode cX1_nearest 38 = .ok (.istore 5, 2) := by decide +kernel
theorem dX1_nearest_40 : decode cX1_nearest 40 = .ok (.iload 5, 2) := by decide +kernel
theorem dX1_nearest_42 : decode cX1_nearest 42 = .ok (.ifCond .eq 23, 3) := by decide +kernel
theorem dX1_nearest_45 : decode cX1_nearest 45 = .ok (.iload_n 2, 1) := by decide +kernel
theorem dX1_nearest_46 : decode cX1_nearest 46 = .ok (.iconst (-1), 1) := by decide +kernel
theorem dX1_nearest_47 : decode cX1_nearest 47 = .ok (.if_icmp .eq 16, 3) := by decide +kernel
theorem dX1_nearest_50 : decode cX1_nearest 50 = .ok (.iload 4, 2) := by decide +kernel
theorem dX1_nearest_52 : decode cX1_nearest 52 = .ok (.aload_n 0, 1) := by decide +kernel
theorem dX1_nearest_53 : decode cX1_nearest 53 = .ok (.getfield 22, 3) := by decide +kernel
theorem dX1_nearest_56 : decode cX1_nearest 56 = .ok (.iload_n 2, 1) := by decide +kernel
theorem dX1_nearest_57 : decode cX1_nearest 57 = .ok (.invokestatic 53, 3) := by decide +kernel
theorem dX1_nearest_60 : decode cX1_nearest 60 = .ok (.if_icmp .ge 5, 3) := by decide +kernel
theorem dX1_nearest_63 : decode cX1_nearest 63 = .ok (.iload_n 3, 1) := by decide +kernel
theorem dX1_nearest_64 : decode cX1_nearest 64 = .ok (.istore_n 2, 1) := by decide +kernel
theorem dX1_nearest_65 : decode cX1_nearest 65 = .ok (.iinc 3 1, 3) := by decide +kernel
theorem dX1_nearest_68 : decode cX1_nearest 68 = .ok (.goto (-64), 3) := by decide +kernel
theorem dX1_nearest_71 : decode cX1_nearest 71 = .ok (.iload_n 2, 1) := by decide +kernel
theorem dX1_nearest_72 : decode cX1_nearest 72 = .ok (.ireturn, 1) := by decide +kernel
theorem dX1_leadsToRoom_0 : decode cX1_leadsToRoom 0 = .ok (.iload_n 3, 1) := by decide +kernel
theorem dX1_leadsToRoom_1 : decode cX1_leadsToRoom 1 = .ok (.ifCond .le 8, 3) := by decide +kernel
theorem dX1_leadsToRoom_4 : decode cX1_leadsToRoom 4 = .ok (.iload_n 3, 1) := by decide +kernel
theorem dX1_leadsToRoom_5 : decode cX1_leadsToRoom 5 = .ok (.iconst 4, 1) := by decide +kernel
theorem dX1_leadsToRoom_6 : decode cX1_leadsToRoom 6 = .ok (.if_icmp .le 14, 3) := by decide +kernel
theorem dX1_leadsToRoom_9 : decode cX1_leadsToRoom 9 = .ok (.aload_n 0, 1) := by decide +kernel
theorem dX1_leadsToRoom_10 : decode cX1_leadsToRoom 10 = .ok (.iload_n 1, 1) := by decide +kernel
theorem dX1_leadsToRoom_11 : decode cX1_leadsToRoom 11 = .ok (.iconst 0, 1) := by decide +kernel
theorem dX1_leadsToRoom_12 : decode cX1_leadsToRoom 12 = .ok (.invokevirtual 25, 3) := by decide +kernel
theorem dX1_leadsToRoom_15 : decode cX1_leadsToRoom 15 = .ok (.iload_n 2, 1) := by decide +kernel
theorem dX1_leadsToRoom_16 : decode cX1_leadsToRoom 16 = .ok (.invokestatic 42, 3) := by decide +kernel
theorem dX1_leadsToRoom_19 : decode cX1_leadsToRoom 19 = .ok (.ireturn, 1) := by decide +kernel
theorem dX1_leadsToRoom_20 : decode cX1_leadsToRoom 20 = .ok (.aload_n 0, 1) := by decide +kernel
theorem dX1_leadsToRoom_21 : decode cX1_leadsToRoom 21 = .ok (.iload_n 1, 1) := by decide +kernel
theorem dX1_leadsToRoom_22 : decode cX1_leadsToRoom 22 = .ok (.invokevirtual 57, 3) := by decide +kernel
theorem dX1_leadsToRoom_25 : decode cX1_leadsToRoom 25 = .ok (.iload 4, 2) := by decide +kernel
theorem dX1_leadsToRoom_27 : decode cX1_leadsToRoom 27 = .ok (.iconst (-1), 1) := by decide +kernel
theorem dX1_leadsToRoom_28 : decode cX1_leadsToRoom 28 = .ok (.ixor, 1) := by decide +kernel
theorem dX1_leadsToRoom_29 : decode cX1_leadsToRoom 29 = .ok (.iand, 1) := by decide +kernel
theorem dX1_leadsToRoom_30 : decode cX1_leadsToRoom 30 = .ok (.istore 5, 2) := by decide +kernel
theorem dX1_leadsToRoom_32 : decode cX1_leadsToRoom 32 = .ok (.iconst 0, 1) := by decide +kernel
theorem dX1_leadsToRoom_33 : decode cX1_leadsToRoom 33 = .ok (.istore 6, 2) := by decide +kernel
theorem dX1_leadsToRoom_35 : decode cX1_leadsToRoom 35 = .ok (.iload 6, 2) := by decide +kernel
theorem dX1_leadsToRoom_37 : decode cX1_leadsToRoom 37 = .ok (.iconst 4, 1) := by decide +kernel
theorem dX1_leadsToRoom_38 : decode cX1_leadsToRoom 38 = .ok (.if_icmp .ge 63, 3) := by decide +kernel
theorem dX1_leadsToRoom_41 : decode cX1_leadsToRoom 41 = .ok (.aload_n 0, 1) := by decide +kernel
theorem dX1_leadsToRoom_42 : decode cX1_leadsToRoom 42 = .ok (.iload_n 1, 1) := by decide +kernel
theorem dX1_leadsToRoom_43 : decode cX1_leadsToRoom 43 = .ok (.iload_n 2, 1) := by decide +kernel
theorem dX1_leadsToRoom_44 : decode cX1_leadsToRoom 44 = .ok (.invokevirtual 31, 3) := by decide +kernel
theorem dX1_leadsToRoom_47 : decode cX1_leadsToRoom 47 = .ok (.aload_n 0, 1) := by decide +kernel
theorem dX1_leadsToRoom_48 : decode cX1_leadsToRoom 48 = .ok (.iload 6, 2) := by decide +kernel
theorem dX1_leadsToRoom_50 : decode cX1_leadsToRoom 50 = .ok (.invokevirtual 38, 3) := by decide +kernel
theorem dX1_leadsToRoom_53 : decode cX1_leadsToRoom 53 = .ok (.iconst (-1), 1) := by decide +kernel
theorem dX1_leadsToRoom_54 : decode cX1_leadsToRoom 54 = .ok (.ixor, 1) := by decide +kernel
theorem dX1_leadsToRoom_55 : decode cX1_leadsToRoom 55 = .ok (.iand, 1) := by decide +kernel
theorem dX1_leadsToRoom_56 : decode cX1_leadsToRoom 56 = .ok (.istore 7, 2) := by decide +kernel
theorem dX1_leadsToRoom_58 : decode cX1_leadsToRoom 58 = .ok (.iload 5, 2) := by decide +kernel
theorem dX1_leadsToRoom_60 : decode cX1_leadsToRoom 60 = .ok (.iload 6, 2) := by decide +kernel
theorem dX1_leadsToRoom_62 : decode cX1_leadsToRoom 62 = .ok (.invokestatic 42, 3) := by decide +kernel
theorem dX1_leadsToRoom_65 : decode cX1_leadsToRoom 65 = .ok (.ifCond .eq 30, 3) := by decide +kernel
theorem dX1_leadsToRoom_68 : decode cX1_leadsToRoom 68 = .ok (.iload 7, 2) := by decide +kernel
theorem dX1_leadsToRoom_70 : decode cX1_leadsToRoom 70 = .ok (.ifCond .eq 25, 3) := by decide +kernel
theorem dX1_leadsToRoom_73 : decode cX1_leadsToRoom 73 = .ok (.aload_n 0, 1) := by decide +kernel
theorem dX1_leadsToRoom_74 : decode cX1_leadsToRoom 74 = .ok (.iload_n 1, 1) := by decide +kernel
theorem dX1_leadsToRoom_75 : decode cX1_leadsToRoom 75 = .ok (.iload 6, 2) := by decide +kernel
theorem dX1_leadsToRoom_77 : decode cX1_leadsToRoom 77 = .ok (.iload_n 3, 1) := by decide +kernel
theorem dX1_leadsToRoom_78 : decode cX1_leadsToRoom 78 = .ok (.iconst 1, 1) := by decide +kernel
theorem dX1_leadsToRoom_79 : decode cX1_leadsToRoom 79 = .ok (.isub, 1) := by decide +kernel
theorem dX1_leadsToRoom_80 : decode cX1_leadsToRoom 80 = .ok (.iload 4, 2) := by decide +kernel
theorem dX1_leadsToRoom_82 : decode cX1_leadsToRoom 82 = .ok (.iconst 1, 1) := by decide +kernel
theorem dX1_leadsToRoom_83 : decode cX1_leadsToRoom 83 = .ok (.iload 6, 2) := by decide +kernel
theorem dX1_leadsToRoom_85 : decode cX1_leadsToRoom 85 = .ok (.ishl, 1) := by decide +kernel
theorem dX1_leadsToRoom_86 : decode cX1_leadsToRoom 86 = .ok (.ior, 1) := by decide +kernel
theorem dX1_leadsToRoom_87 : decode cX1_leadsToRoom 87 = .ok (.invokestatic 60, 3) := by decide +kernel
theorem dX1_leadsToRoom_90 : decode cX1_leadsToRoom 90 = .ok (.ifCond .eq 5, 3) := by decide +kernel
theorem dX1_leadsToRoom_93 : decode cX1_leadsToRoom 93 = .ok (.iconst 1, 1) := by decide +kernel
theorem dX1_leadsToRoom_94 : decode cX1_leadsToRoom 94 = .ok (.ireturn, 1) := by decide +kernel
theorem dX1_leadsToRoom_95 : decode cX1_leadsToRoom 95 = .ok (.iinc 6 1, 3) := by decide +kernel
theorem dX1_leadsToRoom_98 : decode cX1_leadsToRoom 98 = .ok (.goto (-63), 3) := by decide +kernel
theorem dX1_leadsToRoom_101 : decode cX1_leadsToRoom 101 = .ok (.iconst 0, 1) := by decide +kernel
theorem dX1_leadsToRoom_102 : decode cX1_leadsToRoom 102 = .ok (.ireturn, 1) := by decide +kernel
theorem dX2_init_0 : decode cX2_init 0 = .ok (.aload_n 0, 1) := by decide +kernel
theorem dX2_init_1 : decode cX2_init 1 = .ok (.invokespecial 3, 3) := by decide +kernel
theorem dX2_init_4 : decode cX2_init 4 = .ok (.aload_n 0, 1) := by decide +kernel
theorem dX2_init_5 : decode cX2_init 5 = .ok (.aload_n 1, 1) := by decide +kernel
theorem dX2_init_6 : decode cX2_init 6 = .ok (.putfield 9, 3) := by decide +kernel
theorem dX2_init_9 : decode cX2_init 9 = .ok (.aload_n 0, 1) := by decide +kernel
theorem dX2_init_10 : decode cX2_init 10 = .ok (.aload_n 2, 1) := by decide +kernel
theorem dX2_init_11 : decode cX2_init 11 = .ok (.putfield 15, 3) := by decide +kernel
theorem dX2_init_14 : decode cX2_init 14 = .ok (.aload_n 0, 1) := by decide +kernel
theorem dX2_init_15 : decode cX2_init 15 = .ok (.aload_n 3, 1) := by decide +kernel
theorem dX2_init_16 : decode cX2_init 16 = .ok (.putfield 19, 3) := by decide +kernel
theorem dX2_init_19 : decode cX2_init 19 = .ok (.aload_n 0, 1) := by decide +kernel
theorem dX2_init_20 : decode cX2_init 20 = .ok (.aload 4, 2) := by decide +kernel
theorem dX2_init_22 : decode cX2_init 22 = .ok (.putfield 23, 3) := by decide +kernel
theorem dX2_init_25 : decode cX2_init 25 = .ok (.aload_n 0, 1) := by decide +kernel
theorem dX2_init_26 : decode cX2_init 26 = .ok (.iconst 0, 1) := by decide +kernel
theorem dX2_init_27 : decode cX2_init 27 = .ok (.putfield 27, 3) := by decide +kernel
theorem dX2_init_30 : decode cX2_init 30 = .ok (.return_, 1) := by decide +kernel
theorem dX2_faultOf_0 : decode cX2_faultOf 0 = .ok (.iload_n 1, 1) := by decide +kernel
theorem dX2_faultOf_1 : decode cX2_faultOf 1 = .ok (.tableswitch 166 0 11 #[63, 69, 75, 82, 89, 107, 114, 121, 127, 134, 141, 150], 63) := by decide +kernel
theorem dX2_faultOf_64 : decode cX2_faultOf 64 = .ok (.aload_n 0, 1) := by decide +kernel
theorem dX2_faultOf_65 : decode cX2_faultOf 65 = .ok (.iload_n 2, 1) := by decide +kernel
theorem dX2_faultOf_66 : decode cX2_faultOf 66 = .ok (.invokevirtual 31, 3) := by decide +kernel
theorem dX2_faultOf_69 : decode cX2_faultOf 69 = .ok (.ireturn, 1) := by decide +kernel
theorem dX2_faultOf_70 : decode cX2_faultOf 70 = .ok (.aload_n 0, 1) := by decide +kernel
theorem dX2_faultOf_71 : decode cX2_faultOf 71 = .ok (.iload_n 2, 1) := by decide +kernel
theorem dX2_faultOf_72 : decode cX2_faultOf 72 = .ok (.invokevirtual 35, 3) := by decide +kernel
theorem dX2_faultOf_75 : decode cX2_faultOf 75 = .ok (.ireturn, 1) := by decide +kernel
theorem dX2_faultOf_76 : decode cX2_faultOf 76 = .ok (.aload_n 0, 1) := by decide +kernel
theorem dX2_faultOf_77 : decode cX2_faultOf 77 = .ok (.iload_n 2, 1) := by decide +kernel
theorem dX2_faultOf_78 : decode cX2_faultOf 78 = .ok (.iload_n 3, 1) := by decide +kernel
theorem dX2_faultOf_79 : decode cX2_faultOf 79 = .ok (.invokevirtual 38, 3) := by decide +kernel
theorem dX2_faultOf_82 : decode cX2_faultOf 82 = .ok (.ireturn, 1) := by decide +kernel
theorem dX2_faultOf_83 : decode cX2_faultOf 83 = .ok (.aload_n 0, 1) := by decide +kernel
theorem dX2_faultOf_84 : decode cX2_faultOf 84 = .ok (.iload_n 2, 1) := by decide +kernel
theorem dX2_faultOf_85 : decode cX2_faultOf 85 = .ok (.iload_n 3, 1) := by decide +kernel
theorem dX2_faultOf_86 : decode cX2_faultOf 86 = .ok (.invokevirtual 42, 3) := by decide +kernel
theorem dX2_faultOf_89 : decode cX2_faultOf 89 = .ok (.ireturn, 1) := by decide +kernel
theorem dX2_faultOf_90 : decode cX2_faultOf 90 = .ok (.aload_n 0, 1) := by decide +kernel
theorem dX2_faultOf_91 : decode cX2_faultOf 91 = .ok (.getfield 9, 3) := by decide +kernel
theorem dX2_faultOf_94 : decode cX2_faultOf 94 = .ok (.getfield 45, 3) := by decide +kernel
theorem dX2_faultOf_97 : decode cX2_faultOf 97 = .ok (.bipush 12, 2) := by decide +kernel
theorem dX2_faultOf_99 : decode cX2_faultOf 99 = .ok (.if_icmp .lt 7, 3) := by decide +kernel
theorem dX2_faultOf_102 : decode cX2_faultOf 102 = .ok (.iconst 3, 1) := by decide +kernel
theorem dX2_faultOf_103 : decode cX2_faultOf 103 = .ok (.goto 4, 3) := by decide +kernel
theorem dX2_faultOf_106 : decode cX2_faultOf 106 = .ok (.iconst 0, 1) := by decide +kernel
theorem dX2_faultOf_107 : decode cX2_faultOf 107 = .ok (.ireturn, 1) := by decide +kernel
theorem dX2_faultOf_108 : decode cX2_faultOf 108 = .ok (.aload_n 0, 1) := by decide +kernel
theorem dX2_faultOf_109 : decode cX2_faultOf 109 = .ok (.iload_n 2, 1) := by decide +kernel
theorem dX2_faultOf_110 : decode cX2_faultOf 110 = .ok (.iload_n 3, 1) := by decide +kernel
theorem dX2_faultOf_111 : decode cX2_faultOf 111 = .ok (.invokevirtual 50, 3) := by decide +kernel
theorem dX2_faultOf_114 : decode cX2_faultOf 114 = .ok (.ireturn, 1) := by decide +kernel
theorem dX2_faultOf_115 : decode cX2_faultOf 115 = .ok (.aload_n 0, 1) := by decide +kernel
theorem dX2_faultOf_116 : decode cX2_faultOf 116 = .ok (.iload_n 2, 1) := by decide +kernel
theorem dX2_faultOf_117 : decode cX2_faultOf 117 = .ok (.iload_n 3, 1) := by decide +kernel
theorem dX2_faultOf_118 : decode cX2_faultOf 118 = .ok (.invokevirtual 53, 3) := by decide +kernel
theorem dX2_faultOf_121 : decode cX2_faultOf 121 = .ok (.ireturn, 1) := by decide +kernel
theorem dX2_faultOf_122 : decode cX2_faultOf 122 = .ok (.aload_n 0, 1) := by decide +kernel
theorem dX2_faultOf_123 : decode cX2_faultOf 123 = .ok (.iload_n 2, 1) := by decide +kernel
theorem dX2_faultOf_124 : decode cX2_faultOf 124 = .ok (.invokevirtual 56, 3) := by decide +kernel
theorem dX2_faultOf_127 : decode cX2_faultOf 127 = .ok (.ireturn, 1) := by decide +kernel
theorem dX2_faultOf_128 : decode cX2_faultOf 128 = .ok (.aload_n 0, 1) := by decide +kernel
theorem dX2_faultOf_129 : decode cX2_faultOf 129 = .ok (.iload_n 2, 1) := by decide +kernel
theorem dX2_faultOf_130 : decode cX2_faultOf 130 = .ok (.iload_n 3, 1) := by decide +kernel
theorem dX2_faultOf_131 : decode cX2_faultOf 131 = .ok (.invokevirtual 59, 3) := by decide +kernel
theorem dX2_faultOf_134 : decode cX2_faultOf 134 = .ok (.ireturn, 1) := by decide +kernel
theorem dX2_faultOf_135 : decode cX2_faultOf 135 = .ok (.aload_n 0, 1) := by decide +kernel
theorem dX2_faultOf_136 : decode cX2_faultOf 136 = .ok (.iload_n 2, 1) := by decide +kernel
theorem dX2_faultOf_137 : decode cX2_faultOf 137 = .ok (.iload_n 3, 1) := by decide +kernel
theorem dX2_faultOf_138 : decode cX2_faultOf 138 = .ok (.invokevirtual 62, 3) := by decide +kernel
theorem dX2_faultOf_141 : decode cX2_faultOf 141 = .ok (.ireturn, 1) := by decide +kernel
theorem dX2_faultOf_142 : decode cX2_faultOf 142 = .ok (.aload_n 0, 1) := by decide +kernel
theorem dX2_faultOf_143 : decode cX2_faultOf 143 = .ok (.iload_n 2, 1) := by decide +kernel
theorem dX2_faultOf_144 : decode cX2_faultOf 144 = .ok (.iload_n 3, 1) := by decide +kernel
theorem dX2_faultOf_145 : decode cX2_faultOf 145 = .ok (.iload 4, 2) := by decide +kernel
theorem dX2_faultOf_147 : decode cX2_faultOf 147 = .ok (.invokevirtual 65, 3) := by decide +kernel
theorem dX2_faultOf_150 : decode cX2_faultOf 150 = .ok (.ireturn, 1) := by decide +kernel
theorem dX2_faultOf_151 : decode cX2_faultOf 151 = .ok (.aload_n 0, 1) := by decide +kernel
theorem dX2_faultOf_152 : decode cX2_faultOf 152 = .ok (.getfield 9, 3) := by decide +kernel
theorem dX2_faultOf_155 : decode cX2_faultOf 155 = .ok (.invokevirtual 69, 3) := by decide +kernel
theorem dX2_faultOf_158 : decode cX2_faultOf 158 = .ok (.ifCond .le 7, 3) := by decide +kernel
theorem dX2_faultOf_161 : decode cX2_faultOf 161 = .ok (.iconst 3, 1) := by decide +kernel
theorem dX2_faultOf_162 : decode cX2_faultOf 162 = .ok (.goto 4, 3) := by decide +kernel
theorem dX2_faultOf_165 : decode cX2_faultOf 165 = .ok (.iconst 0, 1) := by decide +kernel
theorem dX2_faultOf_166 : decode cX2_faultOf 166 = .ok (.ireturn, 1) := by decide +kernel
theorem dX2_faultOf_167 : decode cX2_faultOf 167 = .ok (.iconst 0, 1) := by decide +kernel
theorem dX2_faultOf_168 : decode cX2_faultOf 168 = .ok (.ireturn, 1) := by decide +kernel
theorem dX2_perform_0 : decode cX2_perform 0 = .ok (.iload_n 1, 1) := by decide +kernel
theorem dX2_perform_1 : decode cX2_perform 1 = .ok (.tableswitch 211 0 11 #[63, 72, 81, 102, 125, 133, 143, 153, 162, 172, 182, 203], 63) := by decide +kernel
theorem dX2_perform_64 : decode cX2_perform 64 = .ok (.aload_n 0, 1) := by decide +kernel
theorem dX2_perform_65 : decode cX2_perform 65 = .ok (.getfield 9, 3) := by decide +kernel
theorem dX2_perform_68 : decode cX2_perform 68 = .ok (.iload_n 2, 1) := by decide +kernel
theorem dX2_perform_69 : decode cX2_perform 69 = .ok (.invokevirtual 73, 3) := by decide +kernel
theorem dX2_perform_72 : decode cX2_perform 72 = .ok (.ireturn, 1) := by decide +kernel
theorem dX2_perform_73 : decode cX2_perform 73 = .ok (.aload_n 0, 1) := by decide +kernel
theorem dX2_perform_74 : decode cX2_perform 74 = .ok (.getfield 9, 3) := by decide +kernel
theorem dX2_perform_77 : decode cX2_perform 77 = .ok (.iload_n 2, 1) := by decide +kernel
theorem dX2_perform_78 : decode cX2_perform 78 = .ok (.invokevirtual 76, 3) := by decide +kernel
theorem dX2_perform_81 : decode cX2_perform 81 = .ok (.ireturn, 1) := by decide +kernel
theorem dX2_perform_82 : decode cX2_perform 82 = .ok (.aload_n 0, 1) := by decide +kernel
theorem dX2_perform_83 : decode cX2_perform 83 = .ok (.getfield 9, 3) := by decide +kernel
theorem dX2_perform_86 : decode cX2_perform 86 = .ok (.iload_n 2, 1) := by decide +kernel
theorem dX2_perform_87 : decode cX2_perform 87 = .ok (.aload_n 0, 1) := by decide +kernel
theorem dX2_perform_88 : decode cX2_perform 88 = .ok (.getfield 9, 3) := by decide +kernel
theorem dX2_perform_91 : decode cX2_perform 91 = .ok (.iload_n 2, 1) := by decide +kernel
theorem dX2_perform_92 : decode cX2_perform 92 = .ok (.invokevirtual 79, 3) := by decide +kernel
theorem dX2_perform_95 : decode cX2_perform 95 = .ok (.iconst 1, 1) := by decide +kernel
theorem dX2_perform_96 : decode cX2_perform 96 = .ok (.iload_n 3, 1) := by decide +kernel
theorem dX2_perform_97 : decode cX2_perform 97 = .ok (.ishl, 1) := by decide +kernel
theorem dX2_perform_98 : decode cX2_perform 98 = .ok (.ior, 1) := by decide +kernel
theorem dX2_perform_99 : decode cX2_perform 99 = .ok (.invokevirtual 82, 3) := by decide +kernel
theorem dX2_perform_102 : decode cX2_perform 102 = .ok (.ireturn, 1) := by decide +kernel
theorem dX2_perform_103 : decode cX2_perform 103 = .ok (.aload_n 0, 1) := by decide +kernel
theorem dX2_perform_104 : decode cX2_perform 104 = .ok (.getfield 9, 3) := by decide +kernel
theorem dX2_perform_107 : decode cX2_perform 107 = .ok (.iload_n 2, 1) := by decide +kernel
theorem dX2_perform_108 : decode cX2_perform 108 = .ok (.aload_n 0, 1) := by decide +kernel
theorem dX2_perform_109 : decode cX2_perform 109 = .ok (.getfield 9, 3) := by decide +kernel
theorem dX2_perform_112 : decode cX2_perform 112 = .ok (.iload_n 2, 1) := by decide +kernel
theorem dX2_perform_113 : decode cX2_perform 113 = .ok (.invokevirtual 79, 3) := by decide +kernel
theorem dX2_perform_116 : decode cX2_perform 116 = .ok (.iconst 1, 1) := by decide +kernel
theorem dX2_perform_117 : decode cX2_perform 117 = .ok (.iload_n 3, 1) := by decide +kernel
theorem dX2_perform_118 : decode cX2_perform 118 = .ok (.ishl, 1) := by decide +kernel
theorem dX2_perform_119 : decode cX2_perform 119 = .ok (.iconst (-1), 1) := by decide +kernel
theorem dX2_perform_120 : decode cX2_perform 120 = .ok (.ixor, 1) := by decide +kernel
theorem dX2_perform_121 : decode cX2_perform 121 = .ok (.iand, 1) := by decide +kernel
theorem dX2_perform_122 : decode cX2_perform 122 = .ok (.invokevirtual 82, 3) := by decide +kernel
theorem dX2_perform_125 : decode cX2_perform 125 = .ok (.ireturn, 1) := by decide +kernel
theorem dX2_perform_126 : decode cX2_perform 126 = .ok (.aload_n 0, 1) := by decide +kernel
theorem dX2_perform_127 : decode cX2_perform 127 = .ok (.getfield 9, 3) := by decide +kernel
theorem dX2_perform_130 : decode cX2_perform 130 = .ok (.invokevirtual 85, 3) := by decide +kernel
theorem dX2_perform_133 : decode cX2_perform 133 = .ok (.ireturn, 1) := by decide +kernel
theorem dX2_perform_134 : decode cX2_perform 134 = .ok (.aload_n 0, 1) := by decide +kernel
theorem dX2_perform_135 : decode cX2_perform 135 = .ok (.getfield 9, 3) := by decide +kernel
theorem dX2_perform_138 : decode cX2_perform 138 = .ok (.iload_n 2, 1) := by decide +kernel
theorem dX2_perform_139 : decode cX2_perform 139 = .ok (.iload_n 3, 1) := by decide +kernel
theorem dX2_perform_140 : decode cX2_perform 140 = .ok (.invokevirtual 88, 3) := by decide +kernel
theorem dX2_perform_143 : decode cX2_perform 143 = .ok (.ireturn, 1) := by decide +kernel
theorem dX2_perform_144 : decode cX2_perform 144 = .ok (.aload_n 0, 1) := by decide +kernel
theorem dX2_perform_145 : decode cX2_perform 145 = .ok (.getfield 9, 3) := by decide +kernel
theorem dX2_perform_148 : decode cX2_perform 148 = .ok (.iload_n 2, 1) := by decide +kernel
theorem dX2_perform_149 : decode cX2_perform 149 = .ok (.iload_n 3, 1) := by decide +kernel
theorem dX2_perform_150 : decode cX2_perform 150 = .ok (.invokevirtual 91, 3) := by decide +kernel
theorem dX2_perform_153 : decode cX2_perform 153 = .ok (.ireturn, 1) := by decide +kernel
theorem dX2_perform_154 : decode cX2_perform 154 = .ok (.aload_n 0, 1) := by decide +kernel
theorem dX2_perform_155 : decode cX2_perform 155 = .ok (.getfield 15, 3) := by decide +kernel
theorem dX2_perform_158 : decode cX2_perform 158 = .ok (.iload_n 2, 1) := by decide +kernel
theorem dX2_perform_159 : decode cX2_perform 159 = .ok (.invokevirtual 94, 3) := by decide +kernel
theorem dX2_perform_162 : decode cX2_perform 162 = .ok (.ireturn, 1) := by decide +kernel
theorem dX2_perform_163 : decode cX2_perform 163 = .ok (.aload_n 0, 1) := by decide +kernel
theorem dX2_perform_164 : decode cX2_perform 164 = .ok (.getfield 19, 3) := by decide +kernel
theorem dX2_perform_167 : decode cX2_perform 167 = .ok (.iload_n 2, 1) := by decide +kernel
theorem dX2_perform_168 : decode cX2_perform 168 = .ok (.iload_n 3, 1) := by decide +kernel
theorem dX2_perform_169 : decode cX2_perform 169 = .ok (.invokevirtual 99, 3) := by decide +kernel
theorem dX2_perform_172 : decode cX2_perform 172 = .ok (.ireturn, 1) := by decide +kernel
theorem dX2_perform_173 : decode cX2_perform 173 = .ok (.aload_n 0, 1) := by decide +kernel
theorem dX2_perform_174 : decode cX2_perform 174 = .ok (.getfield 9, 3) := by decide +kernel
theorem dX2_perform_177 : decode cX2_perform 177 = .ok (.iload_n 2, 1) := by decide +kernel
theorem dX2_perform_178 : decode cX2_perform 178 = .ok (.iload_n 3, 1) := by decide +kernel
theorem dX2_perform_179 : decode cX2_perform 179 = .ok (.invokevirtual 104, 3) := by decide +kernel
theorem dX2_perform_182 : decode cX2_perform 182 = .ok (.ireturn, 1) := by decide +kernel
theorem dX2_perform_183 : decode cX2_perform 183 = .ok (.aload_n 0, 1) := by decide +kernel
theorem dX2_perform_184 : decode cX2_perform 184 = .ok (.getfield 9, 3) := by decide +kernel
theorem dX2_perform_187 : decode cX2_perform 187 = .ok (.iload_n 2, 1) := by decide +kernel
theorem dX2_perform_188 : decode cX2_perform 188 = .ok (.iload_n 3, 1) := by decide +kernel
theorem dX2_perform_189 : decode cX2_perform 189 = .ok (.invokevirtual 104, 3) := by decide +kernel
theorem dX2_perform_192 : decode cX2_perform 192 = .ok (.pop, 1) := by decide +kernel
theorem dX2_perform_193 : decode cX2_perform 193 = .ok (.aload_n 0, 1) := by decide +kernel
theorem dX2_perform_194 : decode cX2_perform 194 = .ok (.getfield 19, 3) := by decide +kernel
theorem dX2_perform_197 : decode cX2_perform 197 = .ok (.iload_n 2, 1) := by decide +kernel
theorem dX2_perform_198 : decode cX2_perform 198 = .ok (.iload 4, 2) := by decide +kernel
theorem dX2_perform_200 : decode cX2_perform 200 = .ok (.invokevirtual 99, 3) := by decide +kernel
theorem dX2_perform_203 : decode cX2_perform 203 = .ok (.ireturn, 1) := by decide +kernel
theorem dX2_perform_204 : decode cX2_perform 204 = .ok (.aload_n 0, 1) := by decide +kernel
theorem dX2_perform_205 : decode cX2_perform 205 = .ok (.getfield 23, 3) := by decide +kernel
theorem dX2_perform_208 : decode cX2_perform 208 = .ok (.invokevirtual 107, 3) := by decide +kernel
theorem dX2_perform_211 : decode cX2_perform 211 = .ok (.ireturn, 1) := by decide +kernel
theorem dX2_perform_212 : decode cX2_perform 212 = .ok (.iconst (-1), 1) := by decide +kernel
theorem dX2_perform_213 : decode cX2_perform 213 = .ok (.ireturn, 1) := by decide +kernel
theorem dX2_faultOfJoiner_0 : decode cX2_faultOfJoiner 0 = .ok (.aload_n 0, 1) := by decide +kernel
theorem dX2_faultOfJoiner_1 : decode cX2_faultOfJoiner 1 = .ok (.getfield 9, 3) := by decide +kernel
theorem dX2_faultOfJoiner_4 : decode cX2_faultOfJoiner 4 = .ok (.iload_n 1, 1) := by decide +kernel
theorem dX2_faultOfJoiner_5 : decode cX2_faultOfJoiner 5 = .ok (.invokevirtual 111, 3) := by decide +kernel
theorem dX2_faultOfJoiner_8 : decode cX2_faultOfJoiner 8 = .ok (.ifCond .eq 14, 3) := by decide +kernel
theorem dX2_faultOfJoiner_11 : decode cX2_faultOfJoiner 11 = .ok (.aload_n 0, 1) := by decide +kernel
theorem dX2_faultOfJoiner_12 : decode cX2_faultOfJoiner 12 = .ok (.getfield 9, 3) := by decide +kernel
theorem dX2_faultOfJoiner_15 : decode cX2_faultOfJoiner 15 = .ok (.iload_n 2, 1) := by decide +kernel
theorem dX2_faultOfJoiner_16 : decode cX2_faultOfJoiner 16 = .ok (.invokevirtual 115, 3) := by decide +kernel
theorem dX2_faultOfJoiner_19 : decode cX2_faultOfJoiner 19 = .ok (.ifCond .ne 5, 3) := by decide +kernel
theorem dX2_faultOfJoiner_22 : decode cX2_faultOfJoiner 22 = .ok (.iconst 1, 1) := by decide +kernel
theorem dX2_faultOfJoiner_23 : decode cX2_faultOfJoiner 23 = .ok (.ireturn, 1) := by decide +kernel
theorem dX2_faultOfJoiner_24 : decode cX2_faultOfJoiner 24 = .ok (.aload_n 0, 1) := by decide +kernel
theorem dX2_faultOfJoiner_25 : decode cX2_faultOfJoiner 25 = .ok (.getfield 9, 3) := by decide +kernel
theorem dX2_faultOfJoiner_28 : decode cX2_faultOfJoiner 28 = .ok (.iload_n 1, 1) := by decide +kernel
theorem dX2_faultOfJoiner_29 : decode cX2_faultOfJoiner 29 = .ok (.iload_n 2, 1) := by decide +kernel
theorem dX2_faultOfJoiner_30 : decode cX2_faultOfJoiner 30 = .ok (.invokevirtual 118, 3) := by decide +kernel
theorem dX2_faultOfJoiner_33 : decode cX2_faultOfJoiner 33 = .ok (.iconst (-1), 1) := by decide +kernel
theorem dX2_faultOfJoiner_34 : decode cX2_faultOfJoiner 34 = .ok (.if_icmp .eq 7, 3) := by decide +kernel
theorem dX2_faultOfJoiner_37 : decode cX2_faultOfJoiner 37 = .ok (.iconst 3, 1) := by decide +kernel
theorem dX2_faultOfJoiner_38 : decode cX2_faultOfJoiner 38 = .ok (.goto 4, 3) := by decide +kernel
theorem dX2_faultOfJoiner_41 : decode cX2_faultOfJoiner 41 = .ok (.iconst 0, 1) := by decide +kernel
theorem dX2_faultOfJoiner_42 : decode cX2_faultOfJoiner 42 = .ok (.ireturn, 1) := by decide +kernel
theorem dX2_faultOfNewSubject_0 : decode cX2_faultOfNewSubject 0 = .ok (.iload_n 1, 1) := by decide +kernel
theorem dX2_faultOfNewSubject_1 : decode cX2_faultOfNewSubject 1 = .ok (.iconst 1, 1) := by decide +kernel
theorem dX2_faultOfNewSubject_2 : decode cX2_faultOfNewSubject 2 = .ok (.if_icmp .lt 9, 3) := by decide +kernel
theorem dX2_faultOfNewSubject_5 : decode cX2_faultOfNewSubject 5 = .ok (.iload_n 1, 1) := by decide +kernel
theorem dX2_faultOfNewSubject_6 : decode cX2_faultOfNewSubject 6 = .ok (.bipush 9, 2) := by decide +kernel
theorem dX2_faultOfNewSubject_8 : decode cX2_faultOfNewSubject 8 = .ok (.if_icmp .le 5, 3) := by decide +kernel
theorem dX2_faultOfNewSubject_11 : decode cX2_faultOfNewSubject 11 = .ok (.iconst 2, 1) := by decide +kernel
theorem dX2_faultOfNewSubject_12 : decode cX2_faultOfNewSubject 12 = .ok (.ireturn, 1) := by decide +kernel
theorem dX2_faultOfNewSubject_13 : decode cX2_faultOfNewSubject 13 = .ok (.aload_n 0, 1) := by decide +kernel
theorem dX2_faultOfNewSubject_14 : decode cX2_faultOfNewSubject 14 = .ok (.getfield 9, 3) := by decide +kernel
theorem dX2_faultOfNewSubject_17 : decode cX2_faultOfNewSubject 17 = .ok (.getfield 121, 3) := by decide +kernel
theorem dX2_faultOfNewSubject_20 : decode cX2_faultOfNewSubject 20 = .ok (.bipush 7, 2) := by decide +kernel
theorem dX2_faultOfNewSubject_22 : decode cX2_faultOfNewSubject 22 = .ok (.if_icmp .lt 7, 3) := by decide +kernel
theorem dX2_faultOfNewSubject_25 : decode cX2_faultOfNewSubject 25 = .ok (.iconst 3, 1) := by decide +kernel
theorem dX2_faultOfNewSubject_26 : decode cX2_faultOfNewSubject 26 = .ok (.goto 4, 3) := by decide +kernel
theorem dX2_faultOfNewSubject_29 : decode cX2_faultOfNewSubject 29 = .ok (.iconst 0, 1) := by decide +kernel
theorem dX2_faultOfNewSubject_30 : decode cX2_faultOfNewSubject 30 = .ok (.ireturn, 1) := by decide +kernel
theorem dX2_faultOfResizing_0 : decode cX2_faultOfResizing 0 = .ok (.aload_n 0, 1) := by decide +kernel
theorem dX2_faultOfResizing_1 : decode cX2_faultOfResizing 1 = .ok (.getfield 9, 3) := by decide +kernel
theorem dX2_faultOfResizing_4 : decode cX2_faultOfResizing 4 = .ok (.iload_n 1, 1) := by decide +kernel
theorem dX2_faultOfResizing_5 : decode cX2_faultOfResizing 5 = .ok (.invokevirtual 115, 3) := by decide +kernel
theorem dX2_faultOfResizing_8 : decode cX2_faultOfResizing 8 = .ok (.ifCond .ne 5, 3) := by decide +kernel
theorem dX2_faultOfResizing_11 : decode cX2_faultOfResizing 11 = .ok (.iconst 1, 1) := by decide +kernel
theorem dX2_faultOfResizing_12 : decode cX2_faultOfResizing 12 = .ok (.ireturn, 1) := by decide +kernel
theorem dX2_faultOfResizing_13 : decode cX2_faultOfResizing 13 = .ok (.iload_n 2, 1) := by decide +kernel
theorem dX2_faultOfResizing_14 : decode cX2_faultOfResizing 14 = .ok (.iconst 1, 1) := by decide +kernel
theorem dX2_faultOfResizing_15 : decode cX2_faultOfResizing 15 = .ok (.if_icmp .lt 9, 3) := by decide +kernel
theorem dX2_faultOfResizing_18 : decode cX2_faultOfResizing 18 = .ok (.iload_n 2, 1) := by decide +kernel
theorem dX2_faultOfResizing_19 : decode cX2_faultOfResizing 19 = .ok (.bipush 9, 2) := by decide +kernel
theorem dX2_faultOfResizing_21 : decode cX2_faultOfResizing 21 = .ok (.if_icmp .le 5, 3) := by decide +kernel
theorem dX2_faultOfResizing_24 : decode cX2_faultOfResizing 24 = .ok (.iconst 2, 1) := by decide +kernel
theorem dX2_faultOfResizing_25 : decode cX2_faultOfResizing 25 = .ok (.ireturn, 1) := by decide +kernel
theorem dX2_faultOfResizing_26 : decode cX2_faultOfResizing 26 = .ok (.aload_n 0, 1) := by decide +kernel
theorem dX2_faultOfResizing_27 : decode cX2_faultOfResizing 27 = .ok (.getfield 9, 3) := by decide +kernel
theorem dX2_faultOfResizing_30 : decode cX2_faultOfResizing 30 = .ok (.iload_n 1, 1) := by decide +kernel
theorem dX2_faultOfResizing_31 : decode cX2_faultOfResizing 31 = .ok (.invokevirtual 124, 3) := by decide +kernel
theorem dX2_faultOfResizing_34 : decode cX2_faultOfResizing 34 = .ok (.iload_n 2, 1) := by decide +kernel
theorem dX2_faultOfResizing_35 : decode cX2_faultOfResizing 35 = .ok (.if_icmp .le 7, 3) := by decide +kernel
theorem dX2_faultOfResizing_38 : decode cX2_faultOfResizing 38 = .ok (.iconst 3, 1) := by decide +kernel
theorem dX2_faultOfResizing_39 : decode cX2_faultOfResizing 39 = .ok (.goto 4, 3) := by decide +kernel
theorem dX2_faultOfResizing_42 : decode cX2_faultOfResizing 42 = .ok (.iconst 0, 1) := by decide +kernel
theorem dX2_faultOfResizing_43 : decode cX2_faultOfResizing 43 = .ok (.ireturn, 1) := by decide +kernel
theorem dX2_faultOfBlocks_0 : decode cX2_faultOfBlocks 0 = .ok (.iload_n 1, 1) := by decide +kernel
theorem dX2_faultOfBlocks_1 : decode cX2_faultOfBlocks 1 = .ok (.iconst 1, 1) := by decide +kernel
theorem dX2_faultOfBlocks_2 : decode cX2_faultOfBlocks 2 = .ok (.if_icmp .lt 8, 3) := by decide +kernel
theorem dX2_faultOfBlocks_5 : decode cX2_faultOfBlocks 5 = .ok (.iload_n 1, 1) := by decide +kernel
theorem dX2_faultOfBlocks_6 : decode cX2_faultOfBlocks 6 = .ok (.iconst 4, 1) := by decide +kernel
theorem dX2_faultOfBlocks_7 : decode cX2_faultOfBlocks 7 = .ok (.if_icmp .le 5, 3) := by decide +kernel
theorem dX2_faultOfBlocks_10 : decode cX2_faultOfBlocks 10 = .ok (.iconst 2, 1) := by decide +kernel
theorem dX2_faultOfBlocks_11 : decode cX2_faultOfBlocks 11 = .ok (.ireturn, 1) := by decide +kernel
theorem dX2_faultOfBlocks_12 : decode cX2_faultOfBlocks 12 = .ok (.iconst 0, 1) := by decide +kernel
theorem dX2_faultOfBlocks_13 : decode cX2_faultOfBlocks 13 = .ok (.istore_n 2, 1) := by decide +kernel
theorem dX2_faultOfBlocks_14 : decode cX2_faultOfBlocks 14 = .ok (.iload_n 2, 1) := by decide +kernel
theorem dX2_faultOfBlocks_15 : decode cX2_faultOfBlocks 15 = .ok (.aload_n 0, 1) := by decide +kernel
theorem dX2_faultOfBlocks_16 : decode cX2_faultOfBlocks 16 = .ok (.getfield 9, 3) := by decide +kernel
theorem dX2_faultOfBlocks_19 : decode cX2_faultOfBlocks 19 = .ok (.getfield 121, 3) := by decide +kernel
theorem dX2_faultOfBlocks_22 : decode cX2_faultOfBlocks 22 = .ok (.if_icmp .ge 24, 3) := by decide +kernel
theorem dX2_faultOfBlocks_25 : decode cX2_faultOfBlocks 25 = .ok (.aload_n 0, 1) := by decide +kernel
theorem dX2_faultOfBlocks_26 : decode cX2_faultOfBlocks 26 = .ok (.getfield 9, 3) := by decide +kernel
theorem dX2_faultOfBlocks_29 : decode cX2_faultOfBlocks 29 = .ok (.iload_n 2, 1) := by decide +kernel
theorem dX2_faultOfBlocks_30 : decode cX2_faultOfBlocks 30 = .ok (.invokevirtual 79, 3) := by decide +kernel
theorem dX2_faultOfBlocks_33 : decode cX2_faultOfBlocks 33 = .ok (.iload_n 1, 1) := by decide +kernel
theorem dX2_faultOfBlocks_34 : decode cX2_faultOfBlocks 34 = .ok (.ishr, 1) := by decide +kernel
theorem dX2_faultOfBlocks_35 : decode cX2_faultOfBlocks 35 = .ok (.ifCond .eq 5, 3) := by decide +kernel
theorem dX2_faultOfBlocks_38 : decode cX2_faultOfBlocks 38 = .ok (.iconst 3, 1) := by decide +kernel
theorem dX2_faultOfBlocks_39 : decode cX2_faultOfBlocks 39 = .ok (.ireturn, 1) := by decide +kernel
theorem dX2_faultOfBlocks_40 : decode cX2_faultOfBlocks 40 = .ok (.iinc 2 1, 3) := by decide +kernel
theorem dX2_faultOfBlocks_43 : decode cX2_faultOfBlocks 43 = .ok (.goto (-29), 3) := by decide +kernel
theorem dX2_faultOfBlocks_46 : decode cX2_faultOfBlocks 46 = .ok (.iconst 0, 1) := by decide +kernel
theorem dX2_faultOfBlocks_47 : decode cX2_faultOfBlocks 47 = .ok (.ireturn, 1) := by decide +kernel
theorem dX2_faultOfOpening_0 : decode cX2_faultOfOpening 0 = .ok (.aload_n 0, 1) := by decide +kernel
theorem dX2_faultOfOpening_1 : decode cX2_faultOfOpening 1 = .ok (.getfield 9, 3) := by decide +kernel
theorem dX2_faultOfOpening_4 : decode cX2_faultOfOpening 4 = .ok (.iload_n 1, 1) := by decide +kernel
theorem dX2_faultOfOpening_5 : decode cX2_faultOfOpening 5 = .ok (.iload_n 2, 1) := by decide +kernel
theorem dX2_faultOfOpening_6 : decode cX2_faultOfOpening 6 = .ok (.invokevirtual 127, 3) := by decide +kernel
theorem dX2_faultOfOpening_9 : decode cX2_faultOfOpening 9 = .ok (.ifCond .ne 5, 3) := by decide +kernel
theorem dX2_faultOfOpening_12 : decode cX2_faultOfOpening 12 = .ok (.iconst 1, 1) := by decide +kernel
theorem dX2_faultOfOpening_13 : decode cX2_faultOfOpening 13 = .ok (.ireturn, 1) := by decide +kernel
theorem dX2_faultOfOpening_14 : decode cX2_faultOfOpening 14 = .ok (.aload_n 0, 1) := by decide +kernel
theorem dX2_faultOfOpening_15 : decode cX2_faultOfOpening 15 = .ok (.getfield 9, 3) := by decide +kernel
theorem dX2_faultOfOpening_18 : decode cX2_faultOfOpening 18 = .ok (.iload_n 1, 1) := by decide +kernel
theorem dX2_faultOfOpening_19 : decode cX2_faultOfOpening 19 = .ok (.invokevirtual 79, 3) := by decide +kernel
theorem dX2_faultOfOpening_22 : decode cX2_faultOfOpening 22 = .ok (.iload_n 2, 1) := by decide +kernel
theorem dX2_faultOfOpening_23 : decode cX2_faultOfOpening 23 = .ok (.invokestatic 131, 3) := by decide +kernel
theorem dX2_faultOfOpening_26 : decode cX2_faultOfOpening 26 = .ok (.ifCond .eq 7, 3) := by decide +kernel
theorem dX2_faultOfOpening_29 : decode cX2_faultOfOpening 29 = .ok (.iconst 3, 1) := by decide +kernel
theorem dX2_faultOfOpening_30 : decode cX2_faultOfOpening 30 = .ok (.goto 4, 3) := by decide +kernel
theorem dX2_faultOfOpening_33 : decode cX2_faultOfOpening 33 = .ok (.iconst 0, 1) := by decide +kernel
theorem dX2_faultOfOpening_34 : decode cX2_faultOfOpening 34 = .ok (.ireturn, 1) := by decide +kernel
theorem dX2_faultOfClosing_0 : decode cX2_faultOfClosing 0 = .ok (.aload_n 0, 1) := by decide +kernel
theorem dX2_faultOfClosing_1 : decode cX2_faultOfClosing 1 = .ok (.getfield 9, 3) := by decide +kernel
theorem dX2_faultOfClosing_4 : decode cX2_faultOfClosing 4 = .ok (.iload_n 1, 1) := by decide +kernel
theorem dX2_faultOfClosing_5 : decode cX2_faultOfClosing 5 = .ok (.iload_n 2, 1) := by decide +kernel
theorem dX2_faultOfClosing_6 : decode cX2_faultOfClosing 6 = .ok (.invokevirtual 127, 3) := by decide +kernel
theorem dX2_faultOfClosing_9 : decode cX2_faultOfClosing 9 = .ok (.ifCond .ne 5, 3) := by decide +kernel
theorem dX2_faultOfClosing_12 : decode cX2_faultOfClosing 12 = .ok (.iconst 1, 1) := by decide +kernel
theorem dX2_faultOfClosing_13 : decode cX2_faultOfClosing 13 = .ok (.ireturn, 1) := by decide +kernel
theorem dX2_faultOfClosing_14 : decode cX2_faultOfClosing 14 = .ok (.aload_n 0, 1) := by decide +kernel
theorem dX2_faultOfClosing_15 : decode cX2_faultOfClosing 15 = .ok (.getfield 9, 3) := by decide +kernel
theorem dX2_faultOfClosing_18 : decode cX2_faultOfClosing 18 = .ok (.iload_n 1, 1) := by decide +kernel
theorem dX2_faultOfClosing_19 : decode cX2_faultOfClosing 19 = .ok (.invokevirtual 79, 3) := by decide +kernel
theorem dX2_faultOfClosing_22 : decode cX2_faultOfClosing 22 = .ok (.iload_n 2, 1) := by decide +kernel
theorem dX2_faultOfClosing_23 : decode cX2_faultOfClosing 23 = .ok (.invokestatic 131, 3) := by decide +kernel
theorem dX2_faultOfClosing_26 : decode cX2_faultOfClosing 26 = .ok (.ifCond .eq 19, 3) := by decide +kernel
theorem dX2_faultOfClosing_29 : decode cX2_faultOfClosing 29 = .ok (.aload_n 0, 1) := by decide +kernel
theorem dX2_faultOfClosing_30 : decode cX2_faultOfClosing 30 = .ok (.getfield 9, 3) := by decide +kernel
theorem dX2_faultOfClosing_33 : decode cX2_faultOfClosing 33 = .ok (.iload_n 1, 1) := by decide +kernel
theorem dX2_faultOfClosing_34 : decode cX2_faultOfClosing 34 = .ok (.iload_n 2, 1) := by decide +kernel
theorem dX2_faultOfClosing_35 : decode cX2_faultOfClosing 35 = .ok (.invokevirtual 134, 3) := by decide +kernel
theorem dX2_faultOfClosing_38 : decode cX2_faultOfClosing 38 = .ok (.ifCond .ne 7, 3) := by decide +kernel
theorem dX2_faultOfClosing_41 : decode cX2_faultOfClosing 41 = .ok (.iconst 1, 1) := by decide +kernel
theorem dX2_faultOfClosing_42 : decode cX2_faultOfClosing 42 = .ok (.goto 4, 3) := by decide +kernel
theorem dX2_faultOfClosing_45 : decode cX2_faultOfClosing 45 = .ok (.iconst 0, 1) := by decide +kernel
theorem dX2_faultOfClosing_46 : decode cX2_faultOfClosing 46 = .ok (.istore_n 3, 1) := by decide +kernel
theorem dX2_faultOfClosing_47 : decode cX2_faultOfClosing 47 = .ok (.iload_n 3, 1) := by decide +kernel
theorem dX2_faultOfClosing_48 : decode cX2_faultOfClosing 48 = .ok (.ifCond .eq 7, 3) := by decide +kernel
theorem dX2_faultOfClosing_51 : decode cX2_faultOfClosing 51 = .ok (.iconst 0, 1) := by decide +kernel
theorem dX2_faultOfClosing_52 : decode cX2_faultOfClosing 52 = .ok (.goto 4, 3) := by decide +kernel
theorem dX2_faultOfClosing_55 : decode cX2_faultOfClosing 55 = .ok (.iconst 3, 1) := by decide +kernel
theorem dX2_faultOfClosing_56 : decode cX2_faultOfClosing 56 = .ok (.ireturn, 1) := by decide +kernel
theorem dX2_faultOfWish_0 : decode cX2_faultOfWish 0 = .ok (.aload_n 0, 1) := by decide +kernel
theorem dX2_faultOfWish_1 : decode cX2_faultOfWish 1 = .ok (.iload_n 1, 1) := by decide +kernel
theorem dX2_faultOfWish_2 : decode cX2_faultOfWish 2 = .ok (.iload_n 2, 1) := by decide +kernel
theorem dX2_faultOfWish_3 : decode cX2_faultOfWish 3 = .ok (.invokevirtual 53, 3) := by decide +kernel
theorem dX2_faultOfWish_6 : decode cX2_faultOfWish 6 = .ok (.istore_n 3, 1) := by decide +kernel
theorem dX2_faultOfWish_7 : decode cX2_faultOfWish 7 = .ok (.iload_n 3, 1) := by decide +kernel
theorem dX2_faultOfWish_8 : decode cX2_faultOfWish 8 = .ok (.ifCond .eq 5, 3) := by decide +kernel
theorem dX2_faultOfWish_11 : decode cX2_faultOfWish 11 = .ok (.iload_n 3, 1) := by decide +kernel
theorem dX2_faultOfWish_12 : decode cX2_faultOfWish 12 = .ok (.ireturn, 1) := by decide +kernel
theorem dX2_faultOfWish_13 : decode cX2_faultOfWish 13 = .ok (.aload_n 0, 1) := by decide +kernel
theorem dX2_faultOfWish_14 : decode cX2_faultOfWish 14 = .ok (.getfield 9, 3) := by decide +kernel
theorem dX2_faultOfWish_17 : decode cX2_faultOfWish 17 = .ok (.getfield 137, 3) := by decide +kernel
theorem dX2_faultOfWish_20 : decode cX2_faultOfWish 20 = .ok (.iload_n 1, 1) := by decide +kernel
theorem dX2_faultOfWish_21 : decode cX2_faultOfWish 21 = .ok (.invokestatic 141, 3) := by decide +kernel
theorem dX2_faultOfWish_24 : decode cX2_faultOfWish 24 = .ok (.iconst 3, 1) := by decide +kernel
theorem dX2_faultOfWish_25 : decode cX2_faultOfWish 25 = .ok (.if_icmp .lt 7, 3) := by decide +kernel
theorem dX2_faultOfWish_28 : decode cX2_faultOfWish 28 = .ok (.iconst 3, 1) := by decide +kernel
theorem dX2_faultOfWish_29 : decode cX2_faultOfWish 29 = .ok (.goto 4, 3) := by decide +kernel
theorem dX2_faultOfWish_32 : decode cX2_faultOfWish 32 = .ok (.iconst 0, 1) := by decide +kernel
theorem dX2_faultOfWish_33 : decode cX2_faultOfWish 33 = .ok (.ireturn, 1) := by decide +kernel
theorem dX2_faultOfReserve_0 : decode cX2_faultOfReserve 0 = .ok (.aload_n 0, 1) := by decide +kernel
theorem dX2_faultOfReserve_1 : decode cX2_faultOfReserve 1 = .ok (.getfield 9, 3) := by decide +kernel
theorem dX2_faultOfReserve_4 : decode cX2_faultOfReserve 4 = .ok (.iload_n 1, 1) := by decide +kernel
theorem dX2_faultOfReserve_5 : decode cX2_faultOfReserve 5 = .ok (.invokevirtual 111, 3) := by decide +kernel
theorem dX2_faultOfReserve_8 : decode cX2_faultOfReserve 8 = .ok (.ifCond .eq 14, 3) := by decide +kernel
theorem dX2_faultOfReserve_11 : decode cX2_faultOfReserve 11 = .ok (.aload_n 0, 1) := by decide +kernel
theorem dX2_faultOfReserve_12 : decode cX2_faultOfReserve 12 = .ok (.getfield 9, 3) := by decide +kernel
theorem dX2_faultOfReserve_15 : decode cX2_faultOfReserve 15 = .ok (.iload_n 2, 1) := by decide +kernel
theorem dX2_faultOfReserve_16 : decode cX2_faultOfReserve 16 = .ok (.invokevirtual 115, 3) := by decide +kernel
theorem dX2_faultOfReserve_19 : decode cX2_faultOfReserve 19 = .ok (.ifCond .ne 5, 3) := by decide +kernel
theorem dX2_faultOfReserve_22 : decode cX2_faultOfReserve 22 = .ok (.iconst 1, 1) := by decide +kernel
theorem dX2_faultOfReserve_23 : decode cX2_faultOfReserve 23 = .ok (.ireturn, 1) := by decide +kernel
theorem dX2_faultOfReserve_24 : decode cX2_faultOfReserve 24 = .ok (.aload_n 0, 1) := by decide +kernel
theorem dX2_faultOfReserve_25 : decode cX2_faultOfReserve 25 = .ok (.getfield 9, 3) := by decide +kernel
theorem dX2_faultOfReserve_28 : decode cX2_faultOfReserve 28 = .ok (.iload_n 1, 1) := by decide +kernel
theorem dX2_faultOfReserve_29 : decode cX2_faultOfReserve 29 = .ok (.invokevirtual 145, 3) := by decide +kernel
theorem dX2_faultOfReserve_32 : decode cX2_faultOfReserve 32 = .ok (.iload_n 2, 1) := by decide +kernel
theorem dX2_faultOfReserve_33 : decode cX2_faultOfReserve 33 = .ok (.invokestatic 131, 3) := by decide +kernel
theorem dX2_faultOfReserve_36 : decode cX2_faultOfReserve 36 = .ok (.ifCond .ne 18, 3) := by decide +kernel
theorem dX2_faultOfReserve_39 : decode cX2_faultOfReserve 39 = .ok (.aload_n 0, 1) := by decide +kernel
theorem dX2_faultOfReserve_40 : decode cX2_faultOfReserve 40 = .ok (.getfield 9, 3) := by decide +kernel
theorem dX2_faultOfReserve_43 : decode cX2_faultOfReserve 43 = .ok (.getfield 148, 3) := by decide +kernel
theorem dX2_faultOfReserve_46 : decode cX2_faultOfReserve 46 = .ok (.iload_n 1, 1) := by decide +kernel
theorem dX2_faultOfReserve_47 : decode cX2_faultOfReserve 47 = .ok (.invokestatic 141, 3) := by decide +kernel
theorem dX2_faultOfReserve_50 : decode cX2_faultOfReserve 50 = .ok (.iload_n 2, 1) := by decide +kernel
theorem dX2_faultOfReserve_51 : decode cX2_faultOfReserve 51 = .ok (.if_icmp .ne 7, 3) := by decide +kernel
theorem dX2_faultOfReserve_54 : decode cX2_faultOfReserve 54 = .ok (.iconst 3, 1) := by decide +kernel
theorem dX2_faultOfReserve_55 : decode cX2_faultOfReserve 55 = .ok (.goto 4, 3) := by decide +kernel
theorem dX2_faultOfReserve_58 : decode cX2_faultOfReserve 58 = .ok (.iconst 0, 1) := by decide +kernel
theorem dX2_faultOfReserve_59 : decode cX2_faultOfReserve 59 = .ok (.ireturn, 1) := by decide +kernel
theorem dX2_faultOfEnrolling_0 : decode cX2_faultOfEnrolling 0 = .ok (.aload_n 0, 1) := by decide +kernel
theorem dX2_faultOfEnrolling_1 : decode cX2_faultOfEnrolling 1 = .ok (.getfield 9, 3) := by decide +kernel
theorem dX2_faultOfEnrolling_4 : decode cX2_faultOfEnrolling 4 = .ok (.iload_n 1, 1) := by decide +kernel
theorem dX2_faultOfEnrolling_5 : decode cX2_faultOfEnrolling 5 = .ok (.invokevirtual 111, 3) := by decide +kernel
theorem dX2_faultOfEnrolling_8 : decode cX2_faultOfEnrolling 8 = .ok (.ifCond .ne 5, 3) := by decide +kernel
theorem dX2_faultOfEnrolling_11 : decode cX2_faultOfEnrolling 11 = .ok (.iconst 1, 1) := by decide +kernel
theorem dX2_faultOfEnrolling_12 : decode cX2_faultOfEnrolling 12 = .ok (.ireturn, 1) := by decide +kernel
theorem dX2_faultOfEnrolling_13 : decode cX2_faultOfEnrolling 13 = .ok (.aload_n 0, 1) := by decide +kernel
theorem dX2_faultOfEnrolling_14 : decode cX2_faultOfEnrolling 14 = .ok (.getfield 9, 3) := by decide +kernel
theorem dX2_faultOfEnrolling_17 : decode cX2_faultOfEnrolling 17 = .ok (.iload_n 1, 1) := by decide +kernel
theorem dX2_faultOfEnrolling_18 : decode cX2_faultOfEnrolling 18 = .ok (.invokevirtual 151, 3) := by decide +kernel
theorem dX2_faultOfEnrolling_21 : decode cX2_faultOfEnrolling 21 = .ok (.ifCond .gt 17, 3) := by decide +kernel
theorem dX2_faultOfEnrolling_24 : decode cX2_faultOfEnrolling 24 = .ok (.aload_n 0, 1) := by decide +kernel
theorem dX2_faultOfEnrolling_25 : decode cX2_faultOfEnrolling 25 = .ok (.getfield 9, 3) := by decide +kernel
theorem dX2_faultOfEnrolling_28 : decode cX2_faultOfEnrolling 28 = .ok (.getfield 137, 3) := by decide +kernel
theorem dX2_faultOfEnrolling_31 : decode cX2_faultOfEnrolling 31 = .ok (.iload_n 1, 1) := by decide +kernel
theorem dX2_faultOfEnrolling_32 : decode cX2_faultOfEnrolling 32 = .ok (.invokestatic 141, 3) := by decide +kernel
theorem dX2_faultOfEnrolling_35 : decode cX2_faultOfEnrolling 35 = .ok (.ifCond .gt 7, 3) := by decide +kernel
theorem dX2_faultOfEnrolling_38 : decode cX2_faultOfEnrolling 38 = .ok (.iconst 3, 1) := by decide +kernel
theorem dX2_faultOfEnrolling_39 : decode cX2_faultOfEnrolling 39 = .ok (.goto 4, 3) := by decide +kernel
theorem dX2_faultOfEnrolling_42 : decode cX2_faultOfEnrolling 42 = .ok (.iconst 0, 1) := by decide +kernel
theorem dX2_faultOfEnrolling_43 : decode cX2_faultOfEnrolling 43 = .ok (.ireturn, 1) := by decide +kernel
theorem dX2_faultOfWithdrawing_0 : decode cX2_faultOfWithdrawing 0 = .ok (.aload_n 0, 1) := by decide +kernel
theorem dX2_faultOfWithdrawing_1 : decode cX2_faultOfWithdrawing 1 = .ok (.getfield 9, 3) := by decide +kernel
theorem dX2_faultOfWithdrawing_4 : decode cX2_faultOfWithdrawing 4 = .ok (.iload_n 1, 1) := by decide +kernel
theorem dX2_faultOfWithdrawing_5 : decode cX2_faultOfWithdrawing 5 = .ok (.invokevirtual 111, 3) := by decide +kernel
theorem dX2_faultOfWithdrawing_8 : decode cX2_faultOfWithdrawing 8 = .ok (.ifCond .ne 5, 3) := by decide +kernel
theorem dX2_faultOfWithdrawing_11 : decode cX2_faultOfWithdrawing 11 = .ok (.iconst 1, 1) := by decide +kernel
theorem dX2_faultOfWithdrawing_12 : decode cX2_faultOfWithdrawing 12 = .ok (.ireturn, 1) := by decide +kernel
theorem dX2_faultOfWithdrawing_13 : decode cX2_faultOfWithdrawing 13 = .ok (.aload_n 0, 1) := by decide +kernel
theorem dX2_faultOfWithdrawing_14 : decode cX2_faultOfWithdrawing 14 = .ok (.getfield 9, 3) := by decide +kernel
theorem dX2_faultOfWithdrawing_17 : decode cX2_faultOfWithdrawing 17 = .ok (.iload_n 1, 1) := by decide +kernel
theorem dX2_faultOfWithdrawing_18 : decode cX2_faultOfWithdrawing 18 = .ok (.invokevirtual 151, 3) := by decide +kernel
theorem dX2_faultOfWithdrawing_21 : decode cX2_faultOfWithdrawing 21 = .ok (.ifCond .ne 7, 3) := by decide +kernel
theorem dX2_faultOfWithdrawing_24 : decode cX2_faultOfWithdrawing 24 = .ok (.iconst 3, 1) := by decide +kernel
theorem dX2_faultOfWithdrawing_25 : decode cX2_faultOfWithdrawing 25 = .ok (.goto 4, 3) := by decide +kernel
theorem dX2_faultOfWithdrawing_28 : decode cX2_faultOfWithdrawing 28 = .ok (.iconst 0, 1) := by decide +kernel
theorem dX2_faultOfWithdrawing_29 : decode cX2_faultOfWithdrawing 29 = .ok (.ireturn, 1) := by decide +kernel
theorem dX2_faultOfJoining_0 : decode cX2_faultOfJoining 0 = .ok (.aload_n 0, 1) := by decide +kernel
theorem dX2_faultOfJoining_1 : decode cX2_faultOfJoining 1 = .ok (.iload_n 1, 1) := by decide +kernel
theorem dX2_faultOfJoining_2 : decode cX2_faultOfJoining 2 = .ok (.iload_n 2, 1) := by decide +kernel
theorem dX2_faultOfJoining_3 : decode cX2_faultOfJoining 3 = .ok (.invokevirtual 154, 3) := by decide +kernel
theorem dX2_faultOfJoining_6 : decode cX2_faultOfJoining 6 = .ok (.istore_n 3, 1) := by decide +kernel
theorem dX2_faultOfJoining_7 : decode cX2_faultOfJoining 7 = .ok (.iload_n 3, 1) := by decide +kernel
theorem dX2_faultOfJoining_8 : decode cX2_faultOfJoining 8 = .ok (.ifCond .eq 5, 3) := by decide +kernel
theorem dX2_faultOfJoining_11 : decode cX2_faultOfJoining 11 = .ok (.iload_n 3, 1) := by decide +kernel
theorem dX2_faultOfJoining_12 : decode cX2_faultOfJoining 12 = .ok (.ireturn, 1) := by decide +kernel
theorem dX2_faultOfJoining_13 : decode cX2_faultOfJoining 13 = .ok (.aload_n 0, 1) := by decide +kernel
theorem dX2_faultOfJoining_14 : decode cX2_faultOfJoining 14 = .ok (.getfield 9, 3) := by decide +kernel
theorem dX2_faultOfJoining_17 : decode cX2_faultOfJoining 17 = .ok (.iload_n 1, 1) := by decide +kernel
theorem dX2_faultOfJoining_18 : decode cX2_faultOfJoining 18 = .ok (.invokevirtual 157, 3) := by decide +kernel
theorem dX2_faultOfJoining_21 : decode cX2_faultOfJoining 21 = .ok (.istore 4, 2) := by decide +kernel
theorem dX2_faultOfJoining_23 : decode cX2_faultOfJoining 23 = .ok (.aload_n 0, 1) := by decide +kernel
theorem dX2_faultOfJoining_24 : decode cX2_faultOfJoining 24 = .ok (.getfield 19, 3) := by decide +kernel
theorem dX2_faultOfJoining_27 : decode cX2_faultOfJoining 27 = .ok (.iload_n 2, 1) := by decide +kernel
theorem dX2_faultOfJoining_28 : decode cX2_faultOfJoining 28 = .ok (.iload 4, 2) := by decide +kernel
theorem dX2_faultOfJoining_30 : decode cX2_faultOfJoining 30 = .ok (.invokevirtual 160, 3) := by decide +kernel
theorem dX2_faultOfJoining_33 : decode cX2_faultOfJoining 33 = .ok (.iconst (-1), 1) := by decide +kernel
theorem dX2_faultOfJoining_34 : decode cX2_faultOfJoining 34 = .ok (.if_icmp .eq 7, 3) := by decide +kernel
theorem dX2_faultOfJoining_37 : decode cX2_faultOfJoining 37 = .ok (.iconst 0, 1) := by decide +kernel
theorem dX2_faultOfJoining_38 : decode cX2_faultOfJoining 38 = .ok (.goto 10, 3) := by decide +kernel
theorem dX2_faultOfJoining_41 : decode cX2_faultOfJoining 41 = .ok (.aload_n 0, 1) := by decide +kernel
theorem dX2_faultOfJoining_42 : decode cX2_faultOfJoining 42 = .ok (.iload_n 2, 1) := by decide +kernel
theorem dX2_faultOfJoining_43 : decode cX2_faultOfJoining 43 = .ok (.iload 4, 2) := by decide +kernel
theorem dX2_faultOfJoining_45 : decode cX2_faultOfJoining 45 = .ok (.invokevirtual 163, 3) := by decide +kernel
theorem dX2_faultOfJoining_48 : decode cX2_faultOfJoining 48 = .ok (.ireturn, 1) := by decide +kernel
theorem dX2_faultOfQuitting_0 : decode cX2_faultOfQuitting 0 = .ok (.aload_n 0, 1) := by decide +kernel
theorem dX2_faultOfQuitting_1 : decode cX2_faultOfQuitting 1 = .ok (.getfield 9, 3) := by decide +kernel
theorem dX2_faultOfQuitting_4 : decode cX2_faultOfQuitting 4 = .ok (.iload_n 1, 1) := by decide +kernel
theorem dX2_faultOfQuitting_5 : decode cX2_faultOfQuitting 5 = .ok (.invokevirtual 111, 3) := by decide +kernel
theorem dX2_faultOfQuitting_8 : decode cX2_faultOfQuitting 8 = .ok (.ifCond .eq 14, 3) := by decide +kernel
theorem dX2_faultOfQuitting_11 : decode cX2_faultOfQuitting 11 = .ok (.aload_n 0, 1) := by decide +kernel
theorem dX2_faultOfQuitting_12 : decode cX2_faultOfQuitting 12 = .ok (.getfield 9, 3) := by decide +kernel
theorem dX2_faultOfQuitting_15 : decode cX2_faultOfQuitting 15 = .ok (.iload_n 2, 1) := by decide +kernel
theorem dX2_faultOfQuitting_16 : decode cX2_faultOfQuitting 16 = .ok (.invokevirtual 115, 3) := by decide +kernel
theorem dX2_faultOfQuitting_19 : decode cX2_faultOfQuitting 19 = .ok (.ifCond .ne 5, 3) := by decide +kernel
theorem dX2_faultOfQuitting_22 : decode cX2_faultOfQuitting 22 = .ok (.iconst 1, 1) := by decide +kernel
theorem dX2_faultOfQuitting_23 : decode cX2_faultOfQuitting 23 = .ok (.ireturn, 1) := by decide +kernel
theorem dX2_faultOfQuitting_24 : decode cX2_faultOfQuitting 24 = .ok (.aload_n 0, 1) := by decide +kernel
theorem dX2_faultOfQuitting_25 : decode cX2_faultOfQuitting 25 = .ok (.getfield 9, 3) := by decide +kernel
theorem dX2_faultOfQuitting_28 : decode cX2_faultOfQuitting 28 = .ok (.iload_n 1, 1) := by decide +kernel
theorem dX2_faultOfQuitting_29 : decode cX2_faultOfQuitting 29 = .ok (.iload_n 2, 1) := by decide +kernel
theorem dX2_faultOfQuitting_30 : decode cX2_faultOfQuitting 30 = .ok (.invokevirtual 118, 3) := by decide +kernel
theorem dX2_faultOfQuitting_33 : decode cX2_faultOfQuitting 33 = .ok (.iconst (-1), 1) := by decide +kernel
theorem dX2_faultOfQuitting_34 : decode cX2_faultOfQuitting 34 = .ok (.if_icmp .ne 7, 3) := by decide +kernel
theorem dX2_faultOfQuitting_37 : decode cX2_faultOfQuitting 37 = .ok (.iconst 3, 1) := by decide +kernel
theorem dX2_faultOfQuitting_38 : decode cX2_faultOfQuitting 38 = .ok (.goto 4, 3) := by decide +kernel
theorem dX2_faultOfQuitting_41 : decode cX2_faultOfQuitting 41 = .ok (.iconst 0, 1) := by decide +kernel
theorem dX2_faultOfQuitting_42 : decode cX2_faultOfQuitting 42 = .ok (.ireturn, 1) := by decide +kernel
theorem dX2_faultOfChanging_0 : decode cX2_faultOfChanging 0 = .ok (.aload_n 0, 1) := by decide +kernel
theorem dX2_faultOfChanging_1 : decode cX2_faultOfChanging 1 = .ok (.getfield 9, 3) := by decide +kernel
theorem dX2_faultOfChanging_4 : decode cX2_faultOfChanging 4 = .ok (.iload_n 1, 1) := by decide +kernel
theorem dX2_faultOfChanging_5 : decode cX2_faultOfChanging 5 = .ok (.invokevirtual 111, 3) := by decide +kernel
theorem dX2_faultOfChanging_8 : decode cX2_faultOfChanging 8 = .ok (.ifCond .eq 25, 3) := by decide +kernel
theorem dX2_faultOfChanging_11 : decode cX2_faultOfChanging 11 = .ok (.aload_n 0, 1) := by decide +kernel
theorem dX2_faultOfChanging_12 : decode cX2_faultOfChanging 12 = .ok (.getfield 9, 3) := by decide +kernel
theorem dX2_faultOfChanging_15 : decode cX2_faultOfChanging 15 = .ok (.iload_n 2, 1) := by decide +kernel
theorem dX2_faultOfChanging_16 : decode cX2_faultOfChanging 16 = .ok (.invokevirtual 115, 3) := by decide +kernel
theorem dX2_faultOfChanging_19 : decode cX2_faultOfChanging 19 = .ok (.ifCond .eq 14, 3) := by decide +kernel
theorem dX2_faultOfChanging_22 : decode cX2_faultOfChanging 22 = .ok (.aload_n 0, 1) := by decide +kernel
theorem dX2_faultOfChanging_23 : decode cX2_faultOfChanging 23 = .ok (.getfield 9, 3) := by decide +kernel
theorem dX2_faultOfChanging_26 : decode cX2_faultOfChanging 26 = .ok (.iload_n 3, 1) := by decide +kernel
theorem dX2_faultOfChanging_27 : decode cX2_faultOfChanging 27 = .ok (.invokevirtual 115, 3) := by decide +kernel
theorem dX2_faultOfChanging_30 : decode cX2_faultOfChanging 30 = .ok (.ifCond .ne 5, 3) := by decide +kernel
theorem dX2_faultOfChanging_33 : decode cX2_faultOfChanging 33 = .ok (.iconst 1, 1) := by decide +kernel
theorem dX2_faultOfChanging_34 : decode cX2_faultOfChanging 34 = .ok (.ireturn, 1) := by decide +kernel
theorem dX2_faultOfChanging_35 : decode cX2_faultOfChanging 35 = .ok (.aload_n 0, 1) := by decide +kernel
theorem dX2_faultOfChanging_36 : decode cX2_faultOfChanging 36 = .ok (.getfield 9, 3) := by decide +kernel
theorem dX2_faultOfChanging_39 : decode cX2_faultOfChanging 39 = .ok (.iload_n 1, 1) := by decide +kernel
theorem dX2_faultOfChanging_40 : decode cX2_faultOfChanging 40 = .ok (.iload_n 2, 1) := by decide +kernel
theorem dX2_faultOfChanging_41 : decode cX2_faultOfChanging 41 = .ok (.invokevirtual 118, 3) := by decide +kernel
theorem dX2_faultOfChanging_44 : decode cX2_faultOfChanging 44 = .ok (.istore 4, 2) := by decide +kernel
theorem dX2_faultOfChanging_46 : decode cX2_faultOfChanging 46 = .ok (.iload 4, 2) := by decide +kernel
theorem dX2_faultOfChanging_48 : decode cX2_faultOfChanging 48 = .ok (.iconst (-1), 1) := by decide +kernel
theorem dX2_faultOfChanging_49 : decode cX2_faultOfChanging 49 = .ok (.if_icmp .eq 16, 3) := by decide +kernel
theorem dX2_faultOfChanging_52 : decode cX2_faultOfChanging 52 = .ok (.aload_n 0, 1) := by decide +kernel
theorem dX2_faultOfChanging_53 : decode cX2_faultOfChanging 53 = .ok (.getfield 9, 3) := by decide +kernel
theorem dX2_faultOfChanging_56 : decode cX2_faultOfChanging 56 = .ok (.iload_n 1, 1) := by decide +kernel
theorem dX2_faultOfChanging_57 : decode cX2_faultOfChanging 57 = .ok (.iload_n 3, 1) := by decide +kernel
theorem dX2_faultOfChanging_58 : decode cX2_faultOfChanging 58 = .ok (.invokevirtual 118, 3) := by decide +kernel
theorem dX2_faultOfChanging_61 : decode cX2_faultOfChanging 61 = .ok (.iconst (-1), 1) := by decide +kernel
theorem dX2_faultOfChanging_62 : decode cX2_faultOfChanging 62 = .ok (.if_icmp .eq 5, 3) := by decide +kernel
theorem dX2_faultOfChanging_65 : decode cX2_faultOfChanging 65 = .ok (.iconst 3, 1) := by decide +kernel
theorem dX2_faultOfChanging_66 : decode cX2_faultOfChanging 66 = .ok (.ireturn, 1) := by decide +kernel
theorem dX2_faultOfChanging_67 : decode cX2_faultOfChanging 67 = .ok (.aload_n 0, 1) := by decide +kernel
theorem dX2_faultOfChanging_68 : decode cX2_faultOfChanging 68 = .ok (.getfield 9, 3) := by decide +kernel
theorem dX2_faultOfChanging_71 : decode cX2_faultOfChanging 71 = .ok (.iload_n 1, 1) := by decide +kernel
theorem dX2_faultOfChanging_72 : decode cX2_faultOfChanging 72 = .ok (.invokevirtual 157, 3) := by decide +kernel
theorem dX2_faultOfChanging_75 : decode cX2_faultOfChanging 75 = .ok (.iconst 1, 1) := by decide +kernel
theorem dX2_faultOfChanging_76 : decode cX2_faultOfChanging 76 = .ok (.iload 4, 2) := by decide +kernel
theorem dX2_faultOfChanging_78 : decode cX2_faultOfChanging 78 = .ok (.ishl, 1) := by decide +kernel
theorem dX2_faultOfChanging_79 : decode cX2_faultOfChanging 79 = .ok (.ior, 1) := by decide +kernel
theorem dX2_faultOfChanging_80 : decode cX2_faultOfChanging 80 = .ok (.istore 5, 2) := by decide +kernel
theorem dX2_faultOfChanging_82 : decode cX2_faultOfChanging 82 = .ok (.aload_n 0, 1) := by decide +kernel
theorem dX2_faultOfChanging_83 : decode cX2_faultOfChanging 83 = .ok (.getfield 19, 3) := by decide +kernel
theorem dX2_faultOfChanging_86 : decode cX2_faultOfChanging 86 = .ok (.iload_n 3, 1) := by decide +kernel
theorem dX2_faultOfChanging_87 : decode cX2_faultOfChanging 87 = .ok (.iload 5, 2) := by decide +kernel
theorem dX2_faultOfChanging_89 : decode cX2_faultOfChanging 89 = .ok (.invokevirtual 160, 3) := by decide +kernel
theorem dX2_faultOfChanging_92 : decode cX2_faultOfChanging 92 = .ok (.iconst (-1), 1) := by decide +kernel
theorem dX2_faultOfChanging_93 : decode cX2_faultOfChanging 93 = .ok (.if_icmp .eq 7, 3) := by decide +kernel
theorem dX2_faultOfChanging_96 : decode cX2_faultOfChanging 96 = .ok (.iconst 0, 1) := by decide +kernel
theorem dX2_faultOfChanging_97 : decode cX2_faultOfChanging 97 = .ok (.goto 10, 3) := by decide +kernel
theorem dX2_faultOfChanging_100 : decode cX2_faultOfChanging 100 = .ok (.aload_n 0, 1) := by decide +kernel
theorem dX2_faultOfChanging_101 : decode cX2_faultOfChanging 101 = .ok (.iload_n 3, 1) := by decide +kernel
theorem dX2_faultOfChanging_102 : decode cX2_faultOfChanging 102 = .ok (.iload 5, 2) := by decide +kernel
theorem dX2_faultOfChanging_104 : decode cX2_faultOfChanging 104 = .ok (.invokevirtual 163, 3) := by decide +kernel
theorem dX2_faultOfChanging_107 : decode cX2_faultOfChanging 107 = .ok (.ireturn, 1) := by decide +kernel
theorem dX2_refusal_0 : decode cX2_refusal 0 = .ok (.aload_n 0, 1) := by decide +kernel
theorem dX2_refusal_1 : decode cX2_refusal 1 = .ok (.aload_n 0, 1) := by decide +kernel
theorem dX2_refusal_2 : decode cX2_refusal 2 = .ok (.getfield 19, 3) := by decide +kernel
theorem dX2_refusal_5 : decode cX2_refusal 5 = .ok (.iload_n 1, 1) := by decide +kernel
theorem dX2_refusal_6 : decode cX2_refusal 6 = .ok (.iload_n 2, 1) := by decide +kernel
theorem dX2_refusal_7 : decode cX2_refusal 7 = .ok (.invokevirtual 166, 3) := by decide +kernel
theorem dX2_refusal_10 : decode cX2_refusal 10 = .ok (.putfield 27, 3) := by decide +kernel
theorem dX2_refusal_13 : decode cX2_refusal 13 = .ok (.iconst 4, 1) := by decide +kernel
theorem dX2_refusal_14 : decode cX2_refusal 14 = .ok (.ireturn, 1) := by decide +kernel
theorem dX3_init_0 : decode cX3_init 0 = .ok (.aload_n 0, 1) := by decide +kernel
theorem dX3_init_1 : decode cX3_init 1 = .ok (.invokespecial 3, 3) := by decide +kernel
theorem dX3_init_4 : decode cX3_init 4 = .ok (.aload_n 0, 1) := by decide +kernel
theorem dX3_init_5 : decode cX3_init 5 = .ok (.bipush 8, 2) := by decide +kernel
theorem dX3_init_7 : decode cX3_init 7 = .ok (.anewarray 9, 3) := by decide +kernel
theorem dX3_init_10 : decode cX3_init 10 = .ok (.putfield 11, 3) := by decide +kernel
theorem dX3_init_13 : decode cX3_init 13 = .ok (.iconst 0, 1) := by decide +kernel
theorem dX3_init_14 : decode cX3_init 14 = .ok (.istore_n 1, 1) := by decide +kernel
theorem dX3_init_15 : decode cX3_init 15 = .ok (.iload_n 1, 1) := by decide +kernel
theorem dX3_init_16 : decode cX3_init 16 = .ok (.aload_n 0, 1) := by decide +kernel
theorem dX3_init_17 : decode cX3_init 17 = .ok (.getfield 11, 3) := by decide +kernel
theorem dX3_init_20 : decode cX3_init 20 = .ok (.arraylength, 1) := by decide +kernel
theorem dX3_init_21 : decode cX3_init 21 = .ok (.if_icmp .ge 22, 3) := by decide +kernel
theorem dX3_init_24 : decode cX3_init 24 = .ok (.aload_n 0, 1) := by decide +kernel
theorem dX3_init_25 : decode cX3_init 25 = .ok (.getfield 11, 3) := by decide +kernel
theorem dX3_init_28 : decode cX3_init 28 = .ok (.iload_n 1, 1) := by decide +kernel
theorem dX3_init_29 : decode cX3_init 29 = .ok (.new 9, 3) := by decide +kernel
theorem dX3_init_32 : decode cX3_init 32 = .ok (.dup, 1) := by decide +kernel
theorem dX3_init_33 : decode cX3_init 33 = .ok (.invokespecial 17, 3) := by decide +kernel
theorem dX3_init_36 : decode cX3_init 36 = .ok (.aastore, 1) := by decide +kernel
theorem dX3_init_37 : decode cX3_init 37 = .ok (.iinc 1 1, 3) := by decide +kernel
theorem dX3_init_40 : decode cX3_init 40 = .ok (.goto (-25), 3) := by decide +kernel
theorem dX3_init_43 : decode cX3_init 43 = .ok (.return_, 1) := by decide +kernel
theorem dX3_keep_0 : decode cX3_keep 0 = .ok (.aload_n 0, 1) := by decide +kernel
theorem dX3_keep_1 : decode cX3_keep 1 = .ok (.aload_n 0, 1) := by decide +kernel
theorem dX3_keep_2 : decode cX3_keep 2 = .ok (.getfield 18, 3) := by decide +kernel
theorem dX3_keep_5 : decode cX3_keep 5 = .ok (.invokevirtual 22, 3) := by decide +kernel
theorem dX3_keep_8 : decode cX3_keep 8 = .ok (.astore_n 2, 1) := by decide +kernel
theorem dX3_keep_9 : decode cX3_keep 9 = .ok (.aload_n 2, 1) := by decide +kernel
theorem dX3_keep_10 : decode cX3_keep 10 = .ok (.ifnull 48, 3) := by decide +kernel
theorem dX3_keep_13 : decode cX3_keep 13 = .ok (.aload_n 2, 1) := by decide +kernel
theorem dX3_keep_14 : decode cX3_keep 14 = .ok (.aload_n 1, 1) := by decide +kernel
theorem dX3_keep_15 : decode cX3_keep 15 = .ok (.invokevirtual 26, 3) := by decide +kernel
theorem dX3_keep_18 : decode cX3_keep 18 = .ok (.aload_n 0, 1) := by decide +kernel
theorem dX3_keep_19 : decode cX3_keep 19 = .ok (.aload_n 0, 1) := by decide +kernel
theorem dX3_keep_20 : decode cX3_keep 20 = .ok (.getfield 18, 3) := by decide +kernel
theorem dX3_keep_23 : decode cX3_keep 23 = .ok (.iconst 1, 1) := by decide +kernel
theorem dX3_keep_24 : decode cX3_keep 24 = .ok (.iadd, 1) := by decide +kernel
theorem dX3_keep_25 : decode cX3_keep 25 = .ok (.bipush 8, 2) := by decide +kernel
theorem dX3_keep_27 : decode cX3_keep 27 = .ok (.if_icmp .ge 12, 3) := by decide +kernel
theorem dX3_keep_30 : decode cX3_keep 30 = .ok (.aload_n 0, 1) := by decide +kernel
theorem dX3_keep_31 : decode cX3_keep 31 = .ok (.getfield 18, 3) := by decide +kernel
theorem dX3_keep_34 : decode cX3_keep 34 = .ok (.iconst 1, 1) := by decide +kernel
theorem dX3_keep_35 : decode cX3_keep 35 = .ok (.iadd, 1) := by decide +kernel
theorem dX3_keep_36 : decode cX3_keep 36 = .ok (.goto 4, 3) := by decide +kernel
theorem dX3_keep_39 : decode cX3_keep 39 = .ok (.iconst 0, 1) := by decide +kernel
theorem dX3_keep_40 : decode cX3_keep 40 = .ok (.putfield 18, 3) := by decide +kernel
theorem dX3_keep_43 : decode cX3_keep 43 = .ok (.aload_n 0, 1) := by decide +kernel
theorem dX3_keep_44 : decode cX3_keep 44 = .ok (.aload_n 0, 1) := by decide +kernel
theorem dX3_keep_45 : decode cX3_keep 45 = .ok (.getfield 30, 3) := by decide +kernel
theorem dX3_keep_48 : decode cX3_keep 48 = .ok (.iconst 1, 1) := by decide +kernel
theorem dX3_keep_49 : decode cX3_keep 49 = .ok (.iadd, 1) := by decide +kernel
theorem dX3_keep_50 : decode cX3_keep 50 = .ok (.bipush 8, 2) := by decide +kernel
theorem dX3_keep_52 : decode cX3_keep 52 = .ok (.invokestatic 33, 3) := by decide +kernel
theorem dX3_keep_55 : decode cX3_keep 55 = .ok (.putfield 30, 3) := by decide +kernel
theorem dX3_keep_58 : decode cX3_keep 58 = .ok (.return_, 1) := by decide +kernel
theorem dX3_bringBack_0 : decode cX3_bringBack 0 = .ok (.aload_n 0, 1) := by decide +kernel
theorem dX3_bringBack_1 : decode cX3_bringBack 1 = .ok (.getfield 18, 3) := by decide +kernel
theorem dX3_bringBack_4 : decode cX3_bringBack 4 = .ok (.ifCond .le 12, 3) := by decide +kernel
theorem dX3_bringBack_7 : decode cX3_bringBack 7 = .ok (.aload_n 0, 1) := by decide +kernel
theorem dX3_bringBack_8 : decode cX3_bringBack 8 = .ok (.getfield 18, 3) := by decide +kernel
theorem dX3_bringBack_11 : decode cX3_bringBack 11 = .ok (.iconst 1, 1) := by decide +kernel
theorem dX3_bringBack_12 : decode cX3_bringBack 12 = .ok (.isub, 1) := by decide +kernel
theorem dX3_bringBack_13 : decode cX3_bringBack 13 = .ok (.goto 5, 3) := by decide +kernel
theorem dX3_bringBack_16 : decode cX3_bringBack 16 = .ok (.bipush 7, 2) := by decide +kernel
theorem dX3_bringBack_18 : decode cX3_bringBack 18 = .ok (.istore_n 2, 1) := by decide +kernel
theorem dX3_bringBack_19 : decode cX3_bringBack 19 = .ok (.aload_n 0, 1) := by decide +kernel
theorem dX3_bringBack_20 : decode cX3_bringBack 20 = .ok (.iload_n 2, 1) := by decide +kernel
theorem dX3_bringBack_21 : decode cX3_bringBack 21 = .ok (.invokevirtual 22, 3) := by decide +kernel
theorem dX3_bringBack_24 : decode cX3_bringBack 24 = .ok (.astore_n 3, 1) := by decide +kernel
theorem dX3_bringBack_25 : decode cX3_bringBack 25 = .ok (.aload_n 3, 1) := by decide +kernel
theorem dX3_bringBack_26 : decode cX3_bringBack 26 = .ok (.ifnull 23, 3) := by decide +kernel
theorem dX3_bringBack_29 : decode cX3_bringBack 29 = .ok (.aload_n 1, 1) := by decide +kernel
theorem dX3_bringBack_30 : decode cX3_bringBack 30 = .ok (.aload_n 3, 1) := by decide +kernel
theorem dX3_bringBack_31 : decode cX3_bringBack 31 = .ok (.invokevirtual 26, 3) := by decide +kernel
theorem dX3_bringBack_34 : decode cX3_bringBack 34 = .ok (.aload_n 0, 1) := by decide +kernel
theorem dX3_bringBack_35 : decode cX3_bringBack 35 = .ok (.iload_n 2, 1) := by decide +kernel
theorem dX3_bringBack_36 : decode cX3_bringBack 36 = .ok (.putfield 18, 3) := by decide +kernel
theorem dX3_bringBack_39 : decode cX3_bringBack 39 = .ok (.aload_n 0, 1) := by decide +kernel
theorem dX3_bringBack_40 : decode cX3_bringBack 40 = .ok (.dup, 1) := by decide +kernel
theorem dX3_bringBack_41 : decode cX3_bringBack 41 = .ok (.getfield 30, 3) := by decide +kernel
theorem dX3_bringBack_44 : decode cX3_bringBack 44 = .ok (.iconst 1, 1) := by decide +kernel
theorem dX3_bringBack_45 : decode cX3_bringBack 45 = .ok (.isub, 1) := by decide +kernel
theorem dX3_bringBack_46 : decode cX3_bringBack 46 = .ok (.putfield 30, 3) := by decide +kernel
theorem dX3_bringBack_49 : decode cX3_bringBack 49 = .ok (.return_, 1) := by decide +kernel
theorem dX3_forget_0 : decode cX3_forget 0 = .ok (.aload_n 0, 1) := by decide +kernel
theorem dX3_forget_1 : decode cX3_forget 1 = .ok (.iconst 0, 1) := by decide +kernel
theorem dX3_forget_2 : decode cX3_forget 2 = .ok (.putfield 30, 3) := by decide +kernel
theorem dX3_forget_5 : decode cX3_forget 5 = .ok (.return_, 1) := by decide +kernel
theorem dX3_planIn_0 : decode cX3_planIn 0 = .ok (.iload_n 1, 1) := by decide +kernel
theorem dX3_planIn_1 : decode cX3_planIn 1 = .ok (.ifCond .lt 21, 3) := by decide +kernel
theorem dX3_planIn_4 : decode cX3_planIn 4 = .ok (.iload_n 1, 1) := by decide +kernel
theorem dX3_planIn_5 : decode cX3_planIn 5 = .ok (.aload_n 0, 1) := by decide +kernel
theorem dX3_planIn_6 : decode cX3_planIn 6 = .ok (.getfield 11, 3) := by decide +kernel
theorem dX3_planIn_9 : decode cX3_planIn 9 = .ok (.arraylength, 1) := by decide +kernel
theorem dX3_planIn_10 : decode cX3_planIn 10 = .ok (.if_icmp .ge 12, 3) := by decide +kernel
theorem dX3_planIn_13 : decode cX3_planIn 13 = .ok (.aload_n 0, 1) := by decide +kernel
theorem dX3_planIn_14 : decode cX3_planIn 14 = .ok (.getfield 11, 3) := by decide +kernel
theorem dX3_planIn_17 : decode cX3_planIn 17 = .ok (.iload_n 1, 1) := by decide +kernel
theorem dX3_planIn_18 : decode cX3_planIn 18 = .ok (.aaload, 1) := by decide +kernel
theorem dX3_planIn_19 : decode cX3_planIn 19 = .ok (.goto 4, 3) := by decide +kernel
theorem dX3_planIn_22 : decode cX3_planIn 22 = .ok (.aconst_null, 1) := by decide +kernel
theorem dX3_planIn_23 : decode cX3_planIn 23 = .ok (.areturn, 1) := by decide +kernel
theorem dX4_init_0 : decode cX4_init 0 = .ok (.aload_n 0, 1) := by decide +kernel
theorem dX4_init_1 : decode cX4_init 1 = .ok (.invokespecial 3, 3) := by decide +kernel
theorem dX4_init_4 : decode cX4_init 4 = .ok (.aload_n 0, 1) := by decide +kernel
theorem dX4_init_5 : decode cX4_init 5 = .ok (.aload_n 1, 1) := by decide +kernel
theorem dX4_init_6 : decode cX4_init 6 = .ok (.putfield 9, 3) := by decide +kernel
theorem dX4_init_9 : decode cX4_init 9 = .ok (.aload_n 0, 1) := by decide +kernel
theorem dX4_init_10 : decode cX4_init 10 = .ok (.iconst 4, 1) := by decide +kernel
theorem dX4_init_11 : decode cX4_init 11 = .ok (.newarray .int, 2) := by decide +kernel
theorem dX4_init_13 : decode cX4_init 13 = .ok (.putfield 15, 3) := by decide +kernel
theorem dX4_init_16 : decode cX4_init 16 = .ok (.aload_n 0, 1) := by decide +kernel
theorem dX4_init_17 : decode cX4_init 17 = .ok (.iconst 4, 1) := by decide +kernel
theorem dX4_init_18 : decode cX4_init 18 = .ok (.newarray .int, 2) := by decide +kernel
theorem dX4_init_20 : decode cX4_init 20 = .ok (.putfield 19, 3) := by decide +kernel
theorem dX4_init_23 : decode cX4_init 23 = .ok (.aload_n 0, 1) := by decide +kernel
theorem dX4_init_24 : decode cX4_init 24 = .ok (.iconst 4, 1) := by decide +kernel
theorem dX4_init_25 : decode cX4_init 25 = .ok (.newarray .int, 2) := by decide +kernel
theorem dX4_init_27 : decode cX4_init 27 = .ok (.putfield 22, 3) := by decide +kernel
theorem dX4_init_30 : decode cX4_init 30 = .ok (.return_, 1) := by decide +kernel
theorem dX4_valueBySearch_0 : decode cX4_valueBySearch 0 = .ok (.aload_n 0, 1) := by decide +kernel
theorem dX4_valueBySearch_1 : decode cX4_valueBySearch 1 = .ok (.iload_n 1, 1) := by decide +kernel
theorem dX4_valueBySearch_2 : decode cX4_valueBySearch 2 = .ok (.invokevirtual 25, 3) := by decide +kernel
theorem dX4_valueBySearch_5 : decode cX4_valueBySearch 5 = .ok (.aload_n 0, 1) := by decide +kernel
theorem dX4_valueBySearch_6 : decode cX4_valueBySearch 6 = .ok (.invokevirtual 29, 3) := by decide +kernel
theorem dX4_valueBySearch_9 : decode cX4_valueBySearch 9 = .ok (.ireturn, 1) := by decide +kernel
theorem dX4_giveBest_0 : decode cX4_giveBest 0 = .ok (.aload_n 0, 1) := by decide +kernel
theorem dX4_giveBest_1 : decode cX4_giveBest 1 = .ok (.iload_n 1, 1) := by decide +kernel
theorem dX4_giveBest_2 : decode cX4_giveBest 2 = .ok (.invokevirtual 25, 3) := by decide +kernel
theorem dX4_giveBest_5 : decode cX4_giveBest 5 = .ok (.aload_n 0, 1) := by decide +kernel
theorem dX4_giveBest_6 : decode cX4_giveBest 6 = .ok (.invokevirtual 29, 3) := by decide +kernel
theorem dX4_giveBest_9 : decode cX4_giveBest 9 = .ok (.istore_n 2, 1) := by decide +kernel
theorem dX4_giveBest_10 : decode cX4_giveBest 10 = .ok (.aload_n 0, 1) := by decide +kernel
theorem dX4_giveBest_11 : decode cX4_giveBest 11 = .ok (.getfield 9, 3) := by decide +kernel
theorem dX4_giveBest_14 : decode cX4_giveBest 14 = .ok (.getfield 33, 3) := by decide +kernel
theorem dX4_giveBest_17 : decode cX4_giveBest 17 = .ok (.iload_n 1, 1) := by decide +kernel
theorem dX4_giveBest_18 : decode cX4_giveBest 18 = .ok (.invokestatic 38, 3) := by decide +kernel
theorem dX4_giveBest_21 : decode cX4_giveBest 21 = .ok (.istore_n 3, 1) := by decide +kernel
theorem dX4_giveBest_22 : decode cX4_giveBest 22 = .ok (.iconst 0, 1) := by decide +kernel
theorem dX4_giveBest_23 : decode cX4_giveBest 23 = .ok (.istore 4, 2) := by decide +kernel
theorem dX4_giveBest_25 : decode cX4_giveBest 25 = .ok (.iload 4, 2) := by decide +kernel
theorem dX4_giveBest_27 : decode cX4_giveBest 27 = .ok (.iload_n 3, 1) := by decide +kernel
theorem dX4_giveBest_28 : decode cX4_giveBest 28 = .ok (.if_icmp .ge 36, 3) := by decide +kernel
theorem dX4_giveBest_31 : decode cX4_giveBest 31 = .ok (.aload_n 0, 1) := by decide +kernel
theorem dX4_giveBest_32 : decode cX4_giveBest 32 = .ok (.getfield 9, 3) := by decide +kernel
theorem dX4_giveBest_35 : decode cX4_giveBest 35 = .ok (.iload_n 1, 1) := by decide +kernel
theorem dX4_giveBest_36 : decode cX4_giveBest 36 = .ok (.aload_n 0, 1) := by decide +kernel
theorem dX4_giveBest_37 : decode cX4_giveBest 37 = .ok (.getfield 9, 3) := by decide +kernel
theorem dX4_giveBest_40 : decode cX4_giveBest 40 = .ok (.iload_n 1, 1) := by decide +kernel
theorem dX4_giveBest_41 : decode cX4_giveBest 41 = .ok (.iload 4, 2) := by decide +kernel
theorem dX4_giveBest_43 : decode cX4_giveBest 43 = .ok (.invokevirtual 42, 3) := by decide +kernel
theorem dX4_giveBest_46 : decode cX4_giveBest 46 = .ok (.aload_n 0, 1) := by decide +kernel
theorem dX4_giveBest_47 : decode cX4_giveBest 47 = .ok (.getfield 22, 3) := by decide +kernel
theorem dX4_giveBest_50 : decode cX4_giveBest 50 = .ok (.iload 4, 2) := by decide +kernel
theorem dX4_giveBest_52 : decode cX4_giveBest 52 = .ok (.invokestatic 38, 3) := by decide +kernel
theorem dX4_giveBest_55 : decode cX4_giveBest 55 = .ok (.invokevirtual 46, 3) := by decide +kernel
theorem dX4_giveBest_58 : decode cX4_giveBest 58 = .ok (.iinc 4 1, 3) := by decide +kernel
theorem dX4_giveBest_61 : decode cX4_giveBest 61 = .ok (.goto (-36), 3) := by decide +kernel
theorem dX4_giveBest_64 : decode cX4_giveBest 64 = .ok (.aload_n 0, 1) := by decide +kernel
theorem dX4_giveBest_65 : decode cX4_giveBest 65 = .ok (.getfield 9, 3) := by decide +kernel
theorem dX4_giveBest_68 : decode cX4_giveBest 68 = .ok (.iload_n 1, 1) := by decide +kernel
theorem dX4_giveBest_69 : decode cX4_giveBest 69 = .ok (.aload_n 0, 1) := by decide +kernel
theorem dX4_giveBest_70 : decode cX4_giveBest 70 = .ok (.getfield 9, 3) := by decide +kernel
theorem dX4_giveBest_73 : decode cX4_giveBest 73 = .ok (.getfield 50, 3) := by decide +kernel
theorem dX4_giveBest_76 : decode cX4_giveBest 76 = .ok (.iload_n 1, 1) := by decide +kernel
theorem dX4_giveBest_77 : decode cX4_giveBest 77 = .ok (.invokestatic 38, 3) := by decide +kernel
theorem dX4_giveBest_80 : decode cX4_giveBest 80 = .ok (.aload_n 0, 1) := by decide +kernel
theorem dX4_giveBest_81 : decode cX4_giveBest 81 = .ok (.getfield 22, 3) := by decide +kernel
theorem dX4_giveBest_84 : decode cX4_giveBest 84 = .ok (.iconst 3, 1) := by decide +kernel
theorem dX4_giveBest_85 : decode cX4_giveBest 85 = .ok (.invokestatic 38, 3) := by decide +kernel
theorem dX4_giveBest_88 : decode cX4_giveBest 88 = .ok (.invokevirtual 46, 3) := by decide +kernel
theorem dX4_giveBest_91 : decode cX4_giveBest 91 = .ok (.iload_n 2, 1) := by decide +kernel
theorem dX4_giveBest_92 : decode cX4_giveBest 92 = .ok (.ireturn, 1) := by decide +kernel
theorem dX4_valueBySets_0 : decode cX4_valueBySets 0 = .ok (.aload_n 0, 1) := by decide +kernel
theorem dX4_valueBySets_1 : decode cX4_valueBySets 1 = .ok (.iload_n 1, 1) := by decide +kernel
theorem dX4_valueBySets_2 : decode cX4_valueBySets 2 = .ok (.invokevirtual 25, 3) := by decide +kernel
theorem dX4_valueBySets_5 : decode cX4_valueBySets 5 = .ok (.bipush 7, 2) := by decide +kernel
theorem dX4_valueBySets_7 : decode cX4_valueBySets 7 = .ok (.istore_n 2, 1) := by decide +kernel
theorem dX4_valueBySets_8 : decode cX4_valueBySets 8 = .ok (.iload_n 2, 1) := by decide +kernel
theorem dX4_valueBySets_9 : decode cX4_valueBySets 9 = .ok (.ifCond .le 19, 3) := by decide +kernel
theorem dX4_valueBySets_12 : decode cX4_valueBySets 12 = .ok (.aload_n 0, 1) := by decide +kernel
theorem dX4_valueBySets_13 : decode cX4_valueBySets 13 = .ok (.iload_n 2, 1) := by decide +kernel
theorem dX4_valueBySets_14 : decode cX4_valueBySets 14 = .ok (.invokevirtual 53, 3) := by decide +kernel
theorem dX4_valueBySets_17 : decode cX4_valueBySets 17 = .ok (.ifCond .eq 5, 3) := by decide +kernel
theorem dX4_valueBySets_20 : decode cX4_valueBySets 20 = .ok (.iload_n 2, 1) := by decide +kernel
theorem dX4_valueBySets_21 : decode cX4_valueBySets 21 = .ok (.ireturn, 1) := by decide +kernel
theorem dX4_valueBySets_22 : decode cX4_valueBySets 22 = .ok (.iinc 2 (-1), 3) := by decide +kernel
theorem dX4_valueBySets_25 : decode cX4_valueBySets 25 = .ok (.goto (-17), 3) := by decide +kernel
theorem dX4_valueBySets_28 : decode cX4_valueBySets 28 = .ok (.iconst 0, 1) := by decide +kernel
theorem dX4_valueBySets_29 : decode cX4_valueBySets 29 = .ok (.ireturn, 1) := by decide +kernel
theorem dX4_servesBySearch_0 : decode cX4_servesBySearch 0 = .ok (.aload_n 0, 1) := by decide +kernel
theorem dX4_servesBySearch_1 : decode cX4_servesBySearch 1 = .ok (.iload_n 1, 1) := by decide +kernel
theorem dX4_servesBySearch_2 : decode cX4_servesBySearch 2 = .ok (.invokevirtual 57, 3) := by decide +kernel
theorem dX4_servesBySearch_5 : decode cX4_servesBySearch 5 = .ok (.aload_n 0, 1) := by decide +kernel
theorem dX4_servesBySearch_6 : decode cX4_servesBySearch 6 = .ok (.getfield 15, 3) := by decide +kernel
theorem dX4_servesBySearch_9 : decode cX4_servesBySearch 9 = .ok (.aload_n 0, 1) := by decide +kernel
theorem dX4_servesBySearch_10 : decode cX4_servesBySearch 10 = .ok (.getfield 9, 3) := by decide +kernel
theorem dX4_servesBySearch_13 : decode cX4_servesBySearch 13 = .ok (.getfield 33, 3) := by decide +kernel
theorem dX4_servesBySearch_16 : decode cX4_servesBySearch 16 = .ok (.iload_n 1, 1) := by decide +kernel
theorem dX4_servesBySearch_17 : decode cX4_servesBySearch 17 = .ok (.invokestatic 38, 3) := by decide +kernel
theorem dX4_servesBySearch_20 : decode cX4_servesBySearch 20 = .ok (.iconst 0, 1) := by decide +kernel
theorem dX4_servesBySearch_21 : decode cX4_servesBySearch 21 = .ok (.iconst 0, 1) := by decide +kernel
theorem dX4_servesBySearch_22 : decode cX4_servesBySearch 22 = .ok (.invokestatic 60, 3) := by decide +kernel
theorem dX4_servesBySearch_25 : decode cX4_servesBySearch 25 = .ok (.ireturn, 1) := by decide +kernel
theorem dX4_servesByCounting_0 : decode cX4_servesByCounting 0 = .ok (.aload_n 0, 1) := by decide +kernel
theorem dX4_servesByCounting_1 : decode cX4_servesByCounting 1 = .ok (.iload_n 1, 1) := by decide +kernel
theorem dX4_servesByCounting_2 : decode cX4_servesByCounting 2 = .ok (.invokevirtual 57, 3) := by decide +kernel
theorem dX4_servesByCounting_5 : decode cX4_servesByCounting 5 = .ok (.iconst 1, 1) := by decide +kernel
theorem dX4_servesByCounting_6 : decode cX4_servesByCounting 6 = .ok (.iconst 0, 1) := by decide +kernel
theorem dX4_servesByCounting_7 : decode cX4_servesByCounting 7 = .ok (.aload_n 0, 1) := by decide +kernel
theorem dX4_servesByCounting_8 : decode cX4_servesByCounting 8 = .ok (.getfield 9, 3) := by decide +kernel
theorem dX4_servesByCounting_11 : decode cX4_servesByCounting 11 = .ok (.getfield 33, 3) := by decide +kernel
theorem dX4_servesByCounting_14 : decode cX4_servesByCounting 14 = .ok (.iload_n 1, 1) := by decide +kernel
theorem dX4_servesByCounting_15 : decode cX4_servesByCounting 15 = .ok (.invokestatic 38, 3) := by decide +kernel
theorem dX4_servesByCounting_18 : decode cX4_servesByCounting 18 = .ok (.invokestatic 64, 3) := by decide +kernel
theorem dX4_servesByCounting_21 : decode cX4_servesByCounting 21 = .ok (.ishl, 1) := by decide +kernel
theorem dX4_servesByCounting_22 : decode cX4_servesByCounting 22 = .ok (.istore_n 2, 1) := by decide +kernel
theorem dX4_servesByCounting_23 : decode cX4_servesByCounting 23 = .ok (.iconst 1, 1) := by decide +kernel
theorem dX4_servesByCounting_24 : decode cX4_servesByCounting 24 = .ok (.istore_n 3, 1) := by decide +kernel
theorem dX4_servesByCounting_25 : decode cX4_servesByCounting 25 = .ok (.iload_n 3, 1) := by decide +kernel
theorem dX4_servesByCounting_26 : decode cX4_servesByCounting 26 = .ok (.iload_n 2, 1) := by decide +kernel
theorem dX4_servesByCounting_27 : decode cX4_servesByCounting 27 = .ok (.if_icmp .ge 64, 3) := by decide +kernel
theorem dX4_servesByCounting_30 : decode cX4_servesByCounting 30 = .ok (.iconst 0, 1) := by decide +kernel
theorem dX4_servesByCounting_31 : decode cX4_servesByCounting 31 = .ok (.istore 4, 2) := by decide +kernel
theorem dX4_servesByCounting_33 : decode cX4_servesByCounting 33 = .ok (.iconst 0, 1) := by decide +kernel
theorem dX4_servesByCounting_34 : decode cX4_servesByCounting 34 = .ok (.istore 5, 2) := by decide +kernel
theorem dX4_servesByCounting_36 : decode cX4_servesByCounting 36 = .ok (.iload 5, 2) := by decide +kernel
theorem dX4_servesByCounting_38 : decode cX4_servesByCounting 38 = .ok (.iconst 3, 1) := by decide +kernel
theorem dX4_servesByCounting_39 : decode cX4_servesByCounting 39 = .ok (.if_icmp .ge 32, 3) := by decide +kernel
theorem dX4_servesByCounting_42 : decode cX4_servesByCounting 42 = .ok (.iload_n 3, 1) := by decide +kernel
theorem dX4_servesByCounting_43 : decode cX4_servesByCounting 43 = .ok (.iload 5, 2) := by decide +kernel
theorem dX4_servesByCounting_45 : decode cX4_servesByCounting 45 = .ok (.invokestatic 69, 3) := by decide +kernel
theorem dX4_servesByCounting_48 : decode cX4_servesByCounting 48 = .ok (.ifCond .eq 17, 3) := by decide +kernel
theorem dX4_servesByCounting_51 : decode cX4_servesByCounting 51 = .ok (.iload 4, 2) := by decide +kernel
theorem dX4_servesByCounting_53 : decode cX4_servesByCounting 53 = .ok (.aload_n 0, 1) := by decide +kernel
theorem dX4_servesByCounting_54 : decode cX4_servesByCounting 54 = .ok (.getfield 15, 3) := by decide +kernel
theorem dX4_servesByCounting_57 : decode cX4_servesByCounting 57 = .ok (.iload 5, 2) := by decide +kernel
theorem dX4_servesByCounting_59 : decode cX4_servesByCounting 59 = .ok (.invokestatic 38, 3) := by decide +kernel
theorem dX4_servesByCounting_62 : decode cX4_servesByCounting 62 = .ok (.ior, 1) := by decide +kernel
theorem dX4_servesByCounting_63 : decode cX4_servesByCounting 63 = .ok (.istore 4, 2) := by decide +kernel
theorem dX4_servesByCounting_65 : decode cX4_servesByCounting 65 = .ok (.iinc 5 1, 3) := by decide +kernel
theorem dX4_servesByCounting_68 : decode cX4_servesByCounting 68 = .ok (.goto (-32), 3) := by decide +kernel
theorem dX4_servesByCounting_71 : decode cX4_servesByCounting 71 = .ok (.iload 4, 2) := by decide +kernel
theorem dX4_servesByCounting_73 : decode cX4_servesByCounting 73 = .ok (.invokestatic 73, 3) := by decide +kernel
theorem dX4_servesByCounting_76 : decode cX4_servesByCounting 76 = .ok (.iload_n 3, 1) := by decide +kernel
theorem dX4_servesByCounting_77 : decode cX4_servesByCounting 77 = .ok (.invokestatic 73, 3) := by decide +kernel
theorem dX4_servesByCounting_80 : decode cX4_servesByCounting 80 = .ok (.if_icmp .ge 5, 3) := by decide +kernel
theorem dX4_servesByCounting_83 : decode cX4_servesByCounting 83 = .ok (.iconst 0, 1) := by decide +kernel
theorem dX4_servesByCounting_84 : decode cX4_servesByCounting 84 = .ok (.ireturn, 1) := by decide +kernel
theorem dX4_servesByCounting_85 : decode cX4_servesByCounting 85 = .ok (.iinc 3 1, 3) := by decide +kernel
theorem dX4_servesByCounting_88 : decode cX4_servesByCounting 88 = .ok (.goto (-63), 3) := by decide +kernel
theorem dX4_servesByCounting_91 : decode cX4_servesByCounting 91 = .ok (.iconst 1, 1) := by decide +kernel
theorem dX4_servesByCounting_92 : decode cX4_servesByCounting 92 = .ok (.ireturn, 1) := by decide +kernel
theorem dX4_collectRoomy_0 : decode cX4_collectRoomy 0 = .ok (.aload_n 0, 1) := by decide +kernel
theorem dX4_collectRoomy_1 : decode cX4_collectRoomy 1 = .ok (.getfield 9, 3) := by decide +kernel
theorem dX4_collectRoomy_4 : decode cX4_collectRoomy 4 = .ok (.getfield 33, 3) := by decide +kernel
theorem dX4_collectRoomy_7 : decode cX4_collectRoomy 7 = .ok (.iload_n 1, 1) := by decide +kernel
theorem dX4_collectRoomy_8 : decode cX4_collectRoomy 8 = .ok (.invokestatic 38, 3) := by decide +kernel
theorem dX4_collectRoomy_11 : decode cX4_collectRoomy 11 = .ok (.istore_n 2, 1) := by decide +kernel
theorem dX4_collectRoomy_12 : decode cX4_collectRoomy 12 = .ok (.aload_n 0, 1) := by decide +kernel
theorem dX4_collectRoomy_13 : decode cX4_collectRoomy 13 = .ok (.iconst 0, 1) := by decide +kernel
theorem dX4_collectRoomy_14 : decode cX4_collectRoomy 14 = .ok (.putfield 78, 3) := by decide +kernel
theorem dX4_collectRoomy_17 : decode cX4_collectRoomy 17 = .ok (.iconst 0, 1) := by decide +kernel
theorem dX4_collectRoomy_18 : decode cX4_collectRoomy 18 = .ok (.istore_n 3, 1) := by decide +kernel
theorem dX4_collectRoomy_19 : decode cX4_collectRoomy 19 = .ok (.iload_n 3, 1) := by decide +kernel
theorem dX4_collectRoomy_20 : decode cX4_collectRoomy 20 = .ok (.iconst 3, 1) := by decide +kernel
theorem dX4_collectRoomy_21 : decode cX4_collectRoomy 21 = .ok (.if_icmp .ge 79, 3) := by decide +kernel
theorem dX4_collectRoomy_24 : decode cX4_collectRoomy 24 = .ok (.iload_n 3, 1) := by decide +kernel
theorem dX4_collectRoomy_25 : decode cX4_collectRoomy 25 = .ok (.iload_n 2, 1) := by decide +kernel
theorem dX4_collectRoomy_26 : decode cX4_collectRoomy 26 = .ok (.if_icmp .ge 7, 3) := by decide +kernel
theorem dX4_collectRoomy_29 : decode cX4_collectRoomy 29 = .ok (.iconst 1, 1) := by decide +kernel
theorem dX4_collectRoomy_30 : decode cX4_collectRoomy 30 = .ok (.goto 4, 3) := by decide +kernel
theorem dX4_collectRoomy_33 : decode cX4_collectRoomy 33 = .ok (.iconst 0, 1) := by decide +kernel
theorem dX4_collectRoomy_34 : decode cX4_collectRoomy 34 = .ok (.istore 4, 2) := by decide +kernel
theorem dX4_collectRoomy_36 : decode cX4_collectRoomy 36 = .ok (.aload_n 0, 1) := by decide +kernel
theorem dX4_collectRoomy_37 : decode cX4_collectRoomy 37 = .ok (.getfield 15, 3) := by decide +kernel
theorem dX4_collectRoomy_40 : decode cX4_collectRoomy 40 = .ok (.iload_n 3, 1) := by decide +kernel
theorem dX4_collectRoomy_41 : decode cX4_collectRoomy 41 = .ok (.iload 4, 2) := by decide +kernel
theorem dX4_collectRoomy_43 : decode cX4_collectRoomy 43 = .ok (.ifCond .eq 25, 3) := by decide +kernel
theorem dX4_collectRoomy_46 : decode cX4_collectRoomy 46 = .ok (.aload_n 0, 1) := by decide +kernel
theorem dX4_collectRoomy_47 : decode cX4_collectRoomy 47 = .ok (.getfield 9, 3) := by decide +kernel
theorem dX4_collectRoomy_50 : decode cX4_collectRoomy 50 = .ok (.aload_n 0, 1) := by decide +kernel
theorem dX4_collectRoomy_51 : decode cX4_collectRoomy 51 = .ok (.getfield 9, 3) := by decide +kernel
theorem dX4_collectRoomy_54 : decode cX4_collectRoomy 54 = .ok (.iload_n 1, 1) := by decide +kernel
theorem dX4_collectRoomy_55 : decode cX4_collectRoomy 55 = .ok (.iload_n 3, 1) := by decide +kernel
theorem dX4_collectRoomy_56 : decode cX4_collectRoomy 56 = .ok (.invokevirtual 42, 3) := by decide +kernel
theorem dX4_collectRoomy_59 : decode cX4_collectRoomy 59 = .ok (.iconst 1, 1) := by decide +kernel
theorem dX4_collectRoomy_60 : decode cX4_collectRoomy 60 = .ok (.iload_n 1, 1) := by decide +kernel
theorem dX4_collectRoomy_61 : decode cX4_collectRoomy 61 = .ok (.ishl, 1) := by decide +kernel
theorem dX4_collectRoomy_62 : decode cX4_collectRoomy 62 = .ok (.invokevirtual 82, 3) := by decide +kernel
theorem dX4_collectRoomy_65 : decode cX4_collectRoomy 65 = .ok (.goto 4, 3) := by decide +kernel
theorem dX4_collectRoomy_68 : decode cX4_collectRoomy 68 = .ok (.iconst 0, 1) := by decide +kernel
theorem dX4_collectRoomy_69 : decode cX4_collectRoomy 69 = .ok (.invokestatic 85, 3) := by decide +kernel
theorem dX4_collectRoomy_72 : decode cX4_collectRoomy 72 = .ok (.aload_n 0, 1) := by decide +kernel
theorem dX4_collectRoomy_73 : decode cX4_collectRoomy 73 = .ok (.dup, 1) := by decide +kernel
theorem dX4_collectRoomy_74 : decode cX4_collectRoomy 74 = .ok (.getfield 78, 3) := by decide +kernel
theorem dX4_collectRoomy_77 : decode cX4_collectRoomy 77 = .ok (.iload 4, 2) := by decide +kernel
theorem dX4_collectRoomy_79 : decode cX4_collectRoomy 79 = .ok (.ifCond .eq 10, 3) := by decide +kernel
theorem dX4_collectRoomy_82 : decode cX4_collectRoomy 82 = .ok (.iload_n 3, 1) := by decide +kernel
theorem dX4_collectRoomy_83 : decode cX4_collectRoomy 83 = .ok (.invokestatic 89, 3) := by decide +kernel
theorem dX4_collectRoomy_86 : decode cX4_collectRoomy 86 = .ok (.goto 4, 3) := by decide +kernel
theorem dX4_collectRoomy_89 : decode cX4_collectRoomy 89 = .ok (.iconst 0, 1) := by decide +kernel
theorem dX4_collectRoomy_90 : decode cX4_collectRoomy 90 = .ok (.iadd, 1) := by decide +kernel
theorem dX4_collectRoomy_91 : decode cX4_collectRoomy 91 = .ok (.putfield 78, 3) := by decide +kernel
theorem dX4_collectRoomy_94 : decode cX4_collectRoomy 94 = .ok (.iinc 3 1, 3) := by decide +kernel
theorem dX4_collectRoomy_97 : decode cX4_collectRoomy 97 = .ok (.goto (-78), 3) := by decide +kernel
theorem dX4_collectRoomy_100 : decode cX4_collectRoomy 100 = .ok (.aload_n 0, 1) := by decide +kernel
theorem dX4_collectRoomy_101 : decode cX4_collectRoomy 101 = .ok (.getfield 15, 3) := by decide +kernel
theorem dX4_collectRoomy_104 : decode cX4_collectRoomy 104 = .ok (.iconst 3, 1) := by decide +kernel
theorem dX4_collectRoomy_105 : decode cX4_collectRoomy 105 = .ok (.aload_n 0, 1) := by decide +kernel
theorem dX4_collectRoomy_106 : decode cX4_collectRoomy 106 = .ok (.getfield 9, 3) := by decide +kernel
theorem dX4_collectRoomy_109 : decode cX4_collectRoomy 109 = .ok (.aload_n 0, 1) := by decide +kernel
theorem dX4_collectRoomy_110 : decode cX4_collectRoomy 110 = .ok (.getfield 9, 3) := by decide +kernel
theorem dX4_collectRoomy_113 : decode cX4_collectRoomy 113 = .ok (.getfield 50, 3) := by decide +kernel
theorem dX4_collectRoomy_116 : decode cX4_collectRoomy 116 = .ok (.iload_n 1, 1) := by decide +kernel
theorem dX4_collectRoomy_117 : decode cX4_collectRoomy 117 = .ok (.invokestatic 38, 3) := by decide +kernel
theorem dX4_collectRoomy_120 : decode cX4_collectRoomy 120 = .ok (.iconst 1, 1) := by decide +kernel
theorem dX4_collectRoomy_121 : decode cX4_collectRoomy 121 = .ok (.iload_n 1, 1) := by decide +kernel
theorem dX4_collectRoomy_122 : decode cX4_collectRoomy 122 = .ok (.ishl, 1) := by decide +kernel
theorem dX4_collectRoomy_123 : decode cX4_collectRoomy 123 = .ok (.invokevirtual 82, 3) := by decide +kernel
theorem dX4_collectRoomy_126 : decode cX4_collectRoomy 126 = .ok (.invokestatic 85, 3) := by decide +kernel
theorem dX4_collectRoomy_129 : decode cX4_collectRoomy 129 = .ok (.return_, 1) := by decide +kernel
theorem dX4_collectOpen_0 : decode cX4_collectOpen 0 = .ok (.aload_n 0, 1) := by decide +kernel
theorem dX4_collectOpen_1 : decode cX4_collectOpen 1 = .ok (.getfield 9, 3) := by decide +kernel
theorem dX4_collectOpen_4 : decode cX4_collectOpen 4 = .ok (.getfield 33, 3) := by decide +kernel
theorem dX4_collectOpen_7 : decode cX4_collectOpen 7 = .ok (.iload_n 1, 1) := by decide +kernel
theorem dX4_collectOpen_8 : decode cX4_collectOpen 8 = .ok (.invokestatic 38, 3) := by decide +kernel
theorem dX4_collectOpen_11 : decode cX4_collectOpen 11 = .ok (.istore_n 2, 1) := by decide +kernel
theorem dX4_collectOpen_12 : decode cX4_collectOpen 12 = .ok (.iconst 0, 1) := by decide +kernel
theorem dX4_collectOpen_13 : decode cX4_collectOpen 13 = .ok (.istore_n 3, 1) := by decide +kernel
theorem dX4_collectOpen_14 : decode cX4_collectOpen 14 = .ok (.iload_n 3, 1) := by decide +kernel
theorem dX4_collectOpen_15 : decode cX4_collectOpen 15 = .ok (.iconst 3, 1) := by decide +kernel
theorem dX4_collectOpen_16 : decode cX4_collectOpen 16 = .ok (.if_icmp .ge 42, 3) := by decide +kernel
theorem dX4_collectOpen_19 : decode cX4_collectOpen 19 = .ok (.aload_n 0, 1) := by decide +kernel
theorem dX4_collectOpen_20 : decode cX4_collectOpen 20 = .ok (.getfield 15, 3) := by decide +kernel
theorem dX4_collectOpen_23 : decode cX4_collectOpen 23 = .ok (.iload_n 3, 1) := by decide +kernel
theorem dX4_collectOpen_24 : decode cX4_collectOpen 24 = .ok (.iload_n 3, 1) := by decide +kernel
theorem dX4_collectOpen_25 : decode cX4_collectOpen 25 = .ok (.iload_n 2, 1) := by decide +kernel
theorem dX4_collectOpen_26 : decode cX4_collectOpen 26 = .ok (.if_icmp .ge 22, 3) := by decide +kernel
theorem dX4_collectOpen_29 : decode cX4_collectOpen 29 = .ok (.aload_n 0, 1) := by decide +kernel
theorem dX4_collectOpen_30 : decode cX4_collectOpen 30 = .ok (.getfield 9, 3) := by decide +kernel
theorem dX4_collectOpen_33 : decode cX4_collectOpen 33 = .ok (.aload_n 0, 1) := by decide +kernel
theorem dX4_collectOpen_34 : decode cX4_collectOpen 34 = .ok (.getfield 9, 3) := by decide +kernel
theorem dX4_collectOpen_37 : decode cX4_collectOpen 37 = .ok (.iload_n 1, 1) := by decide +kernel
theorem dX4_collectOpen_38 : decode cX4_collectOpen 38 = .ok (.iload_n 3, 1) := by decide +kernel
theorem dX4_collectOpen_39 : decode cX4_collectOpen 39 = .ok (.invokevirtual 42, 3) := by decide +kernel
theorem dX4_collectOpen_42 : decode cX4_collectOpen 42 = .ok (.invokevirtual 92, 3) := by decide +kernel
theorem dX4_collectOpen_45 : decode cX4_collectOpen 45 = .ok (.goto 4, 3) := by decide +kernel
theorem dX4_collectOpen_48 : decode cX4_collectOpen 48 = .ok (.iconst 0, 1) := by decide +kernel
theorem dX4_collectOpen_49 : decode cX4_collectOpen 49 = .ok (.invokestatic 85, 3) := by decide +kernel
theorem dX4_collectOpen_52 : decode cX4_collectOpen 52 = .ok (.iinc 3 1, 3) := by decide +kernel
theorem dX4_collectOpen_55 : decode cX4_collectOpen 55 = .ok (.goto (-41), 3) := by decide +kernel
theorem dX4_collectOpen_58 : decode cX4_collectOpen 58 = .ok (.return_, 1) := by decide +kernel
theorem dX4_findBest_0 : decode cX4_findBest 0 = .ok (.aload_n 0, 1) := by decide +kernel
theorem dX4_findBest_1 : decode cX4_findBest 1 = .ok (.iconst (-1), 1) := by decide +kernel
theorem dX4_findBest_2 : decode cX4_findBest 2 = .ok (.putfield 95, 3) := by decide +kernel
theorem dX4_findBest_5 : decode cX4_findBest 5 = .ok (.aload_n 0, 1) := by decide +kernel
theorem dX4_findBest_6 : decode cX4_findBest 6 = .ok (.iconst 0, 1) := by decide +kernel
theorem dX4_findBest_7 : decode cX4_findBest 7 = .ok (.iconst 0, 1) := by decide +kernel
theorem dX4_findBest_8 : decode cX4_findBest 8 = .ok (.iconst 0, 1) := by decide +kernel
theorem dX4_findBest_9 : decode cX4_findBest 9 = .ok (.invokestatic 98, 3) := by decide +kernel
theorem dX4_findBest_12 : decode cX4_findBest 12 = .ok (.aload_n 0, 1) := by decide +kernel
theorem dX4_findBest_13 : decode cX4_findBest 13 = .ok (.getfield 95, 3) := by decide +kernel
theorem dX4_findBest_16 : decode cX4_findBest 16 = .ok (.iconst 1, 1) := by decide +kernel
theorem dX4_findBest_17 : decode cX4_findBest 17 = .ok (.ishr, 1) := by decide +kernel
theorem dX4_findBest_18 : decode cX4_findBest 18 = .ok (.ireturn, 1) := by decide +kernel
theorem dX4_scoreOf_0 : decode cX4_scoreOf 0 = .ok (.iconst 1, 1) := by decide +kernel
theorem dX4_scoreOf_1 : decode cX4_scoreOf 1 = .ok (.iconst 3, 1) := by decide +kernel
theorem dX4_scoreOf_2 : decode cX4_scoreOf 2 = .ok (.iload_n 0, 1) := by decide +kernel
theorem dX4_scoreOf_3 : decode cX4_scoreOf 3 = .ok (.isub, 1) := by decide +kernel
theorem dX4_scoreOf_4 : decode cX4_scoreOf 4 = .ok (.ishl, 1) := by decide +kernel
theorem dX4_scoreOf_5 : decode cX4_scoreOf 5 = .ok (.ireturn, 1) := by decide +kernel
theorem dX4_extend_0 : decode cX4_extend 0 = .ok (.iload_n 1, 1) := by decide +kernel
theorem dX4_extend_1 : decode cX4_extend 1 = .ok (.iconst 3, 1) := by decide +kernel
theorem dX4_extend_2 : decode cX4_extend 2 = .ok (.if_icmp .le 9, 3) := by decide +kernel
theorem dX4_extend_5 : decode cX4_extend 5 = .ok (.aload_n 0, 1) := by decide +kernel
theorem dX4_extend_6 : decode cX4_extend 6 = .ok (.iload_n 3, 1) := by decide +kernel
theorem dX4_extend_7 : decode cX4_extend 7 = .ok (.invokevirtual 102, 3) := by decide +kernel
theorem dX4_extend_10 : decode cX4_extend 10 = .ok (.return_, 1) := by decide +kernel
theorem dX4_extend_11 : decode cX4_extend 11 = .ok (.iload_n 1, 1) := by decide +kernel
theorem dX4_extend_12 : decode cX4_extend 12 = .ok (.iconst 3, 1) := by decide +kernel
theorem dX4_extend_13 : decode cX4_extend 13 = .ok (.if_icmp .lt 11, 3) := by decide +kernel
theorem dX4_extend_16 : decode cX4_extend 16 = .ok (.iload_n 3, 1) := by decide +kernel
theorem dX4_extend_17 : decode cX4_extend 17 = .ok (.aload_n 0, 1) := by decide +kernel
theorem dX4_extend_18 : decode cX4_extend 18 = .ok (.getfield 78, 3) := by decide +kernel
theorem dX4_extend_21 : decode cX4_extend 21 = .ok (.if_icmp .ge 7, 3) := by decide +kernel
theorem dX4_extend_24 : decode cX4_extend 24 = .ok (.iconst 1, 1) := by decide +kernel
theorem dX4_extend_25 : decode cX4_extend 25 = .ok (.goto 4, 3) := by decide +kernel
theorem dX4_extend_28 : decode cX4_extend 28 = .ok (.iconst 0, 1) := by decide +kernel
theorem dX4_extend_29 : decode cX4_extend 29 = .ok (.istore 4, 2) := by decide +kernel
theorem dX4_extend_31 : decode cX4_extend 31 = .ok (.iload 4, 2) := by decide +kernel
theorem dX4_extend_33 : decode cX4_extend 33 = .ok (.ifCond .eq 18, 3) := by decide +kernel
theorem dX4_extend_36 : decode cX4_extend 36 = .ok (.aload_n 0, 1) := by decide +kernel
theorem dX4_extend_37 : decode cX4_extend 37 = .ok (.getfield 15, 3) := by decide +kernel
theorem dX4_extend_40 : decode cX4_extend 40 = .ok (.iload_n 1, 1) := by decide +kernel
theorem dX4_extend_41 : decode cX4_extend 41 = .ok (.invokestatic 38, 3) := by decide +kernel
theorem dX4_extend_44 : decode cX4_extend 44 = .ok (.iload_n 2, 1) := by decide +kernel
theorem dX4_extend_45 : decode cX4_extend 45 = .ok (.iconst (-1), 1) := by decide +kernel
theorem dX4_extend_46 : decode cX4_extend 46 = .ok (.ixor, 1) := by decide +kernel
theorem dX4_extend_47 : decode cX4_extend 47 = .ok (.iand, 1) := by decide +kernel
theorem dX4_extend_48 : decode cX4_extend 48 = .ok (.goto 4, 3) := by decide +kernel
theorem dX4_extend_51 : decode cX4_extend 51 = .ok (.iconst 0, 1) := by decide +kernel
theorem dX4_extend_52 : decode cX4_extend 52 = .ok (.istore 5, 2) := by decide +kernel
theorem dX4_extend_54 : decode cX4_extend 54 = .ok (.iconst 0, 1) := by decide +kernel
theorem dX4_extend_55 : decode cX4_extend 55 = .ok (.istore 6, 2) := by decide +kernel
theorem dX4_extend_57 : decode cX4_extend 57 = .ok (.iload 6, 2) := by decide +kernel
theorem dX4_extend_59 : decode cX4_extend 59 = .ok (.iconst 4, 1) := by decide +kernel
theorem dX4_extend_60 : decode cX4_extend 60 = .ok (.if_icmp .ge 48, 3) := by decide +kernel
theorem dX4_extend_63 : decode cX4_extend 63 = .ok (.iload 5, 2) := by decide +kernel
theorem dX4_extend_65 : decode cX4_extend 65 = .ok (.iload 6, 2) := by decide +kernel
theorem dX4_extend_67 : decode cX4_extend 67 = .ok (.invokestatic 69, 3) := by decide +kernel
theorem dX4_extend_70 : decode cX4_extend 70 = .ok (.ifCond .eq 32, 3) := by decide +kernel
theorem dX4_extend_73 : decode cX4_extend 73 = .ok (.aload_n 0, 1) := by decide +kernel
theorem dX4_extend_74 : decode cX4_extend 74 = .ok (.getfield 19, 3) := by decide +kernel
theorem dX4_extend_77 : decode cX4_extend 77 = .ok (.iload_n 1, 1) := by decide +kernel
theorem dX4_extend_78 : decode cX4_extend 78 = .ok (.iload 6, 2) := by decide +kernel
theorem dX4_extend_80 : decode cX4_extend 80 = .ok (.invokestatic 85, 3) := by decide +kernel
theorem dX4_extend_83 : decode cX4_extend 83 = .ok (.aload_n 0, 1) := by decide +kernel
theorem dX4_extend_84 : decode cX4_extend 84 = .ok (.iload_n 1, 1) := by decide +kernel
theorem dX4_extend_85 : decode cX4_extend 85 = .ok (.iconst 1, 1) := by decide +kernel
theorem dX4_extend_86 : decode cX4_extend 86 = .ok (.iadd, 1) := by decide +kernel
theorem dX4_extend_87 : decode cX4_extend 87 = .ok (.iload_n 2, 1) := by decide +kernel
theorem dX4_extend_88 : decode cX4_extend 88 = .ok (.iconst 1, 1) := by decide +kernel
theorem dX4_extend_89 : decode cX4_extend 89 = .ok (.iload 6, 2) := by decide +kernel
theorem dX4_extend_91 : decode cX4_extend 91 = .ok (.ishl, 1) := by decide +kernel
theorem dX4_extend_92 : decode cX4_extend 92 = .ok (.ior, 1) := by decide +kernel
theorem dX4_extend_93 : decode cX4_extend 93 = .ok (.iload_n 3, 1) := by decide +kernel
theorem dX4_extend_94 : decode cX4_extend 94 = .ok (.iload_n 1, 1) := by decide +kernel
theorem dX4_extend_95 : decode cX4_extend 95 = .ok (.invokestatic 89, 3) := by decide +kernel
theorem dX4_extend_98 : decode cX4_extend 98 = .ok (.iadd, 1) := by decide +kernel
theorem dX4_extend_99 : decode cX4_extend 99 = .ok (.invokestatic 98, 3) := by decide +kernel
theorem dX4_extend_102 : decode cX4_extend 102 = .ok (.iinc 6 1, 3) := by decide +kernel
theorem dX4_extend_105 : decode cX4_extend 105 = .ok (.goto (-48), 3) := by decide +kernel
theorem dX4_extend_108 : decode cX4_extend 108 = .ok (.aload_n 0, 1) := by decide +kernel
theorem dX4_extend_109 : decode cX4_extend 109 = .ok (.getfield 19, 3) := by decide +kernel
theorem dX4_extend_112 : decode cX4_extend 112 = .ok (.iload_n 1, 1) := by decide +kernel
theorem dX4_extend_113 : decode cX4_extend 113 = .ok (.iconst (-1), 1) := by decide +kernel
theorem dX4_extend_114 : decode cX4_extend 114 = .ok (.invokestatic 85, 3) := by decide +kernel
theorem dX4_extend_117 : decode cX4_extend 117 = .ok (.aload_n 0, 1) := by decide +kernel
theorem dX4_extend_118 : decode cX4_extend 118 = .ok (.iload_n 1, 1) := by decide +kernel
theorem dX4_extend_119 : decode cX4_extend 119 = .ok (.iconst 1, 1) := by decide +kernel
theorem dX4_extend_120 : decode cX4_extend 120 = .ok (.iadd, 1) := by decide +kernel
theorem dX4_extend_121 : decode cX4_extend 121 = .ok (.iload_n 2, 1) := by decide +kernel
theorem dX4_extend_122 : decode cX4_extend 122 = .ok (.iload_n 3, 1) := by decide +kernel
theorem dX4_extend_123 : decode cX4_extend 123 = .ok (.invokestatic 98, 3) := by decide +kernel
theorem dX4_extend_126 : decode cX4_extend 126 = .ok (.return_, 1) := by decide +kernel
theorem dX4_keepIfBetter_0 : decode cX4_keepIfBetter 0 = .ok (.iload_n 1, 1) := by decide +kernel
theorem dX4_keepIfBetter_1 : decode cX4_keepIfBetter 1 = .ok (.aload_n 0, 1) := by decide +kernel
theorem dX4_keepIfBetter_2 : decode cX4_keepIfBetter 2 = .ok (.getfield 95, 3) := by decide +kernel
theorem dX4_keepIfBetter_5 : decode cX4_keepIfBetter 5 = .ok (.if_icmp .le 19, 3) := by decide +kernel
theorem dX4_keepIfBetter_8 : decode cX4_keepIfBetter 8 = .ok (.aload_n 0, 1) := by decide +kernel
theorem dX4_keepIfBetter_9 : decode cX4_keepIfBetter 9 = .ok (.iload_n 1, 1) := by decide +kernel
theorem dX4_keepIfBetter_10 : decode cX4_keepIfBetter 10 = .ok (.putfield 95, 3) := by decide +kernel
theorem dX4_keepIfBetter_13 : decode cX4_keepIfBetter 13 = .ok (.aload_n 0, 1) := by decide +kernel
theorem dX4_keepIfBetter_14 : decode cX4_keepIfBetter 14 = .ok (.getfield 19, 3) := by decide +kernel
theorem dX4_keepIfBetter_17 : decode cX4_keepIfBetter 17 = .ok (.aload_n 0, 1) := by decide +kernel
theorem dX4_keepIfBetter_18 : decode cX4_keepIfBetter 18 = .ok (.getfield 22, 3) := by decide +kernel
theorem dX4_keepIfBetter_21 : decode cX4_keepIfBetter 21 = .ok (.invokestatic 105, 3) := by decide +kernel
theorem dX4_keepIfBetter_24 : decode cX4_keepIfBetter 24 = .ok (.return_, 1) := by decide +kernel
theorem dX4_setsUsedFor_0 : decode cX4_setsUsedFor 0 = .ok (.iconst 1, 1) := by decide +kernel
theorem dX4_setsUsedFor_1 : decode cX4_setsUsedFor 1 = .ok (.istore_n 2, 1) := by decide +kernel
theorem dX4_setsUsedFor_2 : decode cX4_setsUsedFor 2 = .ok (.iconst 0, 1) := by decide +kernel
theorem dX4_setsUsedFor_3 : decode cX4_setsUsedFor 3 = .ok (.istore_n 3, 1) := by decide +kernel
theorem dX4_setsUsedFor_4 : decode cX4_setsUsedFor 4 = .ok (.iload_n 3, 1) := by decide +kernel
theorem dX4_setsUsedFor_5 : decode cX4_setsUsedFor 5 = .ok (.iconst 3, 1) := by decide +kernel
theorem dX4_setsUsedFor_6 : decode cX4_setsUsedFor 6 = .ok (.if_icmp .ge 32, 3) := by decide +kernel
theorem dX4_setsUsedFor_9 : decode cX4_setsUsedFor 9 = .ok (.iload_n 1, 1) := by decide +kernel
theorem dX4_setsUsedFor_10 : decode cX4_setsUsedFor 10 = .ok (.iconst 2, 1) := by decide +kernel
theorem dX4_setsUsedFor_11 : decode cX4_setsUsedFor 11 = .ok (.iload_n 3, 1) := by decide +kernel
theorem dX4_setsUsedFor_12 : decode cX4_setsUsedFor 12 = .ok (.isub, 1) := by decide +kernel
theorem dX4_setsUsedFor_13 : decode cX4_setsUsedFor 13 = .ok (.invokestatic 69, 3) := by decide +kernel
theorem dX4_setsUsedFor_16 : decode cX4_setsUsedFor 16 = .ok (.ifCond .eq 16, 3) := by decide +kernel
theorem dX4_setsUsedFor_19 : decode cX4_setsUsedFor 19 = .ok (.iload_n 2, 1) := by decide +kernel
theorem dX4_setsUsedFor_20 : decode cX4_setsUsedFor 20 = .ok (.aload_n 0, 1) := by decide +kernel
theorem dX4_setsUsedFor_21 : decode cX4_setsUsedFor 21 = .ok (.getfield 15, 3) := by decide +kernel
theorem dX4_setsUsedFor_24 : decode cX4_setsUsedFor 24 = .ok (.iload_n 3, 1) := by decide +kernel
theorem dX4_setsUsedFor_25 : decode cX4_setsUsedFor 25 = .ok (.invokestatic 38, 3) := by decide +kernel
theorem dX4_setsUsedFor_28 : decode cX4_setsUsedFor 28 = .ok (.invokestatic 109, 3) := by decide +kernel
theorem dX4_setsUsedFor_31 : decode cX4_setsUsedFor 31 = .ok (.istore_n 2, 1) := by decide +kernel
theorem dX4_setsUsedFor_32 : decode cX4_setsUsedFor 32 = .ok (.iinc 3 1, 3) := by decide +kernel
theorem dX4_setsUsedFor_35 : decode cX4_setsUsedFor 35 = .ok (.goto (-31), 3) := by decide +kernel
theorem dX4_setsUsedFor_38 : decode cX4_setsUsedFor 38 = .ok (.iload_n 2, 1) := by decide +kernel
theorem dX4_setsUsedFor_39 : decode cX4_setsUsedFor 39 = .ok (.ireturn, 1) := by decide +kernel
theorem dX4_setsWithOneOf_0 : decode cX4_setsWithOneOf 0 = .ok (.iconst 0, 1) := by decide +kernel
theorem dX4_setsWithOneOf_1 : decode cX4_setsWithOneOf 1 = .ok (.istore_n 2, 1) := by decide +kernel
theorem dX4_setsWithOneOf_2 : decode cX4_setsWithOneOf 2 = .ok (.iconst 0, 1) := by decide +kernel
theorem dX4_setsWithOneOf_3 : decode cX4_setsWithOneOf 3 = .ok (.istore_n 3, 1) := by decide +kernel
theorem dX4_setsWithOneOf_4 : decode cX4_setsWithOneOf 4 = .ok (.iload_n 3, 1) := by decide +kernel
theorem dX4_setsWithOneOf_5 : decode cX4_setsWithOneOf 5 = .ok (.bipush 16, 2) := by decide +kernel
theorem dX4_setsWithOneOf_7 : decode cX4_setsWithOneOf 7 = .ok (.if_icmp .ge 56, 3) := by decide +kernel
theorem dX4_setsWithOneOf_10 : decode cX4_setsWithOneOf 10 = .ok (.iconst 0, 1) := by decide +kernel
theorem dX4_setsWithOneOf_11 : decode cX4_setsWithOneOf 11 = .ok (.istore 4, 2) := by decide +kernel
theorem dX4_setsWithOneOf_13 : decode cX4_setsWithOneOf 13 = .ok (.iload 4, 2) := by decide +kernel
theorem dX4_setsWithOneOf_15 : decode cX4_setsWithOneOf 15 = .ok (.iconst 4, 1) := by decide +kernel
theorem dX4_setsWithOneOf_16 : decode cX4_setsWithOneOf 16 = .ok (.if_icmp .ge 41, 3) := by decide +kernel
theorem dX4_setsWithOneOf_19 : decode cX4_setsWithOneOf 19 = .ok (.iload_n 0, 1) := by decide +kernel
theorem dX4_setsWithOneOf_20 : decode cX4_setsWithOneOf 20 = .ok (.iload_n 3, 1) := by decide +kernel
theorem dX4_setsWithOneOf_21 : decode cX4_setsWithOneOf 21 = .ok (.invokestatic 69, 3) := by decide +kernel
theorem dX4_setsWithOneOf_24 : decode cX4_setsWithOneOf 24 = .ok (.ifCond .eq 27, 3) := by decide +kernel
theorem dX4_setsWithOneOf_27 : decode cX4_setsWithOneOf 27 = .ok (.iload_n 1, 1) := by decide +kernel
theorem dX4_setsWithOneOf_28 : decode cX4_setsWithOneOf 28 = .ok (.iload_n 3, 1) := by decide +kernel
theorem dX4_setsWithOneOf_29 : decode cX4_setsWithOneOf 29 = .ok (.iconst (-1), 1) := by decide +kernel
theorem dX4_setsWithOneOf_30 : decode cX4_setsWithOneOf 30 = .ok (.ixor, 1) := by decide +kernel
theorem dX4_setsWithOneOf_31 : decode cX4_setsWithOneOf 31 = .ok (.iand, 1) := by decide +kernel
theorem dX4_setsWithOneOf_32 : decode cX4_setsWithOneOf 32 = .ok (.iload 4, 2) := by decide +kernel
theorem dX4_setsWithOneOf_34 : decode cX4_setsWithOneOf 34 = .ok (.invokestatic 69, 3) := by decide +kernel
theorem dX4_setsWithOneOf_37 : decode cX4_setsWithOneOf 37 = .ok (.ifCond .eq 14, 3) := by decide +kernel
theorem dX4_setsWithOneOf_40 : decode cX4_setsWithOneOf 40 = .ok (.iload_n 2, 1) := by decide +kernel
theorem dX4_setsWithOneOf_41 : decode cX4_setsWithOneOf 41 = .ok (.iconst 1, 1) := by decide +kernel
theorem dX4_setsWithOneOf_42 : decode cX4_setsWithOneOf 42 = .ok (.iload_n 3, 1) := by decide +kernel
theorem dX4_setsWithOneOf_43 : decode cX4_setsWithOneOf 43 = .ok (.iconst 1, 1) := by decide +kernel
theorem dX4_setsWithOneOf_44 : decode cX4_setsWithOneOf 44 = .ok (.iload 4, 2) := by decide +kernel
theorem dX4_setsWithOneOf_46 : decode cX4_setsWithOneOf 46 = .ok (.ishl, 1) := by decide +kernel
theorem dX4_setsWithOneOf_47 : decode cX4_setsWithOneOf 47 = .ok (.ior, 1) := by decide +kernel
theorem dX4_setsWithOneOf_48 : decode cX4_setsWithOneOf 48 = .ok (.ishl, 1) := by decide +kernel
theorem dX4_setsWithOneOf_49 : decode cX4_setsWithOneOf 49 = .ok (.ior, 1) := by decide +kernel
theorem dX4_setsWithOneOf_50 : decode cX4_setsWithOneOf 50 = .ok (.istore_n 2, 1) := by decide +kernel
theorem dX4_setsWithOneOf_51 : decode cX4_setsWithOneOf 51 = .ok (.iinc 4 1, 3) := by decide +kernel
theorem dX4_setsWithOneOf_54 : decode cX4_setsWithOneOf 54 = .ok (.goto (-41), 3) := by decide +kernel
theorem dX4_setsWithOneOf_57 : decode cX4_setsWithOneOf 57 = .ok (.iinc 3 1, 3) := by decide +kernel
theorem dX4_setsWithOneOf_60 : decode cX4_setsWithOneOf 60 = .ok (.goto (-56), 3) := by decide +kernel
theorem dX4_setsWithOneOf_63 : decode cX4_setsWithOneOf 63 = .ok (.iload_n 2, 1) := by decide +kernel
theorem dX4_setsWithOneOf_64 : decode cX4_setsWithOneOf 64 = .ok (.ireturn, 1) := by decide +kernel
theorem dX4_serve_0 : decode cX4_serve 0 = .ok (.iload_n 2, 1) := by decide +kernel
theorem dX4_serve_1 : decode cX4_serve 1 = .ok (.iload_n 1, 1) := by decide +kernel
theorem dX4_serve_2 : decode cX4_serve 2 = .ok (.if_icmp .ge 8, 3) := by decide +kernel
theorem dX4_serve_5 : decode cX4_serve 5 = .ok (.iload_n 2, 1) := by decide +kernel
theorem dX4_serve_6 : decode cX4_serve 6 = .ok (.iconst 3, 1) := by decide +kernel
theorem dX4_serve_7 : decode cX4_serve 7 = .ok (.if_icmp .lt 5, 3) := by decide +kernel
theorem dX4_serve_10 : decode cX4_serve 10 = .ok (.iconst 1, 1) := by decide +kernel
theorem dX4_serve_11 : decode cX4_serve 11 = .ok (.ireturn, 1) := by decide +kernel
theorem dX4_serve_12 : decode cX4_serve 12 = .ok (.iconst 0, 1) := by decide +kernel
theorem dX4_serve_13 : decode cX4_serve 13 = .ok (.istore 4, 2) := by decide +kernel
theorem dX4_serve_15 : decode cX4_serve 15 = .ok (.iload 4, 2) := by decide +kernel
theorem dX4_serve_17 : decode cX4_serve 17 = .ok (.iconst 4, 1) := by decide +kernel
theorem dX4_serve_18 : decode cX4_serve 18 = .ok (.if_icmp .ge 45, 3) := by decide +kernel
theorem dX4_serve_21 : decode cX4_serve 21 = .ok (.aload_n 0, 1) := by decide +kernel
theorem dX4_serve_22 : decode cX4_serve 22 = .ok (.iload_n 2, 1) := by decide +kernel
theorem dX4_serve_23 : decode cX4_serve 23 = .ok (.invokestatic 38, 3) := by decide +kernel
theorem dX4_serve_26 : decode cX4_serve 26 = .ok (.iload_n 3, 1) := by decide +kernel
theorem dX4_serve_27 : decode cX4_serve 27 = .ok (.iconst (-1), 1) := by decide +kernel
theorem dX4_serve_28 : decode cX4_serve 28 = .ok (.ixor, 1) := by decide +kernel
theorem dX4_serve_29 : decode cX4_serve 29 = .ok (.iand, 1) := by decide +kernel
theorem dX4_serve_30 : decode cX4_serve 30 = .ok (.iload 4, 2) := by decide +kernel
theorem dX4_serve_32 : decode cX4_serve 32 = .ok (.invokestatic 69, 3) := by decide +kernel
theorem dX4_serve_35 : decode cX4_serve 35 = .ok (.ifCond .eq 22, 3) := by decide +kernel
theorem dX4_serve_38 : decode cX4_serve 38 = .ok (.aload_n 0, 1) := by decide +kernel
theorem dX4_serve_39 : decode cX4_serve 39 = .ok (.iload_n 1, 1) := by decide +kernel
theorem dX4_serve_40 : decode cX4_serve 40 = .ok (.iload_n 2, 1) := by decide +kernel
theorem dX4_serve_41 : decode cX4_serve 41 = .ok (.iconst 1, 1) := by decide +kernel
theorem dX4_serve_42 : decode cX4_serve 42 = .ok (.iadd, 1) := by decide +kernel
theorem dX4_serve_43 : decode cX4_serve 43 = .ok (.iload_n 3, 1) := by decide +kernel
theorem dX4_serve_44 : decode cX4_serve 44 = .ok (.iconst 1, 1) := by decide +kernel
theorem dX4_serve_45 : decode cX4_serve 45 = .ok (.iload 4, 2) := by decide +kernel
theorem dX4_serve_47 : decode cX4_serve 47 = .ok (.ishl, 1) := by decide +kernel
theorem dX4_serve_48 : decode cX4_serve 48 = .ok (.ior, 1) := by decide +kernel
theorem dX4_serve_49 : decode cX4_serve 49 = .ok (.invokestatic 60, 3) := by decide +kernel
theorem dX4_serve_52 : decode cX4_serve 52 = .ok (.ifCond .eq 5, 3) := by decide +kernel
theorem dX4_serve_55 : decode cX4_serve 55 = .ok (.iconst 1, 1) := by decide +kernel
theorem dX4_serve_56 : decode cX4_serve 56 = .ok (.ireturn, 1) := by decide +kernel
theorem dX4_serve_57 : decode cX4_serve 57 = .ok (.iinc 4 1, 3) := by decide +kernel
theorem dX4_serve_60 : decode cX4_serve 60 = .ok (.goto (-45), 3) := by decide +kernel
theorem dX4_serve_63 : decode cX4_serve 63 = .ok (.iconst 0, 1) := by decide +kernel
theorem dX4_serve_64 : decode cX4_serve 64 = .ok (.ireturn, 1) := by decide +kernel
theorem dX5_init_0 : decode cX5_init 0 = .ok (.aload_n 0, 1) := by decide +kernel
theorem dX5_init_1 : decode cX5_init 1 = .ok (.invokespecial 3, 3) := by decide +kernel
theorem dX5_init_4 : decode cX5_init 4 = .ok (.aload_n 0, 1) := by decide +kernel
theorem dX5_init_5 : decode cX5_init 5 = .ok (.iconst 3, 1) := by decide +kernel
theorem dX5_init_6 : decode cX5_init 6 = .ok (.putfield 9, 3) := by decide +kernel
theorem dX5_init_9 : decode cX5_init 9 = .ok (.aload_n 0, 1) := by decide +kernel
theorem dX5_init_10 : decode cX5_init 10 = .ok (.bipush 7, 2) := by decide +kernel
theorem dX5_init_12 : decode cX5_init 12 = .ok (.newarray .int, 2) := by decide +kernel
theorem dX5_init_14 : decode cX5_init 14 = .ok (.putfield 15, 3) := by decide +kernel
theorem dX5_init_17 : decode cX5_init 17 = .ok (.aload_n 0, 1) := by decide +kernel
theorem dX5_init_18 : decode cX5_init 18 = .ok (.bipush 7, 2) := by decide +kernel
theorem dX5_init_20 : decode cX5_init 20 = .ok (.newarray .int, 2) := by decide +kernel
theorem dX5_init_22 : decode cX5_init 22 = .ok (.putfield 19, 3) := by decide +kernel
theorem dX5_init_25 : decode cX5_init 25 = .ok (.aload_n 0, 1) := by decide +kernel
theorem dX5_init_26 : decode cX5_init 26 = .ok (.bipush 28, 2) := by decide +kernel
theorem dX5_init_28 : decode cX5_init 28 = .ok (.newarray .int, 2) := by decide +kernel
theorem dX5_init_30 : decode cX5_init 30 = .ok (.putfield 22, 3) := by decide +kernel
theorem dX5_init_33 : decode cX5_init 33 = .ok (.aload_n 0, 1) := by decide +kernel
theorem dX5_init_34 : decode cX5_init 34 = .ok (.bipush 12, 2) := by decide +kernel
theorem dX5_init_36 : decode cX5_init 36 = .ok (.newarray .int, 2) := by decide +kernel
theorem dX5_init_38 : decode cX5_init 38 = .ok (.putfield 25, 3) := by decide +kernel
theorem dX5_init_41 : decode cX5_init 41 = .ok (.aload_n 0, 1) := by decide +kernel
theorem dX5_init_42 : decode cX5_init 42 = .ok (.bipush 36, 2) := by decide +kernel
theorem dX5_init_44 : decode cX5_init 44 = .ok (.newarray .int, 2) := by decide +kernel
theorem dX5_init_46 : decode cX5_init 46 = .ok (.putfield 28, 3) := by decide +kernel
theorem dX5_init_49 : decode cX5_init 49 = .ok (.aload_n 0, 1) := by decide +kernel
theorem dX5_init_50 : decode cX5_init 50 = .ok (.bipush 12, 2) := by decide +kernel
theorem dX5_init_52 : decode cX5_init 52 = .ok (.newarray .int, 2) := by decide +kernel
theorem dX5_init_54 : decode cX5_init 54 = .ok (.putfield 31, 3) := by decide +kernel
theorem dX5_init_57 : decode cX5_init 57 = .ok (.aload_n 0, 1) := by decide +kernel
theorem dX5_init_58 : decode cX5_init 58 = .ok (.iconst (-1), 1) := by decide +kernel
theorem dX5_init_59 : decode cX5_init 59 = .ok (.putfield 34, 3) := by decide +kernel
theorem dX5_init_62 : decode cX5_init 62 = .ok (.aload_n 0, 1) := by decide +kernel
theorem dX5_init_63 : decode cX5_init 63 = .ok (.iconst 4, 1) := by decide +kernel
theorem dX5_init_64 : decode cX5_init 64 = .ok (.newarray .int, 2) := by decide +kernel
theorem dX5_init_66 : decode cX5_init 66 = .ok (.putfield 37, 3) := by decide +kernel
theorem dX5_init_69 : decode cX5_init 69 = .ok (.aload_n 0, 1) := by decide +kernel
theorem dX5_init_70 : decode cX5_init 70 = .ok (.iconst 4, 1) := by decide +kernel
theorem dX5_init_71 : decode cX5_init 71 = .ok (.newarray .int, 2) := by decide +kernel
theorem dX5_init_73 : decode cX5_init 73 = .ok (.putfield 40, 3) := by decide +kernel
theorem dX5_init_76 : decode cX5_init 76 = .ok (.return_, 1) := by decide +kernel
theorem dX5_copyFrom_0 : decode cX5_copyFrom 0 = .ok (.aload_n 0, 1) := by decide +kernel
theorem dX5_copyFrom_1 : decode cX5_copyFrom 1 = .ok (.aload_n 1, 1) := by decide +kernel
theorem dX5_copyFrom_2 : decode cX5_copyFrom 2 = .ok (.getfield 43, 3) := by decide +kernel
theorem dX5_copyFrom_5 : decode cX5_copyFrom 5 = .ok (.putfield 43, 3) := by decide +kernel
theorem dX5_copyFrom_8 : decode cX5_copyFrom 8 = .ok (.aload_n 0, 1) := by decide +kernel
theorem dX5_copyFrom_9 : decode cX5_copyFrom 9 = .ok (.aload_n 1, 1) := by decide +kernel
theorem dX5_copyFrom_10 : decode cX5_copyFrom 10 = .ok (.getfield 9, 3) := by decide +kernel
theorem dX5_copyFrom_13 : decode cX5_copyFrom 13 = .ok (.putfield 9, 3) := by decide +kernel
theorem dX5_copyFrom_16 : decode cX5_copyFrom 16 = .ok (.aload_n 0, 1) := by decide +kernel
theorem dX5_copyFrom_17 : decode cX5_copyFrom 17 = .ok (.aload_n 1, 1) := by decide +kernel
theorem dX5_copyFrom_18 : decode cX5_copyFrom 18 = .ok (.getfield 46, 3) := by decide +kernel
theorem dX5_copyFrom_21 : decode cX5_copyFrom 21 = .ok (.putfield 46, 3) := by decide +kernel
theorem dX5_copyFrom_24 : decode cX5_copyFrom 24 = .ok (.aload_n 1, 1) := by decide +kernel
theorem dX5_copyFrom_25 : decode cX5_copyFrom 25 = .ok (.getfield 15, 3) := by decide +kernel
theorem dX5_copyFrom_28 : decode cX5_copyFrom 28 = .ok (.aload_n 0, 1) := by decide +kernel
theorem dX5_copyFrom_29 : decode cX5_copyFrom 29 = .ok (.getfield 15, 3) := by decide +kernel
theorem dX5_copyFrom_32 : decode cX5_copyFrom 32 = .ok (.invokestatic 49, 3) := by decide +kernel
theorem dX5_copyFrom_35 : decode cX5_copyFrom 35 = .ok (.aload_n 1, 1) := by decide +kernel
theorem dX5_copyFrom_36 : decode cX5_copyFrom 36 = .ok (.getfield 19, 3) := by decide +kernel
theorem dX5_copyFrom_39 : decode cX5_copyFrom 39 = .ok (.aload_n 0, 1) := by decide +kernel
theorem dX5_copyFrom_40 : decode cX5_copyFrom 40 = .ok (.getfield 19, 3) := by decide +kernel
theorem dX5_copyFrom_43 : decode cX5_copyFrom 43 = .ok (.invokestatic 49, 3) := by decide +kernel
theorem dX5_copyFrom_46 : decode cX5_copyFrom 46 = .ok (.aload_n 1, 1) := by decide +kernel
theorem dX5_copyFrom_47 : decode cX5_copyFrom 47 = .ok (.getfield 22, 3) := by decide +kernel
theorem dX5_copyFrom_50 : decode cX5_copyFrom 50 = .ok (.aload_n 0, 1) := by decide +kernel
theorem dX5_copyFrom_51 : decode cX5_copyFrom 51 = .ok (.getfield 22, 3) := by decide +kernel
theorem dX5_copyFrom_54 : decode cX5_copyFrom 54 = .ok (.invokestatic 49, 3) := by decide +kernel
theorem dX5_copyFrom_57 : decode cX5_copyFrom 57 = .ok (.aload_n 1, 1) := by decide +kernel
theorem dX5_copyFrom_58 : decode cX5_copyFrom 58 = .ok (.getfield 25, 3) := by decide +kernel
theorem dX5_copyFrom_61 : decode cX5_copyFrom 61 = .ok (.aload_n 0, 1) := by decide +kernel
theorem dX5_copyFrom_62 : decode cX5_copyFrom 62 = .ok (.getfield 25, 3) := by decide +kernel
theorem dX5_copyFrom_65 : decode cX5_copyFrom 65 = .ok (.invokestatic 49, 3) := by decide +kernel
theorem dX5_copyFrom_68 : decode cX5_copyFrom 68 = .ok (.aload_n 1, 1) := by decide +kernel
theorem dX5_copyFrom_69 : decode cX5_copyFrom 69 = .ok (.getfield 28, 3) := by decide +kernel
theorem dX5_copyFrom_72 : decode cX5_copyFrom 72 = .ok (.aload_n 0, 1) := by decide +kernel
theorem dX5_copyFrom_73 : decode cX5_copyFrom 73 = .ok (.getfield 28, 3) := by decide +kernel
theorem dX5_copyFrom_76 : decode cX5_copyFrom 76 = .ok (.invokestatic 49, 3) := by decide +kernel
theorem dX5_copyFrom_79 : decode cX5_copyFrom 79 = .ok (.aload_n 1, 1) := by decide +kernel
theorem dX5_copyFrom_80 : decode cX5_copyFrom 80 = .ok (.getfield 31, 3) := by decide +kernel
theorem dX5_copyFrom_83 : decode cX5_copyFrom 83 = .ok (.aload_n 0, 1) := by decide +kernel
theorem dX5_copyFrom_84 : decode cX5_copyFrom 84 = .ok (.getfield 31, 3) := by decide +kernel
theorem dX5_copyFrom_87 : decode cX5_copyFrom 87 = .ok (.invokestatic 49, 3) := by decide +kernel
theorem dX5_copyFrom_90 : decode cX5_copyFrom 90 = .ok (.aload_n 0, 1) := by decide +kernel
theorem dX5_copyFrom_91 : decode cX5_copyFrom 91 = .ok (.aload_n 1, 1) := by decide +kernel
theorem dX5_copyFrom_92 : decode cX5_copyFrom 92 = .ok (.getfield 34, 3) := by decide +kernel
theorem dX5_copyFrom_95 : decode cX5_copyFrom 95 = .ok (.putfield 34, 3) := by decide +kernel
theorem dX5_copyFrom_98 : decode cX5_copyFrom 98 = .ok (.aload_n 1, 1) := by decide +kernel
theorem dX5_copyFrom_99 : decode cX5_copyFrom 99 = .ok (.getfield 37, 3) := by decide +kernel
theorem dX5_copyFrom_102 : decode cX5_copyFrom 102 = .ok (.aload_n 0, 1) := by decide +kernel
theorem dX5_copyFrom_103 : decode cX5_copyFrom 103 = .ok (.getfield 37, 3) := by decide +kernel
theorem dX5_copyFrom_106 : decode cX5_copyFrom 106 = .ok (.invokestatic 49, 3) := by decide +kernel
theorem dX5_copyFrom_109 : decode cX5_copyFrom 109 = .ok (.aload_n 1, 1) := by decide +kernel
theorem dX5_copyFrom_110 : decode cX5_copyFrom 110 = .ok (.getfield 40, 3) := by decide +kernel
theorem dX5_copyFrom_113 : decode cX5_copyFrom 113 = .ok (.aload_n 0, 1) := by decide +kernel
theorem dX5_copyFrom_114 : decode cX5_copyFrom 114 = .ok (.getfield 40, 3) := by decide +kernel
theorem dX5_copyFrom_117 : decode cX5_copyFrom 117 = .ok (.invokestatic 49, 3) := by decide +kernel
theorem dX5_copyFrom_120 : decode cX5_copyFrom 120 = .ok (.return_, 1) := by decide +kernel
theorem dX5_hasSubject_0 : decode cX5_hasSubject 0 = .ok (.iload_n 1, 1) := by decide +kernel
theorem dX5_hasSubject_1 : decode cX5_hasSubject 1 = .ok (.ifCond .lt 15, 3) := by decide +kernel
theorem dX5_hasSubject_4 : decode cX5_hasSubject 4 = .ok (.iload_n 1, 1) := by decide +kernel
theorem dX5_hasSubject_5 : decode cX5_hasSubject 5 = .ok (.aload_n 0, 1) := by decide +kernel
theorem dX5_hasSubject_6 : decode cX5_hasSubject 6 = .ok (.getfield 43, 3) := by decide +kernel
theorem dX5_hasSubject_9 : decode cX5_hasSubject 9 = .ok (.if_icmp .ge 7, 3) := by decide +kernel
theorem dX5_hasSubject_12 : decode cX5_hasSubject 12 = .ok (.iconst 1, 1) := by decide +kernel
theorem dX5_hasSubject_13 : decode cX5_hasSubject 13 = .ok (.goto 4, 3) := by decide +kernel
theorem dX5_hasSubject_16 : decode cX5_hasSubject 16 = .ok (.iconst 0, 1) := by decide +kernel
theorem dX5_hasSubject_17 : decode cX5_hasSubject 17 = .ok (.ireturn, 1) := by decide +kernel
theorem dX5_hasBlock_0 : decode cX5_hasBlock 0 = .ok (.iload_n 1, 1) := by decide +kernel
theorem dX5_hasBlock_1 : decode cX5_hasBlock 1 = .ok (.ifCond .lt 15, 3) := by decide +kernel
theorem dX5_hasBlock_4 : decode cX5_hasBlock 4 = .ok (.iload_n 1, 1) := by decide +kernel
theorem dX5_hasBlock_5 : decode cX5_hasBlock 5 = .ok (.aload_n 0, 1) := by decide +kernel
theorem dX5_hasBlock_6 : decode cX5_hasBlock 6 = .ok (.getfield 9, 3) := by decide +kernel
theorem dX5_hasBlock_9 : decode cX5_hasBlock 9 = .ok (.if_icmp .ge 7, 3) := by decide +kernel
theorem dX5_hasBlock_12 : decode cX5_hasBlock 12 = .ok (.iconst 1, 1) := by decide +kernel
theorem dX5_hasBlock_13 : decode cX5_hasBlock 13 = .ok (.goto 4, 3) := by decide +kernel
theorem dX5_hasBlock_16 : decode cX5_hasBlock 16 = .ok (.iconst 0, 1) := by decide +kernel
theorem dX5_hasBlock_17 : decode cX5_hasBlock 17 = .ok (.ireturn, 1) := by decide +kernel
theorem dX5_hasClass_0 : decode cX5_hasClass 0 = .ok (.aload_n 0, 1) := by decide +kernel
theorem dX5_hasClass_1 : decode cX5_hasClass 1 = .ok (.iload_n 1, 1) := by decide +kernel
theorem dX5_hasClass_2 : decode cX5_hasClass 2 = .ok (.invokevirtual 53, 3) := by decide +kernel
theorem dX5_hasClass_5 : decode cX5_hasClass 5 = .ok (.ifCond .eq 15, 3) := by decide +kernel
theorem dX5_hasClass_8 : decode cX5_hasClass 8 = .ok (.aload_n 0, 1) := by decide +kernel
theorem dX5_hasClass_9 : decode cX5_hasClass 9 = .ok (.iload_n 2, 1) := by decide +kernel
theorem dX5_hasClass_10 : decode cX5_hasClass 10 = .ok (.invokevirtual 57, 3) := by decide +kernel
theorem dX5_hasClass_13 : decode cX5_hasClass 13 = .ok (.ifCond .eq 7, 3) := by decide +kernel
theorem dX5_hasClass_16 : decode cX5_hasClass 16 = .ok (.iconst 1, 1) := by decide +kernel
theorem dX5_hasClass_17 : decode cX5_hasClass 17 = .ok (.goto 4, 3) := by decide +kernel
theorem dX5_hasClass_20 : decode cX5_hasClass 20 = .ok (.iconst 0, 1) := by decide +kernel
theorem dX5_hasClass_21 : decode cX5_hasClass 21 = .ok (.ireturn, 1) := by decide +kernel
theorem dX5_openBlocks_0 : decode cX5_openBlocks 0 = .ok (.aload_n 0, 1) := by decide +kernel
theorem dX5_openBlocks_1 : decode cX5_openBlocks 1 = .ok (.iload_n 1, 1) := by decide +kernel
theorem dX5_openBlocks_2 : decode cX5_openBlocks 2 = .ok (.invokevirtual 53, 3) := by decide +kernel
theorem dX5_openBlocks_5 : decode cX5_openBlocks 5 = .ok (.ifCond .eq 14, 3) := by decide +kernel
theorem dX5_openBlocks_8 : decode cX5_openBlocks 8 = .ok (.aload_n 0, 1) := by decide +kernel
theorem dX5_openBlocks_9 : decode cX5_openBlocks 9 = .ok (.getfield 19, 3) := by decide +kernel
theorem dX5_openBlocks_12 : decode cX5_openBlocks 12 = .ok (.iload_n 1, 1) := by decide +kernel
theorem dX5_openBlocks_13 : decode cX5_openBlocks 13 = .ok (.invokestatic 60, 3) := by decide +kernel
theorem dX5_openBlocks_16 : decode cX5_openBlocks 16 = .ok (.goto 4, 3) := by decide +kernel
theorem dX5_openBlocks_19 : decode cX5_openBlocks 19 = .ok (.iconst 0, 1) := by decide +kernel
theorem dX5_openBlocks_20 : decode cX5_openBlocks 20 = .ok (.ireturn, 1) := by decide +kernel
theorem dX5_openClasses_0 : decode cX5_openClasses 0 = .ok (.iconst 0, 1) := by decide +kernel
theorem dX5_openClasses_1 : decode cX5_openClasses 1 = .ok (.istore_n 1, 1) := by decide +kernel
theorem dX5_openClasses_2 : decode cX5_openClasses 2 = .ok (.iconst 0, 1) := by decide +kernel
theorem dX5_openClasses_3 : decode cX5_openClasses 3 = .ok (.istore_n 2, 1) := by decide +kernel
theorem dX5_openClasses_4 : decode cX5_openClasses 4 = .ok (.iload_n 2, 1) := by decide +kernel
theorem dX5_openClasses_5 : decode cX5_openClasses 5 = .ok (.aload_n 0, 1) := by decide +kernel
theorem dX5_openClasses_6 : decode cX5_openClasses 6 = .ok (.getfield 43, 3) := by decide +kernel
theorem dX5_openClasses_9 : decode cX5_openClasses 9 = .ok (.if_icmp .ge 20, 3) := by decide +kernel
theorem dX5_openClasses_12 : decode cX5_openClasses 12 = .ok (.iload_n 1, 1) := by decide +kernel
theorem dX5_openClasses_13 : decode cX5_openClasses 13 = .ok (.aload_n 0, 1) := by decide +kernel
theorem dX5_openClasses_14 : decode cX5_openClasses 14 = .ok (.iload_n 2, 1) := by decide +kernel
theorem dX5_openClasses_15 : decode cX5_openClasses 15 = .ok (.invokevirtual 64, 3) := by decide +kernel
theorem dX5_openClasses_18 : decode cX5_openClasses 18 = .ok (.invokestatic 68, 3) := by decide +kernel
theorem dX5_openClasses_21 : decode cX5_openClasses 21 = .ok (.iadd, 1) := by decide +kernel
theorem dX5_openClasses_22 : decode cX5_openClasses 22 = .ok (.istore_n 1, 1) := by decide +kernel
theorem dX5_openClasses_23 : decode cX5_openClasses 23 = .ok (.iinc 2 1, 3) := by decide +kernel
theorem dX5_openClasses_26 : decode cX5_openClasses 26 = .ok (.goto (-22), 3) := by decide +kernel
theorem dX5_openClasses_29 : decode cX5_openClasses 29 = .ok (.iload_n 1, 1) := by decide +kernel
theorem dX5_openClasses_30 : decode cX5_openClasses 30 = .ok (.ireturn, 1) := by decide +kernel
theorem dX5_roster_0 : decode cX5_roster 0 = .ok (.iload_n 1, 1) := by decide +kernel
theorem dX5_roster_1 : decode cX5_roster 1 = .ok (.ifCond .lt 22, 3) := by decide +kernel
theorem dX5_roster_4 : decode cX5_roster 4 = .ok (.iload_n 1, 1) := by decide +kernel
theorem dX5_roster_5 : decode cX5_roster 5 = .ok (.bipush 7, 2) := by decide +kernel
theorem dX5_roster_7 : decode cX5_roster 7 = .ok (.if_icmp .ge 16, 3) := by decide +kernel
theorem dX5_roster_10 : decode cX5_roster 10 = .ok (.iload_n 2, 1) := by decide +kernel
theorem dX5_roster_11 : decode cX5_roster 11 = .ok (.ifCond .lt 12, 3) := by decide +kernel
theorem dX5_roster_14 : decode cX5_roster 14 = .ok (.iload_n 2, 1) := by decide +kernel
theorem dX5_roster_15 : decode cX5_roster 15 = .ok (.iconst 4, 1) := by decide +kernel
theorem dX5_roster_16 : decode cX5_roster 16 = .ok (.if_icmp .ge 7, 3) := by decide +kernel
theorem dX5_roster_19 : decode cX5_roster 19 = .ok (.iconst 1, 1) := by decide +kernel
theorem dX5_roster_20 : decode cX5_roster 20 = .ok (.goto 4, 3) := by decide +kernel
theorem dX5_roster_23 : decode cX5_roster 23 = .ok (.iconst 0, 1) := by decide +kernel
theorem dX5_roster_24 : decode cX5_roster 24 = .ok (.istore_n 3, 1) := by decide +kernel
theorem dX5_roster_25 : decode cX5_roster 25 = .ok (.iload_n 3, 1) := by decide +kernel
theorem dX5_roster_26 : decode cX5_roster 26 = .ok (.ifCond .eq 18, 3) := by decide +kernel
theorem dX5_roster_29 : decode cX5_roster 29 = .ok (.aload_n 0, 1) := by decide +kernel
theorem dX5_roster_30 : decode cX5_roster 30 = .ok (.getfield 22, 3) := by decide +kernel
theorem dX5_roster_33 : decode cX5_roster 33 = .ok (.iload_n 1, 1) := by decide +kernel
theorem dX5_roster_34 : decode cX5_roster 34 = .ok (.iconst 4, 1) := by decide +kernel
theorem dX5_roster_35 : decode cX5_roster 35 = .ok (.imul, 1) := by decide +kernel
theorem dX5_roster_36 : decode cX5_roster 36 = .ok (.iload_n 2, 1) := by decide +kernel
theorem dX5_roster_37 : decode cX5_roster 37 = .ok (.iadd, 1) := by decide +kernel
theorem dX5_roster_38 : decode cX5_roster 38 = .ok (.invokestatic 60, 3) := by decide +kernel
theorem dX5_roster_41 : decode cX5_roster 41 = .ok (.goto 4, 3) := by decide +kernel
theorem dX5_roster_44 : decode cX5_roster 44 = .ok (.iconst 0, 1) := by decide +kernel
theorem dX5_roster_45 : decode cX5_roster 45 = .ok (.ireturn, 1) := by decide +kernel
theorem dX5_largestClass_0 : decode cX5_largestClass 0 = .ok (.iconst 0, 1) := by decide +kernel
theorem dX5_largestClass_1 : decode cX5_largestClass 1 = .ok (.istore_n 2, 1) := by decide +kernel
theorem dX5_largestClass_2 : decode cX5_largestClass 2 = .ok (.iconst 0, 1) := by decide +kernel
theorem dX5_largestClass_3 : decode cX5_largestClass 3 = .ok (.istore_n 3, 1) := by decide +kernel
theorem dX5_largestClass_4 : decode cX5_largestClass 4 = .ok (.iload_n 3, 1) := by decide +kernel
theorem dX5_largestClass_5 : decode cX5_largestClass 5 = .ok (.aload_n 0, 1) := by decide +kernel
theorem dX5_largestClass_6 : decode cX5_largestClass 6 = .ok (.getfield 9, 3) := by decide +kernel
theorem dX5_largestClass_9 : decode cX5_largestClass 9 = .ok (.if_icmp .ge 23, 3) := by decide +kernel
theorem dX5_largestClass_12 : decode cX5_largestClass 12 = .ok (.iload_n 2, 1) := by decide +kernel
theorem dX5_largestClass_13 : decode cX5_largestClass 13 = .ok (.aload_n 0, 1) := by decide +kernel
theorem dX5_largestClass_14 : decode cX5_largestClass 14 = .ok (.iload_n 1, 1) := by decide +kernel
theorem dX5_largestClass_15 : decode cX5_largestClass 15 = .ok (.iload_n 3, 1) := by decide +kernel
theorem dX5_largestClass_16 : decode cX5_largestClass 16 = .ok (.invokevirtual 73, 3) := by decide +kernel
theorem dX5_largestClass_19 : decode cX5_largestClass 19 = .ok (.invokestatic 68, 3) := by decide +kernel
theorem dX5_largestClass_22 : decode cX5_largestClass 22 = .ok (.invokestatic 77, 3) := by decide +kernel
theorem dX5_largestClass_25 : decode cX5_largestClass 25 = .ok (.istore_n 2, 1) := by decide +kernel
theorem dX5_largestClass_26 : decode cX5_largestClass 26 = .ok (.iinc 3 1, 3) := by decide +kernel
theorem dX5_largestClass_29 : decode cX5_largestClass 29 = .ok (.goto (-25), 3) := by decide +kernel
theorem dX5_largestClass_32 : decode cX5_largestClass 32 = .ok (.iload_n 2, 1) := by decide +kernel
theorem dX5_largestClass_33 : decode cX5_largestClass 33 = .ok (.ireturn, 1) := by decide +kernel
theorem dX5_roomyBlocks_0 : decode cX5_roomyBlocks 0 = .ok (.aload_n 0, 1) := by decide +kernel
theorem dX5_roomyBlocks_1 : decode cX5_roomyBlocks 1 = .ok (.iload_n 1, 1) := by decide +kernel
theorem dX5_roomyBlocks_2 : decode cX5_roomyBlocks 2 = .ok (.invokevirtual 64, 3) := by decide +kernel
theorem dX5_roomyBlocks_5 : decode cX5_roomyBlocks 5 = .ok (.istore_n 3, 1) := by decide +kernel
theorem dX5_roomyBlocks_6 : decode cX5_roomyBlocks 6 = .ok (.iconst 0, 1) := by decide +kernel
theorem dX5_roomyBlocks_7 : decode cX5_roomyBlocks 7 = .ok (.istore 4, 2) := by decide +kernel
theorem dX5_roomyBlocks_9 : decode cX5_roomyBlocks 9 = .ok (.iconst 0, 1) := by decide +kernel
theorem dX5_roomyBlocks_10 : decode cX5_roomyBlocks 10 = .ok (.istore 5, 2) := by decide +kernel
theorem dX5_roomyBlocks_12 : decode cX5_roomyBlocks 12 = .ok (.iload 5, 2) := by decide +kernel
theorem dX5_roomyBlocks_14 : decode cX5_roomyBlocks 14 = .ok (.aload_n 0, 1) := by decide +kernel
theorem dX5_roomyBlocks_15 : decode cX5_roomyBlocks 15 = .ok (.getfield 9, 3) := by decide +kernel
theorem dX5_roomyBlocks_18 : decode cX5_roomyBlocks 18 = .ok (.if_icmp .ge 56, 3) := by decide +kernel
theorem dX5_roomyBlocks_21 : decode cX5_roomyBlocks 21 = .ok (.aload_n 0, 1) := by decide +kernel
theorem dX5_roomyBlocks_22 : decode cX5_roomyBlocks 22 = .ok (.iload_n 1, 1) := by decide +kernel
theorem dX5_roomyBlocks_23 : decode cX5_roomyBlocks 23 = .ok (.iload 5, 2) := by decide +kernel
theorem dX5_roomyBlocks_25 : decode cX5_roomyBlocks 25 = .ok (.invokevirtual 73, 3) := by decide +kernel
theorem dX5_roomyBlocks_28 : decode cX5_roomyBlocks 28 = .ok (.iload_n 2, 1) := by decide +kernel
theorem dX5_roomyBlocks_29 : decode cX5_roomyBlocks 29 = .ok (.iconst (-1), 1) := by decide +kernel
theorem dX5_roomyBlocks_30 : decode cX5_roomyBlocks 30 = .ok (.ixor, 1) := by decide +kernel
theorem dX5_roomyBlocks_31 : decode cX5_roomyBlocks 31 = .ok (.iand, 1) := by decide +kernel
theorem dX5_roomyBlocks_32 : decode cX5_roomyBlocks 32 = .ok (.invokestatic 68, 3) := by decide +kernel
theorem dX5_roomyBlocks_35 : decode cX5_roomyBlocks 35 = .ok (.istore 6, 2) := by decide +kernel
theorem dX5_roomyBlocks_37 : decode cX5_roomyBlocks 37 = .ok (.iload_n 3, 1) := by decide +kernel
theorem dX5_roomyBlocks_38 : decode cX5_roomyBlocks 38 = .ok (.iload 5, 2) := by decide +kernel
theorem dX5_roomyBlocks_40 : decode cX5_roomyBlocks 40 = .ok (.invokestatic 82, 3) := by decide +kernel
theorem dX5_roomyBlocks_43 : decode cX5_roomyBlocks 43 = .ok (.ifCond .eq 25, 3) := by decide +kernel
theorem dX5_roomyBlocks_46 : decode cX5_roomyBlocks 46 = .ok (.iload 6, 2) := by decide +kernel
theorem dX5_roomyBlocks_48 : decode cX5_roomyBlocks 48 = .ok (.aload_n 0, 1) := by decide +kernel
theorem dX5_roomyBlocks_49 : decode cX5_roomyBlocks 49 = .ok (.getfield 15, 3) := by decide +kernel
theorem dX5_roomyBlocks_52 : decode cX5_roomyBlocks 52 = .ok (.iload_n 1, 1) := by decide +kernel
theorem dX5_roomyBlocks_53 : decode cX5_roomyBlocks 53 = .ok (.invokestatic 60, 3) := by decide +kernel
theorem dX5_roomyBlocks_56 : decode cX5_roomyBlocks 56 = .ok (.if_icmp .ge 12, 3) := by decide +kernel
theorem dX5_roomyBlocks_59 : decode cX5_roomyBlocks 59 = .ok (.iload 4, 2) := by decide +kernel
theorem dX5_roomyBlocks_61 : decode cX5_roomyBlocks 61 = .ok (.iconst 1, 1) := by decide +kernel
theorem dX5_roomyBlocks_62 : decode cX5_roomyBlocks 62 = .ok (.iload 5, 2) := by decide +kernel
theorem dX5_roomyBlocks_64 : decode cX5_roomyBlocks 64 = .ok (.ishl, 1) := by decide +kernel
theorem dX5_roomyBlocks_65 : decode cX5_roomyBlocks 65 = .ok (.ior, 1) := by decide +kernel
theorem dX5_roomyBlocks_66 : decode cX5_roomyBlocks 66 = .ok (.istore 4, 2) := by decide +kernel
theorem dX5_roomyBlocks_68 : decode cX5_roomyBlocks 68 = .ok (.iinc 5 1, 3) := by decide +kernel
theorem dX5_roomyBlocks_71 : decode cX5_roomyBlocks 71 = .ok (.goto (-59), 3) := by decide +kernel
theorem dX5_roomyBlocks_74 : decode cX5_roomyBlocks 74 = .ok (.iload 4, 2) := by decide +kernel
theorem dX5_roomyBlocks_76 : decode cX5_roomyBlocks 76 = .ok (.ireturn, 1) := by decide +kernel
theorem dX5_clash_0 : decode cX5_clash 0 = .ok (.iconst 0, 1) := by decide +kernel
theorem dX5_clash_1 : decode cX5_clash 1 = .ok (.istore_n 3, 1) := by decide +kernel
theorem dX5_clash_2 : decode cX5_clash 2 = .ok (.iload_n 3, 1) := by decide +kernel
theorem dX5_clash_3 : decode cX5_clash 3 = .ok (.aload_n 0, 1) := by decide +kernel
theorem dX5_clash_4 : decode cX5_clash 4 = .ok (.getfield 9, 3) := by decide +kernel
theorem dX5_clash_7 : decode cX5_clash 7 = .ok (.if_icmp .ge 41, 3) := by decide +kernel
theorem dX5_clash_10 : decode cX5_clash 10 = .ok (.aload_n 0, 1) := by decide +kernel
theorem dX5_clash_11 : decode cX5_clash 11 = .ok (.iload_n 2, 1) := by decide +kernel
theorem dX5_clash_12 : decode cX5_clash 12 = .ok (.invokevirtual 64, 3) := by decide +kernel
theorem dX5_clash_15 : decode cX5_clash 15 = .ok (.iconst 1, 1) := by decide +kernel
theorem dX5_clash_16 : decode cX5_clash 16 = .ok (.iload_n 3, 1) := by decide +kernel
theorem dX5_clash_17 : decode cX5_clash 17 = .ok (.ishl, 1) := by decide +kernel
theorem dX5_clash_18 : decode cX5_clash 18 = .ok (.iconst (-1), 1) := by decide +kernel
theorem dX5_clash_19 : decode cX5_clash 19 = .ok (.ixor, 1) := by decide +kernel
theorem dX5_clash_20 : decode cX5_clash 20 = .ok (.iand, 1) := by decide +kernel
theorem dX5_clash_21 : decode cX5_clash 21 = .ok (.istore 4, 2) := by decide +kernel
theorem dX5_clash_23 : decode cX5_clash 23 = .ok (.aload_n 0, 1) := by decide +kernel
theorem dX5_clash_24 : decode cX5_clash 24 = .ok (.iload_n 1, 1) := by decide +kernel
theorem dX5_clash_25 : decode cX5_clash 25 = .ok (.invokevirtual 64, 3) := by decide +kernel
theorem dX5_clash_28 : decode cX5_clash 28 = .ok (.iload_n 3, 1) := by decide +kernel
theorem dX5_clash_29 : decode cX5_clash 29 = .ok (.invokestatic 82, 3) := by decide +kernel
theorem dX5_clash_32 : decode cX5_clash 32 = .ok (.ifCond .eq 10, 3) := by decide +kernel
theorem dX5_clash_35 : decode cX5_clash 35 = .ok (.iload 4, 2) := by decide +kernel
theorem dX5_clash_37 : decode cX5_clash 37 = .ok (.ifCond .eq 5, 3) := by decide +kernel
theorem dX5_clash_40 : decode cX5_clash 40 = .ok (.iconst 0, 1) := by decide +kernel
theorem dX5_clash_41 : decode cX5_clash 41 = .ok (.ireturn, 1) := by decide +kernel
theorem dX5_clash_42 : decode cX5_clash 42 = .ok (.iinc 3 1, 3) := by decide +kernel
theorem dX5_clash_45 : decode cX5_clash 45 = .ok (.goto (-43), 3) := by decide +kernel
theorem dX5_clash_48 : decode cX5_clash 48 = .ok (.iconst 1, 1) := by decide +kernel
theorem dX5_clash_49 : decode cX5_clash 49 = .ok (.ireturn, 1) := by decide +kernel
theorem dX5_newSubject_0 : decode cX5_newSubject 0 = .ok (.aload_n 0, 1) := by decide +kernel
theorem dX5_newSubject_1 : decode cX5_newSubject 1 = .ok (.getfield 15, 3) := by decide +kernel
theorem dX5_newSubject_4 : decode cX5_newSubject 4 = .ok (.aload_n 0, 1) := by decide +kernel
theorem dX5_newSubject_5 : decode cX5_newSubject 5 = .ok (.getfield 43, 3) := by decide +kernel
theorem dX5_newSubject_8 : decode cX5_newSubject 8 = .ok (.iload_n 1, 1) := by decide +kernel
theorem dX5_newSubject_9 : decode cX5_newSubject 9 = .ok (.invokestatic 86, 3) := by decide +kernel
theorem dX5_newSubject_12 : decode cX5_newSubject 12 = .ok (.aload_n 0, 1) := by decide +kernel
theorem dX5_newSubject_13 : decode cX5_newSubject 13 = .ok (.dup, 1) := by decide +kernel
theorem dX5_newSubject_14 : decode cX5_newSubject 14 = .ok (.getfield 43, 3) := by decide +kernel
theorem dX5_newSubject_17 : decode cX5_newSubject 17 = .ok (.iconst 1, 1) := by decide +kernel
theorem dX5_newSubject_18 : decode cX5_newSubject 18 = .ok (.iadd, 1) := by decide +kernel
theorem dX5_newSubject_19 : decode cX5_newSubject 19 = .ok (.putfield 43, 3) := by decide +kernel
theorem dX5_newSubject_22 : decode cX5_newSubject 22 = .ok (.aload_n 0, 1) := by decide +kernel
theorem dX5_newSubject_23 : decode cX5_newSubject 23 = .ok (.getfield 43, 3) := by decide +kernel
theorem dX5_newSubject_26 : decode cX5_newSubject 26 = .ok (.iconst 1, 1) := by decide +kernel
theorem dX5_newSubject_27 : decode cX5_newSubject 27 = .ok (.isub, 1) := by decide +kernel
theorem dX5_newSubject_28 : decode cX5_newSubject 28 = .ok (.ireturn, 1) := by decide +kernel
theorem dX5_resize_0 : decode cX5_resize 0 = .ok (.aload_n 0, 1) := by decide +kernel
theorem dX5_resize_1 : decode cX5_resize 1 = .ok (.getfield 15, 3) := by decide +kernel
theorem dX5_resize_4 : decode cX5_resize 4 = .ok (.iload_n 1, 1) := by decide +kernel
theorem dX5_resize_5 : decode cX5_resize 5 = .ok (.invokestatic 60, 3) := by decide +kernel
theorem dX5_resize_8 : decode cX5_resize 8 = .ok (.istore_n 3, 1) := by decide +kernel
theorem dX5_resize_9 : decode cX5_resize 9 = .ok (.aload_n 0, 1) := by decide +kernel
theorem dX5_resize_10 : decode cX5_resize 10 = .ok (.getfield 15, 3) := by decide +kernel
theorem dX5_resize_13 : decode cX5_resize 13 = .ok (.iload_n 1, 1) := by decide +kernel
theorem dX5_resize_14 : decode cX5_resize 14 = .ok (.iload_n 2, 1) := by decide +kernel
theorem dX5_resize_15 : decode cX5_resize 15 = .ok (.invokestatic 86, 3) := by decide +kernel
theorem dX5_resize_18 : decode cX5_resize 18 = .ok (.iload_n 3, 1) := by decide +kernel
theorem dX5_resize_19 : decode cX5_resize 19 = .ok (.ireturn, 1) := by decide +kernel
theorem dX5_setBlocks_0 : decode cX5_setBlocks 0 = .ok (.aload_n 0, 1) := by decide +kernel
theorem dX5_setBlocks_1 : decode cX5_setBlocks 1 = .ok (.getfield 9, 3) := by decide +kernel
theorem dX5_setBlocks_4 : decode cX5_setBlocks 4 = .ok (.istore_n 2, 1) := by decide +kernel
theorem dX5_setBlocks_5 : decode cX5_setBlocks 5 = .ok (.aload_n 0, 1) := by decide +kernel
theorem dX5_setBlocks_6 : decode cX5_setBlocks 6 = .ok (.iload_n 1, 1) := by decide +kernel
theorem dX5_setBlocks_7 : decode cX5_setBlocks 7 = .ok (.putfield 9, 3) := by decide +kernel
theorem dX5_setBlocks_10 : decode cX5_setBlocks 10 = .ok (.iload_n 2, 1) := by decide +kernel
theorem dX5_setBlocks_11 : decode cX5_setBlocks 11 = .ok (.ireturn, 1) := by decide +kernel
theorem dX5_setOpenBlocks_0 : decode cX5_setOpenBlocks 0 = .ok (.aload_n 0, 1) := by decide +kernel
theorem dX5_setOpenBlocks_1 : decode cX5_setOpenBlocks 1 = .ok (.getfield 19, 3) := by decide +kernel
theorem dX5_setOpenBlocks_4 : decode cX5_setOpenBlocks 4 = .ok (.iload_n 1, 1) := by decide +kernel
theorem dX5_setOpenBlocks_5 : decode cX5_setOpenBlocks 5 = .ok (.iload_n 2, 1) := by decide +kernel
theorem dX5_setOpenBlocks_6 : decode cX5_setOpenBlocks 6 = .ok (.invokestatic 86, 3) := by decide +kernel
theorem dX5_setOpenBlocks_9 : decode cX5_setOpenBlocks 9 = .ok (.iload_n 2, 1) := by decide +kernel
theorem dX5_setOpenBlocks_10 : decode cX5_setOpenBlocks 10 = .ok (.invokestatic 68, 3) := by decide +kernel
theorem dX5_setOpenBlocks_13 : decode cX5_setOpenBlocks 13 = .ok (.ireturn, 1) := by decide +kernel
theorem dX5_hasPupil_0 : decode cX5_hasPupil 0 = .ok (.iload_n 1, 1) := by decide +kernel
theorem dX5_hasPupil_1 : decode cX5_hasPupil 1 = .ok (.ifCond .lt 15, 3) := by decide +kernel
theorem dX5_hasPupil_4 : decode cX5_hasPupil 4 = .ok (.iload_n 1, 1) := by decide +kernel
theorem dX5_hasPupil_5 : decode cX5_hasPupil 5 = .ok (.aload_n 0, 1) := by decide +kernel
theorem dX5_hasPupil_6 : decode cX5_hasPupil 6 = .ok (.getfield 46, 3) := by decide +kernel
theorem dX5_hasPupil_9 : decode cX5_hasPupil 9 = .ok (.if_icmp .ge 7, 3) := by decide +kernel
theorem dX5_hasPupil_12 : decode cX5_hasPupil 12 = .ok (.iconst 1, 1) := by decide +kernel
theorem dX5_hasPupil_13 : decode cX5_hasPupil 13 = .ok (.goto 4, 3) := by decide +kernel
theorem dX5_hasPupil_16 : decode cX5_hasPupil 16 = .ok (.iconst 0, 1) := by decide +kernel
theorem dX5_hasPupil_17 : decode cX5_hasPupil 17 = .ok (.ireturn, 1) := by decide +kernel
theorem dX5_wish_0 : decode cX5_wish 0 = .ok (.iload_n 2, 1) := by decide +kernel
theorem dX5_wish_1 : decode cX5_wish 1 = .ok (.ifCond .lt 23, 3) := by decide +kernel
theorem dX5_wish_4 : decode cX5_wish 4 = .ok (.iload_n 2, 1) := by decide +kernel
theorem dX5_wish_5 : decode cX5_wish 5 = .ok (.iconst 3, 1) := by decide +kernel
theorem dX5_wish_6 : decode cX5_wish 6 = .ok (.if_icmp .ge 18, 3) := by decide +kernel
theorem dX5_wish_9 : decode cX5_wish 9 = .ok (.aload_n 0, 1) := by decide +kernel
theorem dX5_wish_10 : decode cX5_wish 10 = .ok (.getfield 28, 3) := by decide +kernel
theorem dX5_wish_13 : decode cX5_wish 13 = .ok (.iload_n 1, 1) := by decide +kernel
theorem dX5_wish_14 : decode cX5_wish 14 = .ok (.iconst 3, 1) := by decide +kernel
theorem dX5_wish_15 : decode cX5_wish 15 = .ok (.imul, 1) := by decide +kernel
theorem dX5_wish_16 : decode cX5_wish 16 = .ok (.iload_n 2, 1) := by decide +kernel
theorem dX5_wish_17 : decode cX5_wish 17 = .ok (.iadd, 1) := by decide +kernel
theorem dX5_wish_18 : decode cX5_wish 18 = .ok (.invokestatic 60, 3) := by decide +kernel
theorem dX5_wish_21 : decode cX5_wish 21 = .ok (.goto 4, 3) := by decide +kernel
theorem dX5_wish_24 : decode cX5_wish 24 = .ok (.iconst (-1), 1) := by decide +kernel
theorem dX5_wish_25 : decode cX5_wish 25 = .ok (.ireturn, 1) := by decide +kernel
theorem dX5_wishSet_0 : decode cX5_wishSet 0 = .ok (.aload_n 0, 1) := by decide +kernel
theorem dX5_wishSet_1 : decode cX5_wishSet 1 = .ok (.getfield 25, 3) := by decide +kernel
theorem dX5_wishSet_4 : decode cX5_wishSet 4 = .ok (.iload_n 1, 1) := by decide +kernel
theorem dX5_wishSet_5 : decode cX5_wishSet 5 = .ok (.invokestatic 60, 3) := by decide +kernel
theorem dX5_wishSet_8 : decode cX5_wishSet 8 = .ok (.istore_n 2, 1) := by decide +kernel
theorem dX5_wishSet_9 : decode cX5_wishSet 9 = .ok (.iconst 0, 1) := by decide +kernel
theorem dX5_wishSet_10 : decode cX5_wishSet 10 = .ok (.istore_n 3, 1) := by decide +kernel
theorem dX5_wishSet_11 : decode cX5_wishSet 11 = .ok (.iconst 0, 1) := by decide +kernel
theorem dX5_wishSet_12 : decode cX5_wishSet 12 = .ok (.istore 4, 2) := by decide +kernel
theorem dX5_wishSet_14 : decode cX5_wishSet 14 = .ok (.iload 4, 2) := by decide +kernel
theorem dX5_wishSet_16 : decode cX5_wishSet 16 = .ok (.iload_n 2, 1) := by decide +kernel
theorem dX5_wishSet_17 : decode cX5_wishSet 17 = .ok (.if_icmp .ge 27, 3) := by decide +kernel
theorem dX5_wishSet_20 : decode cX5_wishSet 20 = .ok (.iload_n 3, 1) := by decide +kernel
theorem dX5_wishSet_21 : decode cX5_wishSet 21 = .ok (.iconst 1, 1) := by decide +kernel
theorem dX5_wishSet_22 : decode cX5_wishSet 22 = .ok (.aload_n 0, 1) := by decide +kernel
theorem dX5_wishSet_23 : decode cX5_wishSet 23 = .ok (.getfield 28, 3) := by decide +kernel
theorem dX5_wishSet_26 : decode cX5_wishSet 26 = .ok (.iload_n 1, 1) := by decide +kernel
theorem dX5_wishSet_27 : decode cX5_wishSet 27 = .ok (.iconst 3, 1) := by decide +kernel
theorem dX5_wishSet_28 : decode cX5_wishSet 28 = .ok (.imul, 1) := by decide +kernel
theorem dX5_wishSet_29 : decode cX5_wishSet 29 = .ok (.iload 4, 2) := by decide +kernel
theorem dX5_wishSet_31 : decode cX5_wishSet 31 = .ok (.iadd, 1) := by decide +kernel
theorem dX5_wishSet_32 : decode cX5_wishSet 32 = .ok (.invokestatic 60, 3) := by decide +kernel
theorem dX5_wishSet_35 : decode cX5_wishSet 35 = .ok (.ishl, 1) := by decide +kernel
theorem dX5_wishSet_36 : decode cX5_wishSet 36 = .ok (.ior, 1) := by decide +kernel
theorem dX5_wishSet_37 : decode cX5_wishSet 37 = .ok (.istore_n 3, 1) := by decide +kernel
theorem dX5_wishSet_38 : decode cX5_wishSet 38 = .ok (.iinc 4 1, 3) := by decide +kernel
theorem dX5_wishSet_41 : decode cX5_wishSet 41 = .ok (.goto (-27), 3) := by decide +kernel
theorem dX5_wishSet_44 : decode cX5_wishSet 44 = .ok (.iload_n 3, 1) := by decide +kernel
theorem dX5_wishSet_45 : decode cX5_wishSet 45 = .ok (.ireturn, 1) := by decide +kernel
theorem dX5_wishersOfBoth_0 : decode cX5_wishersOfBoth 0 = .ok (.iconst 0, 1) := by decide +kernel
theorem dX5_wishersOfBoth_1 : decode cX5_wishersOfBoth 1 = .ok (.istore_n 3, 1) := by decide +kernel
theorem dX5_wishersOfBoth_2 : decode cX5_wishersOfBoth 2 = .ok (.iconst 0, 1) := by decide +kernel
theorem dX5_wishersOfBoth_3 : decode cX5_wishersOfBoth 3 = .ok (.istore 4, 2) := by decide +kernel
theorem dX5_wishersOfBoth_5 : decode cX5_wishersOfBoth 5 = .ok (.iload 4, 2) := by decide +kernel
theorem dX5_wishersOfBoth_7 : decode cX5_wishersOfBoth 7 = .ok (.aload_n 0, 1) := by decide +kernel
theorem dX5_wishersOfBoth_8 : decode cX5_wishersOfBoth 8 = .ok (.getfield 46, 3) := by decide +kernel
theorem dX5_wishersOfBoth_11 : decode cX5_wishersOfBoth 11 = .ok (.if_icmp .ge 43, 3) := by decide +kernel
theorem dX5_wishersOfBoth_14 : decode cX5_wishersOfBoth 14 = .ok (.aload_n 0, 1) := by decide +kernel
theorem dX5_wishersOfBoth_15 : decode cX5_wishersOfBoth 15 = .ok (.iload 4, 2) := by decide +kernel
theorem dX5_wishersOfBoth_17 : decode cX5_wishersOfBoth 17 = .ok (.invokevirtual 90, 3) := by decide +kernel
theorem dX5_wishersOfBoth_20 : decode cX5_wishersOfBoth 20 = .ok (.istore 5, 2) := by decide +kernel
theorem dX5_wishersOfBoth_22 : decode cX5_wishersOfBoth 22 = .ok (.iload_n 3, 1) := by decide +kernel
theorem dX5_wishersOfBoth_23 : decode cX5_wishersOfBoth 23 = .ok (.iload 5, 2) := by decide +kernel
theorem dX5_wishersOfBoth_25 : decode cX5_wishersOfBoth 25 = .ok (.iload_n 1, 1) := by decide +kernel
theorem dX5_wishersOfBoth_26 : decode cX5_wishersOfBoth 26 = .ok (.invokestatic 82, 3) := by decide +kernel
theorem dX5_wishersOfBoth_29 : decode cX5_wishersOfBoth 29 = .ok (.ifCond .eq 16, 3) := by decide +kernel
theorem dX5_wishersOfBoth_32 : decode cX5_wishersOfBoth 32 = .ok (.iload 5, 2) := by decide +kernel
theorem dX5_wishersOfBoth_34 : decode cX5_wishersOfBoth 34 = .ok (.iload_n 2, 1) := by decide +kernel
theorem dX5_wishersOfBoth_35 : decode cX5_wishersOfBoth 35 = .ok (.invokestatic 82, 3) := by decide +kernel
theorem dX5_wishersOfBoth_38 : decode cX5_wishersOfBoth 38 = .ok (.ifCond .eq 7, 3) := by decide +kernel
theorem dX5_wishersOfBoth_41 : decode cX5_wishersOfBoth 41 = .ok (.iconst 1, 1) := by decide +kernel
theorem dX5_wishersOfBoth_42 : decode cX5_wishersOfBoth 42 = .ok (.goto 4, 3) := by decide +kernel
theorem dX5_wishersOfBoth_45 : decode cX5_wishersOfBoth 45 = .ok (.iconst 0, 1) := by decide +kernel
theorem dX5_wishersOfBoth_46 : decode cX5_wishersOfBoth 46 = .ok (.iadd, 1) := by decide +kernel
theorem dX5_wishersOfBoth_47 : decode cX5_wishersOfBoth 47 = .ok (.istore_n 3, 1) := by decide +kernel
theorem dX5_wishersOfBoth_48 : decode cX5_wishersOfBoth 48 = .ok (.iinc 4 1, 3) := by decide +kernel
theorem dX5_wishersOfBoth_51 : decode cX5_wishersOfBoth 51 = .ok (.goto (-46), 3) := by decide +kernel
theorem dX5_wishersOfBoth_54 : decode cX5_wishersOfBoth 54 = .ok (.iload_n 3, 1) := by decide +kernel
theorem dX5_wishersOfBoth_55 : decode cX5_wishersOfBoth 55 = .ok (.ireturn, 1) := by decide +kernel
theorem dX5_newPupil_0 : decode cX5_newPupil 0 = .ok (.aload_n 0, 1) := by decide +kernel
theorem dX5_newPupil_1 : decode cX5_newPupil 1 = .ok (.getfield 31, 3) := by decide +kernel
theorem dX5_newPupil_4 : decode cX5_newPupil 4 = .ok (.aload_n 0, 1) := by decide +kernel
theorem dX5_newPupil_5 : decode cX5_newPupil 5 = .ok (.getfield 46, 3) := by decide +kernel
theorem dX5_newPupil_8 : decode cX5_newPupil 8 = .ok (.iconst (-1), 1) := by decide +kernel
theorem dX5_newPupil_9 : decode cX5_newPupil 9 = .ok (.invokestatic 86, 3) := by decide +kernel
theorem dX5_newPupil_12 : decode cX5_newPupil 12 = .ok (.aload_n 0, 1) := by decide +kernel
theorem dX5_newPupil_13 : decode cX5_newPupil 13 = .ok (.dup, 1) := by decide +kernel
theorem dX5_newPupil_14 : decode cX5_newPupil 14 = .ok (.getfield 46, 3) := by decide +kernel
theorem dX5_newPupil_17 : decode cX5_newPupil 17 = .ok (.iconst 1, 1) := by decide +kernel
theorem dX5_newPupil_18 : decode cX5_newPupil 18 = .ok (.iadd, 1) := by decide +kernel
theorem dX5_newPupil_19 : decode cX5_newPupil 19 = .ok (.putfield 46, 3) := by decide +kernel
theorem dX5_newPupil_22 : decode cX5_newPupil 22 = .ok (.aload_n 0, 1) := by decide +kernel
theorem dX5_newPupil_23 : decode cX5_newPupil 23 = .ok (.getfield 46, 3) := by decide +kernel
theorem dX5_newPupil_26 : decode cX5_newPupil 26 = .ok (.iconst 1, 1) := by decide +kernel
theorem dX5_newPupil_27 : decode cX5_newPupil 27 = .ok (.isub, 1) := by decide +kernel
theorem dX5_newPupil_28 : decode cX5_newPupil 28 = .ok (.ireturn, 1) := by decide +kernel
theorem dX5_newWish_0 : decode cX5_newWish 0 = .ok (.aload_n 0, 1) := by decide +kernel
theorem dX5_newWish_1 : decode cX5_newWish 1 = .ok (.getfield 25, 3) := by decide +kernel
theorem dX5_newWish_4 : decode cX5_newWish 4 = .ok (.iload_n 1, 1) := by decide +kernel
theorem dX5_newWish_5 : decode cX5_newWish 5 = .ok (.invokestatic 60, 3) := by decide +kernel
theorem dX5_newWish_8 : decode cX5_newWish 8 = .ok (.istore_n 3, 1) := by decide +kernel
theorem dX5_newWish_9 : decode cX5_newWish 9 = .ok (.aload_n 0, 1) := by decide +kernel
theorem dX5_newWish_10 : decode cX5_newWish 10 = .ok (.getfield 28, 3) := by decide +kernel
theorem dX5_newWish_13 : decode cX5_newWish 13 = .ok (.iload_n 1, 1) := by decide +kernel
theorem dX5_newWish_14 : decode cX5_newWish 14 = .ok (.iconst 3, 1) := by decide +kernel
theorem dX5_newWish_15 : decode cX5_newWish 15 = .ok (.imul, 1) := by decide +kernel
theorem dX5_newWish_16 : decode cX5_newWish 16 = .ok (.iload_n 3, 1) := by decide +kernel
theorem dX5_newWish_17 : decode cX5_newWish 17 = .ok (.iadd, 1) := by decide +kernel
theorem dX5_newWish_18 : decode cX5_newWish 18 = .ok (.iload_n 2, 1) := by decide +kernel
theorem dX5_newWish_19 : decode cX5_newWish 19 = .ok (.invokestatic 86, 3) := by decide +kernel
theorem dX5_newWish_22 : decode cX5_newWish 22 = .ok (.aload_n 0, 1) := by decide +kernel
theorem dX5_newWish_23 : decode cX5_newWish 23 = .ok (.getfield 25, 3) := by decide +kernel
theorem dX5_newWish_26 : decode cX5_newWish 26 = .ok (.iload_n 1, 1) := by decide +kernel
theorem dX5_newWish_27 : decode cX5_newWish 27 = .ok (.iload_n 3, 1) := by decide +kernel
theorem dX5_newWish_28 : decode cX5_newWish 28 = .ok (.iconst 1, 1) := by decide +kernel
theorem dX5_newWish_29 : decode cX5_newWish 29 = .ok (.iadd, 1) := by decide +kernel
theorem dX5_newWish_30 : decode cX5_newWish 30 = .ok (.invokestatic 86, 3) := by decide +kernel
theorem dX5_newWish_33 : decode cX5_newWish 33 = .ok (.iload_n 3, 1) := by decide +kernel
theorem dX5_newWish_34 : decode cX5_newWish 34 = .ok (.iconst 1, 1) := by decide +kernel
theorem dX5_newWish_35 : decode cX5_newWish 35 = .ok (.iadd, 1) := by decide +kernel
theorem dX5_newWish_36 : decode cX5_newWish 36 = .ok (.ireturn, 1) := by decide +kernel
theorem dX5_newReserve_0 : decode cX5_newReserve 0 = .ok (.aload_n 0, 1) := by decide +kernel
theorem dX5_newReserve_1 : decode cX5_newReserve 1 = .ok (.getfield 31, 3) := by decide +kernel
theorem dX5_newReserve_4 : decode cX5_newReserve 4 = .ok (.iload_n 1, 1) := by decide +kernel
theorem dX5_newReserve_5 : decode cX5_newReserve 5 = .ok (.invokestatic 60, 3) := by decide +kernel
theorem dX5_newReserve_8 : decode cX5_newReserve 8 = .ok (.istore_n 3, 1) := by decide +kernel
theorem dX5_newReserve_9 : decode cX5_newReserve 9 = .ok (.aload_n 0, 1) := by decide +kernel
theorem dX5_newReserve_10 : decode cX5_newReserve 10 = .ok (.getfield 31, 3) := by decide +kernel
theorem dX5_newReserve_13 : decode cX5_newReserve 13 = .ok (.iload_n 1, 1) := by decide +kernel
theorem dX5_newReserve_14 : decode cX5_newReserve 14 = .ok (.iload_n 2, 1) := by decide +kernel
theorem dX5_newReserve_15 : decode cX5_newReserve 15 = .ok (.invokestatic 86, 3) := by decide +kernel
theorem dX5_newReserve_18 : decode cX5_newReserve 18 = .ok (.iload_n 3, 1) := by decide +kernel
theorem dX5_newReserve_19 : decode cX5_newReserve 19 = .ok (.ireturn, 1) := by decide +kernel
theorem dX5_enter_0 : decode cX5_enter 0 = .ok (.aload_n 0, 1) := by decide +kernel
theorem dX5_enter_1 : decode cX5_enter 1 = .ok (.iload_n 2, 1) := by decide +kernel
theorem dX5_enter_2 : decode cX5_enter 2 = .ok (.iload_n 3, 1) := by decide +kernel
theorem dX5_enter_3 : decode cX5_enter 3 = .ok (.invokevirtual 93, 3) := by decide +kernel
theorem dX5_enter_6 : decode cX5_enter 6 = .ok (.ifCond .eq 25, 3) := by decide +kernel
theorem dX5_enter_9 : decode cX5_enter 9 = .ok (.aload_n 0, 1) := by decide +kernel
theorem dX5_enter_10 : decode cX5_enter 10 = .ok (.getfield 22, 3) := by decide +kernel
theorem dX5_enter_13 : decode cX5_enter 13 = .ok (.iload_n 2, 1) := by decide +kernel
theorem dX5_enter_14 : decode cX5_enter 14 = .ok (.iconst 4, 1) := by decide +kernel
theorem dX5_enter_15 : decode cX5_enter 15 = .ok (.imul, 1) := by decide +kernel
theorem dX5_enter_16 : decode cX5_enter 16 = .ok (.iload_n 3, 1) := by decide +kernel
theorem dX5_enter_17 : decode cX5_enter 17 = .ok (.iadd, 1) := by decide +kernel
theorem dX5_enter_18 : decode cX5_enter 18 = .ok (.aload_n 0, 1) := by decide +kernel
theorem dX5_enter_19 : decode cX5_enter 19 = .ok (.iload_n 2, 1) := by decide +kernel
theorem dX5_enter_20 : decode cX5_enter 20 = .ok (.iload_n 3, 1) := by decide +kernel
theorem dX5_enter_21 : decode cX5_enter 21 = .ok (.invokevirtual 73, 3) := by decide +kernel
theorem dX5_enter_24 : decode cX5_enter 24 = .ok (.iconst 1, 1) := by decide +kernel
theorem dX5_enter_25 : decode cX5_enter 25 = .ok (.iload_n 1, 1) := by decide +kernel
theorem dX5_enter_26 : decode cX5_enter 26 = .ok (.ishl, 1) := by decide +kernel
theorem dX5_enter_27 : decode cX5_enter 27 = .ok (.ior, 1) := by decide +kernel
theorem dX5_enter_28 : decode cX5_enter 28 = .ok (.invokestatic 86, 3) := by decide +kernel
theorem dX5_enter_31 : decode cX5_enter 31 = .ok (.return_, 1) := by decide +kernel
theorem dX5_leave_0 : decode cX5_leave 0 = .ok (.aload_n 0, 1) := by decide +kernel
theorem dX5_leave_1 : decode cX5_leave 1 = .ok (.iload_n 2, 1) := by decide +kernel
theorem dX5_leave_2 : decode cX5_leave 2 = .ok (.iload_n 3, 1) := by decide +kernel
theorem dX5_leave_3 : decode cX5_leave 3 = .ok (.invokevirtual 93, 3) := by decide +kernel
theorem dX5_leave_6 : decode cX5_leave 6 = .ok (.ifCond .eq 27, 3) := by decide +kernel
theorem dX5_leave_9 : decode cX5_leave 9 = .ok (.aload_n 0, 1) := by decide +kernel
theorem dX5_leave_10 : decode cX5_leave 10 = .ok (.getfield 22, 3) := by decide +kernel
theorem dX5_leave_13 : decode cX5_leave 13 = .ok (.iload_n 2, 1) := by decide +kernel
theorem dX5_leave_14 : decode cX5_leave 14 = .ok (.iconst 4, 1) := by decide +kernel
theorem dX5_leave_15 : decode cX5_leave 15 = .ok (.imul, 1) := by decide +kernel
theorem dX5_leave_16 : decode cX5_leave 16 = .ok (.iload_n 3, 1) := by decide +kernel
theorem dX5_leave_17 : decode cX5_leave 17 = .ok (.iadd, 1) := by decide +kernel
theorem dX5_leave_18 : decode cX5_leave 18 = .ok (.aload_n 0, 1) := by decide +kernel
theorem dX5_leave_19 : decode cX5_leave 19 = .ok (.iload_n 2, 1) := by decide +kernel
theorem dX5_leave_20 : decode cX5_leave 20 = .ok (.iload_n 3, 1) := by decide +kernel
theorem dX5_leave_21 : decode cX5_leave 21 = .ok (.invokevirtual 73, 3) := by decide +kernel
theorem dX5_leave_24 : decode cX5_leave 24 = .ok (.iconst 1, 1) := by decide +kernel
theorem dX5_leave_25 : decode cX5_leave 25 = .ok (.iload_n 1, 1) := by decide +kernel
theorem dX5_leave_26 : decode cX5_leave 26 = .ok (.ishl, 1) := by decide +kernel
theorem dX5_leave_27 : decode cX5_leave 27 = .ok (.iconst (-1), 1) := by decide +kernel
theorem dX5_leave_28 : decode cX5_leave 28 = .ok (.ixor, 1) := by decide +kernel
theorem dX5_leave_29 : decode cX5_leave 29 = .ok (.iand, 1) := by decide +kernel
theorem dX5_leave_30 : decode cX5_leave 30 = .ok (.invokestatic 86, 3) := by decide +kernel
theorem dX5_leave_33 : decode cX5_leave 33 = .ok (.return_, 1) := by decide +kernel
theorem dX5_lesson_0 : decode cX5_lesson 0 = .ok (.iconst 0, 1) := by decide +kernel
theorem dX5_lesson_1 : decode cX5_lesson 1 = .ok (.istore_n 3, 1) := by decide +kernel
theorem dX5_lesson_2 : decode cX5_lesson 2 = .ok (.iload_n 3, 1) := by decide +kernel
theorem dX5_lesson_3 : decode cX5_lesson 3 = .ok (.aload_n 0, 1) := by decide +kernel
theorem dX5_lesson_4 : decode cX5_lesson 4 = .ok (.getfield 43, 3) := by decide +kernel
theorem dX5_lesson_7 : decode cX5_lesson 7 = .ok (.if_icmp .ge 24, 3) := by decide +kernel
theorem dX5_lesson_10 : decode cX5_lesson 10 = .ok (.aload_n 0, 1) := by decide +kernel
theorem dX5_lesson_11 : decode cX5_lesson 11 = .ok (.iload_n 3, 1) := by decide +kernel
theorem dX5_lesson_12 : decode cX5_lesson 12 = .ok (.iload_n 2, 1) := by decide +kernel
theorem dX5_lesson_13 : decode cX5_lesson 13 = .ok (.invokevirtual 73, 3) := by decide +kernel
theorem dX5_lesson_16 : decode cX5_lesson 16 = .ok (.iload_n 1, 1) := by decide +kernel
theorem dX5_lesson_17 : decode cX5_lesson 17 = .ok (.invokestatic 82, 3) := by decide +kernel
theorem dX5_lesson_20 : decode cX5_lesson 20 = .ok (.ifCond .eq 5, 3) := by decide +kernel
theorem dX5_lesson_23 : decode cX5_lesson 23 = .ok (.iload_n 3, 1) := by decide +kernel
theorem dX5_lesson_24 : decode cX5_lesson 24 = .ok (.ireturn, 1) := by decide +kernel
theorem dX5_lesson_25 : decode cX5_lesson 25 = .ok (.iinc 3 1, 3) := by decide +kernel
theorem dX5_lesson_28 : decode cX5_lesson 28 = .ok (.goto (-26), 3) := by decide +kernel
theorem dX5_lesson_31 : decode cX5_lesson 31 = .ok (.iconst (-1), 1) := by decide +kernel
theorem dX5_lesson_32 : decode cX5_lesson 32 = .ok (.ireturn, 1) := by decide +kernel
theorem dX5_blockTaken_0 : decode cX5_blockTaken 0 = .ok (.iconst 0, 1) := by decide +kernel
theorem dX5_blockTaken_1 : decode cX5_blockTaken 1 = .ok (.istore_n 3, 1) := by decide +kernel
theorem dX5_blockTaken_2 : decode cX5_blockTaken 2 = .ok (.iload_n 3, 1) := by decide +kernel
theorem dX5_blockTaken_3 : decode cX5_blockTaken 3 = .ok (.aload_n 0, 1) := by decide +kernel
theorem dX5_blockTaken_4 : decode cX5_blockTaken 4 = .ok (.getfield 9, 3) := by decide +kernel
theorem dX5_blockTaken_7 : decode cX5_blockTaken 7 = .ok (.if_icmp .ge 24, 3) := by decide +kernel
theorem dX5_blockTaken_10 : decode cX5_blockTaken 10 = .ok (.aload_n 0, 1) := by decide +kernel
theorem dX5_blockTaken_11 : decode cX5_blockTaken 11 = .ok (.iload_n 2, 1) := by decide +kernel
theorem dX5_blockTaken_12 : decode cX5_blockTaken 12 = .ok (.iload_n 3, 1) := by decide +kernel
theorem dX5_blockTaken_13 : decode cX5_blockTaken 13 = .ok (.invokevirtual 73, 3) := by decide +kernel
theorem dX5_blockTaken_16 : decode cX5_blockTaken 16 = .ok (.iload_n 1, 1) := by decide +kernel
theorem dX5_blockTaken_17 : decode cX5_blockTaken 17 = .ok (.invokestatic 82, 3) := by decide +kernel
theorem dX5_blockTaken_20 : decode cX5_blockTaken 20 = .ok (.ifCond .eq 5, 3) := by decide +kernel
theorem dX5_blockTaken_23 : decode cX5_blockTaken 23 = .ok (.iload_n 3, 1) := by decide +kernel
theorem dX5_blockTaken_24 : decode cX5_blockTaken 24 = .ok (.ireturn, 1) := by decide +kernel
theorem dX5_blockTaken_25 : decode cX5_blockTaken 25 = .ok (.iinc 3 1, 3) := by decide +kernel
theorem dX5_blockTaken_28 : decode cX5_blockTaken 28 = .ok (.goto (-26), 3) := by decide +kernel
theorem dX5_blockTaken_31 : decode cX5_blockTaken 31 = .ok (.iconst (-1), 1) := by decide +kernel
theorem dX5_blockTaken_32 : decode cX5_blockTaken 32 = .ok (.ireturn, 1) := by decide +kernel
theorem dX5_busyPupils_0 : decode cX5_busyPupils 0 = .ok (.iconst 0, 1) := by decide +kernel
theorem dX5_busyPupils_1 : decode cX5_busyPupils 1 = .ok (.istore_n 2, 1) := by decide +kernel
theorem dX5_busyPupils_2 : decode cX5_busyPupils 2 = .ok (.iconst 0, 1) := by decide +kernel
theorem dX5_busyPupils_3 : decode cX5_busyPupils 3 = .ok (.istore_n 3, 1) := by decide +kernel
theorem dX5_busyPupils_4 : decode cX5_busyPupils 4 = .ok (.iload_n 3, 1) := by decide +kernel
theorem dX5_busyPupils_5 : decode cX5_busyPupils 5 = .ok (.aload_n 0, 1) := by decide +kernel
theorem dX5_busyPupils_6 : decode cX5_busyPupils 6 = .ok (.getfield 43, 3) := by decide +kernel
theorem dX5_busyPupils_9 : decode cX5_busyPupils 9 = .ok (.if_icmp .ge 18, 3) := by decide +kernel
theorem dX5_busyPupils_12 : decode cX5_busyPupils 12 = .ok (.iload_n 2, 1) := by decide +kernel
theorem dX5_busyPupils_13 : decode cX5_busyPupils 13 = .ok (.aload_n 0, 1) := by decide +kernel
theorem dX5_busyPupils_14 : decode cX5_busyPupils 14 = .ok (.iload_n 3, 1) := by decide +kernel
theorem dX5_busyPupils_15 : decode cX5_busyPupils 15 = .ok (.iload_n 1, 1) := by decide +kernel
theorem dX5_busyPupils_16 : decode cX5_busyPupils 16 = .ok (.invokevirtual 73, 3) := by decide +kernel
theorem dX5_busyPupils_19 : decode cX5_busyPupils 19 = .ok (.ior, 1) := by decide +kernel
theorem dX5_busyPupils_20 : decode cX5_busyPupils 20 = .ok (.istore_n 2, 1) := by decide +kernel
theorem dX5_busyPupils_21 : decode cX5_busyPupils 21 = .ok (.iinc 3 1, 3) := by decide +kernel
theorem dX5_busyPupils_24 : decode cX5_busyPupils 24 = .ok (.goto (-20), 3) := by decide +kernel
theorem dX5_busyPupils_27 : decode cX5_busyPupils 27 = .ok (.iload_n 2, 1) := by decide +kernel
theorem dX5_busyPupils_28 : decode cX5_busyPupils 28 = .ok (.ireturn, 1) := by decide +kernel
theorem dX5_freeBlocks_0 : decode cX5_freeBlocks 0 = .ok (.iconst 0, 1) := by decide +kernel
theorem dX5_freeBlocks_1 : decode cX5_freeBlocks 1 = .ok (.istore_n 2, 1) := by decide +kernel
theorem dX5_freeBlocks_2 : decode cX5_freeBlocks 2 = .ok (.iconst 0, 1) := by decide +kernel
theorem dX5_freeBlocks_3 : decode cX5_freeBlocks 3 = .ok (.istore_n 3, 1) := by decide +kernel
theorem dX5_freeBlocks_4 : decode cX5_freeBlocks 4 = .ok (.iload_n 3, 1) := by decide +kernel
theorem dX5_freeBlocks_5 : decode cX5_freeBlocks 5 = .ok (.aload_n 0, 1) := by decide +kernel
theorem dX5_freeBlocks_6 : decode cX5_freeBlocks 6 = .ok (.getfield 9, 3) := by decide +kernel
theorem dX5_freeBlocks_9 : decode cX5_freeBlocks 9 = .ok (.if_icmp .ge 31, 3) := by decide +kernel
theorem dX5_freeBlocks_12 : decode cX5_freeBlocks 12 = .ok (.iload_n 2, 1) := by decide +kernel
theorem dX5_freeBlocks_13 : decode cX5_freeBlocks 13 = .ok (.aload_n 0, 1) := by decide +kernel
theorem dX5_freeBlocks_14 : decode cX5_freeBlocks 14 = .ok (.iload_n 3, 1) := by decide +kernel
theorem dX5_freeBlocks_15 : decode cX5_freeBlocks 15 = .ok (.invokevirtual 96, 3) := by decide +kernel
theorem dX5_freeBlocks_18 : decode cX5_freeBlocks 18 = .ok (.iload_n 1, 1) := by decide +kernel
theorem dX5_freeBlocks_19 : decode cX5_freeBlocks 19 = .ok (.invokestatic 82, 3) := by decide +kernel
theorem dX5_freeBlocks_22 : decode cX5_freeBlocks 22 = .ok (.ifCond .eq 7, 3) := by decide +kernel
theorem dX5_freeBlocks_25 : decode cX5_freeBlocks 25 = .ok (.iconst 0, 1) := by decide +kernel
theorem dX5_freeBlocks_26 : decode cX5_freeBlocks 26 = .ok (.goto 6, 3) := by decide +kernel
theorem dX5_freeBlocks_29 : decode cX5_freeBlocks 29 = .ok (.iconst 1, 1) := by decide +kernel
theorem dX5_freeBlocks_30 : decode cX5_freeBlocks 30 = .ok (.iload_n 3, 1) := by decide +kernel
theorem dX5_freeBlocks_31 : decode cX5_freeBlocks 31 = .ok (.ishl, 1) := by decide +kernel
theorem dX5_freeBlocks_32 : decode cX5_freeBlocks 32 = .ok (.ior, 1) := by decide +kernel
theorem dX5_freeBlocks_33 : decode cX5_freeBlocks 33 = .ok (.istore_n 2, 1) := by decide +kernel
theorem dX5_freeBlocks_34 : decode cX5_freeBlocks 34 = .ok (.iinc 3 1, 3) := by decide +kernel
theorem dX5_freeBlocks_37 : decode cX5_freeBlocks 37 = .ok (.goto (-33), 3) := by decide +kernel
theorem dX5_freeBlocks_40 : decode cX5_freeBlocks 40 = .ok (.iload_n 2, 1) := by decide +kernel
theorem dX5_freeBlocks_41 : decode cX5_freeBlocks 41 = .ok (.ireturn, 1) := by decide +kernel
theorem dX5_lessonsOf_0 : decode cX5_lessonsOf 0 = .ok (.iconst 0, 1) := by decide +kernel
theorem dX5_lessonsOf_1 : decode cX5_lessonsOf 1 = .ok (.istore_n 2, 1) := by decide +kernel
theorem dX5_lessonsOf_2 : decode cX5_lessonsOf 2 = .ok (.iconst 0, 1) := by decide +kernel
theorem dX5_lessonsOf_3 : decode cX5_lessonsOf 3 = .ok (.istore_n 3, 1) := by decide +kernel
theorem dX5_lessonsOf_4 : decode cX5_lessonsOf 4 = .ok (.iload_n 3, 1) := by decide +kernel
theorem dX5_lessonsOf_5 : decode cX5_lessonsOf 5 = .ok (.aload_n 0, 1) := by decide +kernel
theorem dX5_lessonsOf_6 : decode cX5_lessonsOf 6 = .ok (.getfield 9, 3) := by decide +kernel
theorem dX5_lessonsOf_9 : decode cX5_lessonsOf 9 = .ok (.if_icmp .ge 29, 3) := by decide +kernel
theorem dX5_lessonsOf_12 : decode cX5_lessonsOf 12 = .ok (.iload_n 2, 1) := by decide +kernel
theorem dX5_lessonsOf_13 : decode cX5_lessonsOf 13 = .ok (.aload_n 0, 1) := by decide +kernel
theorem dX5_lessonsOf_14 : decode cX5_lessonsOf 14 = .ok (.iload_n 3, 1) := by decide +kernel
theorem dX5_lessonsOf_15 : decode cX5_lessonsOf 15 = .ok (.invokevirtual 96, 3) := by decide +kernel
theorem dX5_lessonsOf_18 : decode cX5_lessonsOf 18 = .ok (.iload_n 1, 1) := by decide +kernel
theorem dX5_lessonsOf_19 : decode cX5_lessonsOf 19 = .ok (.invokestatic 82, 3) := by decide +kernel
theorem dX5_lessonsOf_22 : decode cX5_lessonsOf 22 = .ok (.ifCond .eq 7, 3) := by decide +kernel
theorem dX5_lessonsOf_25 : decode cX5_lessonsOf 25 = .ok (.iconst 1, 1) := by decide +kernel
theorem dX5_lessonsOf_26 : decode cX5_lessonsOf 26 = .ok (.goto 4, 3) := by decide +kernel
theorem dX5_lessonsOf_29 : decode cX5_lessonsOf 29 = .ok (.iconst 0, 1) := by decide +kernel
theorem dX5_lessonsOf_30 : decode cX5_lessonsOf 30 = .ok (.iadd, 1) := by decide +kernel
theorem dX5_lessonsOf_31 : decode cX5_lessonsOf 31 = .ok (.istore_n 2, 1) := by decide +kernel
theorem dX5_lessonsOf_32 : decode cX5_lessonsOf 32 = .ok (.iinc 3 1, 3) := by decide +kernel
theorem dX5_lessonsOf_35 : decode cX5_lessonsOf 35 = .ok (.goto (-31), 3) := by decide +kernel
theorem dX5_lessonsOf_38 : decode cX5_lessonsOf 38 = .ok (.iload_n 2, 1) := by decide +kernel
theorem dX5_lessonsOf_39 : decode cX5_lessonsOf 39 = .ok (.ireturn, 1) := by decide +kernel
theorem dX5_lessonsOfAll_0 : decode cX5_lessonsOfAll 0 = .ok (.iconst 0, 1) := by decide +kernel
theorem dX5_lessonsOfAll_1 : decode cX5_lessonsOfAll 1 = .ok (.istore_n 1, 1) := by decide +kernel
theorem dX5_lessonsOfAll_2 : decode cX5_lessonsOfAll 2 = .ok (.iconst 0, 1) := by decide +kernel
theorem dX5_lessonsOfAll_3 : decode cX5_lessonsOfAll 3 = .ok (.istore_n 2, 1) := by decide +kernel
theorem dX5_lessonsOfAll_4 : decode cX5_lessonsOfAll 4 = .ok (.iload_n 2, 1) := by decide +kernel
theorem dX5_lessonsOfAll_5 : decode cX5_lessonsOfAll 5 = .ok (.aload_n 0, 1) := by decide +kernel
theorem dX5_lessonsOfAll_6 : decode cX5_lessonsOfAll 6 = .ok (.getfield 9, 3) := by decide +kernel
theorem dX5_lessonsOfAll_9 : decode cX5_lessonsOfAll 9 = .ok (.if_icmp .ge 20, 3) := by decide +kernel
theorem dX5_lessonsOfAll_12 : decode cX5_lessonsOfAll 12 = .ok (.iload_n 1, 1) := by decide +kernel
theorem dX5_lessonsOfAll_13 : decode cX5_lessonsOfAll 13 = .ok (.aload_n 0, 1) := by decide +kernel
theorem dX5_lessonsOfAll_14 : decode cX5_lessonsOfAll 14 = .ok (.iload_n 2, 1) := by decide +kernel
theorem dX5_lessonsOfAll_15 : decode cX5_lessonsOfAll 15 = .ok (.invokevirtual 96, 3) := by decide +kernel
theorem dX5_lessonsOfAll_18 : decode cX5_lessonsOfAll 18 = .ok (.invokestatic 68, 3) := by decide +kernel
theorem dX5_lessonsOfAll_21 : decode cX5_lessonsOfAll 21 = .ok (.iadd, 1) := by decide +kernel
theorem dX5_lessonsOfAll_22 : decode cX5_lessonsOfAll 22 = .ok (.istore_n 1, 1) := by decide +kernel
theorem dX5_lessonsOfAll_23 : decode cX5_lessonsOfAll 23 = .ok (.iinc 2 1, 3) := by decide +kernel
theorem dX5_lessonsOfAll_26 : decode cX5_lessonsOfAll 26 = .ok (.goto (-22), 3) := by decide +kernel
theorem dX5_lessonsOfAll_29 : decode cX5_lessonsOfAll 29 = .ok (.iload_n 1, 1) := by decide +kernel
theorem dX5_lessonsOfAll_30 : decode cX5_lessonsOfAll 30 = .ok (.ireturn, 1) := by decide +kernel
theorem dX5_attendsWishes_0 : decode cX5_attendsWishes 0 = .ok (.aload_n 0, 1) := by decide +kernel
theorem dX5_attendsWishes_1 : decode cX5_attendsWishes 1 = .ok (.getfield 25, 3) := by decide +kernel
theorem dX5_attendsWishes_4 : decode cX5_attendsWishes 4 = .ok (.iload_n 1, 1) := by decide +kernel
theorem dX5_attendsWishes_5 : decode cX5_attendsWishes 5 = .ok (.invokestatic 60, 3) := by decide +kernel
theorem dX5_attendsWishes_8 : decode cX5_attendsWishes 8 = .ok (.istore_n 2, 1) := by decide +kernel
theorem dX5_attendsWishes_9 : decode cX5_attendsWishes 9 = .ok (.iconst 0, 1) := by decide +kernel
theorem dX5_attendsWishes_10 : decode cX5_attendsWishes 10 = .ok (.istore_n 3, 1) := by decide +kernel
theorem dX5_attendsWishes_11 : decode cX5_attendsWishes 11 = .ok (.iload_n 3, 1) := by decide +kernel
theorem dX5_attendsWishes_12 : decode cX5_attendsWishes 12 = .ok (.iload_n 2, 1) := by decide +kernel
theorem dX5_attendsWishes_13 : decode cX5_attendsWishes 13 = .ok (.if_icmp .ge 26, 3) := by decide +kernel
theorem dX5_attendsWishes_16 : decode cX5_attendsWishes 16 = .ok (.aload_n 0, 1) := by decide +kernel
theorem dX5_attendsWishes_17 : decode cX5_attendsWishes 17 = .ok (.iload_n 1, 1) := by decide +kernel
theorem dX5_attendsWishes_18 : decode cX5_attendsWishes 18 = .ok (.aload_n 0, 1) := by decide +kernel
theorem dX5_attendsWishes_19 : decode cX5_attendsWishes 19 = .ok (.iload_n 1, 1) := by decide +kernel
theorem dX5_attendsWishes_20 : decode cX5_attendsWishes 20 = .ok (.iload_n 3, 1) := by decide +kernel
theorem dX5_attendsWishes_21 : decode cX5_attendsWishes 21 = .ok (.invokevirtual 99, 3) := by decide +kernel
theorem dX5_attendsWishes_24 : decode cX5_attendsWishes 24 = .ok (.invokevirtual 102, 3) := by decide +kernel
theorem dX5_attendsWishes_27 : decode cX5_attendsWishes 27 = .ok (.iconst (-1), 1) := by decide +kernel
theorem dX5_attendsWishes_28 : decode cX5_attendsWishes 28 = .ok (.if_icmp .ne 5, 3) := by decide +kernel
theorem dX5_attendsWishes_31 : decode cX5_attendsWishes 31 = .ok (.iconst 0, 1) := by decide +kernel
theorem dX5_attendsWishes_32 : decode cX5_attendsWishes 32 = .ok (.ireturn, 1) := by decide +kernel
theorem dX5_attendsWishes_33 : decode cX5_attendsWishes 33 = .ok (.iinc 3 1, 3) := by decide +kernel
theorem dX5_attendsWishes_36 : decode cX5_attendsWishes 36 = .ok (.goto (-25), 3) := by decide +kernel
theorem dX5_attendsWishes_39 : decode cX5_attendsWishes 39 = .ok (.iload_n 2, 1) := by decide +kernel
theorem dX5_attendsWishes_40 : decode cX5_attendsWishes 40 = .ok (.ifCond .le 7, 3) := by decide +kernel
theorem dX5_attendsWishes_43 : decode cX5_attendsWishes 43 = .ok (.iconst 1, 1) := by decide +kernel
theorem dX5_attendsWishes_44 : decode cX5_attendsWishes 44 = .ok (.goto 4, 3) := by decide +kernel
theorem dX5_attendsWishes_47 : decode cX5_attendsWishes 47 = .ok (.iconst 0, 1) := by decide +kernel
theorem dX5_attendsWishes_48 : decode cX5_attendsWishes 48 = .ok (.ireturn, 1) := by decide +kernel
theorem dX5_dropLesson_0 : decode cX5_dropLesson 0 = .ok (.aload_n 0, 1) := by decide +kernel
theorem dX5_dropLesson_1 : decode cX5_dropLesson 1 = .ok (.iload_n 1, 1) := by decide +kernel
theorem dX5_dropLesson_2 : decode cX5_dropLesson 2 = .ok (.iload_n 2, 1) := by decide +kernel
theorem dX5_dropLesson_3 : decode cX5_dropLesson 3 = .ok (.invokevirtual 102, 3) := by decide +kernel
theorem dX5_dropLesson_6 : decode cX5_dropLesson 6 = .ok (.istore_n 3, 1) := by decide +kernel
theorem dX5_dropLesson_7 : decode cX5_dropLesson 7 = .ok (.aload_n 0, 1) := by decide +kernel
theorem dX5_dropLesson_8 : decode cX5_dropLesson 8 = .ok (.iload_n 1, 1) := by decide +kernel
theorem dX5_dropLesson_9 : decode cX5_dropLesson 9 = .ok (.iload_n 2, 1) := by decide +kernel
theorem dX5_dropLesson_10 : decode cX5_dropLesson 10 = .ok (.iload_n 3, 1) := by decide +kernel
theorem dX5_dropLesson_11 : decode cX5_dropLesson 11 = .ok (.invokevirtual 105, 3) := by decide +kernel
theorem dX5_dropLesson_14 : decode cX5_dropLesson 14 = .ok (.iload_n 3, 1) := by decide +kernel
theorem dX5_dropLesson_15 : decode cX5_dropLesson 15 = .ok (.ireturn, 1) := by decide +kernel
theorem dX5_dropLessons_0 : decode cX5_dropLessons 0 = .ok (.aload_n 0, 1) := by decide +kernel
theorem dX5_dropLessons_1 : decode cX5_dropLessons 1 = .ok (.iload_n 1, 1) := by decide +kernel
theorem dX5_dropLessons_2 : decode cX5_dropLessons 2 = .ok (.invokevirtual 109, 3) := by decide +kernel
theorem dX5_dropLessons_5 : decode cX5_dropLessons 5 = .ok (.istore_n 2, 1) := by decide +kernel
theorem dX5_dropLessons_6 : decode cX5_dropLessons 6 = .ok (.iconst 0, 1) := by decide +kernel
theorem dX5_dropLessons_7 : decode cX5_dropLessons 7 = .ok (.istore_n 3, 1) := by decide +kernel
theorem dX5_dropLessons_8 : decode cX5_dropLessons 8 = .ok (.iload_n 3, 1) := by decide +kernel
theorem dX5_dropLessons_9 : decode cX5_dropLessons 9 = .ok (.aload_n 0, 1) := by decide +kernel
theorem dX5_dropLessons_10 : decode cX5_dropLessons 10 = .ok (.getfield 9, 3) := by decide +kernel
theorem dX5_dropLessons_13 : decode cX5_dropLessons 13 = .ok (.if_icmp .ge 21, 3) := by decide +kernel
theorem dX5_dropLessons_16 : decode cX5_dropLessons 16 = .ok (.aload_n 0, 1) := by decide +kernel
theorem dX5_dropLessons_17 : decode cX5_dropLessons 17 = .ok (.iload_n 1, 1) := by decide +kernel
theorem dX5_dropLessons_18 : decode cX5_dropLessons 18 = .ok (.aload_n 0, 1) := by decide +kernel
theorem dX5_dropLessons_19 : decode cX5_dropLessons 19 = .ok (.iload_n 1, 1) := by decide +kernel
theorem dX5_dropLessons_20 : decode cX5_dropLessons 20 = .ok (.iload_n 3, 1) := by decide +kernel
theorem dX5_dropLessons_21 : decode cX5_dropLessons 21 = .ok (.invokevirtual 112, 3) := by decide +kernel
theorem dX5_dropLessons_24 : decode cX5_dropLessons 24 = .ok (.iload_n 3, 1) := by decide +kernel
theorem dX5_dropLessons_25 : decode cX5_dropLessons 25 = .ok (.invokevirtual 105, 3) := by decide +kernel
theorem dX5_dropLessons_28 : decode cX5_dropLessons 28 = .ok (.iinc 3 1, 3) := by decide +kernel
theorem dX5_dropLessons_31 : decode cX5_dropLessons 31 = .ok (.goto (-23), 3) := by decide +kernel
theorem dX5_dropLessons_34 : decode cX5_dropLessons 34 = .ok (.iload_n 2, 1) := by decide +kernel
theorem dX5_dropLessons_35 : decode cX5_dropLessons 35 = .ok (.ireturn, 1) := by decide +kernel
theorem dX5_noteMove_0 : decode cX5_noteMove 0 = .ok (.aload_n 0, 1) := by decide +kernel
theorem dX5_noteMove_1 : decode cX5_noteMove 1 = .ok (.getfield 37, 3) := by decide +kernel
theorem dX5_noteMove_4 : decode cX5_noteMove 4 = .ok (.iload_n 1, 1) := by decide +kernel
theorem dX5_noteMove_5 : decode cX5_noteMove 5 = .ok (.iload_n 2, 1) := by decide +kernel
theorem dX5_noteMove_6 : decode cX5_noteMove 6 = .ok (.invokestatic 86, 3) := by decide +kernel
theorem dX5_noteMove_9 : decode cX5_noteMove 9 = .ok (.aload_n 0, 1) := by decide +kernel
theorem dX5_noteMove_10 : decode cX5_noteMove 10 = .ok (.getfield 40, 3) := by decide +kernel
theorem dX5_noteMove_13 : decode cX5_noteMove 13 = .ok (.iload_n 1, 1) := by decide +kernel
theorem dX5_noteMove_14 : decode cX5_noteMove 14 = .ok (.iload_n 3, 1) := by decide +kernel
theorem dX5_noteMove_15 : decode cX5_noteMove 15 = .ok (.invokestatic 86, 3) := by decide +kernel
theorem dX5_noteMove_18 : decode cX5_noteMove 18 = .ok (.return_, 1) := by decide +kernel
theorem dX5_makeMoves_0 : decode cX5_makeMoves 0 = .ok (.aload_n 0, 1) := by decide +kernel
theorem dX5_makeMoves_1 : decode cX5_makeMoves 1 = .ok (.iload_n 3, 1) := by decide +kernel
theorem dX5_makeMoves_2 : decode cX5_makeMoves 2 = .ok (.putfield 34, 3) := by decide +kernel
theorem dX5_makeMoves_5 : decode cX5_makeMoves 5 = .ok (.iload_n 2, 1) := by decide +kernel
theorem dX5_makeMoves_6 : decode cX5_makeMoves 6 = .ok (.istore 4, 2) := by decide +kernel
theorem dX5_makeMoves_8 : decode cX5_makeMoves 8 = .ok (.iconst 0, 1) := by decide +kernel
theorem dX5_makeMoves_9 : decode cX5_makeMoves 9 = .ok (.istore 5, 2) := by decide +kernel
theorem dX5_makeMoves_11 : decode cX5_makeMoves 11 = .ok (.iload 5, 2) := by decide +kernel
theorem dX5_makeMoves_13 : decode cX5_makeMoves 13 = .ok (.iload_n 3, 1) := by decide +kernel
theorem dX5_makeMoves_14 : decode cX5_makeMoves 14 = .ok (.if_icmp .ge 56, 3) := by decide +kernel
theorem dX5_makeMoves_17 : decode cX5_makeMoves 17 = .ok (.aload_n 0, 1) := by decide +kernel
theorem dX5_makeMoves_18 : decode cX5_makeMoves 18 = .ok (.getfield 40, 3) := by decide +kernel
theorem dX5_makeMoves_21 : decode cX5_makeMoves 21 = .ok (.iload 5, 2) := by decide +kernel
theorem dX5_makeMoves_23 : decode cX5_makeMoves 23 = .ok (.invokestatic 60, 3) := by decide +kernel
theorem dX5_makeMoves_26 : decode cX5_makeMoves 26 = .ok (.istore 6, 2) := by decide +kernel
theorem dX5_makeMoves_28 : decode cX5_makeMoves 28 = .ok (.aload_n 0, 1) := by decide +kernel
theorem dX5_makeMoves_29 : decode cX5_makeMoves 29 = .ok (.aload_n 0, 1) := by decide +kernel
theorem dX5_makeMoves_30 : decode cX5_makeMoves 30 = .ok (.getfield 37, 3) := by decide +kernel
theorem dX5_makeMoves_33 : decode cX5_makeMoves 33 = .ok (.iload 5, 2) := by decide +kernel
theorem dX5_makeMoves_35 : decode cX5_makeMoves 35 = .ok (.invokestatic 60, 3) := by decide +kernel
theorem dX5_makeMoves_38 : decode cX5_makeMoves 38 = .ok (.iload_n 1, 1) := by decide +kernel
theorem dX5_makeMoves_39 : decode cX5_makeMoves 39 = .ok (.iload 4, 2) := by decide +kernel
theorem dX5_makeMoves_41 : decode cX5_makeMoves 41 = .ok (.invokevirtual 105, 3) := by decide +kernel
theorem dX5_makeMoves_44 : decode cX5_makeMoves 44 = .ok (.aload_n 0, 1) := by decide +kernel
theorem dX5_makeMoves_45 : decode cX5_makeMoves 45 = .ok (.aload_n 0, 1) := by decide +kernel
theorem dX5_makeMoves_46 : decode cX5_makeMoves 46 = .ok (.getfield 37, 3) := by decide +kernel
theorem dX5_makeMoves_49 : decode cX5_makeMoves 49 = .ok (.iload 5, 2) := by decide +kernel
theorem dX5_makeMoves_51 : decode cX5_makeMoves 51 = .ok (.invokestatic 60, 3) := by decide +kernel
theorem dX5_makeMoves_54 : decode cX5_makeMoves 54 = .ok (.iload_n 1, 1) := by decide +kernel
theorem dX5_makeMoves_55 : decode cX5_makeMoves 55 = .ok (.iload 6, 2) := by decide +kernel
theorem dX5_makeMoves_57 : decode cX5_makeMoves 57 = .ok (.invokevirtual 115, 3) := by decide +kernel
theorem dX5_makeMoves_60 : decode cX5_makeMoves 60 = .ok (.iload 6, 2) := by decide +kernel
theorem dX5_makeMoves_62 : decode cX5_makeMoves 62 = .ok (.istore 4, 2) := by decide +kernel
theorem dX5_makeMoves_64 : decode cX5_makeMoves 64 = .ok (.iinc 5 1, 3) := by decide +kernel
theorem dX5_makeMoves_67 : decode cX5_makeMoves 67 = .ok (.goto (-56), 3) := by decide +kernel
theorem dX5_makeMoves_70 : decode cX5_makeMoves 70 = .ok (.return_, 1) := by decide +kernel
theorem dX6_init_0 : decode cX6_init 0 = .ok (.aload_n 0, 1) := by decide +kernel
theorem dX6_init_1 : decode cX6_init 1 = .ok (.invokespecial 3, 3) := by decide +kernel
theorem dX6_init_4 : decode cX6_init 4 = .ok (.aload_n 0, 1) := by decide +kernel
theorem dX6_init_5 : decode cX6_init 5 = .ok (.new 9, 3) := by decide +kernel
theorem dX6_init_8 : decode cX6_init 8 = .ok (.dup, 1) := by decide +kernel
theorem dX6_init_9 : decode cX6_init 9 = .ok (.invokespecial 11, 3) := by decide +kernel
theorem dX6_init_12 : decode cX6_init 12 = .ok (.putfield 12, 3) := by decide +kernel
theorem dX6_init_15 : decode cX6_init 15 = .ok (.aload_n 0, 1) := by decide +kernel
theorem dX6_init_16 : decode cX6_init 16 = .ok (.bipush 12, 2) := by decide +kernel
theorem dX6_init_18 : decode cX6_init 18 = .ok (.newarray .int, 2) := by decide +kernel
theorem dX6_init_20 : decode cX6_init 20 = .ok (.putfield 18, 3) := by decide +kernel
theorem dX6_init_23 : decode cX6_init 23 = .ok (.aload_n 0, 1) := by decide +kernel
theorem dX6_init_24 : decode cX6_init 24 = .ok (.bipush 36, 2) := by decide +kernel
theorem dX6_init_26 : decode cX6_init 26 = .ok (.newarray .int, 2) := by decide +kernel
theorem dX6_init_28 : decode cX6_init 28 = .ok (.putfield 22, 3) := by decide +kernel
theorem dX6_init_31 : decode cX6_init 31 = .ok (.return_, 1) := by decide +kernel
theorem dX6_modification_0 : decode cX6_modification 0 = .ok (.aload_n 0, 1) := by decide +kernel
theorem dX6_modification_1 : decode cX6_modification 1 = .ok (.getfield 18, 3) := by decide +kernel
theorem dX6_modification_4 : decode cX6_modification 4 = .ok (.iload_n 1, 1) := by decide +kernel
theorem dX6_modification_5 : decode cX6_modification 5 = .ok (.invokestatic 25, 3) := by decide +kernel

theorem dX2_faultOfReserve_54 : decode cX2_faultOfReserve 54 = .ok (.iconst 3, 1) := by decide +kernel
theorem dX2_faultOfReserve_55 : decode cX2_faultOfReserve 55 = .ok (.goto 4, 3) := by decide +kernel
theorem dX2_faultOfReserve_58 : decode cX2_faultOfReserve 58 = .ok (.iconst 0, 1) := by decide +kernel
theorem dX2_faultOfReserve_59 : decode cX2_faultOfReserve 59 = .ok (.ireturn, 1) := by decide +kernel
theorem dX2_faultOfEnrolling_0 : decode cX2_faultOfEnrolling 0 = .ok (.aload_n 0, 1) := by decide +kernel
theorem dX2_faultOfEnrolling_1 : decode cX2_faultOfEnrolling 1 = .ok (.getfield 9, 3) := by decide +kernel
theorem dX2_faultOfEnrolling_4 : decode cX2_faultOfEnrolling 4 = .ok (.iload_n 1, 1) := by decide +kernel
theorem dX2_faultOfEnrolling_5 : decode cX2_faultOfEnrolling 5 = .ok (.invokevirtual 111, 3) := by decide +kernel
theorem dX2_faultOfEnrolling_8 : decode cX2_faultOfEnrolling 8 = .ok (.ifCond .ne 5, 3) := by decide +kernel
theorem dX2_faultOfEnrolling_11 : decode cX2_faultOfEnrolling 11 = .ok (.iconst 1, 1) := by decide +kernel
theorem dX2_faultOfEnrolling_12 : decode cX2_faultOfEnrolling 12 = .ok (.ireturn, 1) := by decide +kernel
theorem dX2_faultOfEnrolling_13 : decode cX2_faultOfEnrolling 13 = .ok (.aload_n 0, 1) := by decide +kernel
theorem dX2_faultOfEnrolling_14 : decode cX2_faultOfEnrolling 14 = .ok (.getfield 9, 3) := by decide +kernel
theorem dX2_faultOfEnrolling_17 : decode cX2_faultOfEnrolling 17 = .ok (.iload_n 1, 1) := by decide +kernel
theorem dX2_faultOfEnrolling_18 : decode cX2_faultOfEnrolling 18 = .ok (.invokevirtual 151, 3) := by decide +kernel
theorem dX2_faultOfEnrolling_21 : decode cX2_faultOfEnrolling 21 = .ok (.ifCond .gt 17, 3) := by decide +kernel
theorem dX2_faultOfEnrolling_24 : decode cX2_faultOfEnrolling 24 = .ok (.aload_n 0, 1) := by decide +kernel
theorem dX2_faultOfEnrolling_25 : decode cX2_faultOfEnrolling 25 = .ok (.getfield 9, 3) := by decide +kernel
theorem dX2_faultOfEnrolling_28 : decode cX2_faultOfEnrolling 28 = .ok (.getfield 137, 3) := by decide +kernel
theorem dX2_faultOfEnrolling_31 : decode cX2_faultOfEnrolling 31 = .ok (.iload_n 1, 1) := by decide +kernel
theorem dX2_faultOfEnrolling_32 : decode cX2_faultOfEnrolling 32 = .ok (.invokestatic 141, 3) := by decide +kernel
theorem dX2_faultOfEnrolling_35 : decode cX2_faultOfEnrolling 35 = .ok (.ifCond .gt 7, 3) := by decide +kernel
theorem dX2_faultOfEnrolling_38 : decode cX2_faultOfEnrolling 38 = .ok (.iconst 3, 1) := by decide +kernel
theorem dX2_faultOfEnrolling_39 : decode cX2_faultOfEnrolling 39 = .ok (.goto 4, 3) := by decide +kernel
theorem dX2_faultOfEnrolling_42 : decode cX2_faultOfEnrolling 42 = .ok (.iconst 0, 1) := by decide +kernel
theorem dX2_faultOfEnrolling_43 : decode cX2_faultOfEnrolling 43 = .ok (.ireturn, 1) := by decide +kernel
theorem dX2_faultOfWithdrawing_0 : decode cX2_faultOfWithdrawing 0 = .ok (.aload_n 0, 1) := by decide +kernel
theorem dX2_faultOfWithdrawing_1 : decode cX2_faultOfWithdrawing 1 = .ok (.getfield 9, 3) := by decide +kernel
theorem dX2_faultOfWithdrawing_4 : decode cX2_faultOfWithdrawing 4 = .ok (.iload_n 1, 1) := by decide +kernel
theorem dX2_faultOfWithdrawing_5 : decode cX2_faultOfWithdrawing 5 = .ok (.invokevirtual 111, 3) := by decide +kernel
theorem dX2_faultOfWithdrawing_8 : decode cX2_faultOfWithdrawing 8 = .ok (.ifCond .ne 5, 3) := by decide +kernel
theorem dX2_faultOfWithdrawing_11 : decode cX2_faultOfWithdrawing 11 = .ok (.iconst 1, 1) := by decide +kernel
theorem dX2_faultOfWithdrawing_12 : decode cX2_faultOfWithdrawing 12 = .ok (.ireturn, 1) := by decide +kernel
theorem dX2_faultOfWithdrawing_13 : decode cX2_faultOfWithdrawing 13 = .ok (.aload_n 0, 1) := by decide +kernel
theorem dX2_faultOfWithdrawing_14 : decode cX2_faultOfWithdrawing 14 = .ok (.getfield 9, 3) := by decide +kernel
theorem dX2_faultOfWithdrawing_17 : decode cX2_faultOfWithdrawing 17 = .ok (.iload_n 1, 1) := by decide +kernel
theorem dX2_faultOfWithdrawing_18 : decode cX2_faultOfWithdrawing 18 = .ok (.invokevirtual 151, 3) := by decide +kernel
theorem dX2_faultOfWithdrawing_21 : decode cX2_faultOfWithdrawing 21 = .ok (.ifCond .ne 7, 3) := by decide +kernel
theorem dX2_faultOfWithdrawing_24 : decode cX2_faultOfWithdrawing 24 = .ok (.iconst 3, 1) := by decide +kernel
theorem dX2_faultOfWithdrawing_25 : decode cX2_faultOfWithdrawing 25 = .ok (.goto 4, 3) := by decide +kernel
theorem dX2_faultOfWithdrawing_28 : decode cX2_faultOfWithdrawing 28 = .ok (.iconst 0, 1) := by decide +kernel
theorem dX2_faultOfWithdrawing_29 : decode cX2_faultOfWithdrawing 29 = .ok (.ireturn, 1) := by decide +kernel
theorem dX2_faultOfJoining_0 : decode cX2_faultOfJoining 0 = .ok (.aload_n 0, 1) := by decide +kernel
theorem dX2_faultOfJoining_1 : decode cX2_faultOfJoining 1 = .ok (.iload_n 1, 1) := by decide +kernel
theorem dX2_faultOfJoining_2 : decode cX2_faultOfJoining 2 = .ok (.iload_n 2, 1) := by decide +kernel
theorem dX2_faultOfJoining_3 : decode cX2_faultOfJoining 3 = .ok (.invokevirtual 154, 3) := by decide +kernel
theorem dX2_faultOfJoining_6 : decode cX2_faultOfJoining 6 = .ok (.istore_n 3, 1) := by decide +kernel
theorem dX2_faultOfJoining_7 : decode cX2_faultOfJoining 7 = .ok (.iload_n 3, 1) := by decide +kernel
theorem dX2_faultOfJoining_8 : decode cX2_faultOfJoining 8 = .ok (.ifCond .eq 5, 3) := by decide +kernel
theorem dX2_faultOfJoining_11 : decode cX2_faultOfJoining 11 = .ok (.iload_n 3, 1) := by decide +kernel
theorem dX2_faultOfJoining_12 : decode cX2_faultOfJoining 12 = .ok (.ireturn, 1) := by decide +kernel
theorem dX2_faultOfJoining_13 : decode cX2_faultOfJoining 13 = .ok (.aload_n 0, 1) := by decide +kernel
theorem dX2_faultOfJoining_14 : decode cX2_faultOfJoining 14 = .ok (.getfield 9, 3) := by decide +kernel
theorem dX2_faultOfJoining_17 : decode cX2_faultOfJoining 17 = .ok (.iload_n 1, 1) := by decide +kernel
theorem dX2_faultOfJoining_18 : decode cX2_faultOfJoining 18 = .ok (.invokevirtual 157, 3) := by decide +kernel
theorem dX2_faultOfJoining_21 : decode cX2_faultOfJoining 21 = .ok (.istore 4, 2) := by decide +kernel
theorem dX2_faultOfJoining_23 : decode cX2_faultOfJoining 23 = .ok (.aload_n 0, 1) := by decide +kernel
theorem dX2_faultOfJoining_24 : decode cX2_faultOfJoining 24 = .ok (.getfield 19, 3) := by decide +kernel
theorem dX2_faultOfJoining_27 : decode cX2_faultOfJoining 27 = .ok (.iload_n 2, 1) := by decide +kernel
theorem dX2_faultOfJoining_28 : decode cX2_faultOfJoining 28 = .ok (.iload 4, 2) := by decide +kernel
theorem dX2_faultOfJoining_30 : decode cX2_faultOfJoining 30 = .ok (.invokevirtual 160, 3) := by decide +kernel
theorem dX2_faultOfJoining_33 : decode cX2_faultOfJoining 33 = .ok (.iconst (-1), 1) := by decide +kernel
theorem dX2_faultOfJoining_34 : decode cX2_faultOfJoining 34 = .ok (.if_icmp .eq 7, 3) := by decide +kernel
theorem dX2_faultOfJoining_37 : decode cX2_faultOfJoining 37 = .ok (.iconst 0, 1) := by decide +kernel
theorem dX2_faultOfJoining_38 : decode cX2_faultOfJoining 38 = .ok (.goto 10, 3) := by decide +kernel
theorem dX2_faultOfJoining_41 : decode cX2_faultOfJoining 41 = .ok (.aload_n 0, 1) := by decide +kernel
theorem dX2_faultOfJoining_42 : decode cX2_faultOfJoining 42 = .ok (.iload_n 2, 1) := by decide +kernel
theorem dX2_faultOfJoining_43 : decode cX2_faultOfJoining 43 = .ok (.iload 4, 2) := by decide +kernel
theorem dX2_faultOfJoining_45 : decode cX2_faultOfJoining 45 = .ok (.invokevirtual 163, 3) := by decide +kernel
theorem dX2_faultOfJoining_48 : decode cX2_faultOfJoining 48 = .ok (.ireturn, 1) := by decide +kernel
theorem dX2_faultOfQuitting_0 : decode cX2_faultOfQuitting 0 = .ok (.aload_n 0, 1) := by decide +kernel
theorem dX2_faultOfQuitting_1 : decode cX2_faultOfQuitting 1 = .ok (.getfield 9, 3) := by decide +kernel
theorem dX2_faultOfQuitting_4 : decode cX2_faultOfQuitting 4 = .ok (.iload_n 1, 1) := by decide +kernel
theorem dX2_faultOfQuitting_5 : decode cX2_faultOfQuitting 5 = .ok (.invokevirtual 111, 3) := by decide +kernel
theorem dX2_faultOfQuitting_8 : decode cX2_faultOfQuitting 8 = .ok (.ifCond .eq 14, 3) := by decide +kernel
theorem dX2_faultOfQuitting_11 : decode cX2_faultOfQuitting 11 = .ok (.aload_n 0, 1) := by decide +kernel
theorem dX2_faultOfQuitting_12 : decode cX2_faultOfQuitting 12 = .ok (.getfield 9, 3) := by decide +kernel
theorem dX2_faultOfQuitting_15 : decode cX2_faultOfQuitting 15 = .ok (.iload_n 2, 1) := by decide +kernel
theorem dX2_faultOfQuitting_16 : decode cX2_faultOfQuitting 16 = .ok (.invokevirtual 115, 3) := by decide +kernel
theorem dX2_faultOfQuitting_19 : decode cX2_faultOfQuitting 19 = .ok (.ifCond .ne 5, 3) := by decide +kernel
theorem dX2_faultOfQuitting_22 : decode cX2_faultOfQuitting 22 = .ok (.iconst 1, 1) := by decide +kernel
theorem dX2_faultOfQuitting_23 : decode cX2_faultOfQuitting 23 = .ok (.ireturn, 1) := by decide +kernel
theorem dX2_faultOfQuitting_24 : decode cX2_faultOfQuitting 24 = .ok (.aload_n 0, 1) := by decide +kernel
theorem dX2_faultOfQuitting_25 : decode cX2_faultOfQuitting 25 = .ok (.getfield 9, 3) := by decide +kernel
theorem dX2_faultOfQuitting_28 : decode cX2_faultOfQuitting 28 = .ok (.iload_n 1, 1) := by decide +kernel
theorem dX2_faultOfQuitting_29 : decode cX2_faultOfQuitting 29 = .ok (.iload_n 2, 1) := by decide +kernel
theorem dX2_faultOfQuitting_30 : decode cX2_faultOfQuitting 30 = .ok (.invokevirtual 118, 3) := by decide +kernel
theorem dX2_faultOfQuitting_33 : decode cX2_faultOfQuitting 33 = .ok (.iconst (-1), 1) := by decide +kernel
theorem dX2_faultOfQuitting_34 : decode cX2_faultOfQuitting 34 = .ok (.if_icmp .ne 7, 3) := by decide +kernel
theorem dX2_faultOfQuitting_37 : decode cX2_faultOfQuitting 37 = .ok (.iconst 3, 1) := by decide +kernel
theorem dX2_faultOfQuitting_38 : decode cX2_faultOfQuitting 38 = .ok (.goto 4, 3) := by decide +kernel
theorem dX2_faultOfQuitting_41 : decode cX2_faultOfQuitting 41 = .ok (.iconst 0, 1) := by decide +kernel
theorem dX2_faultOfQuitting_42 : decode cX2_faultOfQuitting 42 = .ok (.ireturn, 1) := by decide +kernel
theorem dX2_faultOfChanging_0 : decode cX2_faultOfChanging 0 = .ok (.aload_n 0, 1) := by decide +kernel
theorem dX2_faultOfChanging_1 : decode cX2_faultOfChanging 1 = .ok (.getfield 9, 3) := by decide +kernel
theorem dX2_faultOfChanging_4 : decode cX2_faultOfChanging 4 = .ok (.iload_n 1, 1) := by decide +kernel
theorem dX2_faultOfChanging_5 : decode cX2_faultOfChanging 5 = .ok (.invokevirtual 111, 3) := by decide +kernel
theorem dX2_faultOfChanging_8 : decode cX2_faultOfChanging 8 = .ok (.ifCond .eq 25, 3) := by decide +kernel
theorem dX2_faultOfChanging_11 : decode cX2_faultOfChanging 11 = .ok (.aload_n 0, 1) := by decide +kernel
theorem dX2_faultOfChanging_12 : decode cX2_faultOfChanging 12 = .ok (.getfield 9, 3) := by decide +kernel
theorem dX2_faultOfChanging_15 : decode cX2_faultOfChanging 15 = .ok (.iload_n 2, 1) := by decide +kernel
theorem dX2_faultOfChanging_16 : decode cX2_faultOfChanging 16 = .ok (.invokevirtual 115, 3) := by decide +kernel
theorem dX2_faultOfChanging_19 : decode cX2_faultOfChanging 19 = .ok (.ifCond .eq 14, 3) := by decide +kernel
theorem dX2_faultOfChanging_22 : decode cX2_faultOfChanging 22 = .ok (.aload_n 0, 1) := by decide +kernel
theorem dX2_faultOfChanging_23 : decode cX2_faultOfChanging 23 = .ok (.getfield 9, 3) := by decide +kernel
theorem dX2_faultOfChanging_26 : decode cX2_faultOfChanging 26 = .ok (.iload_n 3, 1) := by decide +kernel
theorem dX2_faultOfChanging_27 : decode cX2_faultOfChanging 27 = .ok (.invokevirtual 115, 3) := by decide +kernel
theorem dX2_faultOfChanging_30 : decode cX2_faultOfChanging 30 = .ok (.ifCond .ne 5, 3) := by decide +kernel
theorem dX2_faultOfChanging_33 : decode cX2_faultOfChanging 33 = .ok (.iconst 1, 1) := by decide +kernel
theorem dX2_faultOfChanging_34 : decode cX2_faultOfChanging 34 = .ok (.ireturn, 1) := by decide +kernel
theorem dX2_faultOfChanging_35 : decode cX2_faultOfChanging 35 = .ok (.aload_n 0, 1) := by decide +kernel
theorem dX2_faultOfChanging_36 : decode cX2_faultOfChanging 36 = .ok (.getfield 9, 3) := by decide +kernel
theorem dX2_faultOfChanging_39 : decode cX2_faultOfChanging 39 = .ok (.iload_n 1, 1) := by decide +kernel
theorem dX2_faultOfChanging_40 : decode cX2_faultOfChanging 40 = .ok (.iload_n 2, 1) := by decide +kernel
theorem dX2_faultOfChanging_41 : decode cX2_faultOfChanging 41 = .ok (.invokevirtual 118, 3) := by decide +kernel
theorem dX2_faultOfChanging_44 : decode cX2_faultOfChanging 44 = .ok (.istore 4, 2) := by decide +kernel
theorem dX2_faultOfChanging_46 : decode cX2_faultOfChanging 46 = .ok (.iload 4, 2) := by decide +kernel
theorem dX2_faultOfChanging_48 : decode cX2_faultOfChanging 48 = .ok (.iconst (-1), 1) := by decide +kernel
theorem dX2_faultOfChanging_49 : decode cX2_faultOfChanging 49 = .ok (.if_icmp .eq 16, 3) := by decide +kernel
theorem dX2_faultOfChanging_52 : decode cX2_faultOfChanging 52 = .ok (.aload_n 0, 1) := by decide +kernel
theorem dX2_faultOfChanging_53 : decode cX2_faultOfChanging 53 = .ok (.getfield 9, 3) := by decide +kernel
theorem dX2_faultOfChanging_56 : decode cX2_faultOfChanging 56 = .ok (.iload_n 1, 1) := by decide +kernel
theorem dX2_faultOfChanging_57 : decode cX2_faultOfChanging 57 = .ok (.iload_n 3, 1) := by decide +kernel
theorem dX2_faultOfChanging_58 : decode cX2_faultOfChanging 58 = .ok (.invokevirtual 118, 3) := by decide +kernel
theorem dX2_faultOfChanging_61 : decode cX2_faultOfChanging 61 = .ok (.iconst (-1), 1) := by decide +kernel
theorem dX2_faultOfChanging_62 : decode cX2_faultOfChanging 62 = .ok (.if_icmp .eq 5, 3) := by decide +kernel
theorem dX2_faultOfChanging_65 : decode cX2_faultOfChanging 65 = .ok (.iconst 3, 1) := by decide +kernel
theorem dX2_faultOfChanging_66 : decode cX2_faultOfChanging 66 = .ok (.ireturn, 1) := by decide +kernel
theorem dX2_faultOfChanging_67 : decode cX2_faultOfChanging 67 = .ok (.aload_n 0, 1) := by decide +kernel
theorem dX2_faultOfChanging_68 : decode cX2_faultOfChanging 68 = .ok (.getfield 9, 3) := by decide +kernel
theorem dX2_faultOfChanging_71 : decode cX2_faultOfChanging 71 = .ok (.iload_n 1, 1) := by decide +kernel
theorem dX2_faultOfChanging_72 : decode cX2_faultOfChanging 72 = .ok (.invokevirtual 157, 3) := by decide +kernel
theorem dX2_faultOfChanging_75 : decode cX2_faultOfChanging 75 = .ok (.iconst 1, 1) := by decide +kernel
theorem dX2_faultOfChanging_76 : decode cX2_faultOfChanging 76 = .ok (.iload 4, 2) := by decide +kernel
theorem dX2_faultOfChanging_78 : decode cX2_faultOfChanging 78 = .ok (.ishl, 1) := by decide +kernel
theorem dX2_faultOfChanging_79 : decode cX2_faultOfChanging 79 = .ok (.ior, 1) := by decide +kernel
theorem dX2_faultOfChanging_80 : decode cX2_faultOfChanging 80 = .ok (.istore 5, 2) := by decide +kernel
theorem dX2_faultOfChanging_82 : decode cX2_faultOfChanging 82 = .ok (.aload_n 0, 1) := by decide +kernel
theorem dX2_faultOfChanging_83 : decode cX2_faultOfChanging 83 = .ok (.getfield 19, 3) := by decide +kernel
theorem dX2_faultOfChanging_86 : decode cX2_faultOfChanging 86 = .ok (.iload_n 3, 1) := by decide +kernel
theorem dX2_faultOfChanging_87 : decode cX2_faultOfChanging 87 = .ok (.iload 5, 2) := by decide +kernel
theorem dX2_faultOfChanging_89 : decode cX2_faultOfChanging 89 = .ok (.invokevirtual 160, 3) := by decide +kernel
theorem dX2_faultOfChanging_92 : decode cX2_faultOfChanging 92 = .ok (.iconst (-1), 1) := by decide +kernel
theorem dX2_faultOfChanging_93 : decode cX2_faultOfChanging 93 = .ok (.if_icmp .eq 7, 3) := by decide +kernel
theorem dX2_faultOfChanging_96 : decode cX2_faultOfChanging 96 = .ok (.iconst 0, 1) := by decide +kernel
theorem dX2_faultOfChanging_97 : decode cX2_faultOfChanging 97 = .ok (.goto 10, 3) := by decide +kernel
theorem dX2_faultOfChanging_100 : decode cX2_faultOfChanging 100 = .ok (.aload_n 0, 1) := by decide +kernel
theorem dX2_faultOfChanging_101 : decode cX2_faultOfChanging 101 = .ok (.iload_n 3, 1) := by decide +kernel
theorem dX2_faultOfChanging_102 : decode cX2_faultOfChanging 102 = .ok (.iload 5, 2) := by decide +kernel
theorem dX2_faultOfChanging_104 : decode cX2_faultOfChanging 104 = .ok (.invokevirtual 163, 3) := by decide +kernel
theorem dX2_faultOfChanging_107 : decode cX2_faultOfChanging 107 = .ok (.ireturn, 1) := by decide +kernel
theorem dX2_refusal_0 : decode cX2_refusal 0 = .ok (.aload_n 0, 1) := by decide +kernel
theorem dX2_refusal_1 : decode cX2_refusal 1 = .ok (.aload_n 0, 1) := by decide +kernel
theorem dX2_refusal_2 : decode cX2_refusal 2 = .ok (.getfield 19, 3) := by decide +kernel
theorem dX2_refusal_5 : decode cX2_refusal 5 = .ok (.iload_n 1, 1) := by decide +kernel
theorem dX2_refusal_6 : decode cX2_refusal 6 = .ok (.iload_n 2, 1) := by decide +kernel
theorem dX2_refusal_7 : decode cX2_refusal 7 = .ok (.invokevirtual 166, 3) := by decide +kernel
theorem dX2_refusal_10 : decode cX2_refusal 10 = .ok (.putfield 27, 3) := by decide +kernel
theorem dX2_refusal_13 : decode cX2_refusal 13 = .ok (.iconst 4, 1) := by decide +kernel
theorem dX2_refusal_14 : decode cX2_refusal 14 = .ok (.ireturn, 1) := by decide +kernel
theorem dX3_init_0 : decode cX3_init 0 = .ok (.aload_n 0, 1) := by decide +kernel
theorem dX3_init_1 : decode cX3_init 1 = .ok (.invokespecial 3, 3) := by decide +kernel
theorem dX3_init_4 : decode cX3_init 4 = .ok (.aload_n 0, 1) := by decide +kernel
theorem dX3_init_5 : decode cX3_init 5 = .ok (.bipush 8, 2) := by decide +kernel
theorem dX3_init_7 : decode cX3_init 7 = .ok (.anewarray 9, 3) := by decide +kernel
theorem dX3_init_10 : decode cX3_init 10 = .ok (.putfield 11, 3) := by decide +kernel
theorem dX3_init_13 : decode cX3_init 13 = .ok (.iconst 0, 1) := by decide +kernel
theorem dX3_init_14 : decode cX3_init 14 = .ok (.istore_n 1, 1) := by decide +kernel
theorem dX3_init_15 : decode cX3_init 15 = .ok (.iload_n 1, 1) := by decide +kernel
theorem dX3_init_16 : decode cX3_init 16 = .ok (.aload_n 0, 1) := by decide +kernel
theorem dX3_init_17 : decode cX3_init 17 = .ok (.getfield 11, 3) := by decide +kernel
theorem dX3_init_20 : decode cX3_init 20 = .ok (.arraylength, 1) := by decide +kernel
theorem dX3_init_21 : decode cX3_init 21 = .ok (.if_icmp .ge 22, 3) := by decide +kernel
theorem dX3_init_24 : decode cX3_init 24 = .ok (.aload_n 0, 1) := by decide +kernel
theorem dX3_init_25 : decode cX3_init 25 = .ok (.getfield 11, 3) := by decide +kernel
theorem dX3_init_28 : decode cX3_init 28 = .ok (.iload_n 1, 1) := by decide +kernel
theorem dX3_init_29 : decode cX3_init 29 = .ok (.new 9, 3) := by decide +kernel
theorem dX3_init_32 : decode cX3_init 32 = .ok (.dup, 1) := by decide +kernel
theorem dX3_init_33 : decode cX3_init 33 = .ok (.invokespecial 17, 3) := by decide +kernel
theorem dX3_init_36 : decode cX3_init 36 = .ok (.aastore, 1) := by decide +kernel
theorem dX3_init_37 : decode cX3_init 37 = .ok (.iinc 1 1, 3) := by decide +kernel
theorem dX3_init_40 : decode cX3_init 40 = .ok (.goto (-25), 3) := by decide +kernel
theorem dX3_init_43 : decode cX3_init 43 = .ok (.return_, 1) := by decide +kernel
theorem dX3_keep_0 : decode cX3_keep 0 = .ok (.aload_n 0, 1) := by decide +kernel
theorem dX3_keep_1 : decode cX3_keep 1 = .ok (.aload_n 0, 1) := by decide +kernel
theorem dX3_keep_2 : decode cX3_keep 2 = .ok (.getfield 18, 3) := by decide +kernel
theorem dX3_keep_5 : decode cX3_keep 5 = .ok (.invokevirtual 22, 3) := by decide +kernel
theorem dX3_keep_8 : decode cX3_keep 8 = .ok (.astore_n 2, 1) := by decide +kernel
theorem dX3_keep_9 : decode cX3_keep 9 = .ok (.aload_n 2, 1) := by decide +kernel
theorem dX3_keep_10 : decode cX3_keep 10 = .ok (.ifnull 48, 3) := by decide +kernel
theorem dX3_keep_13 : decode cX3_keep 13 = .ok (.aload_n 2, 1) := by decide +kernel
theorem dX3_keep_14 : decode cX3_keep 14 = .ok (.aload_n 1, 1) := by decide +kernel
theorem dX3_keep_15 : decode cX3_keep 15 = .ok (.invokevirtual 26, 3) := by decide +kernel
theorem dX3_keep_18 : decode cX3_keep 18 = .ok (.aload_n 0, 1) := by decide +kernel
theorem dX3_keep_19 : decode cX3_keep 19 = .ok (.aload_n 0, 1) := by decide +kernel
theorem dX3_keep_20 : decode cX3_keep 20 = .ok (.getfield 18, 3) := by decide +kernel
theorem dX3_keep_23 : decode cX3_keep 23 = .ok (.iconst 1, 1) := by decide +kernel
theorem dX3_keep_24 : decode cX3_keep 24 = .ok (.iadd, 1) := by decide +kernel
theorem dX3_keep_25 : decode cX3_keep 25 = .ok (.bipush 8, 2) := by decide +kernel
theorem dX3_keep_27 : decode cX3_keep 27 = .ok (.if_icmp .ge 12, 3) := by decide +kernel
theorem dX3_keep_30 : decode cX3_keep 30 = .ok (.aload_n 0, 1) := by decide +kernel
theorem dX3_keep_31 : decode cX3_keep 31 = .ok (.getfield 18, 3) := by decide +kernel
theorem dX3_keep_34 : decode cX3_keep 34 = .ok (.iconst 1, 1) := by decide +kernel
theorem dX3_keep_35 : decode cX3_keep 35 = .ok (.iadd, 1) := by decide +kernel
theorem dX3_keep_36 : decode cX3_keep 36 = .ok (.goto 4, 3) := by decide +kernel
theorem dX3_keep_39 : decode cX3_keep 39 = .ok (.iconst 0, 1) := by decide +kernel
theorem dX3_keep_40 : decode cX3_keep 40 = .ok (.putfield 18, 3) := by decide +kernel
theorem dX3_keep_43 : decode cX3_keep 43 = .ok (.aload_n 0, 1) := by decide +kernel
theorem dX3_keep_44 : decode cX3_keep 44 = .ok (.aload_n 0, 1) := by decide +kernel
theorem dX3_keep_45 : decode cX3_keep 45 = .ok (.getfield 30, 3) := by decide +kernel
theorem dX3_keep_48 : decode cX3_keep 48 = .ok (.iconst 1, 1) := by decide +kernel
theorem dX3_keep_49 : decode cX3_keep 49 = .ok (.iadd, 1) := by decide +kernel
theorem dX3_keep_50 : decode cX3_keep 50 = .ok (.bipush 8, 2) := by decide +kernel
theorem dX3_keep_52 : decode cX3_keep 52 = .ok (.invokestatic 33, 3) := by decide +kernel
theorem dX3_keep_55 : decode cX3_keep 55 = .ok (.putfield 30, 3) := by decide +kernel
theorem dX3_keep_58 : decode cX3_keep 58 = .ok (.return_, 1) := by decide +kernel
theorem dX3_bringBack_0 : decode cX3_bringBack 0 = .ok (.aload_n 0, 1) := by decide +kernel
theorem dX3_bringBack_1 : decode cX3_bringBack 1 = .ok (.getfield 18, 3) := by decide +kernel
theorem dX3_bringBack_4 : decode cX3_bringBack 4 = .ok (.ifCond .le 12, 3) := by decide +kernel
theorem dX3_bringBack_7 : decode cX3_bringBack 7 = .ok (.aload_n 0, 1) := by decide +kernel
theorem dX3_bringBack_8 : decode cX3_bringBack 8 = .ok (.getfield 18, 3) := by decide +kernel
theorem dX3_bringBack_11 : decode cX3_bringBack 11 = .ok (.iconst 1, 1) := by decide +kernel
theorem dX3_bringBack_12 : decode cX3_bringBack 12 = .ok (.isub, 1) := by decide +kernel
theorem dX3_bringBack_13 : decode cX3_bringBack 13 = .ok (.goto 5, 3) := by decide +kernel
theorem dX3_bringBack_16 : decode cX3_bringBack 16 = .ok (.bipush 7, 2) := by decide +kernel
theorem dX3_bringBack_18 : decode cX3_bringBack 18 = .ok (.istore_n 2, 1) := by decide +kernel
theorem dX3_bringBack_19 : decode cX3_bringBack 19 = .ok (.aload_n 0, 1) := by decide +kernel
theorem dX3_bringBack_20 : decode cX3_bringBack 20 = .ok (.iload_n 2, 1) := by decide +kernel
theorem dX3_bringBack_21 : decode cX3_bringBack 21 = .ok (.invokevirtual 22, 3) := by decide +kernel
theorem dX3_bringBack_24 : decode cX3_bringBack 24 = .ok (.astore_n 3, 1) := by decide +kernel
theorem dX3_bringBack_25 : decode cX3_bringBack 25 = .ok (.aload_n 3, 1) := by decide +kernel
theorem dX3_bringBack_26 : decode cX3_bringBack 26 = .ok (.ifnull 23, 3) := by decide +kernel
theorem dX3_bringBack_29 : decode cX3_bringBack 29 = .ok (.aload_n 1, 1) := by decide +kernel
theorem dX3_bringBack_30 : decode cX3_bringBack 30 = .ok (.aload_n 3, 1) := by decide +kernel
theorem dX3_bringBack_31 : decode cX3_bringBack 31 = .ok (.invokevirtual 26, 3) := by decide +kernel
theorem dX3_bringBack_34 : decode cX3_bringBack 34 = .ok (.aload_n 0, 1) := by decide +kernel
theorem dX3_bringBack_35 : decode cX3_bringBack 35 = .ok (.iload_n 2, 1) := by decide +kernel
theorem dX3_bringBack_36 : decode cX3_bringBack 36 = .ok (.putfield 18, 3) := by decide +kernel
theorem dX3_bringBack_39 : decode cX3_bringBack 39 = .ok (.aload_n 0, 1) := by decide +kernel
theorem dX3_bringBack_40 : decode cX3_bringBack 40 = .ok (.dup, 1) := by decide +kernel
theorem dX3_bringBack_41 : decode cX3_bringBack 41 = .ok (.getfield 30, 3) := by decide +kernel
theorem dX3_bringBack_44 : decode cX3_bringBack 44 = .ok (.iconst 1, 1) := by decide +kernel
theorem dX3_bringBack_45 : decode cX3_bringBack 45 = .ok (.isub, 1) := by decide +kernel
theorem dX3_bringBack_46 : decode cX3_bringBack 46 = .ok (.putfield 30, 3) := by decide +kernel
theorem dX3_bringBack_49 : decode cX3_bringBack 49 = .ok (.return_, 1) := by decide +kernel
theorem dX3_planIn_0 : decode cX3_planIn 0 = .ok (.iload_n 1, 1) := by decide +kernel
theorem dX3_planIn_1 : decode cX3_planIn 1 = .ok (.ifCond .lt 21, 3) := by decide +kernel
theorem dX3_planIn_4 : decode cX3_planIn 4 = .ok (.iload_n 1, 1) := by decide +kernel
theorem dX3_planIn_5 : decode cX3_planIn 5 = .ok (.aload_n 0, 1) := by decide +kernel
theorem dX3_planIn_6 : decode cX3_planIn 6 = .ok (.getfield 11, 3) := by decide +kernel
theorem dX3_planIn_9 : decode cX3_planIn 9 = .ok (.arraylength, 1) := by decide +kernel
theorem dX3_planIn_10 : decode cX3_planIn 10 = .ok (.if_icmp .ge 12, 3) := by decide +kernel
theorem dX3_planIn_13 : decode cX3_planIn 13 = .ok (.aload_n 0, 1) := by decide +kernel
theorem dX3_planIn_14 : decode cX3_planIn 14 = .ok (.getfield 11, 3) := by decide +kernel
theorem dX3_planIn_17 : decode cX3_planIn 17 = .ok (.iload_n 1, 1) := by decide +kernel
theorem dX3_planIn_18 : decode cX3_planIn 18 = .ok (.aaload, 1) := by decide +kernel
theorem dX3_planIn_19 : decode cX3_planIn 19 = .ok (.goto 4, 3) := by decide +kernel
theorem dX3_planIn_22 : decode cX3_planIn 22 = .ok (.aconst_null, 1) := by decide +kernel
theorem dX3_planIn_23 : decode cX3_planIn 23 = .ok (.areturn, 1) := by decide +kernel
theorem dX4_init_0 : decode cX4_init 0 = .ok (.aload_n 0, 1) := by decide +kernel
theorem dX4_init_1 : decode cX4_init 1 = .ok (.invokespecial 3, 3) := by decide +kernel
theorem dX4_init_4 : decode cX4_init 4 = .ok (.aload_n 0, 1) := by decide +kernel
theorem dX4_init_5 : decode cX4_init 5 = .ok (.aload_n 1, 1) := by decide +kernel
theorem dX4_init_6 : decode cX4_init 6 = .ok (.putfield 9, 3) := by decide +kernel
theorem dX4_init_9 : decode cX4_init 9 = .ok (.aload_n 0, 1) := by decide +kernel
theorem dX4_init_10 : decode cX4_init 10 = .ok (.iconst 4, 1) := by decide +kernel
theorem dX4_init_11 : decode cX4_init 11 = .ok (.newarray .int, 2) := by decide +kernel
theorem dX4_init_13 : decode cX4_init 13 = .ok (.putfield 15, 3) := by decide +kernel
theorem dX4_init_16 : decode cX4_init 16 = .ok (.aload_n 0, 1) := by decide +kernel
theorem dX4_init_17 : decode cX4_init 17 = .ok (.iconst 4, 1) := by decide +kernel
theorem dX4_init_18 : decode cX4_init 18 = .ok (.newarray .int, 2) := by decide +kernel
theorem dX4_init_20 : decode cX4_init 20 = .ok (.putfield 19, 3) := by decide +kernel
theorem dX4_init_23 : decode cX4_init 23 = .ok (.aload_n 0, 1) := by decide +kernel
theorem dX4_init_24 : decode cX4_init 24 = .ok (.iconst 4, 1) := by decide +kernel
theorem dX4_init_25 : decode cX4_init 25 = .ok (.newarray .int, 2) := by decide +kernel
theorem dX4_init_27 : decode cX4_init 27 = .ok (.putfield 22, 3) := by decide +kernel
theorem dX4_init_30 : decode cX4_init 30 = .ok (.return_, 1) := by decide +kernel
theorem dX4_valueBySearch_0 : decode cX4_valueBySearch 0 = .ok (.aload_n 0, 1) := by decide +kernel
theorem dX4_valueBySearch_1 : decode cX4_valueBySearch 1 = .ok (.iload_n 1, 1) := by decide +kernel
theorem dX4_valueBySearch_2 : decode cX4_valueBySearch 2 = .ok (.invokevirtual 25, 3) := by decide +kernel
theorem dX4_valueBySearch_5 : decode cX4_valueBySearch 5 = .ok (.aload_n 0, 1) := by decide +kernel
theorem dX4_valueBySearch_6 : decode cX4_valueBySearch 6 = .ok (.invokevirtual 29, 3) := by decide +kernel
theorem dX4_valueBySearch_9 : decode cX4_valueBySearch 9 = .ok (.ireturn, 1) := by decide +kernel
theorem dX4_giveBest_0 : decode cX4_giveBest 0 = .ok (.aload_n 0, 1) := by decide +kernel
theorem dX4_giveBest_1 : decode cX4_giveBest 1 = .ok (.iload_n 1, 1) := by decide +kernel
theorem dX4_giveBest_2 : decode cX4_giveBest 2 = .ok (.invokevirtual 25, 3) := by decide +kernel
theorem dX4_giveBest_5 : decode cX4_giveBest 5 = .ok (.aload_n 0, 1) := by decide +kernel
theorem dX4_giveBest_6 : decode cX4_giveBest 6 = .ok (.invokevirtual 29, 3) := by decide +kernel
theorem dX4_giveBest_9 : decode cX4_giveBest 9 = .ok (.istore_n 2, 1) := by decide +kernel
theorem dX4_giveBest_10 : decode cX4_giveBest 10 = .ok (.aload_n 0, 1) := by decide +kernel
theorem dX4_giveBest_11 : decode cX4_giveBest 11 = .ok (.getfield 9, 3) := by decide +kernel
theorem dX4_giveBest_14 : decode cX4_giveBest 14 = .ok (.getfield 33, 3) := by decide +kernel
theorem dX4_giveBest_17 : decode cX4_giveBest 17 = .ok (.iload_n 1, 1) := by decide +kernel
theorem dX4_giveBest_18 : decode cX4_giveBest 18 = .ok (.invokestatic 38, 3) := by decide +kernel
theorem dX4_giveBest_21 : decode cX4_giveBest 21 = .ok (.istore_n 3, 1) := by decide +kernel
theorem dX4_giveBest_22 : decode cX4_giveBest 22 = .ok (.iconst 0, 1) := by decide +kernel
theorem dX4_giveBest_23 : decode cX4_giveBest 23 = .ok (.istore 4, 2) := by decide +kernel
theorem dX4_giveBest_25 : decode cX4_giveBest 25 = .ok (.iload 4, 2) := by decide +kernel
theorem dX4_giveBest_27 : decode cX4_giveBest 27 = .ok (.iload_n 3, 1) := by decide +kernel
theorem dX4_giveBest_28 : decode cX4_giveBest 28 = .ok (.if_icmp .ge 36, 3) := by decide +kernel
theorem dX4_giveBest_31 : decode cX4_giveBest 31 = .ok (.aload_n 0, 1) := by decide +kernel
theorem dX4_giveBest_32 : decode cX4_giveBest 32 = .ok (.getfield 9, 3) := by decide +kernel
theorem dX4_giveBest_35 : decode cX4_giveBest 35 = .ok (.iload_n 1, 1) := by decide +kernel
theorem dX4_giveBest_36 : decode cX4_giveBest 36 = .ok (.aload_n 0, 1) := by decide +kernel
theorem dX4_giveBest_37 : decode cX4_giveBest 37 = .ok (.getfield 9, 3) := by decide +kernel
theorem dX4_giveBest_40 : decode cX4_giveBest 40 = .ok (.iload_n 1, 1) := by decide +kernel
theorem dX4_giveBest_41 : decode cX4_giveBest 41 = .ok (.iload 4, 2) := by decide +kernel
theorem dX4_giveBest_43 : decode cX4_giveBest 43 = .ok (.invokevirtual 42, 3) := by decide +kernel
theorem dX4_giveBest_46 : decode cX4_giveBest 46 = .ok (.aload_n 0, 1) := by decide +kernel
theorem dX4_giveBest_47 : decode cX4_giveBest 47 = .ok (.getfield 22, 3) := by decide +kernel
theorem dX4_giveBest_50 : decode cX4_giveBest 50 = .ok (.iload 4, 2) := by decide +kernel
theorem dX4_giveBest_52 : decode cX4_giveBest 52 = .ok (.invokestatic 38, 3) := by decide +kernel
theorem dX4_giveBest_55 : decode cX4_giveBest 55 = .ok (.invokevirtual 46, 3) := by decide +kernel
theorem dX4_giveBest_58 : decode cX4_giveBest 58 = .ok (.iinc 4 1, 3) := by decide +kernel
theorem dX4_giveBest_61 : decode cX4_giveBest 61 = .ok (.goto (-36), 3) := by decide +kernel
theorem dX4_giveBest_64 : decode cX4_giveBest 64 = .ok (.aload_n 0, 1) := by decide +kernel
theorem dX4_giveBest_65 : decode cX4_giveBest 65 = .ok (.getfield 9, 3) := by decide +kernel
theorem dX4_giveBest_68 : decode cX4_giveBest 68 = .ok (.iload_n 1, 1) := by decide +kernel
theorem dX4_giveBest_69 : decode cX4_giveBest 69 = .ok (.aload_n 0, 1) := by decide +kernel
theorem dX4_giveBest_70 : decode cX4_giveBest 70 = .ok (.getfield 9, 3) := by decide +kernel
theorem dX4_giveBest_73 : decode cX4_giveBest 73 = .ok (.getfield 50, 3) := by decide +kernel
theorem dX4_giveBest_76 : decode cX4_giveBest 76 = .ok (.iload_n 1, 1) := by decide +kernel
theorem dX4_giveBest_77 : decode cX4_giveBest 77 = .ok (.invokestatic 38, 3) := by decide +kernel
theorem dX4_giveBest_80 : decode cX4_giveBest 80 = .ok (.aload_n 0, 1) := by decide +kernel
theorem dX4_giveBest_81 : decode cX4_giveBest 81 = .ok (.getfield 22, 3) := by decide +kernel
theorem dX4_giveBest_84 : decode cX4_giveBest 84 = .ok (.iconst 3, 1) := by decide +kernel
theorem dX4_giveBest_85 : decode cX4_giveBest 85 = .ok (.invokestatic 38, 3) := by decide +kernel
theorem dX4_giveBest_88 : decode cX4_giveBest 88 = .ok (.invokevirtual 46, 3) := by decide +kernel
theorem dX4_giveBest_91 : decode cX4_giveBest 91 = .ok (.iload_n 2, 1) := by decide +kernel
theorem dX4_giveBest_92 : decode cX4_giveBest 92 = .ok (.ireturn, 1) := by decide +kernel
theorem dX4_valueBySets_0 : decode cX4_valueBySets 0 = .ok (.aload_n 0, 1) := by decide +kernel
theorem dX4_valueBySets_1 : decode cX4_valueBySets 1 = .ok (.iload_n 1, 1) := by decide +kernel
theorem dX4_valueBySets_2 : decode cX4_valueBySets 2 = .ok (.invokevirtual 25, 3) := by decide +kernel
theorem dX4_valueBySets_5 : decode cX4_valueBySets 5 = .ok (.bipush 7, 2) := by decide +kernel
theorem dX4_valueBySets_7 : decode cX4_valueBySets 7 = .ok (.istore_n 2, 1) := by decide +kernel
theorem dX4_valueBySets_8 : decode cX4_valueBySets 8 = .ok (.iload_n 2, 1) := by decide +kernel
theorem dX4_valueBySets_9 : decode cX4_valueBySets 9 = .ok (.ifCond .le 19, 3) := by decide +kernel
theorem dX4_valueBySets_12 : decode cX4_valueBySets 12 = .ok (.aload_n 0, 1) := by decide +kernel
theorem dX4_valueBySets_13 : decode cX4_valueBySets 13 = .ok (.iload_n 2, 1) := by decide +kernel
theorem dX4_valueBySets_14 : decode cX4_valueBySets 14 = .ok (.invokevirtual 53, 3) := by decide +kernel
theorem dX4_valueBySets_17 : decode cX4_valueBySets 17 = .ok (.ifCond .eq 5, 3) := by decide +kernel
theorem dX4_valueBySets_20 : decode cX4_valueBySets 20 = .ok (.iload_n 2, 1) := by decide +kernel
theorem dX4_valueBySets_21 : decode cX4_valueBySets 21 = .ok (.ireturn, 1) := by decide +kernel
theorem dX4_valueBySets_22 : decode cX4_valueBySets 22 = .ok (.iinc 2 (-1), 3) := by decide +kernel
theorem dX4_valueBySets_25 : decode cX4_valueBySets 25 = .ok (.goto (-17), 3) := by decide +kernel
theorem dX4_valueBySets_28 : decode cX4_valueBySets 28 = .ok (.iconst 0, 1) := by decide +kernel
theorem dX4_valueBySets_29 : decode cX4_valueBySets 29 = .ok (.ireturn, 1) := by decide +kernel
theorem dX4_servesBySearch_0 : decode cX4_servesBySearch 0 = .ok (.aload_n 0, 1) := by decide +kernel
theorem dX4_servesBySearch_1 : decode cX4_servesBySearch 1 = .ok (.iload_n 1, 1) := by decide +kernel
theorem dX4_servesBySearch_2 : decode cX4_servesBySearch 2 = .ok (.invokevirtual 57, 3) := by decide +kernel
theorem dX4_servesBySearch_5 : decode cX4_servesBySearch 5 = .ok (.aload_n 0, 1) := by decide +kernel
theorem dX4_servesBySearch_6 : decode cX4_servesBySearch 6 = .ok (.getfield 15, 3) := by decide +kernel
theorem dX4_servesBySearch_9 : decode cX4_servesBySearch 9 = .ok (.aload_n 0, 1) := by decide +kernel
theorem dX4_servesBySearch_10 : decode cX4_servesBySearch 10 = .ok (.getfield 9, 3) := by decide +kernel
theorem dX4_servesBySearch_13 : decode cX4_servesBySearch 13 = .ok (.getfield 33, 3) := by decide +kernel
theorem dX4_servesBySearch_16 : decode cX4_servesBySearch 16 = .ok (.iload_n 1, 1) := by decide +kernel
theorem dX4_servesBySearch_17 : decode cX4_servesBySearch 17 = .ok (.invokestatic 38, 3) := by decide +kernel
theorem dX4_servesBySearch_20 : decode cX4_servesBySearch 20 = .ok (.iconst 0, 1) := by decide +kernel
theorem dX4_servesBySearch_21 : decode cX4_servesBySearch 21 = .ok (.iconst 0, 1) := by decide +kernel
theorem dX4_servesBySearch_22 : decode cX4_servesBySearch 22 = .ok (.invokestatic 60, 3) := by decide +kernel
theorem dX4_servesBySearch_25 : decode cX4_servesBySearch 25 = .ok (.ireturn, 1) := by decide +kernel
theorem dX4_servesByCounting_0 : decode cX4_servesByCounting 0 = .ok (.aload_n 0, 1) := by decide +kernel
theorem dX4_servesByCounting_1 : decode cX4_servesByCounting 1 = .ok (.iload_n 1, 1) := by decide +kernel
theorem dX4_servesByCounting_2 : decode cX4_servesByCounting 2 = .ok (.invokevirtual 57, 3) := by decide +kernel
theorem dX4_servesByCounting_5 : decode cX4_servesByCounting 5 = .ok (.iconst 1, 1) := by decide +kernel
theorem dX4_servesByCounting_6 : decode cX4_servesByCounting 6 = .ok (.iconst 0, 1) := by decide +kernel
theorem dX4_servesByCounting_7 : decode cX4_servesByCounting 7 = .ok (.aload_n 0, 1) := by decide +kernel
theorem dX4_servesByCounting_8 : decode cX4_servesByCounting 8 = .ok (.getfield 9, 3) := by decide +kernel
theorem dX4_servesByCounting_11 : decode cX4_servesByCounting 11 = .ok (.getfield 33, 3) := by decide +kernel
theorem dX4_servesByCounting_14 : decode cX4_servesByCounting 14 = .ok (.iload_n 1, 1) := by decide +kernel
theorem dX4_servesByCounting_15 : decode cX4_servesByCounting 15 = .ok (.invokestatic 38, 3) := by decide +kernel
theorem dX4_servesByCounting_18 : decode cX4_servesByCounting 18 = .ok (.invokestatic 64, 3) := by decide +kernel
theorem dX4_servesByCounting_21 : decode cX4_servesByCounting 21 = .ok (.ishl, 1) := by decide +kernel
theorem dX4_servesByCounting_22 : decode cX4_servesByCounting 22 = .ok (.istore_n 2, 1) := by decide +kernel
theorem dX4_servesByCounting_23 : decode cX4_servesByCounting 23 = .ok (.iconst 1, 1) := by decide +kernel
theorem dX4_servesByCounting_24 : decode cX4_servesByCounting 24 = .ok (.istore_n 3, 1) := by decide +kernel
theorem dX4_servesByCounting_25 : decode cX4_servesByCounting 25 = .ok (.iload_n 3, 1) := by decide +kernel
theorem dX4_servesByCounting_26 : decode cX4_servesByCounting 26 = .ok (.iload_n 2, 1) := by decide +kernel
theorem dX4_servesByCounting_27 : decode cX4_servesByCounting 27 = .ok (.if_icmp .ge 64, 3) := by decide +kernel
theorem dX4_servesByCounting_30 : decode cX4_servesByCounting 30 = .ok (.iconst 0, 1) := by decide +kernel
theorem dX4_servesByCounting_31 : decode cX4_servesByCounting 31 = .ok (.istore 4, 2) := by decide +kernel
theorem dX4_servesByCounting_33 : decode cX4_servesByCounting 33 = .ok (.iconst 0, 1) := by decide +kernel
theorem dX4_servesByCounting_34 : decode cX4_servesByCounting 34 = .ok (.istore 5, 2) := by decide +kernel
theorem dX4_servesByCounting_36 : decode cX4_servesByCounting 36 = .ok (.iload 5, 2) := by decide +kernel
theorem dX4_servesByCounting_38 : decode cX4_servesByCounting 38 = .ok (.iconst 3, 1) := by decide +kernel
theorem dX4_servesByCounting_39 : decode cX4_servesByCounting 39 = .ok (.if_icmp .ge 32, 3) := by decide +kernel
theorem dX4_servesByCounting_42 : decode cX4_servesByCounting 42 = .ok (.iload_n 3, 1) := by decide +kernel
theorem dX4_servesByCounting_43 : decode cX4_servesByCounting 43 = .ok (.iload 5, 2) := by decide +kernel
theorem dX4_servesByCounting_45 : decode cX4_servesByCounting 45 = .ok (.invokestatic 69, 3) := by decide +kernel
theorem dX4_servesByCounting_48 : decode cX4_servesByCounting 48 = .ok (.ifCond .eq 17, 3) := by decide +kernel
theorem dX4_servesByCounting_51 : decode cX4_servesByCounting 51 = .ok (.iload 4, 2) := by decide +kernel
theorem dX4_servesByCounting_53 : decode cX4_servesByCounting 53 = .ok (.aload_n 0, 1) := by decide +kernel
theorem dX4_servesByCounting_54 : decode cX4_servesByCounting 54 = .ok (.getfield 15, 3) := by decide +kernel
theorem dX4_servesByCounting_57 : decode cX4_servesByCounting 57 = .ok (.iload 5, 2) := by decide +kernel
theorem dX4_servesByCounting_59 : decode cX4_servesByCounting 59 = .ok (.invokestatic 38, 3) := by decide +kernel
theorem dX4_servesByCounting_62 : decode cX4_servesByCounting 62 = .ok (.ior, 1) := by decide +kernel
theorem dX4_servesByCounting_63 : decode cX4_servesByCounting 63 = .ok (.istore 4, 2) := by decide +kernel
theorem dX4_servesByCounting_65 : decode cX4_servesByCounting 65 = .ok (.iinc 5 1, 3) := by decide +kernel
theorem dX4_servesByCounting_68 : decode cX4_servesByCounting 68 = .ok (.goto (-32), 3) := by decide +kernel
theorem dX4_servesByCounting_71 : decode cX4_servesByCounting 71 = .ok (.iload 4, 2) := by decide +kernel
theorem dX4_servesByCounting_73 : decode cX4_servesByCounting 73 = .ok (.invokestatic 73, 3) := by decide +kernel
theorem dX4_servesByCounting_76 : decode cX4_servesByCounting 76 = .ok (.iload_n 3, 1) := by decide +kernel
theorem dX4_servesByCounting_77 : decode cX4_servesByCounting 77 = .ok (.invokestatic 73, 3) := by decide +kernel
theorem dX4_servesByCounting_80 : decode cX4_servesByCounting 80 = .ok (.if_icmp .ge 5, 3) := by decide +kernel
theorem dX4_servesByCounting_83 : decode cX4_servesByCounting 83 = .ok (.iconst 0, 1) := by decide +kernel
theorem dX4_servesByCounting_84 : decode cX4_servesByCounting 84 = .ok (.ireturn, 1) := by decide +kernel
theorem dX4_servesByCounting_85 : decode cX4_servesByCounting 85 = .ok (.iinc 3 1, 3) := by decide +kernel
theorem dX4_servesByCounting_88 : decode cX4_servesByCounting 88 = .ok (.goto (-63), 3) := by decide +kernel
theorem dX4_servesByCounting_91 : decode cX4_servesByCounting 91 = .ok (.iconst 1, 1) := by decide +kernel
theorem dX4_servesByCounting_92 : decode cX4_servesByCounting 92 = .ok (.ireturn, 1) := by decide +kernel
theorem dX4_collectRoomy_0 : decode cX4_collectRoomy 0 = .ok (.aload_n 0, 1) := by decide +kernel
theorem dX4_collectRoomy_1 : decode cX4_collectRoomy 1 = .ok (.getfield 9, 3) := by decide +kernel
theorem dX4_collectRoomy_4 : decode cX4_collectRoomy 4 = .ok (.getfield 33, 3) := by decide +kernel
theorem dX4_collectRoomy_7 : decode cX4_collectRoomy 7 = .ok (.iload_n 1, 1) := by decide +kernel
theorem dX4_collectRoomy_8 : decode cX4_collectRoomy 8 = .ok (.invokestatic 38, 3) := by decide +kernel
theorem dX4_collectRoomy_11 : decode cX4_collectRoomy 11 = .ok (.istore_n 2, 1) := by decide +kernel
theorem dX4_collectRoomy_12 : decode cX4_collectRoomy 12 = .ok (.aload_n 0, 1) := by decide +kernel
theorem dX4_collectRoomy_13 : decode cX4_collectRoomy 13 = .ok (.iconst 0, 1) := by decide +kernel
theorem dX4_collectRoomy_14 : decode cX4_collectRoomy 14 = .ok (.putfield 78, 3) := by decide +kernel
theorem dX4_collectRoomy_17 : decode cX4_collectRoomy 17 = .ok (.iconst 0, 1) := by decide +kernel
theorem dX4_collectRoomy_18 : decode cX4_collectRoomy 18 = .ok (.istore_n 3, 1) := by decide +kernel
theorem dX4_collectRoomy_19 : decode cX4_collectRoomy 19 = .ok (.iload_n 3, 1) := by decide +kernel
theorem dX4_collectRoomy_20 : decode cX4_collectRoomy 20 = .ok (.iconst 3, 1) := by decide +kernel
theorem dX4_collectRoomy_21 : decode cX4_collectRoomy 21 = .ok (.if_icmp .ge 79, 3) := by decide +kernel
theorem dX4_collectRoomy_24 : decode cX4_collectRoomy 24 = .ok (.iload_n 3, 1) := by decide +kernel
theorem dX4_collectRoomy_25 : decode cX4_collectRoomy 25 = .ok (.iload_n 2, 1) := by decide +kernel
theorem dX4_collectRoomy_26 : decode cX4_collectRoomy 26 = .ok (.if_icmp .ge 7, 3) := by decide +kernel
theorem dX4_collectRoomy_29 : decode cX4_collectRoomy 29 = .ok (.iconst 1, 1) := by decide +kernel
theorem dX4_collectRoomy_30 : decode cX4_collectRoomy 30 = .ok (.goto 4, 3) := by decide +kernel
theorem dX4_collectRoomy_33 : decode cX4_collectRoomy 33 = .ok (.iconst 0, 1) := by decide +kernel
theorem dX4_collectRoomy_34 : decode cX4_collectRoomy 34 = .ok (.istore 4, 2) := by decide +kernel
theorem dX4_collectRoomy_36 : decode cX4_collectRoomy 36 = .ok (.aload_n 0, 1) := by decide +kernel
theorem dX4_collectRoomy_37 : decode cX4_collectRoomy 37 = .ok (.getfield 15, 3) := by decide +kernel
theorem dX4_collectRoomy_40 : decode cX4_collectRoomy 40 = .ok (.iload_n 3, 1) := by decide +kernel
theorem dX4_collectRoomy_41 : decode cX4_collectRoomy 41 = .ok (.iload 4, 2) := by decide +kernel
theorem dX4_collectRoomy_43 : decode cX4_collectRoomy 43 = .ok (.ifCond .eq 25, 3) := by decide +kernel
theorem dX4_collectRoomy_46 : decode cX4_collectRoomy 46 = .ok (.aload_n 0, 1) := by decide +kernel
theorem dX4_collectRoomy_47 : decode cX4_collectRoomy 47 = .ok (.getfield 9, 3) := by decide +kernel
theorem dX4_collectRoomy_50 : decode cX4_collectRoomy 50 = .ok (.aload_n 0, 1) := by decide +kernel
theorem dX4_collectRoomy_51 : decode cX4_collectRoomy 51 = .ok (.getfield 9, 3) := by decide +kernel
theorem dX4_collectRoomy_54 : decode cX4_collectRoomy 54 = .ok (.iload_n 1, 1) := by decide +kernel
theorem dX4_collectRoomy_55 : decode cX4_collectRoomy 55 = .ok (.iload_n 3, 1) := by decide +kernel
theorem dX4_collectRoomy_56 : decode cX4_collectRoomy 56 = .ok (.invokevirtual 42, 3) := by decide +kernel
theorem dX4_collectRoomy_59 : decode cX4_collectRoomy 59 = .ok (.iconst 1, 1) := by decide +kernel
theorem dX4_collectRoomy_60 : decode cX4_collectRoomy 60 = .ok (.iload_n 1, 1) := by decide +kernel
theorem dX4_collectRoomy_61 : decode cX4_collectRoomy 61 = .ok (.ishl, 1) := by decide +kernel
theorem dX4_collectRoomy_62 : decode cX4_collectRoomy 62 = .ok (.invokevirtual 82, 3) := by decide +kernel
theorem dX4_collectRoomy_65 : decode cX4_collectRoomy 65 = .ok (.goto 4, 3) := by decide +kernel
theorem dX4_collectRoomy_68 : decode cX4_collectRoomy 68 = .ok (.iconst 0, 1) := by decide +kernel
theorem dX4_collectRoomy_69 : decode cX4_collectRoomy 69 = .ok (.invokestatic 85, 3) := by decide +kernel
theorem dX4_collectRoomy_72 : decode cX4_collectRoomy 72 = .ok (.aload_n 0, 1) := by decide +kernel
theorem dX4_collectRoomy_73 : decode cX4_collectRoomy 73 = .ok (.dup, 1) := by decide +kernel
theorem dX4_collectRoomy_74 : decode cX4_collectRoomy 74 = .ok (.getfield 78, 3) := by decide +kernel
theorem dX4_collectRoomy_77 : decode cX4_collectRoomy 77 = .ok (.iload 4, 2) := by decide +kernel
theorem dX4_collectRoomy_79 : decode cX4_collectRoomy 79 = .ok (.ifCond .eq 10, 3) := by decide +kernel
theorem dX4_collectRoomy_82 : decode cX4_collectRoomy 82 = .ok (.iload_n 3, 1) := by decide +kernel
theorem dX4_collectRoomy_83 : decode cX4_collectRoomy 83 = .ok (.invokestatic 89, 3) := by decide +kernel
theorem dX4_collectRoomy_86 : decode cX4_collectRoomy 86 = .ok (.goto 4, 3) := by decide +kernel
theorem dX4_collectRoomy_89 : decode cX4_collectRoomy 89 = .ok (.iconst 0, 1) := by decide +kernel
theorem dX4_collectRoomy_90 : decode cX4_collectRoomy 90 = .ok (.iadd, 1) := by decide +kernel
theorem dX4_collectRoomy_91 : decode cX4_collectRoomy 91 = .ok (.putfield 78, 3) := by decide +kernel
theorem dX4_collectRoomy_94 : decode cX4_collectRoomy 94 = .ok (.iinc 3 1, 3) := by decide +kernel
theorem dX4_collectRoomy_97 : decode cX4_collectRoomy 97 = .ok (.goto (-78), 3) := by decide +kernel
theorem dX4_collectRoomy_100 : decode cX4_collectRoomy 100 = .ok (.aload_n 0, 1) := by decide +kernel
theorem dX4_collectRoomy_101 : decode cX4_collectRoomy 101 = .ok (.getfield 15, 3) := by decide +kernel
theorem dX4_collectRoomy_104 : decode cX4_collectRoomy 104 = .ok (.iconst 3, 1) := by decide +kernel
theorem dX4_collectRoomy_105 : decode cX4_collectRoomy 105 = .ok (.aload_n 0, 1) := by decide +kernel
theorem dX4_collectRoomy_106 : decode cX4_collectRoomy 106 = .ok (.getfield 9, 3) := by decide +kernel
theorem dX4_collectRoomy_109 : decode cX4_collectRoomy 109 = .ok (.aload_n 0, 1) := by decide +kernel
theorem dX4_collectRoomy_110 : decode cX4_collectRoomy 110 = .ok (.getfield 9, 3) := by decide +kernel
theorem dX4_collectRoomy_113 : decode cX4_collectRoomy 113 = .ok (.getfield 50, 3) := by decide +kernel
theorem dX4_collectRoomy_116 : decode cX4_collectRoomy 116 = .ok (.iload_n 1, 1) := by decide +kernel
theorem dX4_collectRoomy_117 : decode cX4_collectRoomy 117 = .ok (.invokestatic 38, 3) := by decide +kernel
theorem dX4_collectRoomy_120 : decode cX4_collectRoomy 120 = .ok (.iconst 1, 1) := by decide +kernel
theorem dX4_collectRoomy_121 : decode cX4_collectRoomy 121 = .ok (.iload_n 1, 1) := by decide +kernel
theorem dX4_collectRoomy_122 : decode cX4_collectRoomy 122 = .ok (.ishl, 1) := by decide +kernel
theorem dX4_collectRoomy_123 : decode cX4_collectRoomy 123 = .ok (.invokevirtual 82, 3) := by decide +kernel
theorem dX4_collectRoomy_126 : decode cX4_collectRoomy 126 = .ok (.invokestatic 85, 3) := by decide +kernel
theorem dX4_collectRoomy_129 : decode cX4_collectRoomy 129 = .ok (.return_, 1) := by decide +kernel
theorem dX4_collectOpen_0 : decode cX4_collectOpen 0 = .ok (.aload_n 0, 1) := by decide +kernel
theorem dX4_collectOpen_1 : decode cX4_collectOpen 1 = .ok (.getfield 9, 3) := by decide +kernel
theorem dX4_collectOpen_4 : decode cX4_collectOpen 4 = .ok (.getfield 33, 3) := by decide +kernel
theorem dX4_collectOpen_7 : decode cX4_collectOpen 7 = .ok (.iload_n 1, 1) := by decide +kernel
theorem dX4_collectOpen_8 : decode cX4_collectOpen 8 = .ok (.invokestatic 38, 3) := by decide +kernel
theorem dX4_collectOpen_11 : decode cX4_collectOpen 11 = .ok (.istore_n 2, 1) := by decide +kernel
theorem dX4_collectOpen_12 : decode cX4_collectOpen 12 = .ok (.iconst 0, 1) := by decide +kernel
theorem dX4_collectOpen_13 : decode cX4_collectOpen 13 = .ok (.istore_n 3, 1) := by decide +kernel
theorem dX4_collectOpen_14 : decode cX4_collectOpen 14 = .ok (.iload_n 3, 1) := by decide +kernel
theorem dX4_collectOpen_15 : decode cX4_collectOpen 15 = .ok (.iconst 3, 1) := by decide +kernel
theorem dX4_collectOpen_16 : decode cX4_collectOpen 16 = .ok (.if_icmp .ge 42, 3) := by decide +kernel
theorem dX4_collectOpen_19 : decode cX4_collectOpen 19 = .ok (.aload_n 0, 1) := by decide +kernel
theorem dX4_collectOpen_20 : decode cX4_collectOpen 20 = .ok (.getfield 15, 3) := by decide +kernel
theorem dX4_collectOpen_23 : decode cX4_collectOpen 23 = .ok (.iload_n 3, 1) := by decide +kernel
theorem dX4_collectOpen_24 : decode cX4_collectOpen 24 = .ok (.iload_n 3, 1) := by decide +kernel
theorem dX4_collectOpen_25 : decode cX4_collectOpen 25 = .ok (.iload_n 2, 1) := by decide +kernel
theorem dX4_collectOpen_26 : decode cX4_collectOpen 26 = .ok (.if_icmp .ge 22, 3) := by decide +kernel
theorem dX4_collectOpen_29 : decode cX4_collectOpen 29 = .ok (.aload_n 0, 1) := by decide +kernel
theorem dX4_collectOpen_30 : decode cX4_collectOpen 30 = .ok (.getfield 9, 3) := by decide +kernel
theorem dX4_collectOpen_33 : decode cX4_collectOpen 33 = .ok (.aload_n 0, 1) := by decide +kernel
theorem dX4_collectOpen_34 : decode cX4_collectOpen 34 = .ok (.getfield 9, 3) := by decide +kernel
theorem dX4_collectOpen_37 : decode cX4_collectOpen 37 = .ok (.iload_n 1, 1) := by decide +kernel
theorem dX4_collectOpen_38 : decode cX4_collectOpen 38 = .ok (.iload_n 3, 1) := by decide +kernel
theorem dX4_collectOpen_39 : decode cX4_collectOpen 39 = .ok (.invokevirtual 42, 3) := by decide +kernel
theorem dX4_collectOpen_42 : decode cX4_collectOpen 42 = .ok (.invokevirtual 92, 3) := by decide +kernel
theorem dX4_collectOpen_45 : decode cX4_collectOpen 45 = .ok (.goto 4, 3) := by decide +kernel
theorem dX4_collectOpen_48 : decode cX4_collectOpen 48 = .ok (.iconst 0, 1) := by decide +kernel
theorem dX4_collectOpen_49 : decode cX4_collectOpen 49 = .ok (.invokestatic 85, 3) := by decide +kernel
theorem dX4_collectOpen_52 : decode cX4_collectOpen 52 = .ok (.iinc 3 1, 3) := by decide +kernel
theorem dX4_collectOpen_55 : decode cX4_collectOpen 55 = .ok (.goto (-41), 3) := by decide +kernel
theorem dX4_collectOpen_58 : decode cX4_collectOpen 58 = .ok (.return_, 1) := by decide +kernel
theorem dX4_findBest_0 : decode cX4_findBest 0 = .ok (.aload_n 0, 1) := by decide +kernel
theorem dX4_findBest_1 : decode cX4_findBest 1 = .ok (.iconst (-1), 1) := by decide +kernel
theorem dX4_findBest_2 : decode cX4_findBest 2 = .ok (.putfield 95, 3) := by decide +kernel
theorem dX4_findBest_5 : decode cX4_findBest 5 = .ok (.aload_n 0, 1) := by decide +kernel
theorem dX4_findBest_6 : decode cX4_findBest 6 = .ok (.iconst 0, 1) := by decide +kernel
theorem dX4_findBest_7 : decode cX4_findBest 7 = .ok (.iconst 0, 1) := by decide +kernel
theorem dX4_findBest_8 : decode cX4_findBest 8 = .ok (.iconst 0, 1) := by decide +kernel
theorem dX4_findBest_9 : decode cX4_findBest 9 = .ok (.invokestatic 98, 3) := by decide +kernel
theorem dX4_findBest_12 : decode cX4_findBest 12 = .ok (.aload_n 0, 1) := by decide +kernel
theorem dX4_findBest_13 : decode cX4_findBest 13 = .ok (.getfield 95, 3) := by decide +kernel
theorem dX4_findBest_16 : decode cX4_findBest 16 = .ok (.iconst 1, 1) := by decide +kernel
theorem dX4_findBest_17 : decode cX4_findBest 17 = .ok (.ishr, 1) := by decide +kernel
theorem dX4_findBest_18 : decode cX4_findBest 18 = .ok (.ireturn, 1) := by decide +kernel
theorem dX4_scoreOf_0 : decode cX4_scoreOf 0 = .ok (.iconst 1, 1) := by decide +kernel
theorem dX4_scoreOf_1 : decode cX4_scoreOf 1 = .ok (.iconst 3, 1) := by decide +kernel
theorem dX4_scoreOf_2 : decode cX4_scoreOf 2 = .ok (.iload_n 0, 1) := by decide +kernel
theorem dX4_scoreOf_3 : decode cX4_scoreOf 3 = .ok (.isub, 1) := by decide +kernel
theorem dX4_scoreOf_4 : decode cX4_scoreOf 4 = .ok (.ishl, 1) := by decide +kernel
theorem dX4_scoreOf_5 : decode cX4_scoreOf 5 = .ok (.ireturn, 1) := by decide +kernel
theorem dX4_extend_0 : decode cX4_extend 0 = .ok (.iload_n 1, 1) := by decide +kernel
theorem dX4_extend_1 : decode cX4_extend 1 = .ok (.iconst 3, 1) := by decide +kernel
theorem dX4_extend_2 : decode cX4_extend 2 = .ok (.if_icmp .le 9, 3) := by decide +kernel
theorem dX4_extend_5 : decode cX4_extend 5 = .ok (.aload_n 0, 1) := by decide +kernel
theorem dX4_extend_6 : decode cX4_extend 6 = .ok (.iload_n 3, 1) := by decide +kernel
theorem dX4_extend_7 : decode cX4_extend 7 = .ok (.invokevirtual 102, 3) := by decide +kernel
theorem dX4_extend_10 : decode cX4_extend 10 = .ok (.return_, 1) := by decide +kernel
theorem dX4_extend_11 : decode cX4_extend 11 = .ok (.iload_n 1, 1) := by decide +kernel
theorem dX4_extend_12 : decode cX4_extend 12 = .ok (.iconst 3, 1) := by decide +kernel
theorem dX4_extend_13 : decode cX4_extend 13 = .ok (.if_icmp .lt 11, 3) := by decide +kernel
theorem dX4_extend_16 : decode cX4_extend 16 = .ok (.iload_n 3, 1) := by decide +kernel
theorem dX4_extend_17 : decode cX4_extend 17 = .ok (.aload_n 0, 1) := by decide +kernel
theorem dX4_extend_18 : decode cX4_extend 18 = .ok (.getfield 78, 3) := by decide +kernel
theorem dX4_extend_21 : decode cX4_extend 21 = .ok (.if_icmp .ge 7, 3) := by decide +kernel
theorem dX4_extend_24 : decode cX4_extend 24 = .ok (.iconst 1, 1) := by decide +kernel
theorem dX4_extend_25 : decode cX4_extend 25 = .ok (.goto 4, 3) := by decide +kernel
theorem dX4_extend_28 : decode cX4_extend 28 = .ok (.iconst 0, 1) := by decide +kernel
theorem dX4_extend_29 : decode cX4_extend 29 = .ok (.istore 4, 2) := by decide +kernel
theorem dX4_extend_31 : decode cX4_extend 31 = .ok (.iload 4, 2) := by decide +kernel
theorem dX4_extend_33 : decode cX4_extend 33 = .ok (.ifCond .eq 18, 3) := by decide +kernel
theorem dX4_extend_36 : decode cX4_extend 36 = .ok (.aload_n 0, 1) := by decide +kernel
theorem dX4_extend_37 : decode cX4_extend 37 = .ok (.getfield 15, 3) := by decide +kernel
theorem dX4_extend_40 : decode cX4_extend 40 = .ok (.iload_n 1, 1) := by decide +kernel
theorem dX4_extend_41 : decode cX4_extend 41 = .ok (.invokestatic 38, 3) := by decide +kernel
theorem dX4_extend_44 : decode cX4_extend 44 = .ok (.iload_n 2, 1) := by decide +kernel
theorem dX4_extend_45 : decode cX4_extend 45 = .ok (.iconst (-1), 1) := by decide +kernel
theorem dX4_extend_46 : decode cX4_extend 46 = .ok (.ixor, 1) := by decide +kernel
theorem dX4_extend_47 : decode cX4_extend 47 = .ok (.iand, 1) := by decide +kernel
theorem dX4_extend_48 : decode cX4_extend 48 = .ok (.goto 4, 3) := by decide +kernel
theorem dX4_extend_51 : decode cX4_extend 51 = .ok (.iconst 0, 1) := by decide +kernel
theorem dX4_extend_52 : decode cX4_extend 52 = .ok (.istore 5, 2) := by decide +kernel
theorem dX4_extend_54 : decode cX4_extend 54 = .ok (.iconst 0, 1) := by decide +kernel
theorem dX4_extend_55 : decode cX4_extend 55 = .ok (.istore 6, 2) := by decide +kernel
theorem dX4_extend_57 : decode cX4_extend 57 = .ok (.iload 6, 2) := by decide +kernel
theorem dX4_extend_59 : decode cX4_extend 59 = .ok (.iconst 4, 1) := by decide +kernel
theorem dX4_extend_60 : decode cX4_extend 60 = .ok (.if_icmp .ge 48, 3) := by decide +kernel
theorem dX4_extend_63 : decode cX4_extend 63 = .ok (.iload 5, 2) := by decide +kernel
theorem dX4_extend_65 : decode cX4_extend 65 = .ok (.iload 6, 2) := by decide +kernel
theorem dX4_extend_67 : decode cX4_extend 67 = .ok (.invokestatic 69, 3) := by decide +kernel
theorem dX4_extend_70 : decode cX4_extend 70 = .ok (.ifCond .eq 32, 3) := by decide +kernel
theorem dX4_extend_73 : decode cX4_extend 73 = .ok (.aload_n 0, 1) := by decide +kernel
theorem dX4_extend_74 : decode cX4_extend 74 = .ok (.getfield 19, 3) := by decide +kernel
theorem dX4_extend_77 : decode cX4_extend 77 = .ok (.iload_n 1, 1) := by decide +kernel
theorem dX4_extend_78 : decode cX4_extend 78 = .ok (.iload 6, 2) := by decide +kernel
theorem dX4_extend_80 : decode cX4_extend 80 = .ok (.invokestatic 85, 3) := by decide +kernel
theorem dX4_extend_83 : decode cX4_extend 83 = .ok (.aload_n 0, 1) := by decide +kernel
theorem dX4_extend_84 : decode cX4_extend 84 = .ok (.iload_n 1, 1) := by decide +kernel
theorem dX4_extend_85 : decode cX4_extend 85 = .ok (.iconst 1, 1) := by decide +kernel
theorem dX4_extend_86 : decode cX4_extend 86 = .ok (.iadd, 1) := by decide +kernel
theorem dX4_extend_87 : decode cX4_extend 87 = .ok (.iload_n 2, 1) := by decide +kernel
theorem dX4_extend_88 : decode cX4_extend 88 = .ok (.iconst 1, 1) := by decide +kernel
theorem dX4_extend_89 : decode cX4_extend 89 = .ok (.iload 6, 2) := by decide +kernel
theorem dX4_extend_91 : decode cX4_extend 91 = .ok (.ishl, 1) := by decide +kernel
theorem dX4_extend_92 : decode cX4_extend 92 = .ok (.ior, 1) := by decide +kernel
theorem dX4_extend_93 : decode cX4_extend 93 = .ok (.iload_n 3, 1) := by decide +kernel
theorem dX4_extend_94 : decode cX4_extend 94 = .ok (.iload_n 1, 1) := by decide +kernel
theorem dX4_extend_95 : decode cX4_extend 95 = .ok (.invokestatic 89, 3) := by decide +kernel
theorem dX4_extend_98 : decode cX4_extend 98 = .ok (.iadd, 1) := by decide +kernel
theorem dX4_extend_99 : decode cX4_extend 99 = .ok (.invokestatic 98, 3) := by decide +kernel
theorem dX4_extend_102 : decode cX4_extend 102 = .ok (.iinc 6 1, 3) := by decide +kernel
theorem dX4_extend_105 : decode cX4_extend 105 = .ok (.goto (-48), 3) := by decide +kernel
theorem dX4_extend_108 : decode cX4_extend 108 = .ok (.aload_n 0, 1) := by decide +kernel
theorem dX4_extend_109 : decode cX4_extend 109 = .ok (.getfield 19, 3) := by decide +kernel
theorem dX4_extend_112 : decode cX4_extend 112 = .ok (.iload_n 1, 1) := by decide +kernel
theorem dX4_extend_113 : decode cX4_extend 113 = .ok (.iconst (-1), 1) := by decide +kernel
theorem dX4_extend_114 : decode cX4_extend 114 = .ok (.invokestatic 85, 3) := by decide +kernel
theorem dX4_extend_117 : decode cX4_extend 117 = .ok (.aload_n 0, 1) := by decide +kernel
theorem dX4_extend_118 : decode cX4_extend 118 = .ok (.iload_n 1, 1) := by decide +kernel
theorem dX4_extend_119 : decode cX4_extend 119 = .ok (.iconst 1, 1) := by decide +kernel
theorem dX4_extend_120 : decode cX4_extend 120 = .ok (.iadd, 1) := by decide +kernel
theorem dX4_extend_121 : decode cX4_extend 121 = .ok (.iload_n 2, 1) := by decide +kernel
theorem dX4_extend_122 : decode cX4_extend 122 = .ok (.iload_n 3, 1) := by decide +kernel
theorem dX4_extend_123 : decode cX4_extend 123 = .ok (.invokestatic 98, 3) := by decide +kernel
theorem dX4_extend_126 : decode cX4_extend 126 = .ok (.return_, 1) := by decide +kernel
theorem dX4_keepIfBetter_0 : decode cX4_keepIfBetter 0 = .ok (.iload_n 1, 1) := by decide +kernel
theorem dX4_keepIfBetter_1 : decode cX4_keepIfBetter 1 = .ok (.aload_n 0, 1) := by decide +kernel
theorem dX4_keepIfBetter_2 : decode cX4_keepIfBetter 2 = .ok (.getfield 95, 3) := by decide +kernel
theorem dX4_keepIfBetter_5 : decode cX4_keepIfBetter 5 = .ok (.if_icmp .le 19, 3) := by decide +kernel
theorem dX4_keepIfBetter_8 : decode cX4_keepIfBetter 8 = .ok (.aload_n 0, 1) := by decide +kernel
theorem dX4_keepIfBetter_9 : decode cX4_keepIfBetter 9 = .ok (.iload_n 1, 1) := by decide +kernel
theorem dX4_keepIfBetter_10 : decode cX4_keepIfBetter 10 = .ok (.putfield 95, 3) := by decide +kernel
theorem dX4_keepIfBetter_13 : decode cX4_keepIfBetter 13 = .ok (.aload_n 0, 1) := by decide +kernel
theorem dX4_keepIfBetter_14 : decode cX4_keepIfBetter 14 = .ok (.getfield 19, 3) := by decide +kernel
theorem dX4_keepIfBetter_17 : decode cX4_keepIfBetter 17 = .ok (.aload_n 0, 1) := by decide +kernel
theorem dX4_keepIfBetter_18 : decode cX4_keepIfBetter 18 = .ok (.getfield 22, 3) := by decide +kernel
theorem dX4_keepIfBetter_21 : decode cX4_keepIfBetter 21 = .ok (.invokestatic 105, 3) := by decide +kernel
theorem dX4_keepIfBetter_24 : decode cX4_keepIfBetter 24 = .ok (.return_, 1) := by decide +kernel
theorem dX4_setsUsedFor_0 : decode cX4_setsUsedFor 0 = .ok (.iconst 1, 1) := by decide +kernel
theorem dX4_setsUsedFor_1 : decode cX4_setsUsedFor 1 = .ok (.istore_n 2, 1) := by decide +kernel
theorem dX4_setsUsedFor_2 : decode cX4_setsUsedFor 2 = .ok (.iconst 0, 1) := by decide +kernel
theorem dX4_setsUsedFor_3 : decode cX4_setsUsedFor 3 = .ok (.istore_n 3, 1) := by decide +kernel
theorem dX4_setsUsedFor_4 : decode cX4_setsUsedFor 4 = .ok (.iload_n 3, 1) := by decide +kernel
theorem dX4_setsUsedFor_5 : decode cX4_setsUsedFor 5 = .ok (.iconst 3, 1) := by decide +kernel
theorem dX4_setsUsedFor_6 : decode cX4_setsUsedFor 6 = .ok (.if_icmp .ge 32, 3) := by decide +kernel
theorem dX4_setsUsedFor_9 : decode cX4_setsUsedFor 9 = .ok (.iload_n 1, 1) := by decide +kernel
theorem dX4_setsUsedFor_10 : decode cX4_setsUsedFor 10 = .ok (.iconst 2, 1) := by decide +kernel
theorem dX4_setsUsedFor_11 : decode cX4_setsUsedFor 11 = .ok (.iload_n 3, 1) := by decide +kernel
theorem dX4_setsUsedFor_12 : decode cX4_setsUsedFor 12 = .ok (.isub, 1) := by decide +kernel
theorem dX4_setsUsedFor_13 : decode cX4_setsUsedFor 13 = .ok (.invokestatic 69, 3) := by decide +kernel
theorem dX4_setsUsedFor_16 : decode cX4_setsUsedFor 16 = .ok (.ifCond .eq 16, 3) := by decide +kernel
theorem dX4_setsUsedFor_19 : decode cX4_setsUsedFor 19 = .ok (.iload_n 2, 1) := by decide +kernel
theorem dX4_setsUsedFor_20 : decode cX4_setsUsedFor 20 = .ok (.aload_n 0, 1) := by decide +kernel
theorem dX4_setsUsedFor_21 : decode cX4_setsUsedFor 21 = .ok (.getfield 15, 3) := by decide +kernel
theorem dX4_setsUsedFor_24 : decode cX4_setsUsedFor 24 = .ok (.iload_n 3, 1) := by decide +kernel
theorem dX4_setsUsedFor_25 : decode cX4_setsUsedFor 25 = .ok (.invokestatic 38, 3) := by decide +kernel
theorem dX4_setsUsedFor_28 : decode cX4_setsUsedFor 28 = .ok (.invokestatic 109, 3) := by decide +kernel
theorem dX4_setsUsedFor_31 : decode cX4_setsUsedFor 31 = .ok (.istore_n 2, 1) := by decide +kernel
theorem dX4_setsUsedFor_32 : decode cX4_setsUsedFor 32 = .ok (.iinc 3 1, 3) := by decide +kernel
theorem dX4_setsUsedFor_35 : decode cX4_setsUsedFor 35 = .ok (.goto (-31), 3) := by decide +kernel
theorem dX4_setsUsedFor_38 : decode cX4_setsUsedFor 38 = .ok (.iload_n 2, 1) := by decide +kernel
theorem dX4_setsUsedFor_39 : decode cX4_setsUsedFor 39 = .ok (.ireturn, 1) := by decide +kernel
theorem dX4_setsWithOneOf_0 : decode cX4_setsWithOneOf 0 = .ok (.iconst 0, 1) := by decide +kernel
theorem dX4_setsWithOneOf_1 : decode cX4_setsWithOneOf 1 = .ok (.istore_n 2, 1) := by decide +kernel
theorem dX4_setsWithOneOf_2 : decode cX4_setsWithOneOf 2 = .ok (.iconst 0, 1) := by decide +kernel
theorem dX4_setsWithOneOf_3 : decode cX4_setsWithOneOf 3 = .ok (.istore_n 3, 1) := by decide +kernel
theorem dX4_setsWithOneOf_4 : decode cX4_setsWithOneOf 4 = .ok (.iload_n 3, 1) := by decide +kernel
theorem dX4_setsWithOneOf_5 : decode cX4_setsWithOneOf 5 = .ok (.bipush 16, 2) := by decide +kernel
theorem dX4_setsWithOneOf_7 : decode cX4_setsWithOneOf 7 = .ok (.if_icmp .ge 56, 3) := by decide +kernel
theorem dX4_setsWithOneOf_10 : decode cX4_setsWithOneOf 10 = .ok (.iconst 0, 1) := by decide +kernel
theorem dX4_setsWithOneOf_11 : decode cX4_setsWithOneOf 11 = .ok (.istore 4, 2) := by decide +kernel
theorem dX4_setsWithOneOf_13 : decode cX4_setsWithOneOf 13 = .ok (.iload 4, 2) := by decide +kernel
theorem dX4_setsWithOneOf_15 : decode cX4_setsWithOneOf 15 = .ok (.iconst 4, 1) := by decide +kernel
theorem dX4_setsWithOneOf_16 : decode cX4_setsWithOneOf 16 = .ok (.if_icmp .ge 41, 3) := by decide +kernel
theorem dX4_setsWithOneOf_19 : decode cX4_setsWithOneOf 19 = .ok (.iload_n 0, 1) := by decide +kernel
theorem dX4_setsWithOneOf_20 : decode cX4_setsWithOneOf 20 = .ok (.iload_n 3, 1) := by decide +kernel
theorem dX4_setsWithOneOf_21 : decode cX4_setsWithOneOf 21 = .ok (.invokestatic 69, 3) := by decide +kernel
theorem dX4_setsWithOneOf_24 : decode cX4_setsWithOneOf 24 = .ok (.ifCond .eq 27, 3) := by decide +kernel
theorem dX4_setsWithOneOf_27 : decode cX4_setsWithOneOf 27 = .ok (.iload_n 1, 1) := by decide +kernel
theorem dX4_setsWithOneOf_28 : decode cX4_setsWithOneOf 28 = .ok (.iload_n 3, 1) := by decide +kernel
theorem dX4_setsWithOneOf_29 : decode cX4_setsWithOneOf 29 = .ok (.iconst (-1), 1) := by decide +kernel
theorem dX4_setsWithOneOf_30 : decode cX4_setsWithOneOf 30 = .ok (.ixor, 1) := by decide +kernel
theorem dX4_setsWithOneOf_31 : decode cX4_setsWithOneOf 31 = .ok (.iand, 1) := by decide +kernel
theorem dX4_setsWithOneOf_32 : decode cX4_setsWithOneOf 32 = .ok (.iload 4, 2) := by decide +kernel
theorem dX4_setsWithOneOf_34 : decode cX4_setsWithOneOf 34 = .ok (.invokestatic 69, 3) := by decide +kernel
theorem dX4_setsWithOneOf_37 : decode cX4_setsWithOneOf 37 = .ok (.ifCond .eq 14, 3) := by decide +kernel
theorem dX4_setsWithOneOf_40 : decode cX4_setsWithOneOf 40 = .ok (.iload_n 2, 1) := by decide +kernel
theorem dX4_setsWithOneOf_41 : decode cX4_setsWithOneOf 41 = .ok (.iconst 1, 1) := by decide +kernel
theorem dX4_setsWithOneOf_42 : decode cX4_setsWithOneOf 42 = .ok (.iload_n 3, 1) := by decide +kernel
theorem dX4_setsWithOneOf_43 : decode cX4_setsWithOneOf 43 = .ok (.iconst 1, 1) := by decide +kernel
theorem dX4_setsWithOneOf_44 : decode cX4_setsWithOneOf 44 = .ok (.iload 4, 2) := by decide +kernel
theorem dX4_setsWithOneOf_46 : decode cX4_setsWithOneOf 46 = .ok (.ishl, 1) := by decide +kernel
theorem dX4_setsWithOneOf_47 : decode cX4_setsWithOneOf 47 = .ok (.ior, 1) := by decide +kernel
theorem dX4_setsWithOneOf_48 : decode cX4_setsWithOneOf 48 = .ok (.ishl, 1) := by decide +kernel
theorem dX4_setsWithOneOf_49 : decode cX4_setsWithOneOf 49 = .ok (.ior, 1) := by decide +kernel
theorem dX4_setsWithOneOf_50 : decode cX4_setsWithOneOf 50 = .ok (.istore_n 2, 1) := by decide +kernel
theorem dX4_setsWithOneOf_51 : decode cX4_setsWithOneOf 51 = .ok (.iinc 4 1, 3) := by decide +kernel
theorem dX4_setsWithOneOf_54 : decode cX4_setsWithOneOf 54 = .ok (.goto (-41), 3) := by decide +kernel
theorem dX4_setsWithOneOf_57 : decode cX4_setsWithOneOf 57 = .ok (.iinc 3 1, 3) := by decide +kernel
theorem dX4_setsWithOneOf_60 : decode cX4_setsWithOneOf 60 = .ok (.goto (-56), 3) := by decide +kernel
theorem dX4_setsWithOneOf_63 : decode cX4_setsWithOneOf 63 = .ok (.iload_n 2, 1) := by decide +kernel
theorem dX4_setsWithOneOf_64 : decode cX4_setsWithOneOf 64 = .ok (.ireturn, 1) := by decide +kernel
theorem dX4_serve_0 : decode cX4_serve 0 = .ok (.iload_n 2, 1) := by decide +kernel
theorem dX4_serve_1 : decode cX4_serve 1 = .ok (.iload_n 1, 1) := by decide +kernel
theorem dX4_serve_2 : decode cX4_serve 2 = .ok (.if_icmp .ge 8, 3) := by decide +kernel
theorem dX4_serve_5 : decode cX4_serve 5 = .ok (.iload_n 2, 1) := by decide +kernel
theorem dX4_serve_6 : decode cX4_serve 6 = .ok (.iconst 3, 1) := by decide +kernel
theorem dX4_serve_7 : decode cX4_serve 7 = .ok (.if_icmp .lt 5, 3) := by decide +kernel
theorem dX4_serve_10 : decode cX4_serve 10 = .ok (.iconst 1, 1) := by decide +kernel
theorem dX4_serve_11 : decode cX4_serve 11 = .ok (.ireturn, 1) := by decide +kernel
theorem dX4_serve_12 : decode cX4_serve 12 = .ok (.iconst 0, 1) := by decide +kernel
theorem dX4_serve_13 : decode cX4_serve 13 = .ok (.istore 4, 2) := by decide +kernel
theorem dX4_serve_15 : decode cX4_serve 15 = .ok (.iload 4, 2) := by decide +kernel
theorem dX4_serve_17 : decode cX4_serve 17 = .ok (.iconst 4, 1) := by decide +kernel
theorem dX4_serve_18 : decode cX4_serve 18 = .ok (.if_icmp .ge 45, 3) := by decide +kernel
theorem dX4_serve_21 : decode cX4_serve 21 = .ok (.aload_n 0, 1) := by decide +kernel
theorem dX4_serve_22 : decode cX4_serve 22 = .ok (.iload_n 2, 1) := by decide +kernel
theorem dX4_serve_23 : decode cX4_serve 23 = .ok (.invokestatic 38, 3) := by decide +kernel
theorem dX4_serve_26 : decode cX4_serve 26 = .ok (.iload_n 3, 1) := by decide +kernel
theorem dX4_serve_27 : decode cX4_serve 27 = .ok (.iconst (-1), 1) := by decide +kernel
theorem dX4_serve_28 : decode cX4_serve 28 = .ok (.ixor, 1) := by decide +kernel
theorem dX4_serve_29 : decode cX4_serve 29 = .ok (.iand, 1) := by decide +kernel
theorem dX4_serve_30 : decode cX4_serve 30 = .ok (.iload 4, 2) := by decide +kernel
theorem dX4_serve_32 : decode cX4_serve 32 = .ok (.invokestatic 69, 3) := by decide +kernel
theorem dX4_serve_35 : decode cX4_serve 35 = .ok (.ifCond .eq 22, 3) := by decide +kernel
theorem dX4_serve_38 : decode cX4_serve 38 = .ok (.aload_n 0, 1) := by decide +kernel
theorem dX4_serve_39 : decode cX4_serve 39 = .ok (.iload_n 1, 1) := by decide +kernel
theorem dX4_serve_40 : decode cX4_serve 40 = .ok (.iload_n 2, 1) := by decide +kernel
theorem dX4_serve_41 : decode cX4_serve 41 = .ok (.iconst 1, 1) := by decide +kernel
theorem dX4_serve_42 : decode cX4_serve 42 = .ok (.iadd, 1) := by decide +kernel
theorem dX4_serve_43 : decode cX4_serve 43 = .ok (.iload_n 3, 1) := by decide +kernel
theorem dX4_serve_44 : decode cX4_serve 44 = .ok (.iconst 1, 1) := by decide +kernel
theorem dX4_serve_45 : decode cX4_serve 45 = .ok (.iload 4, 2) := by decide +kernel
theorem dX4_serve_47 : decode cX4_serve 47 = .ok (.ishl, 1) := by decide +kernel
theorem dX4_serve_48 : decode cX4_serve 48 = .ok (.ior, 1) := by decide +kernel
theorem dX4_serve_49 : decode cX4_serve 49 = .ok (.invokestatic 60, 3) := by decide +kernel
theorem dX4_serve_52 : decode cX4_serve 52 = .ok (.ifCond .eq 5, 3) := by decide +kernel
theorem dX4_serve_55 : decode cX4_serve 55 = .ok (.iconst 1, 1) := by decide +kernel
theorem dX4_serve_56 : decode cX4_serve 56 = .ok (.ireturn, 1) := by decide +kernel
theorem dX4_serve_57 : decode cX4_serve 57 = .ok (.iinc 4 1, 3) := by decide +kernel
theorem dX4_serve_60 : decode cX4_serve 60 = .ok (.goto (-45), 3) := by decide +kernel
theorem dX4_serve_63 : decode cX4_serve 63 = .ok (.iconst 0, 1) := by decide +kernel
theorem dX4_serve_64 : decode cX4_serve 64 = .ok (.ireturn, 1) := by decide +kernel
theorem dX5_init_0 : decode cX5_init 0 = .ok (.aload_n 0, 1) := by decide +kernel
theorem dX5_init_1 : decode cX5_init 1 = .ok (.invokespecial 3, 3) := by decide +kernel
theorem dX5_init_4 : decode cX5_init 4 = .ok (.aload_n 0, 1) := by decide +kernel
theorem dX5_init_5 : decode cX5_init 5 = .ok (.iconst 3, 1) := by decide +kernel
theorem dX5_init_6 : decode cX5_init 6 = .ok (.putfield 9, 3) := by decide +kernel
theorem dX5_init_9 : decode cX5_init 9 = .ok (.aload_n 0, 1) := by decide +kernel
theorem dX5_init_10 : decode cX5_init 10 = .ok (.bipush 7, 2) := by decide +kernel
theorem dX5_init_12 : decode cX5_init 12 = .ok (.newarray .int, 2) := by decide +kernel
theorem dX5_init_14 : decode cX5_init 14 = .ok (.putfield 15, 3) := by decide +kernel
theorem dX5_init_17 : decode cX5_init 17 = .ok (.aload_n 0, 1) := by decide +kernel
theorem dX5_init_18 : decode cX5_init 18 = .ok (.bipush 7, 2) := by decide +kernel
theorem dX5_init_20 : decode cX5_init 20 = .ok (.newarray .int, 2) := by decide +kernel
theorem dX5_init_22 : decode cX5_init 22 = .ok (.putfield 19, 3) := by decide +kernel
theorem dX5_init_25 : decode cX5_init 25 = .ok (.aload_n 0, 1) := by decide +kernel
theorem dX5_init_26 : decode cX5_init 26 = .ok (.bipush 28, 2) := by decide +kernel
theorem dX5_init_28 : decode cX5_init 28 = .ok (.newarray .int, 2) := by decide +kernel
theorem dX5_init_30 : decode cX5_init 30 = .ok (.putfield 22, 3) := by decide +kernel
theorem dX5_init_33 : decode cX5_init 33 = .ok (.aload_n 0, 1) := by decide +kernel
theorem dX5_init_34 : decode cX5_init 34 = .ok (.bipush 12, 2) := by decide +kernel
theorem dX5_init_36 : decode cX5_init 36 = .ok (.newarray .int, 2) := by decide +kernel
theorem dX5_init_38 : decode cX5_init 38 = .ok (.putfield 25, 3) := by decide +kernel
theorem dX5_init_41 : decode cX5_init 41 = .ok (.aload_n 0, 1) := by decide +kernel
theorem dX5_init_42 : decode cX5_init 42 = .ok (.bipush 36, 2) := by decide +kernel
theorem dX5_init_44 : decode cX5_init 44 = .ok (.newarray .int, 2) := by decide +kernel
theorem dX5_init_46 : decode cX5_init 46 = .ok (.putfield 28, 3) := by decide +kernel
theorem dX5_init_49 : decode cX5_init 49 = .ok (.aload_n 0, 1) := by decide +kernel
theorem dX5_init_50 : decode cX5_init 50 = .ok (.bipush 12, 2) := by decide +kernel
theorem dX5_init_52 : decode cX5_init 52 = .ok (.newarray .int, 2) := by decide +kernel
theorem dX5_init_54 : decode cX5_init 54 = .ok (.putfield 31, 3) := by decide +kernel
theorem dX5_init_57 : decode cX5_init 57 = .ok (.aload_n 0, 1) := by decide +kernel
theorem dX5_init_58 : decode cX5_init 58 = .ok (.iconst (-1), 1) := by decide +kernel
theorem dX5_init_59 : decode cX5_init 59 = .ok (.putfield 34, 3) := by decide +kernel
theorem dX5_init_62 : decode cX5_init 62 = .ok (.aload_n 0, 1) := by decide +kernel
theorem dX5_init_63 : decode cX5_init 63 = .ok (.iconst 4, 1) := by decide +kernel
theorem dX5_init_64 : decode cX5_init 64 = .ok (.newarray .int, 2) := by decide +kernel
theorem dX5_init_66 : decode cX5_init 66 = .ok (.putfield 37, 3) := by decide +kernel
theorem dX5_init_69 : decode cX5_init 69 = .ok (.aload_n 0, 1) := by decide +kernel
theorem dX5_init_70 : decode cX5_init 70 = .ok (.iconst 4, 1) := by decide +kernel
theorem dX5_init_71 : decode cX5_init 71 = .ok (.newarray .int, 2) := by decide +kernel
theorem dX5_init_73 : decode cX5_init 73 = .ok (.putfield 40, 3) := by decide +kernel
theorem dX5_init_76 : decode cX5_init 76 = .ok (.return_, 1) := by decide +kernel
theorem dX5_copyFrom_0 : decode cX5_copyFrom 0 = .ok (.aload_n 0, 1) := by decide +kernel
theorem dX5_copyFrom_1 : decode cX5_copyFrom 1 = .ok (.aload_n 1, 1) := by decide +kernel
theorem dX5_copyFrom_2 : decode cX5_copyFrom 2 = .ok (.getfield 43, 3) := by decide +kernel
theorem dX5_copyFrom_5 : decode cX5_copyFrom 5 = .ok (.putfield 43, 3) := by decide +kernel
theorem dX5_copyFrom_8 : decode cX5_copyFrom 8 = .ok (.aload_n 0, 1) := by decide +kernel
theorem dX5_copyFrom_9 : decode cX5_copyFrom 9 = .ok (.aload_n 1, 1) := by decide +kernel
theorem dX5_copyFrom_10 : decode cX5_copyFrom 10 = .ok (.getfield 9, 3) := by decide +kernel
theorem dX5_copyFrom_13 : decode cX5_copyFrom 13 = .ok (.putfield 9, 3) := by decide +kernel
theorem dX5_copyFrom_16 : decode cX5_copyFrom 16 = .ok (.aload_n 0, 1) := by decide +kernel
theorem dX5_copyFrom_17 : decode cX5_copyFrom 17 = .ok (.aload_n 1, 1) := by decide +kernel
theorem dX5_copyFrom_18 : decode cX5_copyFrom 18 = .ok (.getfield 46, 3) := by decide +kernel
theorem dX5_copyFrom_21 : decode cX5_copyFrom 21 = .ok (.putfield 46, 3) := by decide +kernel
theorem dX5_copyFrom_24 : decode cX5_copyFrom 24 = .ok (.aload_n 1, 1) := by decide +kernel
theorem dX5_copyFrom_25 : decode cX5_copyFrom 25 = .ok (.getfield 15, 3) := by decide +kernel
theorem dX5_copyFrom_28 : decode cX5_copyFrom 28 = .ok (.aload_n 0, 1) := by decide +kernel
theorem dX5_copyFrom_29 : decode cX5_copyFrom 29 = .ok (.getfield 15, 3) := by decide +kernel
theorem dX5_copyFrom_32 : decode cX5_copyFrom 32 = .ok (.invokestatic 49, 3) := by decide +kernel
theorem dX5_copyFrom_35 : decode cX5_copyFrom 35 = .ok (.aload_n 1, 1) := by decide +kernel
theorem dX5_copyFrom_36 : decode cX5_copyFrom 36 = .ok (.getfield 19, 3) := by decide +kernel
theorem dX5_copyFrom_39 : decode cX5_copyFrom 39 = .ok (.aload_n 0, 1) := by decide +kernel
theorem dX5_copyFrom_40 : decode cX5_copyFrom 40 = .ok (.getfield 19, 3) := by decide +kernel
theorem dX5_copyFrom_43 : decode cX5_copyFrom 43 = .ok (.invokestatic 49, 3) := by decide +kernel
theorem dX5_copyFrom_46 : decode cX5_copyFrom 46 = .ok (.aload_n 1, 1) := by decide +kernel
theorem dX5_copyFrom_47 : decode cX5_copyFrom 47 = .ok (.getfield 22, 3) := by decide +kernel
theorem dX5_copyFrom_50 : decode cX5_copyFrom 50 = .ok (.aload_n 0, 1) := by decide +kernel
theorem dX5_copyFrom_51 : decode cX5_copyFrom 51 = .ok (.getfield 22, 3) := by decide +kernel
theorem dX5_copyFrom_54 : decode cX5_copyFrom 54 = .ok (.invokestatic 49, 3) := by decide +kernel
theorem dX5_copyFrom_57 : decode cX5_copyFrom 57 = .ok (.aload_n 1, 1) := by decide +kernel
theorem dX5_copyFrom_58 : decode cX5_copyFrom 58 = .ok (.getfield 25, 3) := by decide +kernel
theorem dX5_copyFrom_61 : decode cX5_copyFrom 61 = .ok (.aload_n 0, 1) := by decide +kernel
theorem dX5_copyFrom_62 : decode cX5_copyFrom 62 = .ok (.getfield 25, 3) := by decide +kernel
theorem dX5_copyFrom_65 : decode cX5_copyFrom 65 = .ok (.invokestatic 49, 3) := by decide +kernel
theorem dX5_copyFrom_68 : decode cX5_copyFrom 68 = .ok (.aload_n 1, 1) := by decide +kernel
theorem dX5_copyFrom_69 : decode cX5_copyFrom 69 = .ok (.getfield 28, 3) := by decide +kernel
theorem dX5_copyFrom_72 : decode cX5_copyFrom 72 = .ok (.aload_n 0, 1) := by decide +kernel
theorem dX5_copyFrom_73 : decode cX5_copyFrom 73 = .ok (.getfield 28, 3) := by decide +kernel
theorem dX5_copyFrom_76 : decode cX5_copyFrom 76 = .ok (.invokestatic 49, 3) := by decide +kernel
theorem dX5_copyFrom_79 : decode cX5_copyFrom 79 = .ok (.aload_n 1, 1) := by decide +kernel
theorem dX5_copyFrom_80 : decode cX5_copyFrom 80 = .ok (.getfield 31, 3) := by decide +kernel
theorem dX5_copyFrom_83 : decode cX5_copyFrom 83 = .ok (.aload_n 0, 1) := by decide +kernel
theorem dX5_copyFrom_84 : decode cX5_copyFrom 84 = .ok (.getfield 31, 3) := by decide +kernel
theorem dX5_copyFrom_87 : decode cX5_copyFrom 87 = .ok (.invokestatic 49, 3) := by decide +kernel
theorem dX5_copyFrom_90 : decode cX5_copyFrom 90 = .ok (.aload_n 0, 1) := by decide +kernel
theorem dX5_copyFrom_91 : decode cX5_copyFrom 91 = .ok (.aload_n 1, 1) := by decide +kernel
theorem dX5_copyFrom_92 : decode cX5_copyFrom 92 = .ok (.getfield 34, 3) := by decide +kernel
theorem dX5_copyFrom_95 : decode cX5_copyFrom 95 = .ok (.putfield 34, 3) := by decide +kernel
theorem dX5_copyFrom_98 : decode cX5_copyFrom 98 = .ok (.aload_n 1, 1) := by decide +kernel
theorem dX5_copyFrom_99 : decode cX5_copyFrom 99 = .ok (.getfield 37, 3) := by decide +kernel
theorem dX5_copyFrom_102 : decode cX5_copyFrom 102 = .ok (.aload_n 0, 1) := by decide +kernel
theorem dX5_copyFrom_103 : decode cX5_copyFrom 103 = .ok (.getfield 37, 3) := by decide +kernel
theorem dX5_copyFrom_106 : decode cX5_copyFrom 106 = .ok (.invokestatic 49, 3) := by decide +kernel
theorem dX5_copyFrom_109 : decode cX5_copyFrom 109 = .ok (.aload_n 1, 1) := by decide +kernel
theorem dX5_copyFrom_110 : decode cX5_copyFrom 110 = .ok (.getfield 40, 3) := by decide +kernel
theorem dX5_copyFrom_113 : decode cX5_copyFrom 113 = .ok (.aload_n 0, 1) := by decide +kernel
theorem dX5_copyFrom_114 : decode cX5_copyFrom 114 = .ok (.getfield 40, 3) := by decide +kernel
theorem dX5_copyFrom_117 : decode cX5_copyFrom 117 = .ok (.invokestatic 49, 3) := by decide +kernel
theorem dX5_copyFrom_120 : decode cX5_copyFrom 120 = .ok (.return_, 1) := by decide +kernel
theorem dX5_hasSubject_0 : decode cX5_hasSubject 0 = .ok (.iload_n 1, 1) := by decide +kernel
theorem dX5_hasSubject_1 : decode cX5_hasSubject 1 = .ok (.ifCond .lt 15, 3) := by decide +kernel
theorem dX5_hasSubject_4 : decode cX5_hasSubject 4 = .ok (.iload_n 1, 1) := by decide +kernel
theorem dX5_hasSubject_5 : decode cX5_hasSubject 5 = .ok (.aload_n 0, 1) := by decide +kernel
theorem dX5_hasSubject_6 : decode cX5_hasSubject 6 = .ok (.getfield 43, 3) := by decide +kernel
theorem dX5_hasSubject_9 : decode cX5_hasSubject 9 = .ok (.if_icmp .ge 7, 3) := by decide +kernel
theorem dX5_hasSubject_12 : decode cX5_hasSubject 12 = .ok (.iconst 1, 1) := by decide +kernel
theorem dX5_hasSubject_13 : decode cX5_hasSubject 13 = .ok (.goto 4, 3) := by decide +kernel
theorem dX5_hasSubject_16 : decode cX5_hasSubject 16 = .ok (.iconst 0, 1) := by decide +kernel
theorem dX5_hasSubject_17 : decode cX5_hasSubject 17 = .ok (.ireturn, 1) := by decide +kernel
theorem dX5_hasBlock_0 : decode cX5_hasBlock 0 = .ok (.iload_n 1, 1) := by decide +kernel
theorem dX5_hasBlock_1 : decode cX5_hasBlock 1 = .ok (.ifCond .lt 15, 3) := by decide +kernel
theorem dX5_hasBlock_4 : decode cX5_hasBlock 4 = .ok (.iload_n 1, 1) := by decide +kernel
theorem dX5_hasBlock_5 : decode cX5_hasBlock 5 = .ok (.aload_n 0, 1) := by decide +kernel
theorem dX5_hasBlock_6 : decode cX5_hasBlock 6 = .ok (.getfield 9, 3) := by decide +kernel
theorem dX5_hasBlock_9 : decode cX5_hasBlock 9 = .ok (.if_icmp .ge 7, 3) := by decide +kernel
theorem dX5_hasBlock_12 : decode cX5_hasBlock 12 = .ok (.iconst 1, 1) := by decide +kernel
theorem dX5_hasBlock_13 : decode cX5_hasBlock 13 = .ok (.goto 4, 3) := by decide +kernel
theorem dX5_hasBlock_16 : decode cX5_hasBlock 16 = .ok (.iconst 0, 1) := by decide +kernel
theorem dX5_hasBlock_17 : decode cX5_hasBlock 17 = .ok (.ireturn, 1) := by decide +kernel
theorem dX5_hasClass_0 : decode cX5_hasClass 0 = .ok (.aload_n 0, 1) := by decide +kernel
theorem dX5_hasClass_1 : decode cX5_hasClass 1 = .ok (.iload_n 1, 1) := by decide +kernel
theorem dX5_hasClass_2 : decode cX5_hasClass 2 = .ok (.invokevirtual 53, 3) := by decide +kernel
theorem dX5_hasClass_5 : decode cX5_hasClass 5 = .ok (.ifCond .eq 15, 3) := by decide +kernel
theorem dX5_hasClass_8 : decode cX5_hasClass 8 = .ok (.aload_n 0, 1) := by decide +kernel
theorem dX5_hasClass_9 : decode cX5_hasClass 9 = .ok (.iload_n 2, 1) := by decide +kernel
theorem dX5_hasClass_10 : decode cX5_hasClass 10 = .ok (.invokevirtual 57, 3) := by decide +kernel
theorem dX5_hasClass_13 : decode cX5_hasClass 13 = .ok (.ifCond .eq 7, 3) := by decide +kernel
theorem dX5_hasClass_16 : decode cX5_hasClass 16 = .ok (.iconst 1, 1) := by decide +kernel
theorem dX5_hasClass_17 : decode cX5_hasClass 17 = .ok (.goto 4, 3) := by decide +kernel
theorem dX5_hasClass_20 : decode cX5_hasClass 20 = .ok (.iconst 0, 1) := by decide +kernel
theorem dX5_hasClass_21 : decode cX5_hasClass 21 = .ok (.ireturn, 1) := by decide +kernel
theorem dX5_openBlocks_0 : decode cX5_openBlocks 0 = .ok (.aload_n 0, 1) := by decide +kernel
theorem dX5_openBlocks_1 : decode cX5_openBlocks 1 = .ok (.iload_n 1, 1) := by decide +kernel
theorem dX5_openBlocks_2 : decode cX5_openBlocks 2 = .ok (.invokevirtual 53, 3) := by decide +kernel
theorem dX5_openBlocks_5 : decode cX5_openBlocks 5 = .ok (.ifCond .eq 14, 3) := by decide +kernel
theorem dX5_openBlocks_8 : decode cX5_openBlocks 8 = .ok (.aload_n 0, 1) := by decide +kernel
theorem dX5_openBlocks_9 : decode cX5_openBlocks 9 = .ok (.getfield 19, 3) := by decide +kernel
theorem dX5_openBlocks_12 : decode cX5_openBlocks 12 = .ok (.iload_n 1, 1) := by decide +kernel
theorem dX5_openBlocks_13 : decode cX5_openBlocks 13 = .ok (.invokestatic 60, 3) := by decide +kernel
theorem dX5_openBlocks_16 : decode cX5_openBlocks 16 = .ok (.goto 4, 3) := by decide +kernel
theorem dX5_openBlocks_19 : decode cX5_openBlocks 19 = .ok (.iconst 0, 1) := by decide +kernel
theorem dX5_openBlocks_20 : decode cX5_openBlocks 20 = .ok (.ireturn, 1) := by decide +kernel
theorem dX5_roster_0 : decode cX5_roster 0 = .ok (.iload_n 1, 1) := by decide +kernel
theorem dX5_roster_1 : decode cX5_roster 1 = .ok (.ifCond .lt 22, 3) := by decide +kernel
theorem dX5_roster_4 : decode cX5_roster 4 = .ok (.iload_n 1, 1) := by decide +kernel
theorem dX5_roster_5 : decode cX5_roster 5 = .ok (.bipush 7, 2) := by decide +kernel
theorem dX5_roster_7 : decode cX5_roster 7 = .ok (.if_icmp .ge 16, 3) := by decide +kernel
theorem dX5_roster_10 : decode cX5_roster 10 = .ok (.iload_n 2, 1) := by decide +kernel
theorem dX5_roster_11 : decode cX5_roster 11 = .ok (.ifCond .lt 12, 3) := by decide +kernel
theorem dX5_roster_14 : decode cX5_roster 14 = .ok (.iload_n 2, 1) := by decide +kernel
theorem dX5_roster_15 : decode cX5_roster 15 = .ok (.iconst 4, 1) := by decide +kernel
theorem dX5_roster_16 : decode cX5_roster 16 = .ok (.if_icmp .ge 7, 3) := by decide +kernel
theorem dX5_roster_19 : decode cX5_roster 19 = .ok (.iconst 1, 1) := by decide +kernel
theorem dX5_roster_20 : decode cX5_roster 20 = .ok (.goto 4, 3) := by decide +kernel
theorem dX5_roster_23 : decode cX5_roster 23 = .ok (.iconst 0, 1) := by decide +kernel
theorem dX5_roster_24 : decode cX5_roster 24 = .ok (.istore_n 3, 1) := by decide +kernel
theorem dX5_roster_25 : decode cX5_roster 25 = .ok (.iload_n 3, 1) := by decide +kernel
theorem dX5_roster_26 : decode cX5_roster 26 = .ok (.ifCond .eq 18, 3) := by decide +kernel
theorem dX5_roster_29 : decode cX5_roster 29 = .ok (.aload_n 0, 1) := by decide +kernel
theorem dX5_roster_30 : decode cX5_roster 30 = .ok (.getfield 22, 3) := by decide +kernel
theorem dX5_roster_33 : decode cX5_roster 33 = .ok (.iload_n 1, 1) := by decide +kernel
theorem dX5_roster_34 : decode cX5_roster 34 = .ok (.iconst 4, 1) := by decide +kernel
theorem dX5_roster_35 : decode cX5_roster 35 = .ok (.imul, 1) := by decide +kernel
theorem dX5_roster_36 : decode cX5_roster 36 = .ok (.iload_n 2, 1) := by decide +kernel
theorem dX5_roster_37 : decode cX5_roster 37 = .ok (.iadd, 1) := by decide +kernel
theorem dX5_roster_38 : decode cX5_roster 38 = .ok (.invokestatic 60, 3) := by decide +kernel
theorem dX5_roster_41 : decode cX5_roster 41 = .ok (.goto 4, 3) := by decide +kernel
theorem dX5_roster_44 : decode cX5_roster 44 = .ok (.iconst 0, 1) := by decide +kernel
theorem dX5_roster_45 : decode cX5_roster 45 = .ok (.ireturn, 1) := by decide +kernel
theorem dX5_roomyBlocks_0 : decode cX5_roomyBlocks 0 = .ok (.aload_n 0, 1) := by decide +kernel
theorem dX5_roomyBlocks_1 : decode cX5_roomyBlocks 1 = .ok (.iload_n 1, 1) := by decide +kernel
theorem dX5_roomyBlocks_2 : decode cX5_roomyBlocks 2 = .ok (.invokevirtual 64, 3) := by decide +kernel
theorem dX5_roomyBlocks_5 : decode cX5_roomyBlocks 5 = .ok (.istore_n 3, 1) := by decide +kernel
theorem dX5_roomyBlocks_6 : decode cX5_roomyBlocks 6 = .ok (.iconst 0, 1) := by decide +kernel
theorem dX5_roomyBlocks_7 : decode cX5_roomyBlocks 7 = .ok (.istore 4, 2) := by decide +kernel
theorem dX5_roomyBlocks_9 : decode cX5_roomyBlocks 9 = .ok (.iconst 0, 1) := by decide +kernel
theorem dX5_roomyBlocks_10 : decode cX5_roomyBlocks 10 = .ok (.istore 5, 2) := by decide +kernel
theorem dX5_roomyBlocks_12 : decode cX5_roomyBlocks 12 = .ok (.iload 5, 2) := by decide +kernel
theorem dX5_roomyBlocks_14 : decode cX5_roomyBlocks 14 = .ok (.aload_n 0, 1) := by decide +kernel
theorem dX5_roomyBlocks_15 : decode cX5_roomyBlocks 15 = .ok (.getfield 9, 3) := by decide +kernel
theorem dX5_roomyBlocks_18 : decode cX5_roomyBlocks 18 = .ok (.if_icmp .ge 56, 3) := by decide +kernel
theorem dX5_roomyBlocks_21 : decode cX5_roomyBlocks 21 = .ok (.aload_n 0, 1) := by decide +kernel
theorem dX5_roomyBlocks_22 : decode cX5_roomyBlocks 22 = .ok (.iload_n 1, 1) := by decide +kernel
theorem dX5_roomyBlocks_23 : decode cX5_roomyBlocks 23 = .ok (.iload 5, 2) := by decide +kernel
theorem dX5_roomyBlocks_25 : decode cX5_roomyBlocks 25 = .ok (.invokevirtual 73, 3) := by decide +kernel
theorem dX5_roomyBlocks_28 : decode cX5_roomyBlocks 28 = .ok (.iload_n 2, 1) := by decide +kernel
theorem dX5_roomyBlocks_29 : decode cX5_roomyBlocks 29 = .ok (.iconst (-1), 1) := by decide +kernel
theorem dX5_roomyBlocks_30 : decode cX5_roomyBlocks 30 = .ok (.ixor, 1) := by decide +kernel
theorem dX5_roomyBlocks_31 : decode cX5_roomyBlocks 31 = .ok (.iand, 1) := by decide +kernel
theorem dX5_roomyBlocks_32 : decode cX5_roomyBlocks 32 = .ok (.invokestatic 68, 3) := by decide +kernel
theorem dX5_roomyBlocks_35 : decode cX5_roomyBlocks 35 = .ok (.istore 6, 2) := by decide +kernel
theorem dX5_roomyBlocks_37 : decode cX5_roomyBlocks 37 = .ok (.iload_n 3, 1) := by decide +kernel
theorem dX5_roomyBlocks_38 : decode cX5_roomyBlocks 38 = .ok (.iload 5, 2) := by decide +kernel
theorem dX5_roomyBlocks_40 : decode cX5_roomyBlocks 40 = .ok (.invokestatic 82, 3) := by decide +kernel
theorem dX5_roomyBlocks_43 : decode cX5_roomyBlocks 43 = .ok (.ifCond .eq 25, 3) := by decide +kernel
theorem dX5_roomyBlocks_46 : decode cX5_roomyBlocks 46 = .ok (.iload 6, 2) := by decide +kernel
theorem dX5_roomyBlocks_48 : decode cX5_roomyBlocks 48 = .ok (.aload_n 0, 1) := by decide +kernel
theorem dX5_roomyBlocks_49 : decode cX5_roomyBlocks 49 = .ok (.getfield 15, 3) := by decide +kernel
theorem dX5_roomyBlocks_52 : decode cX5_roomyBlocks 52 = .ok (.iload_n 1, 1) := by decide +kernel
theorem dX5_roomyBlocks_53 : decode cX5_roomyBlocks 53 = .ok (.invokestatic 60, 3) := by decide +kernel
theorem dX5_roomyBlocks_56 : decode cX5_roomyBlocks 56 = .ok (.if_icmp .ge 12, 3) := by decide +kernel
theorem dX5_roomyBlocks_59 : decode cX5_roomyBlocks 59 = .ok (.iload 4, 2) := by decide +kernel
theorem dX5_roomyBlocks_61 : decode cX5_roomyBlocks 61 = .ok (.iconst 1, 1) := by decide +kernel
theorem dX5_roomyBlocks_62 : decode cX5_roomyBlocks 62 = .ok (.iload 5, 2) := by decide +kernel
theorem dX5_roomyBlocks_64 : decode cX5_roomyBlocks 64 = .ok (.ishl, 1) := by decide +kernel
theorem dX5_roomyBlocks_65 : decode cX5_roomyBlocks 65 = .ok (.ior, 1) := by decide +kernel
theorem dX5_roomyBlocks_66 : decode cX5_roomyBlocks 66 = .ok (.istore 4, 2) := by decide +kernel
theorem dX5_roomyBlocks_68 : decode cX5_roomyBlocks 68 = .ok (.iinc 5 1, 3) := by decide +kernel
theorem dX5_roomyBlocks_71 : decode cX5_roomyBlocks 71 = .ok (.goto (-59), 3) := by decide +kernel
theorem dX5_roomyBlocks_74 : decode cX5_roomyBlocks 74 = .ok (.iload 4, 2) := by decide +kernel
theorem dX5_roomyBlocks_76 : decode cX5_roomyBlocks 76 = .ok (.ireturn, 1) := by decide +kernel
theorem dX5_newSubject_0 : decode cX5_newSubject 0 = .ok (.aload_n 0, 1) := by decide +kernel
theorem dX5_newSubject_1 : decode cX5_newSubject 1 = .ok (.getfield 15, 3) := by decide +kernel
theorem dX5_newSubject_4 : decode cX5_newSubject 4 = .ok (.aload_n 0, 1) := by decide +kernel
theorem dX5_newSubject_5 : decode cX5_newSubject 5 = .ok (.getfield 43, 3) := by decide +kernel
theorem dX5_newSubject_8 : decode cX5_newSubject 8 = .ok (.iload_n 1, 1) := by decide +kernel
theorem dX5_newSubject_9 : decode cX5_newSubject 9 = .ok (.invokestatic 86, 3) := by decide +kernel
theorem dX5_newSubject_12 : decode cX5_newSubject 12 = .ok (.aload_n 0, 1) := by decide +kernel
theorem dX5_newSubject_13 : decode cX5_newSubject 13 = .ok (.dup, 1) := by decide +kernel
theorem dX5_newSubject_14 : decode cX5_newSubject 14 = .ok (.getfield 43, 3) := by decide +kernel
theorem dX5_newSubject_17 : decode cX5_newSubject 17 = .ok (.iconst 1, 1) := by decide +kernel
theorem dX5_newSubject_18 : decode cX5_newSubject 18 = .ok (.iadd, 1) := by decide +kernel
theorem dX5_newSubject_19 : decode cX5_newSubject 19 = .ok (.putfield 43, 3) := by decide +kernel
theorem dX5_newSubject_22 : decode cX5_newSubject 22 = .ok (.aload_n 0, 1) := by decide +kernel
theorem dX5_newSubject_23 : decode cX5_newSubject 23 = .ok (.getfield 43, 3) := by decide +kernel
theorem dX5_newSubject_26 : decode cX5_newSubject 26 = .ok (.iconst 1, 1) := by decide +kernel
theorem dX5_newSubject_27 : decode cX5_newSubject 27 = .ok (.isub, 1) := by decide +kernel
theorem dX5_newSubject_28 : decode cX5_newSubject 28 = .ok (.ireturn, 1) := by decide +kernel
theorem dX5_setBlocks_0 : decode cX5_setBlocks 0 = .ok (.aload_n 0, 1) := by decide +kernel
theorem dX5_setBlocks_1 : decode cX5_setBlocks 1 = .ok (.getfield 9, 3) := by decide +kernel
theorem dX5_setBlocks_4 : decode cX5_setBlocks 4 = .ok (.istore_n 2, 1) := by decide +kernel
theorem dX5_setBlocks_5 : decode cX5_setBlocks 5 = .ok (.aload_n 0, 1) := by decide +kernel
theorem dX5_setBlocks_6 : decode cX5_setBlocks 6 = .ok (.iload_n 1, 1) := by decide +kernel
theorem dX5_setBlocks_7 : decode cX5_setBlocks 7 = .ok (.putfield 9, 3) := by decide +kernel
theorem dX5_setBlocks_10 : decode cX5_setBlocks 10 = .ok (.iload_n 2, 1) := by decide +kernel
theorem dX5_setBlocks_11 : decode cX5_setBlocks 11 = .ok (.ireturn, 1) := by decide +kernel
theorem dX5_setOpenBlocks_0 : decode cX5_setOpenBlocks 0 = .ok (.aload_n 0, 1) := by decide +kernel
theorem dX5_setOpenBlocks_1 : decode cX5_setOpenBlocks 1 = .ok (.getfield 19, 3) := by decide +kernel
theorem dX5_setOpenBlocks_4 : decode cX5_setOpenBlocks 4 = .ok (.iload_n 1, 1) := by decide +kernel
theorem dX5_setOpenBlocks_5 : decode cX5_setOpenBlocks 5 = .ok (.iload_n 2, 1) := by decide +kernel
theorem dX5_setOpenBlocks_6 : decode cX5_setOpenBlocks 6 = .ok (.invokestatic 86, 3) := by decide +kernel
theorem dX5_setOpenBlocks_9 : decode cX5_setOpenBlocks 9 = .ok (.iload_n 2, 1) := by decide +kernel
theorem dX5_setOpenBlocks_10 : decode cX5_setOpenBlocks 10 = .ok (.invokestatic 68, 3) := by decide +kernel
theorem dX5_setOpenBlocks_13 : decode cX5_setOpenBlocks 13 = .ok (.ireturn, 1) := by decide +kernel
theorem dX5_hasPupil_0 : decode cX5_hasPupil 0 = .ok (.iload_n 1, 1) := by decide +kernel
theorem dX5_hasPupil_1 : decode cX5_hasPupil 1 = .ok (.ifCond .lt 15, 3) := by decide +kernel
theorem dX5_hasPupil_4 : decode cX5_hasPupil 4 = .ok (.iload_n 1, 1) := by decide +kernel
theorem dX5_hasPupil_5 : decode cX5_hasPupil 5 = .ok (.aload_n 0, 1) := by decide +kernel
theorem dX5_hasPupil_6 : decode cX5_hasPupil 6 = .ok (.getfield 46, 3) := by decide +kernel
theorem dX5_hasPupil_9 : decode cX5_hasPupil 9 = .ok (.if_icmp .ge 7, 3) := by decide +kernel
theorem dX5_hasPupil_12 : decode cX5_hasPupil 12 = .ok (.iconst 1, 1) := by decide +kernel
theorem dX5_hasPupil_13 : decode cX5_hasPupil 13 = .ok (.goto 4, 3) := by decide +kernel
theorem dX5_hasPupil_16 : decode cX5_hasPupil 16 = .ok (.iconst 0, 1) := by decide +kernel
theorem dX5_hasPupil_17 : decode cX5_hasPupil 17 = .ok (.ireturn, 1) := by decide +kernel
theorem dX5_wish_0 : decode cX5_wish 0 = .ok (.iload_n 2, 1) := by decide +kernel
theorem dX5_wish_1 : decode cX5_wish 1 = .ok (.ifCond .lt 23, 3) := by decide +kernel
theorem dX5_wish_4 : decode cX5_wish 4 = .ok (.iload_n 2, 1) := by decide +kernel
theorem dX5_wish_5 : decode cX5_wish 5 = .ok (.iconst 3, 1) := by decide +kernel
theorem dX5_wish_6 : decode cX5_wish 6 = .ok (.if_icmp .ge 18, 3) := by decide +kernel
theorem dX5_wish_9 : decode cX5_wish 9 = .ok (.aload_n 0, 1) := by decide +kernel
theorem dX5_wish_10 : decode cX5_wish 10 = .ok (.getfield 28, 3) := by decide +kernel
theorem dX5_wish_13 : decode cX5_wish 13 = .ok (.iload_n 1, 1) := by decide +kernel
theorem dX5_wish_14 : decode cX5_wish 14 = .ok (.iconst 3, 1) := by decide +kernel
theorem dX5_wish_15 : decode cX5_wish 15 = .ok (.imul, 1) := by decide +kernel
theorem dX5_wish_16 : decode cX5_wish 16 = .ok (.iload_n 2, 1) := by decide +kernel
theorem dX5_wish_17 : decode cX5_wish 17 = .ok (.iadd, 1) := by decide +kernel
theorem dX5_wish_18 : decode cX5_wish 18 = .ok (.invokestatic 60, 3) := by decide +kernel
theorem dX5_wish_21 : decode cX5_wish 21 = .ok (.goto 4, 3) := by decide +kernel

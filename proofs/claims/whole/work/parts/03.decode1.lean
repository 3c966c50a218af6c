theorem dX6_modification_8 : decode cX6_modification 8 = .ok (.ireturn, 1) := by decide +kernel
theorem dX6_number_0 : decode cX6_number 0 = .ok (.aload_n 0, 1) := by decide +kernel
theorem dX6_number_1 : decode cX6_number 1 = .ok (.getfield 22, 3) := by decide +kernel
theorem dX6_number_4 : decode cX6_number 4 = .ok (.iload_n 1, 1) := by decide +kernel
theorem dX6_number_5 : decode cX6_number 5 = .ok (.iconst 3, 1) := by decide +kernel
theorem dX6_number_6 : decode cX6_number 6 = .ok (.imul, 1) := by decide +kernel
theorem dX6_number_7 : decode cX6_number 7 = .ok (.iload_n 2, 1) := by decide +kernel
theorem dX6_number_8 : decode cX6_number 8 = .ok (.iadd, 1) := by decide +kernel
theorem dX6_number_9 : decode cX6_number 9 = .ok (.invokestatic 25, 3) := by decide +kernel
theorem dX6_number_12 : decode cX6_number 12 = .ok (.ireturn, 1) := by decide +kernel
theorem dX6_parse_0 : decode cX6_parse 0 = .ok (.aload_n 0, 1) := by decide +kernel
theorem dX6_parse_1 : decode cX6_parse 1 = .ok (.iconst 0, 1) := by decide +kernel
theorem dX6_parse_2 : decode cX6_parse 2 = .ok (.putfield 29, 3) := by decide +kernel
theorem dX6_parse_5 : decode cX6_parse 5 = .ok (.aload_n 0, 1) := by decide +kernel
theorem dX6_parse_6 : decode cX6_parse 6 = .ok (.iconst 0, 1) := by decide +kernel
theorem dX6_parse_7 : decode cX6_parse 7 = .ok (.putfield 33, 3) := by decide +kernel
theorem dX6_parse_10 : decode cX6_parse 10 = .ok (.aload_n 0, 1) := by decide +kernel
theorem dX6_parse_11 : decode cX6_parse 11 = .ok (.getfield 33, 3) := by decide +kernel
theorem dX6_parse_14 : decode cX6_parse 14 = .ok (.bipush 12, 2) := by decide +kernel
theorem dX6_parse_16 : decode cX6_parse 16 = .ok (.if_icmp .ge 72, 3) := by decide +kernel
theorem dX6_parse_19 : decode cX6_parse 19 = .ok (.aload_n 0, 1) := by decide +kernel
theorem dX6_parse_20 : decode cX6_parse 20 = .ok (.aload_n 0, 1) := by decide +kernel
theorem dX6_parse_21 : decode cX6_parse 21 = .ok (.getfield 33, 3) := by decide +kernel
theorem dX6_parse_24 : decode cX6_parse 24 = .ok (.invokevirtual 36, 3) := by decide +kernel
theorem dX6_parse_27 : decode cX6_parse 27 = .ok (.ifCond .ne 8, 3) := by decide +kernel
theorem dX6_parse_30 : decode cX6_parse 30 = .ok (.aload_n 0, 1) := by decide +kernel
theorem dX6_parse_31 : decode cX6_parse 31 = .ok (.getfield 29, 3) := by decide +kernel
theorem dX6_parse_34 : decode cX6_parse 34 = .ok (.ireturn, 1) := by decide +kernel
theorem dX6_parse_35 : decode cX6_parse 35 = .ok (.aload_n 0, 1) := by decide +kernel
theorem dX6_parse_36 : decode cX6_parse 36 = .ok (.getfield 29, 3) := by decide +kernel
theorem dX6_parse_39 : decode cX6_parse 39 = .ok (.aload_n 0, 1) := by decide +kernel
theorem dX6_parse_40 : decode cX6_parse 40 = .ok (.getfield 12, 3) := by decide +kernel
theorem dX6_parse_43 : decode cX6_parse 43 = .ok (.invokevirtual 40, 3) := by decide +kernel
theorem dX6_parse_46 : decode cX6_parse 46 = .ok (.if_icmp .lt 15, 3) := by decide +kernel
theorem dX6_parse_49 : decode cX6_parse 49 = .ok (.aload_n 0, 1) := by decide +kernel
theorem dX6_parse_50 : decode cX6_parse 50 = .ok (.dup, 1) := by decide +kernel
theorem dX6_parse_51 : decode cX6_parse 51 = .ok (.getfield 33, 3) := by decide +kernel
theorem dX6_parse_54 : decode cX6_parse 54 = .ok (.iconst 1, 1) := by decide +kernel
theorem dX6_parse_55 : decode cX6_parse 55 = .ok (.iadd, 1) := by decide +kernel
theorem dX6_parse_56 : decode cX6_parse 56 = .ok (.putfield 33, 3) := by decide +kernel
theorem dX6_parse_59 : decode cX6_parse 59 = .ok (.iconst (-1), 1) := by decide +kernel
theorem dX6_parse_60 : decode cX6_parse 60 = .ok (.ireturn, 1) := by decide +kernel
theorem dX6_parse_61 : decode cX6_parse 61 = .ok (.aload_n 0, 1) := by decide +kernel
theorem dX6_parse_62 : decode cX6_parse 62 = .ok (.bipush 59, 2) := by decide +kernel
theorem dX6_parse_64 : decode cX6_parse 64 = .ok (.invokevirtual 44, 3) := by decide +kernel
theorem dX6_parse_67 : decode cX6_parse 67 = .ok (.ifCond .ne 8, 3) := by decide +kernel
theorem dX6_parse_70 : decode cX6_parse 70 = .ok (.aload_n 0, 1) := by decide +kernel
theorem dX6_parse_71 : decode cX6_parse 71 = .ok (.getfield 29, 3) := by decide +kernel
theorem dX6_parse_74 : decode cX6_parse 74 = .ok (.ireturn, 1) := by decide +kernel
theorem dX6_parse_75 : decode cX6_parse 75 = .ok (.aload_n 0, 1) := by decide +kernel
theorem dX6_parse_76 : decode cX6_parse 76 = .ok (.dup, 1) := by decide +kernel
theorem dX6_parse_77 : decode cX6_parse 77 = .ok (.getfield 33, 3) := by decide +kernel
theorem dX6_parse_80 : decode cX6_parse 80 = .ok (.iconst 1, 1) := by decide +kernel
theorem dX6_parse_81 : decode cX6_parse 81 = .ok (.iadd, 1) := by decide +kernel
theorem dX6_parse_82 : decode cX6_parse 82 = .ok (.putfield 33, 3) := by decide +kernel
theorem dX6_parse_85 : decode cX6_parse 85 = .ok (.goto (-75), 3) := by decide +kernel
theorem dX6_parse_88 : decode cX6_parse 88 = .ok (.aload_n 0, 1) := by decide +kernel
theorem dX6_parse_89 : decode cX6_parse 89 = .ok (.getfield 29, 3) := by decide +kernel
theorem dX6_parse_92 : decode cX6_parse 92 = .ok (.ireturn, 1) := by decide +kernel
theorem dX6_readCommand_0 : decode cX6_readCommand 0 = .ok (.aload_n 0, 1) := by decide +kernel
theorem dX6_readCommand_1 : decode cX6_readCommand 1 = .ok (.getfield 29, 3) := by decide +kernel
theorem dX6_readCommand_4 : decode cX6_readCommand 4 = .ok (.istore_n 2, 1) := by decide +kernel
theorem dX6_readCommand_5 : decode cX6_readCommand 5 = .ok (.aload_n 0, 1) := by decide +kernel
theorem dX6_readCommand_6 : decode cX6_readCommand 6 = .ok (.getfield 29, 3) := by decide +kernel
theorem dX6_readCommand_9 : decode cX6_readCommand 9 = .ok (.istore_n 3, 1) := by decide +kernel
theorem dX6_readCommand_10 : decode cX6_readCommand 10 = .ok (.iconst 0, 1) := by decide +kernel
theorem dX6_readCommand_11 : decode cX6_readCommand 11 = .ok (.istore 4, 2) := by decide +kernel
theorem dX6_readCommand_13 : decode cX6_readCommand 13 = .ok (.iload 4, 2) := by decide +kernel
theorem dX6_readCommand_15 : decode cX6_readCommand 15 = .ok (.bipush 12, 2) := by decide +kernel
theorem dX6_readCommand_17 : decode cX6_readCommand 17 = .ok (.if_icmp .ge 50, 3) := by decide +kernel
theorem dX6_readCommand_20 : decode cX6_readCommand 20 = .ok (.aload_n 0, 1) := by decide +kernel
theorem dX6_readCommand_21 : decode cX6_readCommand 21 = .ok (.iload_n 2, 1) := by decide +kernel
theorem dX6_readCommand_22 : decode cX6_readCommand 22 = .ok (.putfield 29, 3) := by decide +kernel
theorem dX6_readCommand_25 : decode cX6_readCommand 25 = .ok (.aload_n 0, 1) := by decide +kernel
theorem dX6_readCommand_26 : decode cX6_readCommand 26 = .ok (.iload 4, 2) := by decide +kernel
theorem dX6_readCommand_28 : decode cX6_readCommand 28 = .ok (.invokestatic 48, 3) := by decide +kernel
theorem dX6_readCommand_31 : decode cX6_readCommand 31 = .ok (.iload_n 1, 1) := by decide +kernel
theorem dX6_readCommand_32 : decode cX6_readCommand 32 = .ok (.iconst 3, 1) := by decide +kernel
theorem dX6_readCommand_33 : decode cX6_readCommand 33 = .ok (.imul, 1) := by decide +kernel
theorem dX6_readCommand_34 : decode cX6_readCommand 34 = .ok (.invokevirtual 52, 3) := by decide +kernel
theorem dX6_readCommand_37 : decode cX6_readCommand 37 = .ok (.ifCond .eq 15, 3) := by decide +kernel
theorem dX6_readCommand_40 : decode cX6_readCommand 40 = .ok (.aload_n 0, 1) := by decide +kernel
theorem dX6_readCommand_41 : decode cX6_readCommand 41 = .ok (.getfield 18, 3) := by decide +kernel
theorem dX6_readCommand_44 : decode cX6_readCommand 44 = .ok (.iload_n 1, 1) := by decide +kernel
theorem dX6_readCommand_45 : decode cX6_readCommand 45 = .ok (.iload 4, 2) := by decide +kernel
theorem dX6_readCommand_47 : decode cX6_readCommand 47 = .ok (.invokestatic 56, 3) := by decide +kernel
theorem dX6_readCommand_50 : decode cX6_readCommand 50 = .ok (.iconst 1, 1) := by decide +kernel
theorem dX6_readCommand_51 : decode cX6_readCommand 51 = .ok (.ireturn, 1) := by decide +kernel
theorem dX6_readCommand_52 : decode cX6_readCommand 52 = .ok (.iload_n 3, 1) := by decide +kernel
theorem dX6_readCommand_53 : decode cX6_readCommand 53 = .ok (.aload_n 0, 1) := by decide +kernel
theorem dX6_readCommand_54 : decode cX6_readCommand 54 = .ok (.getfield 29, 3) := by decide +kernel
theorem dX6_readCommand_57 : decode cX6_readCommand 57 = .ok (.invokestatic 60, 3) := by decide +kernel
theorem dX6_readCommand_60 : decode cX6_readCommand 60 = .ok (.istore_n 3, 1) := by decide +kernel
theorem dX6_readCommand_61 : decode cX6_readCommand 61 = .ok (.iinc 4 1, 3) := by decide +kernel
theorem dX6_readCommand_64 : decode cX6_readCommand 64 = .ok (.goto (-51), 3) := by decide +kernel
theorem dX6_readCommand_67 : decode cX6_readCommand 67 = .ok (.aload_n 0, 1) := by decide +kernel
theorem dX6_readCommand_68 : decode cX6_readCommand 68 = .ok (.iload_n 3, 1) := by decide +kernel
theorem dX6_readCommand_69 : decode cX6_readCommand 69 = .ok (.putfield 29, 3) := by decide +kernel
theorem dX6_readCommand_72 : decode cX6_readCommand 72 = .ok (.iconst 0, 1) := by decide +kernel
theorem dX6_readCommand_73 : decode cX6_readCommand 73 = .ok (.ireturn, 1) := by decide +kernel
theorem dX6_matches_0 : decode cX6_matches 0 = .ok (.iload_n 2, 1) := by decide +kernel
theorem dX6_matches_1 : decode cX6_matches 1 = .ok (.istore_n 3, 1) := by decide +kernel
theorem dX6_matches_2 : decode cX6_matches 2 = .ok (.iconst 0, 1) := by decide +kernel
theorem dX6_matches_3 : decode cX6_matches 3 = .ok (.istore 4, 2) := by decide +kernel
theorem dX6_matches_5 : decode cX6_matches 5 = .ok (.iload 4, 2) := by decide +kernel
theorem dX6_matches_7 : decode cX6_matches 7 = .ok (.aload_n 1, 1) := by decide +kernel
theorem dX6_matches_8 : decode cX6_matches 8 = .ok (.invokevirtual 66, 3) := by decide +kernel
theorem dX6_matches_11 : decode cX6_matches 11 = .ok (.if_icmp .ge 90, 3) := by decide +kernel
theorem dX6_matches_14 : decode cX6_matches 14 = .ok (.aload_n 1, 1) := by decide +kernel
theorem dX6_matches_15 : decode cX6_matches 15 = .ok (.iload 4, 2) := by decide +kernel
theorem dX6_matches_17 : decode cX6_matches 17 = .ok (.invokevirtual 69, 3) := by decide +kernel
theorem dX6_matches_20 : decode cX6_matches 20 = .ok (.istore 5, 2) := by decide +kernel
theorem dX6_matches_22 : decode cX6_matches 22 = .ok (.iload 5, 2) := by decide +kernel
theorem dX6_matches_24 : decode cX6_matches 24 = .ok (.bipush 35, 2) := by decide +kernel
theorem dX6_matches_26 : decode cX6_matches 26 = .ok (.if_icmp .eq 10, 3) := by decide +kernel
theorem dX6_matches_29 : decode cX6_matches 29 = .ok (.iload 5, 2) := by decide +kernel
theorem dX6_matches_31 : decode cX6_matches 31 = .ok (.bipush 64, 2) := by decide +kernel
theorem dX6_matches_33 : decode cX6_matches 33 = .ok (.if_icmp .ne 7, 3) := by decide +kernel
theorem dX6_matches_36 : decode cX6_matches 36 = .ok (.iconst 1, 1) := by decide +kernel
theorem dX6_matches_37 : decode cX6_matches 37 = .ok (.goto 4, 3) := by decide +kernel
theorem dX6_matches_40 : decode cX6_matches 40 = .ok (.iconst 0, 1) := by decide +kernel
theorem dX6_matches_41 : decode cX6_matches 41 = .ok (.istore 6, 2) := by decide +kernel
theorem dX6_matches_43 : decode cX6_matches 43 = .ok (.iload 6, 2) := by decide +kernel
theorem dX6_matches_45 : decode cX6_matches 45 = .ok (.ifCond .eq 26, 3) := by decide +kernel
theorem dX6_matches_48 : decode cX6_matches 48 = .ok (.aload_n 0, 1) := by decide +kernel
theorem dX6_matches_49 : decode cX6_matches 49 = .ok (.iload_n 3, 1) := by decide +kernel
theorem dX6_matches_50 : decode cX6_matches 50 = .ok (.iload 5, 2) := by decide +kernel
theorem dX6_matches_52 : decode cX6_matches 52 = .ok (.bipush 64, 2) := by decide +kernel
theorem dX6_matches_54 : decode cX6_matches 54 = .ok (.if_icmp .ne 7, 3) := by decide +kernel
theorem dX6_matches_57 : decode cX6_matches 57 = .ok (.iconst 1, 1) := by decide +kernel
theorem dX6_matches_58 : decode cX6_matches 58 = .ok (.goto 4, 3) := by decide +kernel
theorem dX6_matches_61 : decode cX6_matches 61 = .ok (.iconst 0, 1) := by decide +kernel
theorem dX6_matches_62 : decode cX6_matches 62 = .ok (.invokevirtual 73, 3) := by decide +kernel
theorem dX6_matches_65 : decode cX6_matches 65 = .ok (.ifCond .ne 17, 3) := by decide +kernel
theorem dX6_matches_68 : decode cX6_matches 68 = .ok (.goto 12, 3) := by decide +kernel
theorem dX6_matches_71 : decode cX6_matches 71 = .ok (.aload_n 0, 1) := by decide +kernel
theorem dX6_matches_72 : decode cX6_matches 72 = .ok (.iload 5, 2) := by decide +kernel
theorem dX6_matches_74 : decode cX6_matches 74 = .ok (.invokevirtual 44, 3) := by decide +kernel
theorem dX6_matches_77 : decode cX6_matches 77 = .ok (.ifCond .ne 5, 3) := by decide +kernel
theorem dX6_matches_80 : decode cX6_matches 80 = .ok (.iconst 0, 1) := by decide +kernel
theorem dX6_matches_81 : decode cX6_matches 81 = .ok (.ireturn, 1) := by decide +kernel
theorem dX6_matches_82 : decode cX6_matches 82 = .ok (.iload_n 3, 1) := by decide +kernel
theorem dX6_matches_83 : decode cX6_matches 83 = .ok (.iload 6, 2) := by decide +kernel
theorem dX6_matches_85 : decode cX6_matches 85 = .ok (.ifCond .eq 7, 3) := by decide +kernel
theorem dX6_matches_88 : decode cX6_matches 88 = .ok (.iconst 1, 1) := by decide +kernel
theorem dX6_matches_89 : decode cX6_matches 89 = .ok (.goto 4, 3) := by decide +kernel
theorem dX6_matches_92 : decode cX6_matches 92 = .ok (.iconst 0, 1) := by decide +kernel
theorem dX6_matches_93 : decode cX6_matches 93 = .ok (.iadd, 1) := by decide +kernel
theorem dX6_matches_94 : decode cX6_matches 94 = .ok (.istore_n 3, 1) := by decide +kernel
theorem dX6_matches_95 : decode cX6_matches 95 = .ok (.iinc 4 1, 3) := by decide +kernel
theorem dX6_matches_98 : decode cX6_matches 98 = .ok (.goto (-93), 3) := by decide +kernel
theorem dX6_matches_101 : decode cX6_matches 101 = .ok (.iconst 1, 1) := by decide +kernel
theorem dX6_matches_102 : decode cX6_matches 102 = .ok (.ireturn, 1) := by decide +kernel
theorem dX6_readNumber_0 : decode cX6_readNumber 0 = .ok (.aload_n 0, 1) := by decide +kernel
theorem dX6_readNumber_1 : decode cX6_readNumber 1 = .ok (.invokevirtual 77, 3) := by decide +kernel
theorem dX6_readNumber_4 : decode cX6_readNumber 4 = .ok (.istore_n 3, 1) := by decide +kernel
theorem dX6_readNumber_5 : decode cX6_readNumber 5 = .ok (.iload_n 3, 1) := by decide +kernel
theorem dX6_readNumber_6 : decode cX6_readNumber 6 = .ok (.iconst (-1), 1) := by decide +kernel
theorem dX6_readNumber_7 : decode cX6_readNumber 7 = .ok (.if_icmp .ne 5, 3) := by decide +kernel
theorem dX6_readNumber_10 : decode cX6_readNumber 10 = .ok (.iconst 0, 1) := by decide +kernel
theorem dX6_readNumber_11 : decode cX6_readNumber 11 = .ok (.ireturn, 1) := by decide +kernel
theorem dX6_readNumber_12 : decode cX6_readNumber 12 = .ok (.aload_n 0, 1) := by decide +kernel
theorem dX6_readNumber_13 : decode cX6_readNumber 13 = .ok (.dup, 1) := by decide +kernel
theorem dX6_readNumber_14 : decode cX6_readNumber 14 = .ok (.getfield 29, 3) := by decide +kernel
theorem dX6_readNumber_17 : decode cX6_readNumber 17 = .ok (.iconst 1, 1) := by decide +kernel
theorem dX6_readNumber_18 : decode cX6_readNumber 18 = .ok (.iadd, 1) := by decide +kernel
theorem dX6_readNumber_19 : decode cX6_readNumber 19 = .ok (.putfield 29, 3) := by decide +kernel
theorem dX6_readNumber_22 : decode cX6_readNumber 22 = .ok (.iload_n 2, 1) := by decide +kernel
theorem dX6_readNumber_23 : decode cX6_readNumber 23 = .ok (.ifCond .eq 10, 3) := by decide +kernel
theorem dX6_readNumber_26 : decode cX6_readNumber 26 = .ok (.aload_n 0, 1) := by decide +kernel
theorem dX6_readNumber_27 : decode cX6_readNumber 27 = .ok (.invokevirtual 77, 3) := by decide +kernel
theorem dX6_readNumber_30 : decode cX6_readNumber 30 = .ok (.goto 4, 3) := by decide +kernel
theorem dX6_readNumber_33 : decode cX6_readNumber 33 = .ok (.iconst (-1), 1) := by decide +kernel
theorem dX6_readNumber_34 : decode cX6_readNumber 34 = .ok (.istore 4, 2) := by decide +kernel
theorem dX6_readNumber_36 : decode cX6_readNumber 36 = .ok (.iload 4, 2) := by decide +kernel
theorem dX6_readNumber_38 : decode cX6_readNumber 38 = .ok (.iconst (-1), 1) := by decide +kernel
theorem dX6_readNumber_39 : decode cX6_readNumber 39 = .ok (.if_icmp .eq 21, 3) := by decide +kernel
theorem dX6_readNumber_42 : decode cX6_readNumber 42 = .ok (.iload_n 3, 1) := by decide +kernel
theorem dX6_readNumber_43 : decode cX6_readNumber 43 = .ok (.bipush 10, 2) := by decide +kernel
theorem dX6_readNumber_45 : decode cX6_readNumber 45 = .ok (.imul, 1) := by decide +kernel
theorem dX6_readNumber_46 : decode cX6_readNumber 46 = .ok (.iload 4, 2) := by decide +kernel
theorem dX6_readNumber_48 : decode cX6_readNumber 48 = .ok (.iadd, 1) := by decide +kernel
theorem dX6_readNumber_49 : decode cX6_readNumber 49 = .ok (.istore_n 3, 1) := by decide +kernel
theorem dX6_readNumber_50 : decode cX6_readNumber 50 = .ok (.aload_n 0, 1) := by decide +kernel
theorem dX6_readNumber_51 : decode cX6_readNumber 51 = .ok (.dup, 1) := by decide +kernel
theorem dX6_readNumber_52 : decode cX6_readNumber 52 = .ok (.getfield 29, 3) := by decide +kernel
theorem dX6_readNumber_55 : decode cX6_readNumber 55 = .ok (.iconst 1, 1) := by decide +kernel
theorem dX6_readNumber_56 : decode cX6_readNumber 56 = .ok (.iadd, 1) := by decide +kernel
theorem dX6_readNumber_57 : decode cX6_readNumber 57 = .ok (.putfield 29, 3) := by decide +kernel
theorem dX6_readNumber_60 : decode cX6_readNumber 60 = .ok (.aload_n 0, 1) := by decide +kernel
theorem dX6_readNumber_61 : decode cX6_readNumber 61 = .ok (.getfield 22, 3) := by decide +kernel
theorem dX6_readNumber_64 : decode cX6_readNumber 64 = .ok (.iload_n 1, 1) := by decide +kernel
theorem dX6_readNumber_65 : decode cX6_readNumber 65 = .ok (.iload_n 3, 1) := by decide +kernel
theorem dX6_readNumber_66 : decode cX6_readNumber 66 = .ok (.invokestatic 56, 3) := by decide +kernel
theorem dX6_readNumber_69 : decode cX6_readNumber 69 = .ok (.iconst 1, 1) := by decide +kernel
theorem dX6_readNumber_70 : decode cX6_readNumber 70 = .ok (.ireturn, 1) := by decide +kernel
theorem dX6_digitHere_0 : decode cX6_digitHere 0 = .ok (.aload_n 0, 1) := by decide +kernel
theorem dX6_digitHere_1 : decode cX6_digitHere 1 = .ok (.getfield 29, 3) := by decide +kernel
theorem dX6_digitHere_4 : decode cX6_digitHere 4 = .ok (.ifCond .lt 31, 3) := by decide +kernel
theorem dX6_digitHere_7 : decode cX6_digitHere 7 = .ok (.aload_n 0, 1) := by decide +kernel
theorem dX6_digitHere_8 : decode cX6_digitHere 8 = .ok (.getfield 29, 3) := by decide +kernel
theorem dX6_digitHere_11 : decode cX6_digitHere 11 = .ok (.aload_n 0, 1) := by decide +kernel
theorem dX6_digitHere_12 : decode cX6_digitHere 12 = .ok (.getfield 12, 3) := by decide +kernel
theorem dX6_digitHere_15 : decode cX6_digitHere 15 = .ok (.invokevirtual 40, 3) := by decide +kernel
theorem dX6_digitHere_18 : decode cX6_digitHere 18 = .ok (.if_icmp .ge 17, 3) := by decide +kernel
theorem dX6_digitHere_21 : decode cX6_digitHere 21 = .ok (.aload_n 0, 1) := by decide +kernel
theorem dX6_digitHere_22 : decode cX6_digitHere 22 = .ok (.getfield 12, 3) := by decide +kernel
theorem dX6_digitHere_25 : decode cX6_digitHere 25 = .ok (.aload_n 0, 1) := by decide +kernel
theorem dX6_digitHere_26 : decode cX6_digitHere 26 = .ok (.getfield 29, 3) := by decide +kernel
theorem dX6_digitHere_29 : decode cX6_digitHere 29 = .ok (.invokevirtual 80, 3) := by decide +kernel
theorem dX6_digitHere_32 : decode cX6_digitHere 32 = .ok (.goto 5, 3) := by decide +kernel
theorem dX6_digitHere_35 : decode cX6_digitHere 35 = .ok (.bipush 32, 2) := by decide +kernel
theorem dX6_digitHere_37 : decode cX6_digitHere 37 = .ok (.istore_n 1, 1) := by decide +kernel
theorem dX6_digitHere_38 : decode cX6_digitHere 38 = .ok (.iload_n 1, 1) := by decide +kernel
theorem dX6_digitHere_39 : decode cX6_digitHere 39 = .ok (.bipush 48, 2) := by decide +kernel
theorem dX6_digitHere_41 : decode cX6_digitHere 41 = .ok (.if_icmp .lt 16, 3) := by decide +kernel
theorem dX6_digitHere_44 : decode cX6_digitHere 44 = .ok (.iload_n 1, 1) := by decide +kernel
theorem dX6_digitHere_45 : decode cX6_digitHere 45 = .ok (.bipush 57, 2) := by decide +kernel
theorem dX6_digitHere_47 : decode cX6_digitHere 47 = .ok (.if_icmp .gt 10, 3) := by decide +kernel
theorem dX6_digitHere_50 : decode cX6_digitHere 50 = .ok (.iload_n 1, 1) := by decide +kernel
theorem dX6_digitHere_51 : decode cX6_digitHere 51 = .ok (.bipush 48, 2) := by decide +kernel
theorem dX6_digitHere_53 : decode cX6_digitHere 53 = .ok (.isub, 1) := by decide +kernel
theorem dX6_digitHere_54 : decode cX6_digitHere 54 = .ok (.goto 4, 3) := by decide +kernel
theorem dX6_digitHere_57 : decode cX6_digitHere 57 = .ok (.iconst (-1), 1) := by decide +kernel
theorem dX6_digitHere_58 : decode cX6_digitHere 58 = .ok (.ireturn, 1) := by decide +kernel
theorem dX6_skip_0 : decode cX6_skip 0 = .ok (.aload_n 0, 1) := by decide +kernel
theorem dX6_skip_1 : decode cX6_skip 1 = .ok (.getfield 29, 3) := by decide +kernel
theorem dX6_skip_4 : decode cX6_skip 4 = .ok (.ifCond .lt 36, 3) := by decide +kernel
theorem dX6_skip_7 : decode cX6_skip 7 = .ok (.aload_n 0, 1) := by decide +kernel
theorem dX6_skip_8 : decode cX6_skip 8 = .ok (.getfield 29, 3) := by decide +kernel
theorem dX6_skip_11 : decode cX6_skip 11 = .ok (.aload_n 0, 1) := by decide +kernel
theorem dX6_skip_12 : decode cX6_skip 12 = .ok (.getfield 12, 3) := by decide +kernel
theorem dX6_skip_15 : decode cX6_skip 15 = .ok (.invokevirtual 40, 3) := by decide +kernel
theorem dX6_skip_18 : decode cX6_skip 18 = .ok (.if_icmp .ge 22, 3) := by decide +kernel
theorem dX6_skip_21 : decode cX6_skip 21 = .ok (.aload_n 0, 1) := by decide +kernel
theorem dX6_skip_22 : decode cX6_skip 22 = .ok (.getfield 12, 3) := by decide +kernel
theorem dX6_skip_25 : decode cX6_skip 25 = .ok (.aload_n 0, 1) := by decide +kernel
theorem dX6_skip_26 : decode cX6_skip 26 = .ok (.getfield 29, 3) := by decide +kernel
theorem dX6_skip_29 : decode cX6_skip 29 = .ok (.invokevirtual 80, 3) := by decide +kernel
theorem dX6_skip_32 : decode cX6_skip 32 = .ok (.iload_n 1, 1) := by decide +kernel
theorem dX6_skip_33 : decode cX6_skip 33 = .ok (.if_icmp .ne 7, 3) := by decide +kernel
theorem dX6_skip_36 : decode cX6_skip 36 = .ok (.iconst 1, 1) := by decide +kernel
theorem dX6_skip_37 : decode cX6_skip 37 = .ok (.goto 4, 3) := by decide +kernel
theorem dX6_skip_40 : decode cX6_skip 40 = .ok (.iconst 0, 1) := by decide +kernel
theorem dX6_skip_41 : decode cX6_skip 41 = .ok (.istore_n 2, 1) := by decide +kernel
theorem dX6_skip_42 : decode cX6_skip 42 = .ok (.aload_n 0, 1) := by decide +kernel
theorem dX6_skip_43 : decode cX6_skip 43 = .ok (.dup, 1) := by decide +kernel
theorem dX6_skip_44 : decode cX6_skip 44 = .ok (.getfield 29, 3) := by decide +kernel
theorem dX6_skip_47 : decode cX6_skip 47 = .ok (.iload_n 2, 1) := by decide +kernel
theorem dX6_skip_48 : decode cX6_skip 48 = .ok (.ifCond .eq 7, 3) := by decide +kernel
theorem dX6_skip_51 : decode cX6_skip 51 = .ok (.iconst 1, 1) := by decide +kernel
theorem dX6_skip_52 : decode cX6_skip 52 = .ok (.goto 4, 3) := by decide +kernel
theorem dX6_skip_55 : decode cX6_skip 55 = .ok (.iconst 0, 1) := by decide +kernel
theorem dX6_skip_56 : decode cX6_skip 56 = .ok (.iadd, 1) := by decide +kernel
theorem dX6_skip_57 : decode cX6_skip 57 = .ok (.putfield 29, 3) := by decide +kernel
theorem dX6_skip_60 : decode cX6_skip 60 = .ok (.iload_n 2, 1) := by decide +kernel
theorem dX6_skip_61 : decode cX6_skip 61 = .ok (.ireturn, 1) := by decide +kernel
theorem dX6_formOf_0 : decode cX6_formOf 0 = .ok (.iload_n 0, 1) := by decide +kernel
theorem dX6_formOf_1 : decode cX6_formOf 1 = .ok (.tableswitch 92 0 10 #[59, 62, 65, 68, 71, 74, 77, 80, 83, 86, 89], 59) := by decide +kernel
theorem dX6_formOf_60 : decode cX6_formOf 60 = .ok (.ldc 81, 2) := by decide +kernel
theorem dX6_formOf_62 : decode cX6_formOf 62 = .ok (.areturn, 1) := by decide +kernel
theorem dX6_formOf_63 : decode cX6_formOf 63 = .ok (.ldc 83, 2) := by decide +kernel
theorem dX6_formOf_65 : decode cX6_formOf 65 = .ok (.areturn, 1) := by decide +kernel
theorem dX6_formOf_66 : decode cX6_formOf 66 = .ok (.ldc 85, 2) := by decide +kernel
theorem dX6_formOf_68 : decode cX6_formOf 68 = .ok (.areturn, 1) := by decide +kernel
theorem dX6_formOf_69 : decode cX6_formOf 69 = .ok (.ldc 87, 2) := by decide +kernel
theorem dX6_formOf_71 : decode cX6_formOf 71 = .ok (.areturn, 1) := by decide +kernel
theorem dX6_formOf_72 : decode cX6_formOf 72 = .ok (.ldc 89, 2) := by decide +kernel
theorem dX6_formOf_74 : decode cX6_formOf 74 = .ok (.areturn, 1) := by decide +kernel
theorem dX6_formOf_75 : decode cX6_formOf 75 = .ok (.ldc 91, 2) := by decide +kernel
theorem dX6_formOf_77 : decode cX6_formOf 77 = .ok (.areturn, 1) := by decide +kernel
theorem dX6_formOf_78 : decode cX6_formOf 78 = .ok (.ldc 93, 2) := by decide +kernel
theorem dX6_formOf_80 : decode cX6_formOf 80 = .ok (.areturn, 1) := by decide +kernel
theorem dX6_formOf_81 : decode cX6_formOf 81 = .ok (.ldc 95, 2) := by decide +kernel
theorem dX6_formOf_83 : decode cX6_formOf 83 = .ok (.areturn, 1) := by decide +kernel
theorem dX6_formOf_84 : decode cX6_formOf 84 = .ok (.ldc 97, 2) := by decide +kernel
theorem dX6_formOf_86 : decode cX6_formOf 86 = .ok (.areturn, 1) := by decide +kernel
theorem dX6_formOf_87 : decode cX6_formOf 87 = .ok (.ldc 99, 2) := by decide +kernel
theorem dX6_formOf_89 : decode cX6_formOf 89 = .ok (.areturn, 1) := by decide +kernel
theorem dX6_formOf_90 : decode cX6_formOf 90 = .ok (.ldc 101, 2) := by decide +kernel
theorem dX6_formOf_92 : decode cX6_formOf 92 = .ok (.areturn, 1) := by decide +kernel
theorem dX6_formOf_93 : decode cX6_formOf 93 = .ok (.ldc 103, 2) := by decide +kernel
theorem dX6_formOf_95 : decode cX6_formOf 95 = .ok (.areturn, 1) := by decide +kernel
theorem dX7_init_0 : decode cX7_init 0 = .ok (.aload_n 0, 1) := by decide +kernel
theorem dX7_init_1 : decode cX7_init 1 = .ok (.invokespecial 3, 3) := by decide +kernel
theorem dX7_init_4 : decode cX7_init 4 = .ok (.aload_n 0, 1) := by decide +kernel
theorem dX7_init_5 : decode cX7_init 5 = .ok (.new 9, 3) := by decide +kernel
theorem dX7_init_8 : decode cX7_init 8 = .ok (.dup, 1) := by decide +kernel
theorem dX7_init_9 : decode cX7_init 9 = .ok (.invokespecial 11, 3) := by decide +kernel
theorem dX7_init_12 : decode cX7_init 12 = .ok (.putfield 12, 3) := by decide +kernel
theorem dX7_init_15 : decode cX7_init 15 = .ok (.aload_n 0, 1) := by decide +kernel
theorem dX7_init_16 : decode cX7_init 16 = .ok (.new 16, 3) := by decide +kernel
theorem dX7_init_19 : decode cX7_init 19 = .ok (.dup, 1) := by decide +kernel
theorem dX7_init_20 : decode cX7_init 20 = .ok (.aload_n 0, 1) := by decide +kernel
theorem dX7_init_21 : decode cX7_init 21 = .ok (.getfield 12, 3) := by decide +kernel
theorem dX7_init_24 : decode cX7_init 24 = .ok (.invokespecial 18, 3) := by decide +kernel
theorem dX7_init_27 : decode cX7_init 27 = .ok (.putfield 21, 3) := by decide +kernel
theorem dX7_init_30 : decode cX7_init 30 = .ok (.aload_n 0, 1) := by decide +kernel
theorem dX7_init_31 : decode cX7_init 31 = .ok (.new 25, 3) := by decide +kernel
theorem dX7_init_34 : decode cX7_init 34 = .ok (.dup, 1) := by decide +kernel
theorem dX7_init_35 : decode cX7_init 35 = .ok (.aload_n 0, 1) := by decide +kernel
theorem dX7_init_36 : decode cX7_init 36 = .ok (.getfield 12, 3) := by decide +kernel
theorem dX7_init_39 : decode cX7_init 39 = .ok (.invokespecial 27, 3) := by decide +kernel
theorem dX7_init_42 : decode cX7_init 42 = .ok (.putfield 28, 3) := by decide +kernel
theorem dX7_init_45 : decode cX7_init 45 = .ok (.aload_n 0, 1) := by decide +kernel
theorem dX7_init_46 : decode cX7_init 46 = .ok (.new 32, 3) := by decide +kernel
theorem dX7_init_49 : decode cX7_init 49 = .ok (.dup, 1) := by decide +kernel
theorem dX7_init_50 : decode cX7_init 50 = .ok (.aload_n 0, 1) := by decide +kernel
theorem dX7_init_51 : decode cX7_init 51 = .ok (.getfield 12, 3) := by decide +kernel
theorem dX7_init_54 : decode cX7_init 54 = .ok (.invokespecial 34, 3) := by decide +kernel
theorem dX7_init_57 : decode cX7_init 57 = .ok (.putfield 35, 3) := by decide +kernel
theorem dX7_init_60 : decode cX7_init 60 = .ok (.aload_n 0, 1) := by decide +kernel
theorem dX7_init_61 : decode cX7_init 61 = .ok (.new 39, 3) := by decide +kernel
theorem dX7_init_64 : decode cX7_init 64 = .ok (.dup, 1) := by decide +kernel
theorem dX7_init_65 : decode cX7_init 65 = .ok (.aload_n 0, 1) := by decide +kernel
theorem dX7_init_66 : decode cX7_init 66 = .ok (.getfield 12, 3) := by decide +kernel
theorem dX7_init_69 : decode cX7_init 69 = .ok (.aload_n 0, 1) := by decide +kernel
theorem dX7_init_70 : decode cX7_init 70 = .ok (.getfield 21, 3) := by decide +kernel
theorem dX7_init_73 : decode cX7_init 73 = .ok (.aload_n 0, 1) := by decide +kernel
theorem dX7_init_74 : decode cX7_init 74 = .ok (.getfield 28, 3) := by decide +kernel
theorem dX7_init_77 : decode cX7_init 77 = .ok (.aload_n 0, 1) := by decide +kernel
theorem dX7_init_78 : decode cX7_init 78 = .ok (.getfield 35, 3) := by decide +kernel
theorem dX7_init_81 : decode cX7_init 81 = .ok (.invokespecial 41, 3) := by decide +kernel
theorem dX7_init_84 : decode cX7_init 84 = .ok (.putfield 44, 3) := by decide +kernel
theorem dX7_init_87 : decode cX7_init 87 = .ok (.aload_n 0, 1) := by decide +kernel
theorem dX7_init_88 : decode cX7_init 88 = .ok (.new 48, 3) := by decide +kernel
theorem dX7_init_91 : decode cX7_init 91 = .ok (.dup, 1) := by decide +kernel
theorem dX7_init_92 : decode cX7_init 92 = .ok (.invokespecial 50, 3) := by decide +kernel
theorem dX7_init_95 : decode cX7_init 95 = .ok (.putfield 51, 3) := by decide +kernel
theorem dX7_init_98 : decode cX7_init 98 = .ok (.aload_n 0, 1) := by decide +kernel
theorem dX7_init_99 : decode cX7_init 99 = .ok (.new 9, 3) := by decide +kernel
theorem dX7_init_102 : decode cX7_init 102 = .ok (.dup, 1) := by decide +kernel
theorem dX7_init_103 : decode cX7_init 103 = .ok (.invokespecial 11, 3) := by decide +kernel
theorem dX7_init_106 : decode cX7_init 106 = .ok (.putfield 55, 3) := by decide +kernel
theorem dX7_init_109 : decode cX7_init 109 = .ok (.aload_n 0, 1) := by decide +kernel
theorem dX7_init_110 : decode cX7_init 110 = .ok (.new 9, 3) := by decide +kernel
theorem dX7_init_113 : decode cX7_init 113 = .ok (.dup, 1) := by decide +kernel
theorem dX7_init_114 : decode cX7_init 114 = .ok (.invokespecial 11, 3) := by decide +kernel
theorem dX7_init_117 : decode cX7_init 117 = .ok (.putfield 58, 3) := by decide +kernel
theorem dX7_init_120 : decode cX7_init 120 = .ok (.aload_n 0, 1) := by decide +kernel
theorem dX7_init_121 : decode cX7_init 121 = .ok (.new 61, 3) := by decide +kernel
theorem dX7_init_124 : decode cX7_init 124 = .ok (.dup, 1) := by decide +kernel
theorem dX7_init_125 : decode cX7_init 125 = .ok (.invokespecial 63, 3) := by decide +kernel
theorem dX7_init_128 : decode cX7_init 128 = .ok (.putfield 64, 3) := by decide +kernel
theorem dX7_init_131 : decode cX7_init 131 = .ok (.aload_n 0, 1) := by decide +kernel
theorem dX7_init_132 : decode cX7_init 132 = .ok (.new 68, 3) := by decide +kernel
theorem dX7_init_135 : decode cX7_init 135 = .ok (.dup, 1) := by decide +kernel
theorem dX7_init_136 : decode cX7_init 136 = .ok (.invokespecial 70, 3) := by decide +kernel
theorem dX7_init_139 : decode cX7_init 139 = .ok (.putfield 71, 3) := by decide +kernel
theorem dX7_init_142 : decode cX7_init 142 = .ok (.aload_n 0, 1) := by decide +kernel
theorem dX7_init_143 : decode cX7_init 143 = .ok (.iconst (-1), 1) := by decide +kernel
theorem dX7_init_144 : decode cX7_init 144 = .ok (.putfield 75, 3) := by decide +kernel
theorem dX7_init_147 : decode cX7_init 147 = .ok (.aload_n 0, 1) := by decide +kernel
theorem dX7_init_148 : decode cX7_init 148 = .ok (.iconst (-1), 1) := by decide +kernel
theorem dX7_init_149 : decode cX7_init 149 = .ok (.putfield 79, 3) := by decide +kernel
theorem dX7_init_152 : decode cX7_init 152 = .ok (.aload_n 0, 1) := by decide +kernel
theorem dX7_init_153 : decode cX7_init 153 = .ok (.iconst 0, 1) := by decide +kernel
theorem dX7_init_154 : decode cX7_init 154 = .ok (.putfield 82, 3) := by decide +kernel
theorem dX7_init_157 : decode cX7_init 157 = .ok (.return_, 1) := by decide +kernel
theorem dX7_addSubject_0 : decode cX7_addSubject 0 = .ok (.aload_n 0, 1) := by decide +kernel
theorem dX7_addSubject_1 : decode cX7_addSubject 1 = .ok (.iconst 0, 1) := by decide +kernel
theorem dX7_addSubject_2 : decode cX7_addSubject 2 = .ok (.iload_n 1, 1) := by decide +kernel
theorem dX7_addSubject_3 : decode cX7_addSubject 3 = .ok (.iconst 0, 1) := by decide +kernel
theorem dX7_addSubject_4 : decode cX7_addSubject 4 = .ok (.iconst 0, 1) := by decide +kernel
theorem dX7_addSubject_5 : decode cX7_addSubject 5 = .ok (.invokevirtual 85, 3) := by decide +kernel
theorem dX7_addSubject_8 : decode cX7_addSubject 8 = .ok (.ireturn, 1) := by decide +kernel
theorem dX7_setSize_0 : decode cX7_setSize 0 = .ok (.aload_n 0, 1) := by decide +kernel
theorem dX7_setSize_1 : decode cX7_setSize 1 = .ok (.getfield 44, 3) := by decide +kernel
theorem dX7_setSize_4 : decode cX7_setSize 4 = .ok (.iload_n 1, 1) := by decide +kernel
theorem dX7_setSize_5 : decode cX7_setSize 5 = .ok (.iload_n 2, 1) := by decide +kernel
theorem dX7_setSize_6 : decode cX7_setSize 6 = .ok (.invokevirtual 89, 3) := by decide +kernel
theorem dX7_setSize_9 : decode cX7_setSize 9 = .ok (.invokestatic 93, 3) := by decide +kernel
theorem dX7_setSize_12 : decode cX7_setSize 12 = .ok (.aload_n 0, 1) := by decide +kernel
theorem dX7_setSize_13 : decode cX7_setSize 13 = .ok (.getfield 51, 3) := by decide +kernel
theorem dX7_setSize_16 : decode cX7_setSize 16 = .ok (.aload_n 0, 1) := by decide +kernel
theorem dX7_setSize_17 : decode cX7_setSize 17 = .ok (.getfield 12, 3) := by decide +kernel
theorem dX7_setSize_20 : decode cX7_setSize 20 = .ok (.invokevirtual 97, 3) := by decide +kernel
theorem dX7_setSize_23 : decode cX7_setSize 23 = .ok (.aload_n 0, 1) := by decide +kernel
theorem dX7_setSize_24 : decode cX7_setSize 24 = .ok (.getfield 12, 3) := by decide +kernel
theorem dX7_setSize_27 : decode cX7_setSize 27 = .ok (.iload_n 1, 1) := by decide +kernel
theorem dX7_setSize_28 : decode cX7_setSize 28 = .ok (.iload_n 2, 1) := by decide +kernel
theorem dX7_setSize_29 : decode cX7_setSize 29 = .ok (.invokevirtual 100, 3) := by decide +kernel
theorem dX7_setSize_32 : decode cX7_setSize 32 = .ok (.ireturn, 1) := by decide +kernel
theorem dX7_subjectCount_0 : decode cX7_subjectCount 0 = .ok (.aload_n 0, 1) := by decide +kernel
theorem dX7_subjectCount_1 : decode cX7_subjectCount 1 = .ok (.getfield 12, 3) := by decide +kernel
theorem dX7_subjectCount_4 : decode cX7_subjectCount 4 = .ok (.getfield 103, 3) := by decide +kernel
theorem dX7_subjectCount_7 : decode cX7_subjectCount 7 = .ok (.ireturn, 1) := by decide +kernel
theorem dX7_sizeOf_0 : decode cX7_sizeOf 0 = .ok (.aload_n 0, 1) := by decide +kernel
theorem dX7_sizeOf_1 : decode cX7_sizeOf 1 = .ok (.getfield 12, 3) := by decide +kernel
theorem dX7_sizeOf_4 : decode cX7_sizeOf 4 = .ok (.iload_n 1, 1) := by decide +kernel
theorem dX7_sizeOf_5 : decode cX7_sizeOf 5 = .ok (.invokevirtual 106, 3) := by decide +kernel
theorem dX7_sizeOf_8 : decode cX7_sizeOf 8 = .ok (.invokestatic 110, 3) := by decide +kernel
theorem dX7_sizeOf_11 : decode cX7_sizeOf 11 = .ok (.aload_n 0, 1) := by decide +kernel
theorem dX7_sizeOf_12 : decode cX7_sizeOf 12 = .ok (.getfield 12, 3) := by decide +kernel
theorem dX7_sizeOf_15 : decode cX7_sizeOf 15 = .ok (.getfield 114, 3) := by decide +kernel
theorem dX7_sizeOf_18 : decode cX7_sizeOf 18 = .ok (.iload_n 1, 1) := by decide +kernel
theorem dX7_sizeOf_19 : decode cX7_sizeOf 19 = .ok (.invokestatic 118, 3) := by decide +kernel
theorem dX7_sizeOf_22 : decode cX7_sizeOf 22 = .ok (.ireturn, 1) := by decide +kernel
theorem dX7_setBlockCount_0 : decode cX7_setBlockCount 0 = .ok (.aload_n 0, 1) := by decide +kernel
theorem dX7_setBlockCount_1 : decode cX7_setBlockCount 1 = .ok (.iconst 1, 1) := by decide +kernel
theorem dX7_setBlockCount_2 : decode cX7_setBlockCount 2 = .ok (.iload_n 1, 1) := by decide +kernel
theorem dX7_setBlockCount_3 : decode cX7_setBlockCount 3 = .ok (.iconst 0, 1) := by decide +kernel
theorem dX7_setBlockCount_4 : decode cX7_setBlockCount 4 = .ok (.iconst 0, 1) := by decide +kernel
theorem dX7_setBlockCount_5 : decode cX7_setBlockCount 5 = .ok (.invokevirtual 85, 3) := by decide +kernel
theorem dX7_setBlockCount_8 : decode cX7_setBlockCount 8 = .ok (.ireturn, 1) := by decide +kernel
theorem dX7_blockCount_0 : decode cX7_blockCount 0 = .ok (.aload_n 0, 1) := by decide +kernel
theorem dX7_blockCount_1 : decode cX7_blockCount 1 = .ok (.getfield 12, 3) := by decide +kernel
theorem dX7_blockCount_4 : decode cX7_blockCount 4 = .ok (.getfield 122, 3) := by decide +kernel
theorem dX7_blockCount_7 : decode cX7_blockCount 7 = .ok (.ireturn, 1) := by decide +kernel
theorem dX7_openClass_0 : decode cX7_openClass 0 = .ok (.aload_n 0, 1) := by decide +kernel
theorem dX7_openClass_1 : decode cX7_openClass 1 = .ok (.iconst 2, 1) := by decide +kernel
theorem dX7_openClass_2 : decode cX7_openClass 2 = .ok (.iload_n 1, 1) := by decide +kernel
theorem dX7_openClass_3 : decode cX7_openClass 3 = .ok (.iload_n 2, 1) := by decide +kernel
theorem dX7_openClass_4 : decode cX7_openClass 4 = .ok (.iconst 0, 1) := by decide +kernel
theorem dX7_openClass_5 : decode cX7_openClass 5 = .ok (.invokevirtual 85, 3) := by decide +kernel
theorem dX7_openClass_8 : decode cX7_openClass 8 = .ok (.ireturn, 1) := by decide +kernel
theorem dX7_closeClass_0 : decode cX7_closeClass 0 = .ok (.aload_n 0, 1) := by decide +kernel
theorem dX7_closeClass_1 : decode cX7_closeClass 1 = .ok (.iconst 3, 1) := by decide +kernel
theorem dX7_closeClass_2 : decode cX7_closeClass 2 = .ok (.iload_n 1, 1) := by decide +kernel
theorem dX7_closeClass_3 : decode cX7_closeClass 3 = .ok (.iload_n 2, 1) := by decide +kernel
theorem dX7_closeClass_4 : decode cX7_closeClass 4 = .ok (.iconst 0, 1) := by decide +kernel
theorem dX7_closeClass_5 : decode cX7_closeClass 5 = .ok (.invokevirtual 85, 3) := by decide +kernel
theorem dX7_closeClass_8 : decode cX7_closeClass 8 = .ok (.ireturn, 1) := by decide +kernel
theorem dX7_isOpen_0 : decode cX7_isOpen 0 = .ok (.aload_n 0, 1) := by decide +kernel
theorem dX7_isOpen_1 : decode cX7_isOpen 1 = .ok (.getfield 12, 3) := by decide +kernel
theorem dX7_isOpen_4 : decode cX7_isOpen 4 = .ok (.iload_n 1, 1) := by decide +kernel
theorem dX7_isOpen_5 : decode cX7_isOpen 5 = .ok (.iload_n 2, 1) := by decide +kernel
theorem dX7_isOpen_6 : decode cX7_isOpen 6 = .ok (.invokevirtual 125, 3) := by decide +kernel
theorem dX7_isOpen_9 : decode cX7_isOpen 9 = .ok (.invokestatic 110, 3) := by decide +kernel
theorem dX7_isOpen_12 : decode cX7_isOpen 12 = .ok (.aload_n 0, 1) := by decide +kernel
theorem dX7_isOpen_13 : decode cX7_isOpen 13 = .ok (.getfield 12, 3) := by decide +kernel
theorem dX7_isOpen_16 : decode cX7_isOpen 16 = .ok (.iload_n 1, 1) := by decide +kernel
theorem dX7_isOpen_17 : decode cX7_isOpen 17 = .ok (.invokevirtual 129, 3) := by decide +kernel
theorem dX7_isOpen_20 : decode cX7_isOpen 20 = .ok (.iload_n 2, 1) := by decide +kernel
theorem dX7_isOpen_21 : decode cX7_isOpen 21 = .ok (.invokestatic 133, 3) := by decide +kernel
theorem dX7_isOpen_24 : decode cX7_isOpen 24 = .ok (.ireturn, 1) := by decide +kernel
theorem dX7_pupilsInClass_0 : decode cX7_pupilsInClass 0 = .ok (.aload_n 0, 1) := by decide +kernel
theorem dX7_pupilsInClass_1 : decode cX7_pupilsInClass 1 = .ok (.getfield 12, 3) := by decide +kernel
theorem dX7_pupilsInClass_4 : decode cX7_pupilsInClass 4 = .ok (.iload_n 1, 1) := by decide +kernel
theorem dX7_pupilsInClass_5 : decode cX7_pupilsInClass 5 = .ok (.iload_n 2, 1) := by decide +kernel
theorem dX7_pupilsInClass_6 : decode cX7_pupilsInClass 6 = .ok (.invokevirtual 125, 3) := by decide +kernel
theorem dX7_pupilsInClass_9 : decode cX7_pupilsInClass 9 = .ok (.invokestatic 110, 3) := by decide +kernel
theorem dX7_pupilsInClass_12 : decode cX7_pupilsInClass 12 = .ok (.aload_n 0, 1) := by decide +kernel
theorem dX7_pupilsInClass_13 : decode cX7_pupilsInClass 13 = .ok (.getfield 12, 3) := by decide +kernel
theorem dX7_pupilsInClass_16 : decode cX7_pupilsInClass 16 = .ok (.iload_n 1, 1) := by decide +kernel
theorem dX7_pupilsInClass_17 : decode cX7_pupilsInClass 17 = .ok (.iload_n 2, 1) := by decide +kernel
theorem dX7_pupilsInClass_18 : decode cX7_pupilsInClass 18 = .ok (.invokevirtual 136, 3) := by decide +kernel
theorem dX7_pupilsInClass_21 : decode cX7_pupilsInClass 21 = .ok (.invokestatic 139, 3) := by decide +kernel
theorem dX7_pupilsInClass_24 : decode cX7_pupilsInClass 24 = .ok (.ireturn, 1) := by decide +kernel
theorem dX7_pupilInClass_0 : decode cX7_pupilInClass 0 = .ok (.aload_n 0, 1) := by decide +kernel
theorem dX7_pupilInClass_1 : decode cX7_pupilInClass 1 = .ok (.getfield 12, 3) := by decide +kernel
theorem dX7_pupilInClass_4 : decode cX7_pupilInClass 4 = .ok (.iload_n 1, 1) := by decide +kernel
theorem dX7_pupilInClass_5 : decode cX7_pupilInClass 5 = .ok (.iload_n 2, 1) := by decide +kernel
theorem dX7_pupilInClass_6 : decode cX7_pupilInClass 6 = .ok (.invokevirtual 125, 3) := by decide +kernel
theorem dX7_pupilInClass_9 : decode cX7_pupilInClass 9 = .ok (.invokestatic 110, 3) := by decide +kernel
theorem dX7_pupilInClass_12 : decode cX7_pupilInClass 12 = .ok (.aload_n 0, 1) := by decide +kernel
theorem dX7_pupilInClass_13 : decode cX7_pupilInClass 13 = .ok (.getfield 12, 3) := by decide +kernel
theorem dX7_pupilInClass_16 : decode cX7_pupilInClass 16 = .ok (.iload_n 1, 1) := by decide +kernel
theorem dX7_pupilInClass_17 : decode cX7_pupilInClass 17 = .ok (.iload_n 2, 1) := by decide +kernel
theorem dX7_pupilInClass_18 : decode cX7_pupilInClass 18 = .ok (.invokevirtual 136, 3) := by decide +kernel
theorem dX7_pupilInClass_21 : decode cX7_pupilInClass 21 = .ok (.istore 4, 2) := by decide +kernel
theorem dX7_pupilInClass_23 : decode cX7_pupilInClass 23 = .ok (.iload_n 3, 1) := by decide +kernel
theorem dX7_pupilInClass_24 : decode cX7_pupilInClass 24 = .ok (.ifCond .lt 16, 3) := by decide +kernel
theorem dX7_pupilInClass_27 : decode cX7_pupilInClass 27 = .ok (.iload_n 3, 1) := by decide +kernel
theorem dX7_pupilInClass_28 : decode cX7_pupilInClass 28 = .ok (.iload 4, 2) := by decide +kernel
theorem dX7_pupilInClass_30 : decode cX7_pupilInClass 30 = .ok (.invokestatic 139, 3) := by decide +kernel
theorem dX7_pupilInClass_33 : decode cX7_pupilInClass 33 = .ok (.if_icmp .ge 7, 3) := by decide +kernel
theorem dX7_pupilInClass_36 : decode cX7_pupilInClass 36 = .ok (.iconst 1, 1) := by decide +kernel
theorem dX7_pupilInClass_37 : decode cX7_pupilInClass 37 = .ok (.goto 4, 3) := by decide +kernel
theorem dX7_pupilInClass_40 : decode cX7_pupilInClass 40 = .ok (.iconst 0, 1) := by decide +kernel
theorem dX7_pupilInClass_41 : decode cX7_pupilInClass 41 = .ok (.invokestatic 144, 3) := by decide +kernel
theorem dX7_pupilInClass_44 : decode cX7_pupilInClass 44 = .ok (.iload 4, 2) := by decide +kernel
theorem dX7_pupilInClass_46 : decode cX7_pupilInClass 46 = .ok (.iload_n 3, 1) := by decide +kernel
theorem dX7_pupilInClass_47 : decode cX7_pupilInClass 47 = .ok (.invokestatic 147, 3) := by decide +kernel
theorem dX7_pupilInClass_50 : decode cX7_pupilInClass 50 = .ok (.ireturn, 1) := by decide +kernel
theorem dX7_addPupil_0 : decode cX7_addPupil 0 = .ok (.aload_n 0, 1) := by decide +kernel
theorem dX7_addPupil_1 : decode cX7_addPupil 1 = .ok (.iconst 4, 1) := by decide +kernel
theorem dX7_addPupil_2 : decode cX7_addPupil 2 = .ok (.iconst 0, 1) := by decide +kernel
theorem dX7_addPupil_3 : decode cX7_addPupil 3 = .ok (.iconst 0, 1) := by decide +kernel
theorem dX7_addPupil_4 : decode cX7_addPupil 4 = .ok (.iconst 0, 1) := by decide +kernel
theorem dX7_addPupil_5 : decode cX7_addPupil 5 = .ok (.invokevirtual 85, 3) := by decide +kernel
theorem dX7_addPupil_8 : decode cX7_addPupil 8 = .ok (.ireturn, 1) := by decide +kernel
theorem dX7_pupilCount_0 : decode cX7_pupilCount 0 = .ok (.aload_n 0, 1) := by decide +kernel
theorem dX7_pupilCount_1 : decode cX7_pupilCount 1 = .ok (.getfield 12, 3) := by decide +kernel
theorem dX7_pupilCount_4 : decode cX7_pupilCount 4 = .ok (.getfield 150, 3) := by decide +kernel
theorem dX7_pupilCount_7 : decode cX7_pupilCount 7 = .ok (.ireturn, 1) := by decide +kernel
theorem dX7_addWish_0 : decode cX7_addWish 0 = .ok (.aload_n 0, 1) := by decide +kernel
theorem dX7_addWish_1 : decode cX7_addWish 1 = .ok (.iconst 5, 1) := by decide +kernel
theorem dX7_addWish_2 : decode cX7_addWish 2 = .ok (.iload_n 1, 1) := by decide +kernel
theorem dX7_addWish_3 : decode cX7_addWish 3 = .ok (.iload_n 2, 1) := by decide +kernel
theorem dX7_addWish_4 : decode cX7_addWish 4 = .ok (.iconst 0, 1) := by decide +kernel
theorem dX7_addWish_5 : decode cX7_addWish 5 = .ok (.invokevirtual 85, 3) := by decide +kernel
theorem dX7_addWish_8 : decode cX7_addWish 8 = .ok (.ireturn, 1) := by decide +kernel
theorem dX7_setReserve_0 : decode cX7_setReserve 0 = .ok (.aload_n 0, 1) := by decide +kernel
theorem dX7_setReserve_1 : decode cX7_setReserve 1 = .ok (.bipush 6, 2) := by decide +kernel
theorem dX7_setReserve_3 : decode cX7_setReserve 3 = .ok (.iload_n 1, 1) := by decide +kernel
theorem dX7_setReserve_4 : decode cX7_setReserve 4 = .ok (.iload_n 2, 1) := by decide +kernel
theorem dX7_setReserve_5 : decode cX7_setReserve 5 = .ok (.iconst 0, 1) := by decide +kernel
theorem dX7_setReserve_6 : decode cX7_setReserve 6 = .ok (.invokevirtual 85, 3) := by decide +kernel
theorem dX7_setReserve_9 : decode cX7_setReserve 9 = .ok (.ireturn, 1) := by decide +kernel
theorem dX7_wishCount_0 : decode cX7_wishCount 0 = .ok (.aload_n 0, 1) := by decide +kernel
theorem dX7_wishCount_1 : decode cX7_wishCount 1 = .ok (.getfield 12, 3) := by decide +kernel
theorem dX7_wishCount_4 : decode cX7_wishCount 4 = .ok (.iload_n 1, 1) := by decide +kernel
theorem dX7_wishCount_5 : decode cX7_wishCount 5 = .ok (.invokevirtual 153, 3) := by decide +kernel
theorem dX7_wishCount_8 : decode cX7_wishCount 8 = .ok (.invokestatic 110, 3) := by decide +kernel
theorem dX7_wishCount_11 : decode cX7_wishCount 11 = .ok (.aload_n 0, 1) := by decide +kernel
theorem dX7_wishCount_12 : decode cX7_wishCount 12 = .ok (.getfield 12, 3) := by decide +kernel
theorem dX7_wishCount_15 : decode cX7_wishCount 15 = .ok (.getfield 156, 3) := by decide +kernel
theorem dX7_wishCount_18 : decode cX7_wishCount 18 = .ok (.iload_n 1, 1) := by decide +kernel
theorem dX7_wishCount_19 : decode cX7_wishCount 19 = .ok (.invokestatic 118, 3) := by decide +kernel
theorem dX7_wishCount_22 : decode cX7_wishCount 22 = .ok (.ireturn, 1) := by decide +kernel
theorem dX7_wishAt_0 : decode cX7_wishAt 0 = .ok (.aload_n 0, 1) := by decide +kernel
theorem dX7_wishAt_1 : decode cX7_wishAt 1 = .ok (.getfield 12, 3) := by decide +kernel
theorem dX7_wishAt_4 : decode cX7_wishAt 4 = .ok (.iload_n 1, 1) := by decide +kernel
theorem dX7_wishAt_5 : decode cX7_wishAt 5 = .ok (.invokevirtual 153, 3) := by decide +kernel
theorem dX7_wishAt_8 : decode cX7_wishAt 8 = .ok (.invokestatic 110, 3) := by decide +kernel
theorem dX7_wishAt_11 : decode cX7_wishAt 11 = .ok (.iload_n 2, 1) := by decide +kernel
theorem dX7_wishAt_12 : decode cX7_wishAt 12 = .ok (.ifCond .lt 22, 3) := by decide +kernel
theorem dX7_wishAt_15 : decode cX7_wishAt 15 = .ok (.iload_n 2, 1) := by decide +kernel
theorem dX7_wishAt_16 : decode cX7_wishAt 16 = .ok (.aload_n 0, 1) := by decide +kernel
theorem dX7_wishAt_17 : decode cX7_wishAt 17 = .ok (.getfield 12, 3) := by decide +kernel
theorem dX7_wishAt_20 : decode cX7_wishAt 20 = .ok (.getfield 156, 3) := by decide +kernel
theorem dX7_wishAt_23 : decode cX7_wishAt 23 = .ok (.iload_n 1, 1) := by decide +kernel
theorem dX7_wishAt_24 : decode cX7_wishAt 24 = .ok (.invokestatic 118, 3) := by decide +kernel
theorem dX7_wishAt_27 : decode cX7_wishAt 27 = .ok (.if_icmp .ge 7, 3) := by decide +kernel
theorem dX7_wishAt_30 : decode cX7_wishAt 30 = .ok (.iconst 1, 1) := by decide +kernel
theorem dX7_wishAt_31 : decode cX7_wishAt 31 = .ok (.goto 4, 3) := by decide +kernel
theorem dX7_wishAt_34 : decode cX7_wishAt 34 = .ok (.iconst 0, 1) := by decide +kernel
theorem dX7_wishAt_35 : decode cX7_wishAt 35 = .ok (.invokestatic 144, 3) := by decide +kernel
theorem dX7_wishAt_38 : decode cX7_wishAt 38 = .ok (.aload_n 0, 1) := by decide +kernel
theorem dX7_wishAt_39 : decode cX7_wishAt 39 = .ok (.getfield 12, 3) := by decide +kernel
theorem dX7_wishAt_42 : decode cX7_wishAt 42 = .ok (.iload_n 1, 1) := by decide +kernel
theorem dX7_wishAt_43 : decode cX7_wishAt 43 = .ok (.iload_n 2, 1) := by decide +kernel
theorem dX7_wishAt_44 : decode cX7_wishAt 44 = .ok (.invokevirtual 159, 3) := by decide +kernel
theorem dX7_wishAt_47 : decode cX7_wishAt 47 = .ok (.ireturn, 1) := by decide +kernel
theorem dX7_reserveOf_0 : decode cX7_reserveOf 0 = .ok (.aload_n 0, 1) := by decide +kernel
theorem dX7_reserveOf_1 : decode cX7_reserveOf 1 = .ok (.getfield 12, 3) := by decide +kernel
theorem dX7_reserveOf_4 : decode cX7_reserveOf 4 = .ok (.iload_n 1, 1) := by decide +kernel
theorem dX7_reserveOf_5 : decode cX7_reserveOf 5 = .ok (.invokevirtual 153, 3) := by decide +kernel
theorem dX7_reserveOf_8 : decode cX7_reserveOf 8 = .ok (.invokestatic 110, 3) := by decide +kernel
theorem dX7_reserveOf_11 : decode cX7_reserveOf 11 = .ok (.aload_n 0, 1) := by decide +kernel
theorem dX7_reserveOf_12 : decode cX7_reserveOf 12 = .ok (.getfield 12, 3) := by decide +kernel
theorem dX7_reserveOf_15 : decode cX7_reserveOf 15 = .ok (.getfield 162, 3) := by decide +kernel
theorem dX7_reserveOf_18 : decode cX7_reserveOf 18 = .ok (.iload_n 1, 1) := by decide +kernel
theorem dX7_reserveOf_19 : decode cX7_reserveOf 19 = .ok (.invokestatic 118, 3) := by decide +kernel
theorem dX7_reserveOf_22 : decode cX7_reserveOf 22 = .ok (.ireturn, 1) := by decide +kernel
theorem dX7_subjectIn_0 : decode cX7_subjectIn 0 = .ok (.aload_n 0, 1) := by decide +kernel
theorem dX7_subjectIn_1 : decode cX7_subjectIn 1 = .ok (.getfield 12, 3) := by decide +kernel
theorem dX7_subjectIn_4 : decode cX7_subjectIn 4 = .ok (.iload_n 1, 1) := by decide +kernel
theorem dX7_subjectIn_5 : decode cX7_subjectIn 5 = .ok (.invokevirtual 153, 3) := by decide +kernel
theorem dX7_subjectIn_8 : decode cX7_subjectIn 8 = .ok (.ifCond .eq 18, 3) := by decide +kernel
theorem dX7_subjectIn_11 : decode cX7_subjectIn 11 = .ok (.aload_n 0, 1) := by decide +kernel
theorem dX7_subjectIn_12 : decode cX7_subjectIn 12 = .ok (.getfield 12, 3) := by decide +kernel
theorem dX7_subjectIn_15 : decode cX7_subjectIn 15 = .ok (.iload_n 2, 1) := by decide +kernel
theorem dX7_subjectIn_16 : decode cX7_subjectIn 16 = .ok (.invokevirtual 165, 3) := by decide +kernel
theorem dX7_subjectIn_19 : decode cX7_subjectIn 19 = .ok (.ifCond .eq 7, 3) := by decide +kernel
theorem dX7_subjectIn_22 : decode cX7_subjectIn 22 = .ok (.iconst 1, 1) := by decide +kernel
theorem dX7_subjectIn_23 : decode cX7_subjectIn 23 = .ok (.goto 4, 3) := by decide +kernel
theorem dX7_subjectIn_26 : decode cX7_subjectIn 26 = .ok (.iconst 0, 1) := by decide +kernel
theorem dX7_subjectIn_27 : decode cX7_subjectIn 27 = .ok (.invokestatic 110, 3) := by decide +kernel
theorem dX7_subjectIn_30 : decode cX7_subjectIn 30 = .ok (.aload_n 0, 1) := by decide +kernel
theorem dX7_subjectIn_31 : decode cX7_subjectIn 31 = .ok (.getfield 12, 3) := by decide +kernel
theorem dX7_subjectIn_34 : decode cX7_subjectIn 34 = .ok (.iload_n 1, 1) := by decide +kernel
theorem dX7_subjectIn_35 : decode cX7_subjectIn 35 = .ok (.iload_n 2, 1) := by decide +kernel
theorem dX7_subjectIn_36 : decode cX7_subjectIn 36 = .ok (.invokevirtual 168, 3) := by decide +kernel
theorem dX7_subjectIn_39 : decode cX7_subjectIn 39 = .ok (.ireturn, 1) := by decide +kernel
theorem dX7_blockOf_0 : decode cX7_blockOf 0 = .ok (.aload_n 0, 1) := by decide +kernel
theorem dX7_blockOf_1 : decode cX7_blockOf 1 = .ok (.getfield 12, 3) := by decide +kernel
theorem dX7_blockOf_4 : decode cX7_blockOf 4 = .ok (.iload_n 1, 1) := by decide +kernel
theorem dX7_blockOf_5 : decode cX7_blockOf 5 = .ok (.invokevirtual 153, 3) := by decide +kernel
theorem dX7_blockOf_8 : decode cX7_blockOf 8 = .ok (.ifCond .eq 18, 3) := by decide +kernel
theorem dX7_blockOf_11 : decode cX7_blockOf 11 = .ok (.aload_n 0, 1) := by decide +kernel
theorem dX7_blockOf_12 : decode cX7_blockOf 12 = .ok (.getfield 12, 3) := by decide +kernel
theorem dX7_blockOf_15 : decode cX7_blockOf 15 = .ok (.iload_n 2, 1) := by decide +kernel
theorem dX7_blockOf_16 : decode cX7_blockOf 16 = .ok (.invokevirtual 106, 3) := by decide +kernel
theorem dX7_blockOf_19 : decode cX7_blockOf 19 = .ok (.ifCond .eq 7, 3) := by decide +kernel
theorem dX7_blockOf_22 : decode cX7_blockOf 22 = .ok (.iconst 1, 1) := by decide +kernel
theorem dX7_blockOf_23 : decode cX7_blockOf 23 = .ok (.goto 4, 3) := by decide +kernel
theorem dX7_blockOf_26 : decode cX7_blockOf 26 = .ok (.iconst 0, 1) := by decide +kernel
theorem dX7_blockOf_27 : decode cX7_blockOf 27 = .ok (.invokestatic 110, 3) := by decide +kernel
theorem dX7_blockOf_30 : decode cX7_blockOf 30 = .ok (.aload_n 0, 1) := by decide +kernel
theorem dX7_blockOf_31 : decode cX7_blockOf 31 = .ok (.getfield 12, 3) := by decide +kernel
theorem dX7_blockOf_34 : decode cX7_blockOf 34 = .ok (.iload_n 1, 1) := by decide +kernel
theorem dX7_blockOf_35 : decode cX7_blockOf 35 = .ok (.iload_n 2, 1) := by decide +kernel
theorem dX7_blockOf_36 : decode cX7_blockOf 36 = .ok (.invokevirtual 171, 3) := by decide +kernel
theorem dX7_blockOf_39 : decode cX7_blockOf 39 = .ok (.ireturn, 1) := by decide +kernel
theorem dX7_enrol_0 : decode cX7_enrol 0 = .ok (.aload_n 0, 1) := by decide +kernel
theorem dX7_enrol_1 : decode cX7_enrol 1 = .ok (.bipush 7, 2) := by decide +kernel
theorem dX7_enrol_3 : decode cX7_enrol 3 = .ok (.iload_n 1, 1) := by decide +kernel
theorem dX7_enrol_4 : decode cX7_enrol 4 = .ok (.iconst 0, 1) := by decide +kernel
theorem dX7_enrol_5 : decode cX7_enrol 5 = .ok (.iconst 0, 1) := by decide +kernel
theorem dX7_enrol_6 : decode cX7_enrol 6 = .ok (.invokevirtual 85, 3) := by decide +kernel
theorem dX7_enrol_9 : decode cX7_enrol 9 = .ok (.ireturn, 1) := by decide +kernel
theorem dX7_enrolAll_0 : decode cX7_enrolAll 0 = .ok (.aload_n 0, 1) := by decide +kernel
theorem dX7_enrolAll_1 : decode cX7_enrolAll 1 = .ok (.getfield 51, 3) := by decide +kernel
theorem dX7_enrolAll_4 : decode cX7_enrolAll 4 = .ok (.aload_n 0, 1) := by decide +kernel
theorem dX7_enrolAll_5 : decode cX7_enrolAll 5 = .ok (.getfield 12, 3) := by decide +kernel
theorem dX7_enrolAll_8 : decode cX7_enrolAll 8 = .ok (.invokevirtual 97, 3) := by decide +kernel
theorem dX7_enrolAll_11 : decode cX7_enrolAll 11 = .ok (.iconst 0, 1) := by decide +kernel
theorem dX7_enrolAll_12 : decode cX7_enrolAll 12 = .ok (.istore_n 1, 1) := by decide +kernel
theorem dX7_enrolAll_13 : decode cX7_enrolAll 13 = .ok (.iconst 0, 1) := by decide +kernel
theorem dX7_enrolAll_14 : decode cX7_enrolAll 14 = .ok (.istore_n 2, 1) := by decide +kernel
theorem dX7_enrolAll_15 : decode cX7_enrolAll 15 = .ok (.iload_n 2, 1) := by decide +kernel
theorem dX7_enrolAll_16 : decode cX7_enrolAll 16 = .ok (.aload_n 0, 1) := by decide +kernel
theorem dX7_enrolAll_17 : decode cX7_enrolAll 17 = .ok (.getfield 12, 3) := by decide +kernel
theorem dX7_enrolAll_20 : decode cX7_enrolAll 20 = .ok (.getfield 150, 3) := by decide +kernel
theorem dX7_enrolAll_23 : decode cX7_enrolAll 23 = .ok (.if_icmp .ge 48, 3) := by decide +kernel
theorem dX7_enrolAll_26 : decode cX7_enrolAll 26 = .ok (.aload_n 0, 1) := by decide +kernel
theorem dX7_enrolAll_27 : decode cX7_enrolAll 27 = .ok (.getfield 44, 3) := by decide +kernel
theorem dX7_enrolAll_30 : decode cX7_enrolAll 30 = .ok (.iload_n 2, 1) := by decide +kernel
theorem dX7_enrolAll_31 : decode cX7_enrolAll 31 = .ok (.invokevirtual 174, 3) := by decide +kernel
theorem dX7_enrolAll_34 : decode cX7_enrolAll 34 = .ok (.ifCond .ne 31, 3) := by decide +kernel
theorem dX7_enrolAll_37 : decode cX7_enrolAll 37 = .ok (.aload_n 0, 1) := by decide +kernel
theorem dX7_enrolAll_38 : decode cX7_enrolAll 38 = .ok (.getfield 21, 3) := by decide +kernel
theorem dX7_enrolAll_41 : decode cX7_enrolAll 41 = .ok (.iload_n 2, 1) := by decide +kernel
theorem dX7_enrolAll_42 : decode cX7_enrolAll 42 = .ok (.invokevirtual 177, 3) := by decide +kernel
theorem dX7_enrolAll_45 : decode cX7_enrolAll 45 = .ok (.pop, 1) := by decide +kernel
theorem dX7_enrolAll_46 : decode cX7_enrolAll 46 = .ok (.iload_n 1, 1) := by decide +kernel
theorem dX7_enrolAll_47 : decode cX7_enrolAll 47 = .ok (.aload_n 0, 1) := by decide +kernel
theorem dX7_enrolAll_48 : decode cX7_enrolAll 48 = .ok (.getfield 12, 3) := by decide +kernel
theorem dX7_enrolAll_51 : decode cX7_enrolAll 51 = .ok (.iload_n 2, 1) := by decide +kernel
theorem dX7_enrolAll_52 : decode cX7_enrolAll 52 = .ok (.invokevirtual 180, 3) := by decide +kernel
theorem dX7_enrolAll_55 : decode cX7_enrolAll 55 = .ok (.ifCond .eq 7, 3) := by decide +kernel
theorem dX7_enrolAll_58 : decode cX7_enrolAll 58 = .ok (.iconst 1, 1) := by decide +kernel
theorem dX7_enrolAll_59 : decode cX7_enrolAll 59 = .ok (.goto 4, 3) := by decide +kernel
theorem dX7_enrolAll_62 : decode cX7_enrolAll 62 = .ok (.iconst 0, 1) := by decide +kernel
theorem dX7_enrolAll_63 : decode cX7_enrolAll 63 = .ok (.iadd, 1) := by decide +kernel
theorem dX7_enrolAll_64 : decode cX7_enrolAll 64 = .ok (.istore_n 1, 1) := by decide +kernel
theorem dX7_enrolAll_65 : decode cX7_enrolAll 65 = .ok (.iinc 2 1, 3) := by decide +kernel
theorem dX7_enrolAll_68 : decode cX7_enrolAll 68 = .ok (.goto (-53), 3) := by decide +kernel
theorem dX7_enrolAll_71 : decode cX7_enrolAll 71 = .ok (.iload_n 1, 1) := by decide +kernel
theorem dX7_enrolAll_72 : decode cX7_enrolAll 72 = .ok (.ireturn, 1) := by decide +kernel
theorem dX7_withdraw_0 : decode cX7_withdraw 0 = .ok (.aload_n 0, 1) := by decide +kernel
theorem dX7_withdraw_1 : decode cX7_withdraw 1 = .ok (.getfield 44, 3) := by decide +kernel
theorem dX7_withdraw_4 : decode cX7_withdraw 4 = .ok (.iload_n 1, 1) := by decide +kernel
theorem dX7_withdraw_5 : decode cX7_withdraw 5 = .ok (.invokevirtual 183, 3) := by decide +kernel
theorem dX7_withdraw_8 : decode cX7_withdraw 8 = .ok (.invokestatic 93, 3) := by decide +kernel
theorem dX7_withdraw_11 : decode cX7_withdraw 11 = .ok (.aload_n 0, 1) := by decide +kernel
theorem dX7_withdraw_12 : decode cX7_withdraw 12 = .ok (.getfield 51, 3) := by decide +kernel
theorem dX7_withdraw_15 : decode cX7_withdraw 15 = .ok (.aload_n 0, 1) := by decide +kernel
theorem dX7_withdraw_16 : decode cX7_withdraw 16 = .ok (.getfield 12, 3) := by decide +kernel
theorem dX7_withdraw_19 : decode cX7_withdraw 19 = .ok (.invokevirtual 97, 3) := by decide +kernel
theorem dX7_withdraw_22 : decode cX7_withdraw 22 = .ok (.aload_n 0, 1) := by decide +kernel
theorem dX7_withdraw_23 : decode cX7_withdraw 23 = .ok (.getfield 12, 3) := by decide +kernel
theorem dX7_withdraw_26 : decode cX7_withdraw 26 = .ok (.iload_n 1, 1) := by decide +kernel
theorem dX7_withdraw_27 : decode cX7_withdraw 27 = .ok (.invokevirtual 186, 3) := by decide +kernel
theorem dX7_withdraw_30 : decode cX7_withdraw 30 = .ok (.ireturn, 1) := by decide +kernel
theorem dX7_bestValue_0 : decode cX7_bestValue 0 = .ok (.aload_n 0, 1) := by decide +kernel
theorem dX7_bestValue_1 : decode cX7_bestValue 1 = .ok (.getfield 12, 3) := by decide +kernel
theorem dX7_bestValue_4 : decode cX7_bestValue 4 = .ok (.iload_n 1, 1) := by decide +kernel
theorem dX7_bestValue_5 : decode cX7_bestValue 5 = .ok (.invokevirtual 153, 3) := by decide +kernel
theorem dX7_bestValue_8 : decode cX7_bestValue 8 = .ok (.invokestatic 110, 3) := by decide +kernel
theorem dX7_bestValue_11 : decode cX7_bestValue 11 = .ok (.aload_n 0, 1) := by decide +kernel
theorem dX7_bestValue_12 : decode cX7_bestValue 12 = .ok (.getfield 21, 3) := by decide +kernel
theorem dX7_bestValue_15 : decode cX7_bestValue 15 = .ok (.iload_n 1, 1) := by decide +kernel
theorem dX7_bestValue_16 : decode cX7_bestValue 16 = .ok (.invokevirtual 189, 3) := by decide +kernel
theorem dX7_bestValue_19 : decode cX7_bestValue 19 = .ok (.ireturn, 1) := by decide +kernel
theorem dX7_bestValueBySets_0 : decode cX7_bestValueBySets 0 = .ok (.aload_n 0, 1) := by decide +kernel
theorem dX7_bestValueBySets_1 : decode cX7_bestValueBySets 1 = .ok (.getfield 12, 3) := by decide +kernel
theorem dX7_bestValueBySets_4 : decode cX7_bestValueBySets 4 = .ok (.iload_n 1, 1) := by decide +kernel
theorem dX7_bestValueBySets_5 : decode cX7_bestValueBySets 5 = .ok (.invokevirtual 153, 3) := by decide +kernel
theorem dX7_bestValueBySets_8 : decode cX7_bestValueBySets 8 = .ok (.invokestatic 110, 3) := by decide +kernel
theorem dX7_bestValueBySets_11 : decode cX7_bestValueBySets 11 = .ok (.aload_n 0, 1) := by decide +kernel
theorem dX7_bestValueBySets_12 : decode cX7_bestValueBySets 12 = .ok (.getfield 21, 3) := by decide +kernel
theorem dX7_bestValueBySets_15 : decode cX7_bestValueBySets 15 = .ok (.iload_n 1, 1) := by decide +kernel
theorem dX7_bestValueBySets_16 : decode cX7_bestValueBySets 16 = .ok (.invokevirtual 192, 3) := by decide +kernel
theorem dX7_bestValueBySets_19 : decode cX7_bestValueBySets 19 = .ok (.ireturn, 1) := by decide +kernel
theorem dX7_canServe_0 : decode cX7_canServe 0 = .ok (.aload_n 0, 1) := by decide +kernel
theorem dX7_canServe_1 : decode cX7_canServe 1 = .ok (.getfield 12, 3) := by decide +kernel
theorem dX7_canServe_4 : decode cX7_canServe 4 = .ok (.iload_n 1, 1) := by decide +kernel
theorem dX7_canServe_5 : decode cX7_canServe 5 = .ok (.invokevirtual 153, 3) := by decide +kernel
theorem dX7_canServe_8 : decode cX7_canServe 8 = .ok (.invokestatic 110, 3) := by decide +kernel
theorem dX7_canServe_11 : decode cX7_canServe 11 = .ok (.aload_n 0, 1) := by decide +kernel
theorem dX7_canServe_12 : decode cX7_canServe 12 = .ok (.getfield 21, 3) := by decide +kernel
theorem dX7_canServe_15 : decode cX7_canServe 15 = .ok (.iload_n 1, 1) := by decide +kernel
theorem dX7_canServe_16 : decode cX7_canServe 16 = .ok (.invokevirtual 195, 3) := by decide +kernel
theorem dX7_canServe_19 : decode cX7_canServe 19 = .ok (.ireturn, 1) := by decide +kernel
theorem dX7_canServeByCounting_0 : decode cX7_canServeByCounting 0 = .ok (.aload_n 0, 1) := by decide +kernel
theorem dX7_canServeByCounting_1 : decode cX7_canServeByCounting 1 = .ok (.getfield 12, 3) := by decide +kernel
theorem dX7_canServeByCounting_4 : decode cX7_canServeByCounting 4 = .ok (.iload_n 1, 1) := by decide +kernel
theorem dX7_canServeByCounting_5 : decode cX7_canServeByCounting 5 = .ok (.invokevirtual 153, 3) := by decide +kernel
theorem dX7_canServeByCounting_8 : decode cX7_canServeByCounting 8 = .ok (.invokestatic 110, 3) := by decide +kernel
theorem dX7_canServeByCounting_11 : decode cX7_canServeByCounting 11 = .ok (.aload_n 0, 1) := by decide +kernel
theorem dX7_canServeByCounting_12 : decode cX7_canServeByCounting 12 = .ok (.getfield 21, 3) := by decide +kernel
theorem dX7_canServeByCounting_15 : decode cX7_canServeByCounting 15 = .ok (.iload_n 1, 1) := by decide +kernel
theorem dX7_canServeByCounting_16 : decode cX7_canServeByCounting 16 = .ok (.invokevirtual 198, 3) := by decide +kernel
theorem dX7_canServeByCounting_19 : decode cX7_canServeByCounting 19 = .ok (.ireturn, 1) := by decide +kernel
theorem dX7_servedCount_0 : decode cX7_servedCount 0 = .ok (.iconst 0, 1) := by decide +kernel
theorem dX7_servedCount_1 : decode cX7_servedCount 1 = .ok (.istore_n 1, 1) := by decide +kernel
theorem dX7_servedCount_2 : decode cX7_servedCount 2 = .ok (.iconst 0, 1) := by decide +kernel
theorem dX7_servedCount_3 : decode cX7_servedCount 3 = .ok (.istore_n 2, 1) := by decide +kernel
theorem dX7_servedCount_4 : decode cX7_servedCount 4 = .ok (.iload_n 2, 1) := by decide +kernel
theorem dX7_servedCount_5 : decode cX7_servedCount 5 = .ok (.aload_n 0, 1) := by decide +kernel
theorem dX7_servedCount_6 : decode cX7_servedCount 6 = .ok (.getfield 12, 3) := by decide +kernel
theorem dX7_servedCount_9 : decode cX7_servedCount 9 = .ok (.getfield 150, 3) := by decide +kernel
theorem dX7_servedCount_12 : decode cX7_servedCount 12 = .ok (.if_icmp .ge 28, 3) := by decide +kernel
theorem dX7_servedCount_15 : decode cX7_servedCount 15 = .ok (.iload_n 1, 1) := by decide +kernel
theorem dX7_servedCount_16 : decode cX7_servedCount 16 = .ok (.aload_n 0, 1) := by decide +kernel
theorem dX7_servedCount_17 : decode cX7_servedCount 17 = .ok (.getfield 12, 3) := by decide +kernel
theorem dX7_servedCount_20 : decode cX7_servedCount 20 = .ok (.iload_n 2, 1) := by decide +kernel
theorem dX7_servedCount_21 : decode cX7_servedCount 21 = .ok (.invokevirtual 180, 3) := by decide +kernel
theorem dX7_servedCount_24 : decode cX7_servedCount 24 = .ok (.ifCond .eq 7, 3) := by decide +kernel
theorem dX7_servedCount_27 : decode cX7_servedCount 27 = .ok (.iconst 1, 1) := by decide +kernel
theorem dX7_servedCount_28 : decode cX7_servedCount 28 = .ok (.goto 4, 3) := by decide +kernel
theorem dX7_servedCount_31 : decode cX7_servedCount 31 = .ok (.iconst 0, 1) := by decide +kernel
theorem dX7_servedCount_32 : decode cX7_servedCount 32 = .ok (.iadd, 1) := by decide +kernel
theorem dX7_servedCount_33 : decode cX7_servedCount 33 = .ok (.istore_n 1, 1) := by decide +kernel
theorem dX7_servedCount_34 : decode cX7_servedCount 34 = .ok (.iinc 2 1, 3) := by decide +kernel
theorem dX7_servedCount_37 : decode cX7_servedCount 37 = .ok (.goto (-33), 3) := by decide +kernel
theorem dX7_servedCount_40 : decode cX7_servedCount 40 = .ok (.iload_n 1, 1) := by decide +kernel
theorem dX7_servedCount_41 : decode cX7_servedCount 41 = .ok (.ireturn, 1) := by decide +kernel
theorem dX7_meanClassSize_0 : decode cX7_meanClassSize 0 = .ok (.aload_n 0, 1) := by decide +kernel
theorem dX7_meanClassSize_1 : decode cX7_meanClassSize 1 = .ok (.getfield 12, 3) := by decide +kernel
theorem dX7_meanClassSize_4 : decode cX7_meanClassSize 4 = .ok (.invokevirtual 201, 3) := by decide +kernel
theorem dX7_meanClassSize_7 : decode cX7_meanClassSize 7 = .ok (.istore_n 1, 1) := by decide +kernel
theorem dX7_meanClassSize_8 : decode cX7_meanClassSize 8 = .ok (.iload_n 1, 1) := by decide +kernel
theorem dX7_meanClassSize_9 : decode cX7_meanClassSize 9 = .ok (.ifCond .gt 13, 3) := by decide +kernel
theorem dX7_meanClassSize_12 : decode cX7_meanClassSize 12 = .ok (.new 205, 3) := by decide +kernel
theorem dX7_meanClassSize_15 : decode cX7_meanClassSize 15 = .ok (.dup, 1) := by decide +kernel
theorem dX7_meanClassSize_16 : decode cX7_meanClassSize 16 = .ok (.ldc 207, 2) := by decide +kernel
theorem dX7_meanClassSize_18 : decode cX7_meanClassSize 18 = .ok (.invokespecial 209, 3) := by decide +kernel
theorem dX7_meanClassSize_21 : decode cX7_meanClassSize 21 = .ok (.athrow, 1) := by decide +kernel
theorem dX7_meanClassSize_22 : decode cX7_meanClassSize 22 = .ok (.aload_n 0, 1) := by decide +kernel
theorem dX7_meanClassSize_23 : decode cX7_meanClassSize 23 = .ok (.getfield 12, 3) := by decide +kernel
theorem dX7_meanClassSize_26 : decode cX7_meanClassSize 26 = .ok (.invokevirtual 212, 3) := by decide +kernel
theorem dX7_meanClassSize_29 : decode cX7_meanClassSize 29 = .ok (.i2d, 1) := by decide +kernel
theorem dX7_meanClassSize_30 : decode cX7_meanClassSize 30 = .ok (.iload_n 1, 1) := by decide +kernel
theorem dX7_meanClassSize_31 : decode cX7_meanClassSize 31 = .ok (.i2d, 1) := by decide +kernel
theorem dX7_meanClassSize_32 : decode cX7_meanClassSize 32 = .ok (.ddiv, 1) := by decide +kernel
theorem dX7_meanClassSize_33 : decode cX7_meanClassSize 33 = .ok (.dreturn, 1) := by decide +kernel
theorem dX7_movesFor_0 : decode cX7_movesFor 0 = .ok (.aload_n 0, 1) := by decide +kernel
theorem dX7_movesFor_1 : decode cX7_movesFor 1 = .ok (.getfield 44, 3) := by decide +kernel
theorem dX7_movesFor_4 : decode cX7_movesFor 4 = .ok (.iload_n 1, 1) := by decide +kernel
theorem dX7_movesFor_5 : decode cX7_movesFor 5 = .ok (.iload_n 2, 1) := by decide +kernel
theorem dX7_movesFor_6 : decode cX7_movesFor 6 = .ok (.invokevirtual 215, 3) := by decide +kernel
theorem dX7_movesFor_9 : decode cX7_movesFor 9 = .ok (.invokestatic 93, 3) := by decide +kernel
theorem dX7_movesFor_12 : decode cX7_movesFor 12 = .ok (.aload_n 0, 1) := by decide +kernel
theorem dX7_movesFor_13 : decode cX7_movesFor 13 = .ok (.getfield 28, 3) := by decide +kernel
theorem dX7_movesFor_16 : decode cX7_movesFor 16 = .ok (.iload_n 2, 1) := by decide +kernel
theorem dX7_movesFor_17 : decode cX7_movesFor 17 = .ok (.aload_n 0, 1) := by decide +kernel
theorem dX7_movesFor_18 : decode cX7_movesFor 18 = .ok (.getfield 12, 3) := by decide +kernel
theorem dX7_movesFor_21 : decode cX7_movesFor 21 = .ok (.iload_n 1, 1) := by decide +kernel
theorem dX7_movesFor_22 : decode cX7_movesFor 22 = .ok (.invokevirtual 218, 3) := by decide +kernel
theorem dX7_movesFor_25 : decode cX7_movesFor 25 = .ok (.invokevirtual 221, 3) := by decide +kernel
theorem dX7_movesFor_28 : decode cX7_movesFor 28 = .ok (.istore_n 3, 1) := by decide +kernel
theorem dX7_movesFor_29 : decode cX7_movesFor 29 = .ok (.iload_n 3, 1) := by decide +kernel
theorem dX7_movesFor_30 : decode cX7_movesFor 30 = .ok (.iconst (-1), 1) := by decide +kernel
theorem dX7_movesFor_31 : decode cX7_movesFor 31 = .ok (.if_icmp .eq 7, 3) := by decide +kernel
theorem dX7_movesFor_34 : decode cX7_movesFor 34 = .ok (.iconst 1, 1) := by decide +kernel
theorem dX7_movesFor_35 : decode cX7_movesFor 35 = .ok (.goto 4, 3) := by decide +kernel
theorem dX7_movesFor_38 : decode cX7_movesFor 38 = .ok (.iconst 0, 1) := by decide +kernel
theorem dX7_movesFor_39 : decode cX7_movesFor 39 = .ok (.invokestatic 144, 3) := by decide +kernel
theorem dX7_movesFor_42 : decode cX7_movesFor 42 = .ok (.iload_n 3, 1) := by decide +kernel
theorem dX7_movesFor_43 : decode cX7_movesFor 43 = .ok (.ireturn, 1) := by decide +kernel
theorem dX7_movesByTrial_0 : decode cX7_movesByTrial 0 = .ok (.aload_n 0, 1) := by decide +kernel
theorem dX7_movesByTrial_1 : decode cX7_movesByTrial 1 = .ok (.getfield 44, 3) := by decide +kernel
theorem dX7_movesByTrial_4 : decode cX7_movesByTrial 4 = .ok (.iload_n 1, 1) := by decide +kernel
theorem dX7_movesByTrial_5 : decode cX7_movesByTrial 5 = .ok (.iload_n 2, 1) := by decide +kernel
theorem dX7_movesByTrial_6 : decode cX7_movesByTrial 6 = .ok (.invokevirtual 215, 3) := by decide +kernel
theorem dX7_movesByTrial_9 : decode cX7_movesByTrial 9 = .ok (.invokestatic 93, 3) := by decide +kernel
theorem dX7_movesByTrial_12 : decode cX7_movesByTrial 12 = .ok (.aload_n 0, 1) := by decide +kernel
theorem dX7_movesByTrial_13 : decode cX7_movesByTrial 13 = .ok (.getfield 28, 3) := by decide +kernel
theorem dX7_movesByTrial_16 : decode cX7_movesByTrial 16 = .ok (.iload_n 2, 1) := by decide +kernel
theorem dX7_movesByTrial_17 : decode cX7_movesByTrial 17 = .ok (.aload_n 0, 1) := by decide +kernel
theorem dX7_movesByTrial_18 : decode cX7_movesByTrial 18 = .ok (.getfield 12, 3) := by decide +kernel
theorem dX7_movesByTrial_21 : decode cX7_movesByTrial 21 = .ok (.iload_n 1, 1) := by decide +kernel
theorem dX7_movesByTrial_22 : decode cX7_movesByTrial 22 = .ok (.invokevirtual 218, 3) := by decide +kernel
theorem dX7_movesByTrial_25 : decode cX7_movesByTrial 25 = .ok (.invokevirtual 224, 3) := by decide +kernel
theorem dX7_movesByTrial_28 : decode cX7_movesByTrial 28 = .ok (.istore_n 3, 1) := by decide +kernel
theorem dX7_movesByTrial_29 : decode cX7_movesByTrial 29 = .ok (.iload_n 3, 1) := by decide +kernel
theorem dX7_movesByTrial_30 : decode cX7_movesByTrial 30 = .ok (.iconst (-1), 1) := by decide +kernel
theorem dX7_movesByTrial_31 : decode cX7_movesByTrial 31 = .ok (.if_icmp .eq 7, 3) := by decide +kernel
theorem dX7_movesByTrial_34 : decode cX7_movesByTrial 34 = .ok (.iconst 1, 1) := by decide +kernel
theorem dX7_movesByTrial_35 : decode cX7_movesByTrial 35 = .ok (.goto 4, 3) := by decide +kernel
theorem dX7_movesByTrial_38 : decode cX7_movesByTrial 38 = .ok (.iconst 0, 1) := by decide +kernel
theorem dX7_movesByTrial_39 : decode cX7_movesByTrial 39 = .ok (.invokestatic 144, 3) := by decide +kernel
theorem dX7_movesByTrial_42 : decode cX7_movesByTrial 42 = .ok (.iload_n 3, 1) := by decide +kernel
theorem dX7_movesByTrial_43 : decode cX7_movesByTrial 43 = .ok (.ireturn, 1) := by decide +kernel
theorem dX7_join_0 : decode cX7_join 0 = .ok (.aload_n 0, 1) := by decide +kernel
theorem dX7_join_1 : decode cX7_join 1 = .ok (.bipush 8, 2) := by decide +kernel
theorem dX7_join_3 : decode cX7_join 3 = .ok (.iload_n 1, 1) := by decide +kernel
theorem dX7_join_4 : decode cX7_join 4 = .ok (.iload_n 2, 1) := by decide +kernel
theorem dX7_join_5 : decode cX7_join 5 = .ok (.iconst 0, 1) := by decide +kernel
theorem dX7_join_6 : decode cX7_join 6 = .ok (.invokevirtual 85, 3) := by decide +kernel
theorem dX7_join_9 : decode cX7_join 9 = .ok (.ireturn, 1) := by decide +kernel
theorem dX7_quit_0 : decode cX7_quit 0 = .ok (.aload_n 0, 1) := by decide +kernel
theorem dX7_quit_1 : decode cX7_quit 1 = .ok (.bipush 9, 2) := by decide +kernel
theorem dX7_quit_3 : decode cX7_quit 3 = .ok (.iload_n 1, 1) := by decide +kernel
theorem dX7_quit_4 : decode cX7_quit 4 = .ok (.iload_n 2, 1) := by decide +kernel
theorem dX7_quit_5 : decode cX7_quit 5 = .ok (.iconst 0, 1) := by decide +kernel
theorem dX7_quit_6 : decode cX7_quit 6 = .ok (.invokevirtual 85, 3) := by decide +kernel
theorem dX7_quit_9 : decode cX7_quit 9 = .ok (.ireturn, 1) := by decide +kernel
theorem dX7_change_0 : decode cX7_change 0 = .ok (.aload_n 0, 1) := by decide +kernel
theorem dX7_change_1 : decode cX7_change 1 = .ok (.bipush 10, 2) := by decide +kernel
theorem dX7_change_3 : decode cX7_change 3 = .ok (.iload_n 1, 1) := by decide +kernel
theorem dX7_change_4 : decode cX7_change 4 = .ok (.iload_n 2, 1) := by decide +kernel
theorem dX7_change_5 : decode cX7_change 5 = .ok (.iload_n 3, 1) := by decide +kernel
theorem dX7_change_6 : decode cX7_change 6 = .ok (.invokevirtual 85, 3) := by decide +kernel
theorem dX7_change_9 : decode cX7_change 9 = .ok (.ireturn, 1) := by decide +kernel
theorem dX7_refusalReason_0 : decode cX7_refusalReason 0 = .ok (.aload_n 0, 1) := by decide +kernel
theorem dX7_refusalReason_1 : decode cX7_refusalReason 1 = .ok (.getfield 44, 3) := by decide +kernel
theorem dX7_refusalReason_4 : decode cX7_refusalReason 4 = .ok (.getfield 227, 3) := by decide +kernel
theorem dX7_refusalReason_7 : decode cX7_refusalReason 7 = .ok (.ifCond .eq 7, 3) := by decide +kernel
theorem dX7_refusalReason_10 : decode cX7_refusalReason 10 = .ok (.iconst 1, 1) := by decide +kernel
theorem dX7_refusalReason_11 : decode cX7_refusalReason 11 = .ok (.goto 4, 3) := by decide +kernel
theorem dX7_refusalReason_14 : decode cX7_refusalReason 14 = .ok (.iconst 0, 1) := by decide +kernel
theorem dX7_refusalReason_15 : decode cX7_refusalReason 15 = .ok (.invokestatic 144, 3) := by decide +kernel
theorem dX7_refusalReason_18 : decode cX7_refusalReason 18 = .ok (.aload_n 0, 1) := by decide +kernel
theorem dX7_refusalReason_19 : decode cX7_refusalReason 19 = .ok (.getfield 44, 3) := by decide +kernel
theorem dX7_refusalReason_22 : decode cX7_refusalReason 22 = .ok (.getfield 227, 3) := by decide +kernel
theorem dX7_refusalReason_25 : decode cX7_refusalReason 25 = .ok (.ireturn, 1) := by decide +kernel
theorem dX7_chainMoves_0 : decode cX7_chainMoves 0 = .ok (.aload_n 0, 1) := by decide +kernel
theorem dX7_chainMoves_1 : decode cX7_chainMoves 1 = .ok (.getfield 12, 3) := by decide +kernel
theorem dX7_chainMoves_4 : decode cX7_chainMoves 4 = .ok (.getfield 230, 3) := by decide +kernel
theorem dX7_chainMoves_7 : decode cX7_chainMoves 7 = .ok (.iconst (-1), 1) := by decide +kernel
theorem dX7_chainMoves_8 : decode cX7_chainMoves 8 = .ok (.if_icmp .eq 7, 3) := by decide +kernel
theorem dX7_chainMoves_11 : decode cX7_chainMoves 11 = .ok (.iconst 1, 1) := by decide +kernel
theorem dX7_chainMoves_12 : decode cX7_chainMoves 12 = .ok (.goto 4, 3) := by decide +kernel
theorem dX7_chainMoves_15 : decode cX7_chainMoves 15 = .ok (.iconst 0, 1) := by decide +kernel
theorem dX7_chainMoves_16 : decode cX7_chainMoves 16 = .ok (.invokestatic 144, 3) := by decide +kernel
theorem dX7_chainMoves_19 : decode cX7_chainMoves 19 = .ok (.aload_n 0, 1) := by decide +kernel
theorem dX7_chainMoves_20 : decode cX7_chainMoves 20 = .ok (.getfield 12, 3) := by decide +kernel
theorem dX7_chainMoves_23 : decode cX7_chainMoves 23 = .ok (.getfield 230, 3) := by decide +kernel
theorem dX7_chainMoves_26 : decode cX7_chainMoves 26 = .ok (.ireturn, 1) := by decide +kernel
theorem dX7_chainPupil_0 : decode cX7_chainPupil 0 = .ok (.iload_n 1, 1) := by decide +kernel
theorem dX7_chainPupil_1 : decode cX7_chainPupil 1 = .ok (.ifCond .lt 18, 3) := by decide +kernel
theorem dX7_chainPupil_4 : decode cX7_chainPupil 4 = .ok (.iload_n 1, 1) := by decide +kernel
theorem dX7_chainPupil_5 : decode cX7_chainPupil 5 = .ok (.aload_n 0, 1) := by decide +kernel
theorem dX7_chainPupil_6 : decode cX7_chainPupil 6 = .ok (.getfield 12, 3) := by decide +kernel
theorem dX7_chainPupil_9 : decode cX7_chainPupil 9 = .ok (.getfield 230, 3) := by decide +kernel
theorem dX7_chainPupil_12 : decode cX7_chainPupil 12 = .ok (.if_icmp .ge 7, 3) := by decide +kernel
theorem dX7_chainPupil_15 : decode cX7_chainPupil 15 = .ok (.iconst 1, 1) := by decide +kernel
theorem dX7_chainPupil_16 : decode cX7_chainPupil 16 = .ok (.goto 4, 3) := by decide +kernel
theorem dX7_chainPupil_19 : decode cX7_chainPupil 19 = .ok (.iconst 0, 1) := by decide +kernel
theorem dX7_chainPupil_20 : decode cX7_chainPupil 20 = .ok (.invokestatic 144, 3) := by decide +kernel
theorem dX7_chainPupil_23 : decode cX7_chainPupil 23 = .ok (.aload_n 0, 1) := by decide +kernel
theorem dX7_chainPupil_24 : decode cX7_chainPupil 24 = .ok (.getfield 12, 3) := by decide +kernel
theorem dX7_chainPupil_27 : decode cX7_chainPupil 27 = .ok (.getfield 233, 3) := by decide +kernel
theorem dX7_chainPupil_30 : decode cX7_chainPupil 30 = .ok (.iload_n 1, 1) := by decide +kernel
theorem dX7_chainPupil_31 : decode cX7_chainPupil 31 = .ok (.invokestatic 118, 3) := by decide +kernel
theorem dX7_chainPupil_34 : decode cX7_chainPupil 34 = .ok (.ireturn, 1) := by decide +kernel
theorem dX7_chainBlock_0 : decode cX7_chainBlock 0 = .ok (.iload_n 1, 1) := by decide +kernel
theorem dX7_chainBlock_1 : decode cX7_chainBlock 1 = .ok (.ifCond .lt 18, 3) := by decide +kernel
theorem dX7_chainBlock_4 : decode cX7_chainBlock 4 = .ok (.iload_n 1, 1) := by decide +kernel
theorem dX7_chainBlock_5 : decode cX7_chainBlock 5 = .ok (.aload_n 0, 1) := by decide +kernel
theorem dX7_chainBlock_6 : decode cX7_chainBlock 6 = .ok (.getfield 12, 3) := by decide +kernel
theorem dX7_chainBlock_9 : decode cX7_chainBlock 9 = .ok (.getfield 230, 3) := by decide +kernel
theorem dX7_chainBlock_12 : decode cX7_chainBlock 12 = .ok (.if_icmp .ge 7, 3) := by decide +kernel
theorem dX7_chainBlock_15 : decode cX7_chainBlock 15 = .ok (.iconst 1, 1) := by decide +kernel
theorem dX7_chainBlock_16 : decode cX7_chainBlock 16 = .ok (.goto 4, 3) := by decide +kernel
theorem dX7_chainBlock_19 : decode cX7_chainBlock 19 = .ok (.iconst 0, 1) := by decide +kernel
theorem dX7_chainBlock_20 : decode cX7_chainBlock 20 = .ok (.invokestatic 144, 3) := by decide +kernel
theorem dX7_chainBlock_23 : decode cX7_chainBlock 23 = .ok (.aload_n 0, 1) := by decide +kernel
theorem dX7_chainBlock_24 : decode cX7_chainBlock 24 = .ok (.getfield 12, 3) := by decide +kernel
theorem dX7_chainBlock_27 : decode cX7_chainBlock 27 = .ok (.getfield 236, 3) := by decide +kernel
theorem dX7_chainBlock_30 : decode cX7_chainBlock 30 = .ok (.iload_n 1, 1) := by decide +kernel
theorem dX7_chainBlock_31 : decode cX7_chainBlock 31 = .ok (.invokestatic 118, 3) := by decide +kernel
theorem dX7_chainBlock_34 : decode cX7_chainBlock 34 = .ok (.ireturn, 1) := by decide +kernel
theorem dX7_commonWishes_0 : decode cX7_commonWishes 0 = .ok (.aload_n 0, 1) := by decide +kernel
theorem dX7_commonWishes_1 : decode cX7_commonWishes 1 = .ok (.iload_n 1, 1) := by decide +kernel
theorem dX7_commonWishes_2 : decode cX7_commonWishes 2 = .ok (.iload_n 2, 1) := by decide +kernel
theorem dX7_commonWishes_3 : decode cX7_commonWishes 3 = .ok (.invokevirtual 239, 3) := by decide +kernel
theorem dX7_commonWishes_6 : decode cX7_commonWishes 6 = .ok (.aload_n 0, 1) := by decide +kernel
theorem dX7_commonWishes_7 : decode cX7_commonWishes 7 = .ok (.getfield 12, 3) := by decide +kernel
theorem dX7_commonWishes_10 : decode cX7_commonWishes 10 = .ok (.iload_n 1, 1) := by decide +kernel
theorem dX7_commonWishes_11 : decode cX7_commonWishes 11 = .ok (.iload_n 2, 1) := by decide +kernel
theorem dX7_commonWishes_12 : decode cX7_commonWishes 12 = .ok (.invokevirtual 243, 3) := by decide +kernel
theorem dX7_commonWishes_15 : decode cX7_commonWishes 15 = .ok (.ireturn, 1) := by decide +kernel
theorem dX7_doClash_0 : decode cX7_doClash 0 = .ok (.aload_n 0, 1) := by decide +kernel
theorem dX7_doClash_1 : decode cX7_doClash 1 = .ok (.iload_n 1, 1) := by decide +kernel
theorem dX7_doClash_2 : decode cX7_doClash 2 = .ok (.iload_n 2, 1) := by decide +kernel
theorem dX7_doClash_3 : decode cX7_doClash 3 = .ok (.invokevirtual 239, 3) := by decide +kernel
theorem dX7_doClash_6 : decode cX7_doClash 6 = .ok (.aload_n 0, 1) := by decide +kernel
theorem dX7_doClash_7 : decode cX7_doClash 7 = .ok (.getfield 12, 3) := by decide +kernel
theorem dX7_doClash_10 : decode cX7_doClash 10 = .ok (.iload_n 1, 1) := by decide +kernel
theorem dX7_doClash_11 : decode cX7_doClash 11 = .ok (.iload_n 2, 1) := by decide +kernel
theorem dX7_doClash_12 : decode cX7_doClash 12 = .ok (.invokevirtual 246, 3) := by decide +kernel
theorem dX7_doClash_15 : decode cX7_doClash 15 = .ok (.ireturn, 1) := by decide +kernel
theorem dX7_clashCount_0 : decode cX7_clashCount 0 = .ok (.iconst 0, 1) := by decide +kernel
theorem dX7_clashCount_1 : decode cX7_clashCount 1 = .ok (.istore_n 1, 1) := by decide +kernel
theorem dX7_clashCount_2 : decode cX7_clashCount 2 = .ok (.iconst 0, 1) := by decide +kernel
theorem dX7_clashCount_3 : decode cX7_clashCount 3 = .ok (.istore_n 2, 1) := by decide +kernel
theorem dX7_clashCount_4 : decode cX7_clashCount 4 = .ok (.iload_n 2, 1) := by decide +kernel
theorem dX7_clashCount_5 : decode cX7_clashCount 5 = .ok (.aload_n 0, 1) := by decide +kernel
theorem dX7_clashCount_6 : decode cX7_clashCount 6 = .ok (.getfield 12, 3) := by decide +kernel
theorem dX7_clashCount_9 : decode cX7_clashCount 9 = .ok (.getfield 103, 3) := by decide +kernel
theorem dX7_clashCount_12 : decode cX7_clashCount 12 = .ok (.if_icmp .ge 46, 3) := by decide +kernel
theorem dX7_clashCount_15 : decode cX7_clashCount 15 = .ok (.iconst 0, 1) := by decide +kernel
theorem dX7_clashCount_16 : decode cX7_clashCount 16 = .ok (.istore_n 3, 1) := by decide +kernel
theorem dX7_clashCount_17 : decode cX7_clashCount 17 = .ok (.iload_n 3, 1) := by decide +kernel
theorem dX7_clashCount_18 : decode cX7_clashCount 18 = .ok (.iload_n 2, 1) := by decide +kernel
theorem dX7_clashCount_19 : decode cX7_clashCount 19 = .ok (.if_icmp .ge 33, 3) := by decide +kernel
theorem dX7_clashCount_22 : decode cX7_clashCount 22 = .ok (.aload_n 0, 1) := by decide +kernel
theorem dX7_clashCount_23 : decode cX7_clashCount 23 = .ok (.getfield 12, 3) := by decide +kernel
theorem dX7_clashCount_26 : decode cX7_clashCount 26 = .ok (.iload_n 2, 1) := by decide +kernel
theorem dX7_clashCount_27 : decode cX7_clashCount 27 = .ok (.iload_n 3, 1) := by decide +kernel
theorem dX7_clashCount_28 : decode cX7_clashCount 28 = .ok (.invokevirtual 246, 3) := by decide +kernel
theorem dX7_clashCount_31 : decode cX7_clashCount 31 = .ok (.ifCond .eq 15, 3) := by decide +kernel
theorem dX7_clashCount_34 : decode cX7_clashCount 34 = .ok (.iload_n 1, 1) := by decide +kernel
theorem dX7_clashCount_35 : decode cX7_clashCount 35 = .ok (.aload_n 0, 1) := by decide +kernel
theorem dX7_clashCount_36 : decode cX7_clashCount 36 = .ok (.getfield 12, 3) := by decide +kernel
theorem dX7_clashCount_39 : decode cX7_clashCount 39 = .ok (.iload_n 2, 1) := by decide +kernel
theorem dX7_clashCount_40 : decode cX7_clashCount 40 = .ok (.iload_n 3, 1) := by decide +kernel
theorem dX7_clashCount_41 : decode cX7_clashCount 41 = .ok (.invokevirtual 243, 3) := by decide +kernel
theorem dX7_clashCount_44 : decode cX7_clashCount 44 = .ok (.iadd, 1) := by decide +kernel
theorem dX7_clashCount_45 : decode cX7_clashCount 45 = .ok (.istore_n 1, 1) := by decide +kernel
theorem dX7_clashCount_46 : decode cX7_clashCount 46 = .ok (.iinc 3 1, 3) := by decide +kernel
theorem dX7_clashCount_49 : decode cX7_clashCount 49 = .ok (.goto (-32), 3) := by decide +kernel
theorem dX7_clashCount_52 : decode cX7_clashCount 52 = .ok (.iinc 2 1, 3) := by decide +kernel
theorem dX7_clashCount_55 : decode cX7_clashCount 55 = .ok (.goto (-51), 3) := by decide +kernel
theorem dX7_clashCount_58 : decode cX7_clashCount 58 = .ok (.iload_n 1, 1) := by decide +kernel
theorem dX7_clashCount_59 : decode cX7_clashCount 59 = .ok (.ireturn, 1) := by decide +kernel
theorem dX7_leastClashes_0 : decode cX7_leastClashes 0 = .ok (.aload_n 0, 1) := by decide +kernel
theorem dX7_leastClashes_1 : decode cX7_leastClashes 1 = .ok (.getfield 35, 3) := by decide +kernel
theorem dX7_leastClashes_4 : decode cX7_leastClashes 4 = .ok (.invokevirtual 249, 3) := by decide +kernel
theorem dX7_leastClashes_7 : decode cX7_leastClashes 7 = .ok (.ireturn, 1) := by decide +kernel
theorem dX7_leastClashesByTrial_0 : decode cX7_leastClashesByTrial 0 = .ok (.aload_n 0, 1) := by decide +kernel
theorem dX7_leastClashesByTrial_1 : decode cX7_leastClashesByTrial 1 = .ok (.getfield 35, 3) := by decide +kernel
theorem dX7_leastClashesByTrial_4 : decode cX7_leastClashesByTrial 4 = .ok (.invokevirtual 252, 3) := by decide +kernel
theorem dX7_leastClashesByTrial_7 : decode cX7_leastClashesByTrial 7 = .ok (.ireturn, 1) := by decide +kernel
theorem dX7_arrange_0 : decode cX7_arrange 0 = .ok (.aload_n 0, 1) := by decide +kernel
theorem dX7_arrange_1 : decode cX7_arrange 1 = .ok (.bipush 11, 2) := by decide +kernel
theorem dX7_arrange_3 : decode cX7_arrange 3 = .ok (.iconst 0, 1) := by decide +kernel
theorem dX7_arrange_4 : decode cX7_arrange 4 = .ok (.iconst 0, 1) := by decide +kernel
theorem dX7_arrange_5 : decode cX7_arrange 5 = .ok (.iconst 0, 1) := by decide +kernel
theorem dX7_arrange_6 : decode cX7_arrange 6 = .ok (.invokevirtual 85, 3) := by decide +kernel
theorem dX7_arrange_9 : decode cX7_arrange 9 = .ok (.ireturn, 1) := by decide +kernel
theorem dX7_writeTimetable_0 : decode cX7_writeTimetable 0 = .ok (.aload_n 0, 1) := by decide +kernel
theorem dX7_writeTimetable_1 : decode cX7_writeTimetable 1 = .ok (.getfield 12, 3) := by decide +kernel
theorem dX7_writeTimetable_4 : decode cX7_writeTimetable 4 = .ok (.iload_n 1, 1) := by decide +kernel
theorem dX7_writeTimetable_5 : decode cX7_writeTimetable 5 = .ok (.invokevirtual 153, 3) := by decide +kernel
theorem dX7_writeTimetable_8 : decode cX7_writeTimetable 8 = .ok (.invokestatic 110, 3) := by decide +kernel
theorem dX7_writeTimetable_11 : decode cX7_writeTimetable 11 = .ok (.aload_n 0, 1) := by decide +kernel
theorem dX7_writeTimetable_12 : decode cX7_writeTimetable 12 = .ok (.getfield 71, 3) := by decide +kernel
theorem dX7_writeTimetable_15 : decode cX7_writeTimetable 15 = .ok (.iconst 0, 1) := by decide +kernel
theorem dX7_writeTimetable_16 : decode cX7_writeTimetable 16 = .ok (.invokevirtual 255, 3) := by decide +kernel
theorem dX7_writeTimetable_19 : decode cX7_writeTimetable 19 = .ok (.aload_n 0, 1) := by decide +kernel
theorem dX7_writeTimetable_20 : decode cX7_writeTimetable 20 = .ok (.getfield 71, 3) := by decide +kernel
theorem dX7_writeTimetable_23 : decode cX7_writeTimetable 23 = .ok (.iload_n 1, 1) := by decide +kernel
theorem dX7_writeTimetable_24 : decode cX7_writeTimetable 24 = .ok (.invokevirtual 258, 3) := by decide +kernel
theorem dX7_writeTimetable_27 : decode cX7_writeTimetable 27 = .ok (.pop, 1) := by decide +kernel
theorem dX7_writeTimetable_28 : decode cX7_writeTimetable 28 = .ok (.aload_n 0, 1) := by decide +kernel
theorem dX7_writeTimetable_29 : decode cX7_writeTimetable 29 = .ok (.getfield 71, 3) := by decide +kernel
theorem dX7_writeTimetable_32 : decode cX7_writeTimetable 32 = .ok (.bipush 58, 2) := by decide +kernel
theorem dX7_writeTimetable_34 : decode cX7_writeTimetable 34 = .ok (.invokevirtual 262, 3) := by decide +kernel
theorem dX7_writeTimetable_37 : decode cX7_writeTimetable 37 = .ok (.pop, 1) := by decide +kernel
theorem dX7_writeTimetable_38 : decode cX7_writeTimetable 38 = .ok (.iconst 0, 1) := by decide +kernel
theorem dX7_writeTimetable_39 : decode cX7_writeTimetable 39 = .ok (.istore_n 2, 1) := by decide +kernel
theorem dX7_writeTimetable_40 : decode cX7_writeTimetable 40 = .ok (.iload_n 2, 1) := by decide +kernel
theorem dX7_writeTimetable_41 : decode cX7_writeTimetable 41 = .ok (.aload_n 0, 1) := by decide +kernel
theorem dX7_writeTimetable_42 : decode cX7_writeTimetable 42 = .ok (.getfield 12, 3) := by decide +kernel
theorem dX7_writeTimetable_45 : decode cX7_writeTimetable 45 = .ok (.getfield 122, 3) := by decide +kernel
theorem dX7_writeTimetable_48 : decode cX7_writeTimetable 48 = .ok (.if_icmp .ge 33, 3) := by decide +kernel
theorem dX7_writeTimetable_51 : decode cX7_writeTimetable 51 = .ok (.aload_n 0, 1) := by decide +kernel
theorem dX7_writeTimetable_52 : decode cX7_writeTimetable 52 = .ok (.getfield 71, 3) := by decide +kernel
theorem dX7_writeTimetable_55 : decode cX7_writeTimetable 55 = .ok (.bipush 32, 2) := by decide +kernel
theorem dX7_writeTimetable_57 : decode cX7_writeTimetable 57 = .ok (.invokevirtual 262, 3) := by decide +kernel
theorem dX7_writeTimetable_60 : decode cX7_writeTimetable 60 = .ok (.pop, 1) := by decide +kernel
theorem dX7_writeTimetable_61 : decode cX7_writeTimetable 61 = .ok (.aload_n 0, 1) := by decide +kernel
theorem dX7_writeTimetable_62 : decode cX7_writeTimetable 62 = .ok (.iload_n 1, 1) := by decide +kernel
theorem dX7_writeTimetable_63 : decode cX7_writeTimetable 63 = .ok (.aload_n 0, 1) := by decide +kernel
theorem dX7_writeTimetable_64 : decode cX7_writeTimetable 64 = .ok (.getfield 12, 3) := by decide +kernel
theorem dX7_writeTimetable_67 : decode cX7_writeTimetable 67 = .ok (.iload_n 1, 1) := by decide +kernel
theorem dX7_writeTimetable_68 : decode cX7_writeTimetable 68 = .ok (.iload_n 2, 1) := by decide +kernel
theorem dX7_writeTimetable_69 : decode cX7_writeTimetable 69 = .ok (.invokevirtual 168, 3) := by decide +kernel
theorem dX7_writeTimetable_72 : decode cX7_writeTimetable 72 = .ok (.invokevirtual 265, 3) := by decide +kernel
theorem dX7_writeTimetable_75 : decode cX7_writeTimetable 75 = .ok (.iinc 2 1, 3) := by decide +kernel
theorem dX7_writeTimetable_78 : decode cX7_writeTimetable 78 = .ok (.goto (-38), 3) := by decide +kernel
theorem dX7_writeTimetable_81 : decode cX7_writeTimetable 81 = .ok (.aload_n 0, 1) := by decide +kernel
theorem dX7_writeTimetable_82 : decode cX7_writeTimetable 82 = .ok (.getfield 71, 3) := by decide +kernel
theorem dX7_writeTimetable_85 : decode cX7_writeTimetable 85 = .ok (.invokevirtual 268, 3) := by decide +kernel
theorem dX7_writeTimetable_88 : decode cX7_writeTimetable 88 = .ok (.ireturn, 1) := by decide +kernel
theorem dX7_lineAt_0 : decode cX7_lineAt 0 = .ok (.iload_n 1, 1) := by decide +kernel
theorem dX7_lineAt_1 : decode cX7_lineAt 1 = .ok (.ifCond .lt 18, 3) := by decide +kernel
theorem dX7_lineAt_4 : decode cX7_lineAt 4 = .ok (.iload_n 1, 1) := by decide +kernel
theorem dX7_lineAt_5 : decode cX7_lineAt 5 = .ok (.aload_n 0, 1) := by decide +kernel
theorem dX7_lineAt_6 : decode cX7_lineAt 6 = .ok (.getfield 71, 3) := by decide +kernel
theorem dX7_lineAt_9 : decode cX7_lineAt 9 = .ok (.invokevirtual 268, 3) := by decide +kernel
theorem dX7_lineAt_12 : decode cX7_lineAt 12 = .ok (.if_icmp .ge 7, 3) := by decide +kernel
theorem dX7_lineAt_15 : decode cX7_lineAt 15 = .ok (.iconst 1, 1) := by decide +kernel
theorem dX7_lineAt_16 : decode cX7_lineAt 16 = .ok (.goto 4, 3) := by decide +kernel
theorem dX7_lineAt_19 : decode cX7_lineAt 19 = .ok (.iconst 0, 1) := by decide +kernel
theorem dX7_lineAt_20 : decode cX7_lineAt 20 = .ok (.invokestatic 110, 3) := by decide +kernel
theorem dX7_lineAt_23 : decode cX7_lineAt 23 = .ok (.aload_n 0, 1) := by decide +kernel
theorem dX7_lineAt_24 : decode cX7_lineAt 24 = .ok (.getfield 71, 3) := by decide +kernel
theorem dX7_lineAt_27 : decode cX7_lineAt 27 = .ok (.iload_n 1, 1) := by decide +kernel
theorem dX7_lineAt_28 : decode cX7_lineAt 28 = .ok (.invokevirtual 271, 3) := by decide +kernel
theorem dX7_lineAt_31 : decode cX7_lineAt 31 = .ok (.ireturn, 1) := by decide +kernel
theorem dX7_type_0 : decode cX7_type 0 = .ok (.iload_n 1, 1) := by decide +kernel
theorem dX7_type_1 : decode cX7_type 1 = .ok (.bipush 32, 2) := by decide +kernel
theorem dX7_type_3 : decode cX7_type 3 = .ok (.if_icmp .lt 9, 3) := by decide +kernel
theorem dX7_type_6 : decode cX7_type 6 = .ok (.iload_n 1, 1) := by decide +kernel
theorem dX7_type_7 : decode cX7_type 7 = .ok (.bipush 126, 2) := by decide +kernel
theorem dX7_type_9 : decode cX7_type 9 = .ok (.if_icmp .le 14, 3) := by decide +kernel
theorem dX7_type_12 : decode cX7_type 12 = .ok (.new 275, 3) := by decide +kernel
theorem dX7_type_15 : decode cX7_type 15 = .ok (.dup, 1) := by decide +kernel
theorem dX7_type_16 : decode cX7_type 16 = .ok (.ldc_w 277, 3) := by decide +kernel
theorem dX7_type_19 : decode cX7_type 19 = .ok (.invokespecial 279, 3) := by decide +kernel
theorem dX7_type_22 : decode cX7_type 22 = .ok (.athrow, 1) := by decide +kernel
theorem dX7_type_23 : decode cX7_type 23 = .ok (.aload_n 0, 1) := by decide +kernel
theorem dX7_type_24 : decode cX7_type 24 = .ok (.getfield 64, 3) := by decide +kernel
theorem dX7_type_27 : decode cX7_type 27 = .ok (.getfield 280, 3) := by decide +kernel
theorem dX7_type_30 : decode cX7_type 30 = .ok (.invokevirtual 268, 3) := by decide +kernel
theorem dX7_type_33 : decode cX7_type 33 = .ok (.bipush 60, 2) := by decide +kernel
theorem dX7_type_35 : decode cX7_type 35 = .ok (.if_icmp .lt 14, 3) := by decide +kernel
theorem dX7_type_38 : decode cX7_type 38 = .ok (.new 283, 3) := by decide +kernel
theorem dX7_type_41 : decode cX7_type 41 = .ok (.dup, 1) := by decide +kernel
theorem dX7_type_42 : decode cX7_type 42 = .ok (.ldc_w 285, 3) := by decide +kernel
theorem dX7_type_45 : decode cX7_type 45 = .ok (.invokespecial 287, 3) := by decide +kernel
theorem dX7_type_48 : decode cX7_type 48 = .ok (.athrow, 1) := by decide +kernel
theorem dX7_type_49 : decode cX7_type 49 = .ok (.aload_n 0, 1) := by decide +kernel
theorem dX7_type_50 : decode cX7_type 50 = .ok (.getfield 64, 3) := by decide +kernel
theorem dX7_type_53 : decode cX7_type 53 = .ok (.getfield 280, 3) := by decide +kernel
theorem dX7_type_56 : decode cX7_type 56 = .ok (.iload_n 1, 1) := by decide +kernel
theorem dX7_type_57 : decode cX7_type 57 = .ok (.invokevirtual 262, 3) := by decide +kernel
theorem dX7_type_60 : decode cX7_type 60 = .ok (.pop, 1) := by decide +kernel
theorem dX7_type_61 : decode cX7_type 61 = .ok (.aload_n 0, 1) := by decide +kernel
theorem dX7_type_62 : decode cX7_type 62 = .ok (.getfield 64, 3) := by decide +kernel
theorem dX7_type_65 : decode cX7_type 65 = .ok (.getfield 280, 3) := by decide +kernel
theorem dX7_type_68 : decode cX7_type 68 = .ok (.invokevirtual 268, 3) := by decide +kernel
theorem dX7_type_71 : decode cX7_type 71 = .ok (.ireturn, 1) := by decide +kernel
theorem dX7_execute_0 : decode cX7_execute 0 = .ok (.aload_n 0, 1) := by decide +kernel
theorem dX7_execute_1 : decode cX7_execute 1 = .ok (.getfield 64, 3) := by decide +kernel
theorem dX7_execute_4 : decode cX7_execute 4 = .ok (.invokevirtual 288, 3) := by decide +kernel
theorem dX7_execute_7 : decode cX7_execute 7 = .ok (.istore_n 1, 1) := by decide +kernel
theorem dX7_execute_8 : decode cX7_execute 8 = .ok (.aload_n 0, 1) := by decide +kernel
theorem dX7_execute_9 : decode cX7_execute 9 = .ok (.getfield 64, 3) := by decide +kernel
theorem dX7_execute_12 : decode cX7_execute 12 = .ok (.getfield 280, 3) := by decide +kernel
theorem dX7_execute_15 : decode cX7_execute 15 = .ok (.iconst 0, 1) := by decide +kernel
theorem dX7_execute_16 : decode cX7_execute 16 = .ok (.invokevirtual 255, 3) := by decide +kernel
theorem dX7_execute_19 : decode cX7_execute 19 = .ok (.iload_n 1, 1) := by decide +kernel
theorem dX7_execute_20 : decode cX7_execute 20 = .ok (.iconst (-1), 1) := by decide +kernel
theorem dX7_execute_21 : decode cX7_execute 21 = .ok (.if_icmp .eq 19, 3) := by decide +kernel
theorem dX7_execute_24 : decode cX7_execute 24 = .ok (.aload_n 0, 1) := by decide +kernel
theorem dX7_execute_25 : decode cX7_execute 25 = .ok (.iload_n 1, 1) := by decide +kernel
theorem dX7_execute_26 : decode cX7_execute 26 = .ok (.putfield 75, 3) := by decide +kernel
theorem dX7_execute_29 : decode cX7_execute 29 = .ok (.new 275, 3) := by decide +kernel
theorem dX7_execute_32 : decode cX7_execute 32 = .ok (.dup, 1) := by decide +kernel
theorem dX7_execute_33 : decode cX7_execute 33 = .ok (.ldc_w 291, 3) := by decide +kernel
theorem dX7_execute_36 : decode cX7_execute 36 = .ok (.invokespecial 279, 3) := by decide +kernel
theorem dX7_execute_39 : decode cX7_execute 39 = .ok (.athrow, 1) := by decide +kernel
theorem dX7_execute_40 : decode cX7_execute 40 = .ok (.aload_n 0, 1) := by decide +kernel
theorem dX7_execute_41 : decode cX7_execute 41 = .ok (.getfield 58, 3) := by decide +kernel
theorem dX7_execute_44 : decode cX7_execute 44 = .ok (.aload_n 0, 1) := by decide +kernel
theorem dX7_execute_45 : decode cX7_execute 45 = .ok (.getfield 12, 3) := by decide +kernel
theorem dX7_execute_48 : decode cX7_execute 48 = .ok (.invokevirtual 293, 3) := by decide +kernel
theorem dX7_execute_51 : decode cX7_execute 51 = .ok (.iconst 0, 1) := by decide +kernel
theorem dX7_execute_52 : decode cX7_execute 52 = .ok (.istore_n 2, 1) := by decide +kernel
theorem dX7_execute_53 : decode cX7_execute 53 = .ok (.iload_n 2, 1) := by decide +kernel
theorem dX7_execute_54 : decode cX7_execute 54 = .ok (.aload_n 0, 1) := by decide +kernel
theorem dX7_execute_55 : decode cX7_execute 55 = .ok (.getfield 64, 3) := by decide +kernel
theorem dX7_execute_58 : decode cX7_execute 58 = .ok (.getfield 296, 3) := by decide +kernel
theorem dX7_execute_61 : decode cX7_execute 61 = .ok (.if_icmp .ge 120, 3) := by decide +kernel
theorem dX7_execute_64 : decode cX7_execute 64 = .ok (.aload_n 0, 1) := by decide +kernel
theorem dX7_execute_65 : decode cX7_execute 65 = .ok (.getfield 64, 3) := by decide +kernel
theorem dX7_execute_68 : decode cX7_execute 68 = .ok (.iload_n 2, 1) := by decide +kernel
theorem dX7_execute_69 : decode cX7_execute 69 = .ok (.invokevirtual 299, 3) := by decide +kernel
theorem dX7_execute_72 : decode cX7_execute 72 = .ok (.istore_n 3, 1) := by decide +kernel
theorem dX7_execute_73 : decode cX7_execute 73 = .ok (.aload_n 0, 1) := by decide +kernel
theorem dX7_execute_74 : decode cX7_execute 74 = .ok (.getfield 64, 3) := by decide +kernel
theorem dX7_execute_77 : decode cX7_execute 77 = .ok (.iload_n 2, 1) := by decide +kernel
theorem dX7_execute_78 : decode cX7_execute 78 = .ok (.iconst 0, 1) := by decide +kernel
theorem dX7_execute_79 : decode cX7_execute 79 = .ok (.invokevirtual 302, 3) := by decide +kernel
theorem dX7_execute_82 : decode cX7_execute 82 = .ok (.istore 4, 2) := by decide +kernel
theorem dX7_execute_84 : decode cX7_execute 84 = .ok (.aload_n 0, 1) := by decide +kernel
theorem dX7_execute_85 : decode cX7_execute 85 = .ok (.getfield 64, 3) := by decide +kernel
theorem dX7_execute_88 : decode cX7_execute 88 = .ok (.iload_n 2, 1) := by decide +kernel
theorem dX7_execute_89 : decode cX7_execute 89 = .ok (.iconst 1, 1) := by decide +kernel
theorem dX7_execute_90 : decode cX7_execute 90 = .ok (.invokevirtual 302, 3) := by decide +kernel
theorem dX7_execute_93 : decode cX7_execute 93 = .ok (.istore 5, 2) := by decide +kernel
theorem dX7_execute_95 : decode cX7_execute 95 = .ok (.aload_n 0, 1) := by decide +kernel
theorem dX7_execute_96 : decode cX7_execute 96 = .ok (.getfield 64, 3) := by decide +kernel
theorem dX7_execute_99 : decode cX7_execute 99 = .ok (.iload_n 2, 1) := by decide +kernel
theorem dX7_execute_100 : decode cX7_execute 100 = .ok (.iconst 2, 1) := by decide +kernel
theorem dX7_execute_101 : decode cX7_execute 101 = .ok (.invokevirtual 302, 3) := by decide +kernel
theorem dX7_execute_104 : decode cX7_execute 104 = .ok (.istore 6, 2) := by decide +kernel
theorem dX7_execute_106 : decode cX7_execute 106 = .ok (.aload_n 0, 1) := by decide +kernel
theorem dX7_execute_107 : decode cX7_execute 107 = .ok (.getfield 44, 3) := by decide +kernel
theorem dX7_execute_110 : decode cX7_execute 110 = .ok (.iload_n 3, 1) := by decide +kernel
theorem dX7_execute_111 : decode cX7_execute 111 = .ok (.iload 4, 2) := by decide +kernel
theorem dX7_execute_113 : decode cX7_execute 113 = .ok (.iload 5, 2) := by decide +kernel
theorem dX7_execute_115 : decode cX7_execute 115 = .ok (.iload 6, 2) := by decide +kernel
theorem dX7_execute_117 : decode cX7_execute 117 = .ok (.invokevirtual 305, 3) := by decide +kernel
theorem dX7_execute_120 : decode cX7_execute 120 = .ok (.istore 7, 2) := by decide +kernel
theorem dX7_execute_122 : decode cX7_execute 122 = .ok (.iload 7, 2) := by decide +kernel
theorem dX7_execute_124 : decode cX7_execute 124 = .ok (.ifCond .eq 36, 3) := by decide +kernel
theorem dX7_execute_127 : decode cX7_execute 127 = .ok (.aload_n 0, 1) := by decide +kernel
theorem dX7_execute_128 : decode cX7_execute 128 = .ok (.getfield 12, 3) := by decide +kernel
theorem dX7_execute_131 : decode cX7_execute 131 = .ok (.aload_n 0, 1) := by decide +kernel
theorem dX7_execute_132 : decode cX7_execute 132 = .ok (.getfield 58, 3) := by decide +kernel
theorem dX7_execute_135 : decode cX7_execute 135 = .ok (.invokevirtual 293, 3) := by decide +kernel
theorem dX7_execute_138 : decode cX7_execute 138 = .ok (.aload_n 0, 1) := by decide +kernel
theorem dX7_execute_139 : decode cX7_execute 139 = .ok (.iload_n 2, 1) := by decide +kernel
theorem dX7_execute_140 : decode cX7_execute 140 = .ok (.putfield 79, 3) := by decide +kernel
theorem dX7_execute_143 : decode cX7_execute 143 = .ok (.aload_n 0, 1) := by decide +kernel
theorem dX7_execute_144 : decode cX7_execute 144 = .ok (.iload 7, 2) := by decide +kernel
theorem dX7_execute_146 : decode cX7_execute 146 = .ok (.putfield 82, 3) := by decide +kernel
theorem dX7_execute_149 : decode cX7_execute 149 = .ok (.new 283, 3) := by decide +kernel
theorem dX7_execute_152 : decode cX7_execute 152 = .ok (.dup, 1) := by decide +kernel
theorem dX7_execute_153 : decode cX7_execute 153 = .ok (.ldc_w 308, 3) := by decide +kernel
theorem dX7_execute_156 : decode cX7_execute 156 = .ok (.invokespecial 287, 3) := by decide +kernel
theorem dX7_execute_159 : decode cX7_execute 159 = .ok (.athrow, 1) := by decide +kernel
theorem dX7_execute_160 : decode cX7_execute 160 = .ok (.aload_n 0, 1) := by decide +kernel
theorem dX7_execute_161 : decode cX7_execute 161 = .ok (.getfield 44, 3) := by decide +kernel
theorem dX7_execute_164 : decode cX7_execute 164 = .ok (.iload_n 3, 1) := by decide +kernel
theorem dX7_execute_165 : decode cX7_execute 165 = .ok (.iload 4, 2) := by decide +kernel
theorem dX7_execute_167 : decode cX7_execute 167 = .ok (.iload 5, 2) := by decide +kernel
theorem dX7_execute_169 : decode cX7_execute 169 = .ok (.iload 6, 2) := by decide +kernel
theorem dX7_execute_171 : decode cX7_execute 171 = .ok (.invokevirtual 310, 3) := by decide +kernel
theorem dX7_execute_174 : decode cX7_execute 174 = .ok (.pop, 1) := by decide +kernel
theorem dX7_execute_175 : decode cX7_execute 175 = .ok (.iinc 2 1, 3) := by decide +kernel
theorem dX7_execute_178 : decode cX7_execute 178 = .ok (.goto (-125), 3) := by decide +kernel
theorem dX7_execute_181 : decode cX7_execute 181 = .ok (.aload_n 0, 1) := by decide +kernel
theorem dX7_execute_182 : decode cX7_execute 182 = .ok (.getfield 51, 3) := by decide +kernel
theorem dX7_execute_185 : decode cX7_execute 185 = .ok (.aload_n 0, 1) := by decide +kernel
theorem dX7_execute_186 : decode cX7_execute 186 = .ok (.getfield 58, 3) := by decide +kernel
theorem dX7_execute_189 : decode cX7_execute 189 = .ok (.invokevirtual 97, 3) := by decide +kernel
theorem dX7_execute_192 : decode cX7_execute 192 = .ok (.aload_n 0, 1) := by decide +kernel
theorem dX7_execute_193 : decode cX7_execute 193 = .ok (.getfield 64, 3) := by decide +kernel
theorem dX7_execute_196 : decode cX7_execute 196 = .ok (.getfield 296, 3) := by decide +kernel
theorem dX7_execute_199 : decode cX7_execute 199 = .ok (.ireturn, 1) := by decide +kernel
theorem dX7_errorPosition_0 : decode cX7_errorPosition 0 = .ok (.aload_n 0, 1) := by decide +kernel
theorem dX7_errorPosition_1 : decode cX7_errorPosition 1 = .ok (.getfield 75, 3) := by decide +kernel
theorem dX7_errorPosition_4 : decode cX7_errorPosition 4 = .ok (.iconst (-1), 1) := by decide +kernel
theorem dX7_errorPosition_5 : decode cX7_errorPosition 5 = .ok (.if_icmp .eq 7, 3) := by decide +kernel
theorem dX7_errorPosition_8 : decode cX7_errorPosition 8 = .ok (.iconst 1, 1) := by decide +kernel
theorem dX7_errorPosition_9 : decode cX7_errorPosition 9 = .ok (.goto 4, 3) := by decide +kernel
theorem dX7_errorPosition_12 : decode cX7_errorPosition 12 = .ok (.iconst 0, 1) := by decide +kernel
theorem dX7_errorPosition_13 : decode cX7_errorPosition 13 = .ok (.invokestatic 144, 3) := by decide +kernel
theorem dX7_errorPosition_16 : decode cX7_errorPosition 16 = .ok (.aload_n 0, 1) := by decide +kernel
theorem dX7_errorPosition_17 : decode cX7_errorPosition 17 = .ok (.getfield 75, 3) := by decide +kernel
theorem dX7_errorPosition_20 : decode cX7_errorPosition 20 = .ok (.ireturn, 1) := by decide +kernel
theorem dX7_failedCommand_0 : decode cX7_failedCommand 0 = .ok (.aload_n 0, 1) := by decide +kernel
theorem dX7_failedCommand_1 : decode cX7_failedCommand 1 = .ok (.getfield 79, 3) := by decide +kernel
theorem dX7_failedCommand_4 : decode cX7_failedCommand 4 = .ok (.iconst (-1), 1) := by decide +kernel
theorem dX7_failedCommand_5 : decode cX7_failedCommand 5 = .ok (.if_icmp .eq 7, 3) := by decide +kernel
theorem dX7_failedCommand_8 : decode cX7_failedCommand 8 = .ok (.iconst 1, 1) := by decide +kernel
theorem dX7_failedCommand_9 : decode cX7_failedCommand 9 = .ok (.goto 4, 3) := by decide +kernel
theorem dX7_failedCommand_12 : decode cX7_failedCommand 12 = .ok (.iconst 0, 1) := by decide +kernel
theorem dX7_failedCommand_13 : decode cX7_failedCommand 13 = .ok (.invokestatic 144, 3) := by decide +kernel
theorem dX7_failedCommand_16 : decode cX7_failedCommand 16 = .ok (.aload_n 0, 1) := by decide +kernel
theorem dX7_failedCommand_17 : decode cX7_failedCommand 17 = .ok (.getfield 79, 3) := by decide +kernel
theorem dX7_failedCommand_20 : decode cX7_failedCommand 20 = .ok (.ireturn, 1) := by decide +kernel
theorem dX7_failureKind_0 : decode cX7_failureKind 0 = .ok (.aload_n 0, 1) := by decide +kernel
theorem dX7_failureKind_1 : decode cX7_failureKind 1 = .ok (.getfield 82, 3) := by decide +kernel
theorem dX7_failureKind_4 : decode cX7_failureKind 4 = .ok (.ifCond .eq 7, 3) := by decide +kernel
theorem dX7_failureKind_7 : decode cX7_failureKind 7 = .ok (.iconst 1, 1) := by decide +kernel
theorem dX7_failureKind_8 : decode cX7_failureKind 8 = .ok (.goto 4, 3) := by decide +kernel
theorem dX7_failureKind_11 : decode cX7_failureKind 11 = .ok (.iconst 0, 1) := by decide +kernel
theorem dX7_failureKind_12 : decode cX7_failureKind 12 = .ok (.invokestatic 144, 3) := by decide +kernel
theorem dX7_failureKind_15 : decode cX7_failureKind 15 = .ok (.aload_n 0, 1) := by decide +kernel
theorem dX7_failureKind_16 : decode cX7_failureKind 16 = .ok (.getfield 82, 3) := by decide +kernel
theorem dX7_failureKind_19 : decode cX7_failureKind 19 = .ok (.ireturn, 1) := by decide +kernel
theorem dX7_undo_0 : decode cX7_undo 0 = .ok (.aload_n 0, 1) := by decide +kernel
theorem dX7_undo_1 : decode cX7_undo 1 = .ok (.getfield 51, 3) := by decide +kernel
theorem dX7_undo_4 : decode cX7_undo 4 = .ok (.getfield 313, 3) := by decide +kernel
theorem dX7_undo_7 : decode cX7_undo 7 = .ok (.ifCond .gt 14, 3) := by decide +kernel
theorem dX7_undo_10 : decode cX7_undo 10 = .ok (.new 283, 3) := by decide +kernel
theorem dX7_undo_13 : decode cX7_undo 13 = .ok (.dup, 1) := by decide +kernel
theorem dX7_undo_14 : decode cX7_undo 14 = .ok (.ldc_w 314, 3) := by decide +kernel
theorem dX7_undo_17 : decode cX7_undo 17 = .ok (.invokespecial 287, 3) := by decide +kernel
theorem dX7_undo_20 : decode cX7_undo 20 = .ok (.athrow, 1) := by decide +kernel
theorem dX7_undo_21 : decode cX7_undo 21 = .ok (.aload_n 0, 1) := by decide +kernel
theorem dX7_undo_22 : decode cX7_undo 22 = .ok (.getfield 51, 3) := by decide +kernel
theorem dX7_undo_25 : decode cX7_undo 25 = .ok (.aload_n 0, 1) := by decide +kernel
theorem dX7_undo_26 : decode cX7_undo 26 = .ok (.getfield 12, 3) := by decide +kernel
theorem dX7_undo_29 : decode cX7_undo 29 = .ok (.invokevirtual 316, 3) := by decide +kernel
theorem dX7_undo_32 : decode cX7_undo 32 = .ok (.aload_n 0, 1) := by decide +kernel
theorem dX7_undo_33 : decode cX7_undo 33 = .ok (.getfield 51, 3) := by decide +kernel
theorem dX7_undo_36 : decode cX7_undo 36 = .ok (.getfield 313, 3) := by decide +kernel
theorem dX7_undo_39 : decode cX7_undo 39 = .ok (.ireturn, 1) := by decide +kernel
theorem dX7_save_0 : decode cX7_save 0 = .ok (.aload_n 0, 1) := by decide +kernel
theorem dX7_save_1 : decode cX7_save 1 = .ok (.getfield 55, 3) := by decide +kernel
theorem dX7_save_4 : decode cX7_save 4 = .ok (.aload_n 0, 1) := by decide +kernel
theorem dX7_save_5 : decode cX7_save 5 = .ok (.getfield 12, 3) := by decide +kernel
theorem dX7_save_8 : decode cX7_save 8 = .ok (.invokevirtual 293, 3) := by decide +kernel
theorem dX7_save_11 : decode cX7_save 11 = .ok (.aload_n 0, 1) := by decide +kernel
theorem dX7_save_12 : decode cX7_save 12 = .ok (.iconst 1, 1) := by decide +kernel
theorem dX7_save_13 : decode cX7_save 13 = .ok (.putfield 319, 3) := by decide +kernel
theorem dX7_save_16 : decode cX7_save 16 = .ok (.aload_n 0, 1) := by decide +kernel
theorem dX7_save_17 : decode cX7_save 17 = .ok (.getfield 12, 3) := by decide +kernel
theorem dX7_save_20 : decode cX7_save 20 = .ok (.getfield 150, 3) := by decide +kernel
theorem dX7_save_23 : decode cX7_save 23 = .ok (.ireturn, 1) := by decide +kernel
theorem dX7_restore_0 : decode cX7_restore 0 = .ok (.aload_n 0, 1) := by decide +kernel
theorem dX7_restore_1 : decode cX7_restore 1 = .ok (.getfield 319, 3) := by decide +kernel
theorem dX7_restore_4 : decode cX7_restore 4 = .ok (.ifCond .ne 14, 3) := by decide +kernel
theorem dX7_restore_7 : decode cX7_restore 7 = .ok (.new 283, 3) := by decide +kernel
theorem dX7_restore_10 : decode cX7_restore 10 = .ok (.dup, 1) := by decide +kernel
theorem dX7_restore_11 : decode cX7_restore 11 = .ok (.ldc_w 323, 3) := by decide +kernel
theorem dX7_restore_14 : decode cX7_restore 14 = .ok (.invokespecial 287, 3) := by decide +kernel
theorem dX7_restore_17 : decode cX7_restore 17 = .ok (.athrow, 1) := by decide +kernel
theorem dX7_restore_18 : decode cX7_restore 18 = .ok (.aload_n 0, 1) := by decide +kernel
theorem dX7_restore_19 : decode cX7_restore 19 = .ok (.getfield 12, 3) := by decide +kernel
theorem dX7_restore_22 : decode cX7_restore 22 = .ok (.aload_n 0, 1) := by decide +kernel
theorem dX7_restore_23 : decode cX7_restore 23 = .ok (.getfield 55, 3) := by decide +kernel
theorem dX7_restore_26 : decode cX7_restore 26 = .ok (.invokevirtual 293, 3) := by decide +kernel
theorem dX7_restore_29 : decode cX7_restore 29 = .ok (.aload_n 0, 1) := by decide +kernel
theorem dX7_restore_30 : decode cX7_restore 30 = .ok (.getfield 51, 3) := by decide +kernel
theorem dX7_restore_33 : decode cX7_restore 33 = .ok (.invokevirtual 325, 3) := by decide +kernel
theorem dX7_restore_36 : decode cX7_restore 36 = .ok (.aload_n 0, 1) := by decide +kernel
theorem dX7_restore_37 : decode cX7_restore 37 = .ok (.getfield 12, 3) := by decide +kernel
theorem dX7_restore_40 : decode cX7_restore 40 = .ok (.getfield 150, 3) := by decide +kernel
theorem dX7_restore_43 : decode cX7_restore 43 = .ok (.ireturn, 1) := by decide +kernel
theorem dX7_make_0 : decode cX7_make 0 = .ok (.aload_n 0, 1) := by decide +kernel
theorem dX7_make_1 : decode cX7_make 1 = .ok (.getfield 44, 3) := by decide +kernel
theorem dX7_make_4 : decode cX7_make 4 = .ok (.iload_n 1, 1) := by decide +kernel
theorem dX7_make_5 : decode cX7_make 5 = .ok (.iload_n 2, 1) := by decide +kernel
theorem dX7_make_6 : decode cX7_make 6 = .ok (.iload_n 3, 1) := by decide +kernel
theorem dX7_make_7 : decode cX7_make 7 = .ok (.iload 4, 2) := by decide +kernel
theorem dX7_make_9 : decode cX7_make 9 = .ok (.invokevirtual 305, 3) := by decide +kernel
theorem dX7_make_12 : decode cX7_make 12 = .ok (.invokestatic 93, 3) := by decide +kernel
theorem dX7_make_15 : decode cX7_make 15 = .ok (.aload_n 0, 1) := by decide +kernel
theorem dX7_make_16 : decode cX7_make 16 = .ok (.getfield 51, 3) := by decide +kernel
theorem dX7_make_19 : decode cX7_make 19 = .ok (.aload_n 0, 1) := by decide +kernel
theorem dX7_make_20 : decode cX7_make 20 = .ok (.getfield 12, 3) := by decide +kernel
theorem dX7_make_23 : decode cX7_make 23 = .ok (.invokevirtual 97, 3) := by decide +kernel
theorem dX7_make_26 : decode cX7_make 26 = .ok (.aload_n 0, 1) := by decide +kernel
theorem dX7_make_27 : decode cX7_make 27 = .ok (.getfield 44, 3) := by decide +kernel
theorem dX7_make_30 : decode cX7_make 30 = .ok (.iload_n 1, 1) := by decide +kernel
theorem dX7_make_31 : decode cX7_make 31 = .ok (.iload_n 2, 1) := by decide +kernel
theorem dX7_make_32 : decode cX7_make 32 = .ok (.iload_n 3, 1) := by decide +kernel
theorem dX7_make_33 : decode cX7_make 33 = .ok (.iload 4, 2) := by decide +kernel
theorem dX7_make_35 : decode cX7_make 35 = .ok (.invokevirtual 310, 3) := by decide +kernel
theorem dX7_make_38 : decode cX7_make 38 = .ok (.ireturn, 1) := by decide +kernel
theorem dX7_writeLesson_0 : decode cX7_writeLesson 0 = .ok (.iload_n 2, 1) := by decide +kernel
theorem dX7_writeLesson_1 : decode cX7_writeLesson 1 = .ok (.iconst (-1), 1) := by decide +kernel
theorem dX7_writeLesson_2 : decode cX7_writeLesson 2 = .ok (.if_icmp .ne 14, 3) := by decide +kernel
theorem dX7_writeLesson_5 : decode cX7_writeLesson 5 = .ok (.aload_n 0, 1) := by decide +kernel
theorem dX7_writeLesson_6 : decode cX7_writeLesson 6 = .ok (.getfield 71, 3) := by decide +kernel
theorem dX7_writeLesson_9 : decode cX7_writeLesson 9 = .ok (.bipush 45, 2) := by decide +kernel
theorem dX7_writeLesson_11 : decode cX7_writeLesson 11 = .ok (.invokevirtual 262, 3) := by decide +kernel
theorem dX7_writeLesson_14 : decode cX7_writeLesson 14 = .ok (.pop, 1) := by decide +kernel
theorem dX7_writeLesson_15 : decode cX7_writeLesson 15 = .ok (.return_, 1) := by decide +kernel
theorem dX7_writeLesson_16 : decode cX7_writeLesson 16 = .ok (.aload_n 0, 1) := by decide +kernel
theorem dX7_writeLesson_17 : decode cX7_writeLesson 17 = .ok (.getfield 71, 3) := by decide +kernel
theorem dX7_writeLesson_20 : decode cX7_writeLesson 20 = .ok (.iload_n 2, 1) := by decide +kernel
theorem dX7_writeLesson_21 : decode cX7_writeLesson 21 = .ok (.invokevirtual 258, 3) := by decide +kernel
theorem dX7_writeLesson_24 : decode cX7_writeLesson 24 = .ok (.pop, 1) := by decide +kernel
theorem dX7_writeLesson_25 : decode cX7_writeLesson 25 = .ok (.iload_n 2, 1) := by decide +kernel
theorem dX7_writeLesson_26 : decode cX7_writeLesson 26 = .ok (.aload_n 0, 1) := by decide +kernel
theorem dX7_writeLesson_27 : decode cX7_writeLesson 27 = .ok (.getfield 12, 3) := by decide +kernel
theorem dX7_writeLesson_30 : decode cX7_writeLesson 30 = .ok (.getfield 162, 3) := by decide +kernel
theorem dX7_writeLesson_33 : decode cX7_writeLesson 33 = .ok (.iload_n 1, 1) := by decide +kernel
theorem dX7_writeLesson_34 : decode cX7_writeLesson 34 = .ok (.invokestatic 118, 3) := by decide +kernel
theorem dX7_writeLesson_37 : decode cX7_writeLesson 37 = .ok (.if_icmp .ne 13, 3) := by decide +kernel
theorem dX7_writeLesson_40 : decode cX7_writeLesson 40 = .ok (.aload_n 0, 1) := by decide +kernel
theorem dX7_writeLesson_41 : decode cX7_writeLesson 41 = .ok (.getfield 71, 3) := by decide +kernel
theorem dX7_writeLesson_44 : decode cX7_writeLesson 44 = .ok (.bipush 33, 2) := by decide +kernel
theorem dX7_writeLesson_46 : decode cX7_writeLesson 46 = .ok (.invokevirtual 262, 3) := by decide +kernel
theorem dX7_writeLesson_49 : decode cX7_writeLesson 49 = .ok (.pop, 1) := by decide +kernel
theorem dX7_writeLesson_50 : decode cX7_writeLesson 50 = .ok (.return_, 1) := by decide +kernel
theorem dX7_needPair_0 : decode cX7_needPair 0 = .ok (.aload_n 0, 1) := by decide +kernel
theorem dX7_needPair_1 : decode cX7_needPair 1 = .ok (.getfield 12, 3) := by decide +kernel
theorem dX7_needPair_4 : decode cX7_needPair 4 = .ok (.iload_n 1, 1) := by decide +kernel
theorem dX7_needPair_5 : decode cX7_needPair 5 = .ok (.invokevirtual 106, 3) := by decide +kernel
theorem dX7_needPair_8 : decode cX7_needPair 8 = .ok (.ifCond .eq 18, 3) := by decide +kernel
theorem dX7_needPair_11 : decode cX7_needPair 11 = .ok (.aload_n 0, 1) := by decide +kernel
theorem dX7_needPair_12 : decode cX7_needPair 12 = .ok (.getfield 12, 3) := by decide +kernel
theorem dX7_needPair_15 : decode cX7_needPair 15 = .ok (.iload_n 2, 1) := by decide +kernel
theorem dX7_needPair_16 : decode cX7_needPair 16 = .ok (.invokevirtual 106, 3) := by decide +kernel
theorem dX7_needPair_19 : decode cX7_needPair 19 = .ok (.ifCond .eq 7, 3) := by decide +kernel
theorem dX7_needPair_22 : decode cX7_needPair 22 = .ok (.iconst 1, 1) := by decide +kernel
theorem dX7_needPair_23 : decode cX7_needPair 23 = .ok (.goto 4, 3) := by decide +kernel
theorem dX7_needPair_26 : decode cX7_needPair 26 = .ok (.iconst 0, 1) := by decide +kernel
theorem dX7_needPair_27 : decode cX7_needPair 27 = .ok (.invokestatic 110, 3) := by decide +kernel
theorem dX7_needPair_30 : decode cX7_needPair 30 = .ok (.iload_n 1, 1) := by decide +kernel
theorem dX7_needPair_31 : decode cX7_needPair 31 = .ok (.iload_n 2, 1) := by decide +kernel
theorem dX7_needPair_32 : decode cX7_needPair 32 = .ok (.if_icmp .ne 14, 3) := by decide +kernel
theorem dX7_needPair_35 : decode cX7_needPair 35 = .ok (.new 275, 3) := by decide +kernel
theorem dX7_needPair_38 : decode cX7_needPair 38 = .ok (.dup, 1) := by decide +kernel
theorem dX7_needPair_39 : decode cX7_needPair 39 = .ok (.ldc_w 328, 3) := by decide +kernel
theorem dX7_needPair_42 : decode cX7_needPair 42 = .ok (.invokespecial 279, 3) := by decide +kernel
theorem dX7_needPair_45 : decode cX7_needPair 45 = .ok (.athrow, 1) := by decide +kernel
theorem dX7_needPair_46 : decode cX7_needPair 46 = .ok (.return_, 1) := by decide +kernel
theorem dX7_needIndex_0 : decode cX7_needIndex 0 = .ok (.iload_n 0, 1) := by decide +kernel
theorem dX7_needIndex_1 : decode cX7_needIndex 1 = .ok (.ifCond .ne 14, 3) := by decide +kernel
theorem dX7_needIndex_4 : decode cX7_needIndex 4 = .ok (.new 330, 3) := by decide +kernel
theorem dX7_needIndex_7 : decode cX7_needIndex 7 = .ok (.dup, 1) := by decide +kernel
theorem dX7_needIndex_8 : decode cX7_needIndex 8 = .ok (.ldc_w 332, 3) := by decide +kernel
theorem dX7_needIndex_11 : decode cX7_needIndex 11 = .ok (.invokespecial 334, 3) := by decide +kernel
theorem dX7_needIndex_14 : decode cX7_needIndex 14 = .ok (.athrow, 1) := by decide +kernel
theorem dX7_needIndex_15 : decode cX7_needIndex 15 = .ok (.return_, 1) := by decide +kernel
theorem dX7_needElement_0 : decode cX7_needElement 0 = .ok (.iload_n 0, 1) := by decide +kernel
theorem dX7_needElement_1 : decode cX7_needElement 1 = .ok (.ifCond .ne 14, 3) := by decide +kernel
theorem dX7_needElement_4 : decode cX7_needElement 4 = .ok (.new 335, 3) := by decide +kernel
theorem dX7_needElement_7 : decode cX7_needElement 7 = .ok (.dup, 1) := by decide +kernel
theorem dX7_needElement_8 : decode cX7_needElement 8 = .ok (.ldc_w 337, 3) := by decide +kernel
theorem dX7_needElement_11 : decode cX7_needElement 11 = .ok (.invokespecial 339, 3) := by decide +kernel
theorem dX7_needElement_14 : decode cX7_needElement 14 = .ok (.athrow, 1) := by decide +kernel
theorem dX7_needElement_15 : decode cX7_needElement 15 = .ok (.return_, 1) := by decide +kernel
theorem dX7_throwFault_0 : decode cX7_throwFault 0 = .ok (.iload_n 0, 1) := by decide +kernel
theorem dX7_throwFault_1 : decode cX7_throwFault 1 = .ok (.tableswitch 75 1 4 #[31, 42, 53, 64], 31) := by decide +kernel
theorem dX7_throwFault_32 : decode cX7_throwFault 32 = .ok (.new 330, 3) := by decide +kernel
theorem dX7_throwFault_35 : decode cX7_throwFault 35 = .ok (.dup, 1) := by decide +kernel
theorem dX7_throwFault_36 : decode cX7_throwFault 36 = .ok (.ldc_w 332, 3) := by decide +kernel
theorem dX7_throwFault_39 : decode cX7_throwFault 39 = .ok (.invokespecial 334, 3) := by decide +kernel
theorem dX7_throwFault_42 : decode cX7_throwFault 42 = .ok (.athrow, 1) := by decide +kernel
theorem dX7_throwFault_43 : decode cX7_throwFault 43 = .ok (.new 275, 3) := by decide +kernel
theorem dX7_throwFault_46 : decode cX7_throwFault 46 = .ok (.dup, 1) := by decide +kernel
theorem dX7_throwFault_47 : decode cX7_throwFault 47 = .ok (.ldc_w 340, 3) := by decide +kernel
theorem dX7_throwFault_50 : decode cX7_throwFault 50 = .ok (.invokespecial 279, 3) := by decide +kernel
theorem dX7_throwFault_53 : decode cX7_throwFault 53 = .ok (.athrow, 1) := by decide +kernel
theorem dX7_throwFault_54 : decode cX7_throwFault 54 = .ok (.new 283, 3) := by decide +kernel
theorem dX7_throwFault_57 : decode cX7_throwFault 57 = .ok (.dup, 1) := by decide +kernel
theorem dX7_throwFault_58 : decode cX7_throwFault 58 = .ok (.ldc_w 342, 3) := by decide +kernel
theorem dX7_throwFault_61 : decode cX7_throwFault 61 = .ok (.invokespecial 287, 3) := by decide +kernel
theorem dX7_throwFault_64 : decode cX7_throwFault 64 = .ok (.athrow, 1) := by decide +kernel
theorem dX7_throwFault_65 : decode cX7_throwFault 65 = .ok (.new 344, 3) := by decide +kernel
theorem dX7_throwFault_68 : decode cX7_throwFault 68 = .ok (.dup, 1) := by decide +kernel
theorem dX7_throwFault_69 : decode cX7_throwFault 69 = .ok (.ldc_w 346, 3) := by decide +kernel
theorem dX7_throwFault_72 : decode cX7_throwFault 72 = .ok (.invokespecial 348, 3) := by decide +kernel
theorem dX7_throwFault_75 : decode cX7_throwFault 75 = .ok (.athrow, 1) := by decide +kernel
theorem dX7_throwFault_76 : decode cX7_throwFault 76 = .ok (.return_, 1) := by decide +kernel
theorem dX7_read_0 : decode cX7_read 0 = .ok (.iload_n 1, 1) := by decide +kernel
theorem dX7_read_1 : decode cX7_read 1 = .ok (.ifCond .lt 15, 3) := by decide +kernel
theorem dX7_read_4 : decode cX7_read 4 = .ok (.iload_n 1, 1) := by decide +kernel
theorem dX7_read_5 : decode cX7_read 5 = .ok (.aload_n 0, 1) := by decide +kernel
theorem dX7_read_6 : decode cX7_read 6 = .ok (.arraylength, 1) := by decide +kernel
theorem dX7_read_7 : decode cX7_read 7 = .ok (.if_icmp .ge 9, 3) := by decide +kernel
theorem dX7_read_10 : decode cX7_read 10 = .ok (.aload_n 0, 1) := by decide +kernel
theorem dX7_read_11 : decode cX7_read 11 = .ok (.iload_n 1, 1) := by decide +kernel
theorem dX7_read_12 : decode cX7_read 12 = .ok (.iaload, 1) := by decide +kernel
theorem dX7_read_13 : decode cX7_read 13 = .ok (.goto 4, 3) := by decide +kernel
theorem dX7_read_16 : decode cX7_read 16 = .ok (.iconst (-1), 1) := by decide +kernel
theorem dX7_read_17 : decode cX7_read 17 = .ok (.ireturn, 1) := by decide +kernel
theorem dX7_write_0 : decode cX7_write 0 = .ok (.iload_n 1, 1) := by decide +kernel
theorem dX7_write_1 : decode cX7_write 1 = .ok (.ifCond .lt 13, 3) := by decide +kernel
theorem dX7_write_4 : decode cX7_write 4 = .ok (.iload_n 1, 1) := by decide +kernel
theorem dX7_write_5 : decode cX7_write 5 = .ok (.aload_n 0, 1) := by decide +kernel
theorem dX7_write_6 : decode cX7_write 6 = .ok (.arraylength, 1) := by decide +kernel
theorem dX7_write_7 : decode cX7_write 7 = .ok (.if_icmp .ge 7, 3) := by decide +kernel
theorem dX7_write_10 : decode cX7_write 10 = .ok (.aload_n 0, 1) := by decide +kernel
theorem dX7_write_11 : decode cX7_write 11 = .ok (.iload_n 1, 1) := by decide +kernel
theorem dX7_write_12 : decode cX7_write 12 = .ok (.iload_n 2, 1) := by decide +kernel
theorem dX7_write_13 : decode cX7_write 13 = .ok (.iastore, 1) := by decide +kernel
theorem dX7_write_14 : decode cX7_write 14 = .ok (.return_, 1) := by decide +kernel
theorem dX7_copyRow_0 : decode cX7_copyRow 0 = .ok (.aload_n 0, 1) := by decide +kernel
theorem dX7_copyRow_1 : decode cX7_copyRow 1 = .ok (.iconst 0, 1) := by decide +kernel
theorem dX7_copyRow_2 : decode cX7_copyRow 2 = .ok (.aload_n 1, 1) := by decide +kernel
theorem dX7_copyRow_3 : decode cX7_copyRow 3 = .ok (.iconst 0, 1) := by decide +kernel
theorem dX7_copyRow_4 : decode cX7_copyRow 4 = .ok (.aload_n 0, 1) := by decide +kernel
theorem dX7_copyRow_5 : decode cX7_copyRow 5 = .ok (.arraylength, 1) := by decide +kernel
theorem dX7_copyRow_6 : decode cX7_copyRow 6 = .ok (.aload_n 1, 1) := by decide +kernel
theorem dX7_copyRow_7 : decode cX7_copyRow 7 = .ok (.arraylength, 1) := by decide +kernel
theorem dX7_copyRow_8 : decode cX7_copyRow 8 = .ok (.invokestatic 349, 3) := by decide +kernel
theorem dX7_copyRow_11 : decode cX7_copyRow 11 = .ok (.invokestatic 354, 3) := by decide +kernel
theorem dX7_copyRow_14 : decode cX7_copyRow 14 = .ok (.return_, 1) := by decide +kernel
theorem dX7_holds_0 : decode cX7_holds 0 = .ok (.iload_n 1, 1) := by decide +kernel
theorem dX7_holds_1 : decode cX7_holds 1 = .ok (.ifCond .lt 22, 3) := by decide +kernel
theorem dX7_holds_4 : decode cX7_holds 4 = .ok (.iload_n 1, 1) := by decide +kernel
theorem dX7_holds_5 : decode cX7_holds 5 = .ok (.bipush 16, 2) := by decide +kernel
theorem dX7_holds_7 : decode cX7_holds 7 = .ok (.if_icmp .ge 16, 3) := by decide +kernel
theorem dX7_holds_10 : decode cX7_holds 10 = .ok (.iload_n 0, 1) := by decide +kernel
theorem dX7_holds_11 : decode cX7_holds 11 = .ok (.iload_n 1, 1) := by decide +kernel
theorem dX7_holds_12 : decode cX7_holds 12 = .ok (.ishr, 1) := by decide +kernel
theorem dX7_holds_13 : decode cX7_holds 13 = .ok (.iconst 1, 1) := by decide +kernel
theorem dX7_holds_14 : decode cX7_holds 14 = .ok (.iand, 1) := by decide +kernel
theorem dX7_holds_15 : decode cX7_holds 15 = .ok (.iconst 1, 1) := by decide +kernel
theorem dX7_holds_16 : decode cX7_holds 16 = .ok (.if_icmp .ne 7, 3) := by decide +kernel
theorem dX7_holds_19 : decode cX7_holds 19 = .ok (.iconst 1, 1) := by decide +kernel
theorem dX7_holds_20 : decode cX7_holds 20 = .ok (.goto 4, 3) := by decide +kernel
theorem dX7_holds_23 : decode cX7_holds 23 = .ok (.iconst 0, 1) := by decide +kernel
theorem dX7_holds_24 : decode cX7_holds 24 = .ok (.ireturn, 1) := by decide +kernel
theorem dX7_memberAt_0 : decode cX7_memberAt 0 = .ok (.iload_n 1, 1) := by decide +kernel
theorem dX7_memberAt_1 : decode cX7_memberAt 1 = .ok (.istore_n 2, 1) := by decide +kernel
theorem dX7_memberAt_2 : decode cX7_memberAt 2 = .ok (.iconst 0, 1) := by decide +kernel
theorem dX7_memberAt_3 : decode cX7_memberAt 3 = .ok (.istore_n 3, 1) := by decide +kernel
theorem dX7_memberAt_4 : decode cX7_memberAt 4 = .ok (.iload_n 3, 1) := by decide +kernel
theorem dX7_memberAt_5 : decode cX7_memberAt 5 = .ok (.bipush 16, 2) := by decide +kernel
theorem dX7_memberAt_7 : decode cX7_memberAt 7 = .ok (.if_icmp .ge 26, 3) := by decide +kernel
theorem dX7_memberAt_10 : decode cX7_memberAt 10 = .ok (.iload_n 0, 1) := by decide +kernel
theorem dX7_memberAt_11 : decode cX7_memberAt 11 = .ok (.iload_n 3, 1) := by decide +kernel
theorem dX7_memberAt_12 : decode cX7_memberAt 12 = .ok (.invokestatic 133, 3) := by decide +kernel
theorem dX7_memberAt_15 : decode cX7_memberAt 15 = .ok (.ifCond .eq 12, 3) := by decide +kernel
theorem dX7_memberAt_18 : decode cX7_memberAt 18 = .ok (.iload_n 2, 1) := by decide +kernel
theorem dX7_memberAt_19 : decode cX7_memberAt 19 = .ok (.ifCond .ne 5, 3) := by decide +kernel
theorem dX7_memberAt_22 : decode cX7_memberAt 22 = .ok (.iload_n 3, 1) := by decide +kernel
theorem dX7_memberAt_23 : decode cX7_memberAt 23 = .ok (.ireturn, 1) := by decide +kernel
theorem dX7_memberAt_24 : decode cX7_memberAt 24 = .ok (.iinc 2 (-1), 3) := by decide +kernel
theorem dX7_memberAt_27 : decode cX7_memberAt 27 = .ok (.iinc 3 1, 3) := by decide +kernel
theorem dX7_memberAt_30 : decode cX7_memberAt 30 = .ok (.goto (-26), 3) := by decide +kernel
theorem dX7_memberAt_33 : decode cX7_memberAt 33 = .ok (.iconst (-1), 1) := by decide +kernel
theorem dX7_memberAt_34 : decode cX7_memberAt 34 = .ok (.ireturn, 1) := by decide +kernel
theorem dX8_init_0 : decode cX8_init 0 = .ok (.aload_n 0, 1) := by decide +kernel
theorem dX8_init_1 : decode cX8_init 1 = .ok (.invokespecial 1, 3) := by decide +kernel
theorem dX8_init_4 : decode cX8_init 4 = .ok (.aload_n 0, 1) := by decide +kernel
theorem dX8_init_5 : decode cX8_init 5 = .ok (.sipush 153, 3) := by decide +kernel
theorem dX8_init_8 : decode cX8_init 8 = .ok (.newarray .int, 2) := by decide +kernel
theorem dX8_init_10 : decode cX8_init 10 = .ok (.putfield 7, 3) := by decide +kernel
theorem dX8_init_13 : decode cX8_init 13 = .ok (.aload_n 0, 1) := by decide +kernel
theorem dX8_init_14 : decode cX8_init 14 = .ok (.sipush 153, 3) := by decide +kernel
theorem dX8_init_17 : decode cX8_init 17 = .ok (.newarray .int, 2) := by decide +kernel
theorem dX8_init_19 : decode cX8_init 19 = .ok (.putfield 13, 3) := by decide +kernel
theorem dX8_init_22 : decode cX8_init 22 = .ok (.aload_n 0, 1) := by decide +kernel
theorem dX8_init_23 : decode cX8_init 23 = .ok (.sipush 153, 3) := by decide +kernel
theorem dX8_init_26 : decode cX8_init 26 = .ok (.newarray .int, 2) := by decide +kernel
theorem dX8_init_28 : decode cX8_init 28 = .ok (.putfield 16, 3) := by decide +kernel
theorem dX8_init_31 : decode cX8_init 31 = .ok (.aload_n 0, 1) := by decide +kernel
theorem dX8_init_32 : decode cX8_init 32 = .ok (.sipush 153, 3) := by decide +kernel
theorem dX8_init_35 : decode cX8_init 35 = .ok (.newarray .int, 2) := by decide +kernel
theorem dX8_init_37 : decode cX8_init 37 = .ok (.putfield 19, 3) := by decide +kernel
theorem dX8_init_40 : decode cX8_init 40 = .ok (.aload_n 0, 1) := by decide +kernel
theorem dX8_init_41 : decode cX8_init 41 = .ok (.sipush 1224, 3) := by decide +kernel
theorem dX8_init_44 : decode cX8_init 44 = .ok (.newarray .int, 2) := by decide +kernel
theorem dX8_init_46 : decode cX8_init 46 = .ok (.putfield 22, 3) := by decide +kernel
theorem dX8_init_49 : decode cX8_init 49 = .ok (.aload_n 0, 1) := by decide +kernel
theorem dX8_init_50 : decode cX8_init 50 = .ok (.iconst (-1), 1) := by decide +kernel
theorem dX8_init_51 : decode cX8_init 51 = .ok (.putfield 25, 3) := by decide +kernel
theorem dX8_init_54 : decode cX8_init 54 = .ok (.aload_n 0, 1) := by decide +kernel
theorem dX8_init_55 : decode cX8_init 55 = .ok (.iconst (-1), 1) := by decide +kernel
theorem dX8_init_56 : decode cX8_init 56 = .ok (.putfield 29, 3) := by decide +kernel
theorem dX8_init_59 : decode cX8_init 59 = .ok (.aload_n 0, 1) := by decide +kernel
theorem dX8_init_60 : decode cX8_init 60 = .ok (.bipush 40, 2) := by decide +kernel
theorem dX8_init_62 : decode cX8_init 62 = .ok (.newarray .char, 2) := by decide +kernel
theorem dX8_init_64 : decode cX8_init 64 = .ok (.putfield 32, 3) := by decide +kernel
theorem dX8_init_67 : decode cX8_init 67 = .ok (.aload_n 0, 1) := by decide +kernel
theorem dX8_init_68 : decode cX8_init 68 = .ok (.bipush 60, 2) := by decide +kernel
theorem dX8_init_70 : decode cX8_init 70 = .ok (.newarray .char, 2) := by decide +kernel
theorem dX8_init_72 : decode cX8_init 72 = .ok (.putfield 36, 3) := by decide +kernel
theorem dX8_init_75 : decode cX8_init 75 = .ok (.aload_n 0, 1) := by decide +kernel
theorem dX8_init_76 : decode cX8_init 76 = .ok (.iconst 4, 1) := by decide +kernel
theorem dX8_init_77 : decode cX8_init 77 = .ok (.newarray .int, 2) := by decide +kernel
theorem dX8_init_79 : decode cX8_init 79 = .ok (.putfield 39, 3) := by decide +kernel
theorem dX8_init_82 : decode cX8_init 82 = .ok (.aload_n 0, 1) := by decide +kernel
theorem dX8_init_83 : decode cX8_init 83 = .ok (.iconst 4, 1) := by decide +kernel
theorem dX8_init_84 : decode cX8_init 84 = .ok (.newarray .int, 2) := by decide +kernel
theorem dX8_init_86 : decode cX8_init 86 = .ok (.putfield 42, 3) := by decide +kernel
theorem dX8_init_89 : decode cX8_init 89 = .ok (.aload_n 0, 1) := by decide +kernel
theorem dX8_init_90 : decode cX8_init 90 = .ok (.iconst 5, 1) := by decide +kernel
theorem dX8_init_91 : decode cX8_init 91 = .ok (.newarray .int, 2) := by decide +kernel
theorem dX8_init_93 : decode cX8_init 93 = .ok (.putfield 45, 3) := by decide +kernel
theorem dX8_init_96 : decode cX8_init 96 = .ok (.aload_n 0, 1) := by decide +kernel
theorem dX8_init_97 : decode cX8_init 97 = .ok (.bipush 49, 2) := by decide +kernel
theorem dX8_init_99 : decode cX8_init 99 = .ok (.newarray .int, 2) := by decide +kernel
theorem dX8_init_101 : decode cX8_init 101 = .ok (.putfield 48, 3) := by decide +kernel
theorem dX8_init_104 : decode cX8_init 104 = .ok (.aload_n 0, 1) := by decide +kernel
theorem dX8_init_105 : decode cX8_init 105 = .ok (.bipush 7, 2) := by decide +kernel
theorem dX8_init_107 : decode cX8_init 107 = .ok (.newarray .int, 2) := by decide +kernel
theorem dX8_init_109 : decode cX8_init 109 = .ok (.putfield 51, 3) := by decide +kernel
theorem dX8_init_112 : decode cX8_init 112 = .ok (.aload_n 0, 1) := by decide +kernel
theorem dX8_init_113 : decode cX8_init 113 = .ok (.bipush 7, 2) := by decide +kernel
theorem dX8_init_115 : decode cX8_init 115 = .ok (.newarray .int, 2) := by decide +kernel
theorem dX8_init_117 : decode cX8_init 117 = .ok (.putfield 54, 3) := by decide +kernel
theorem dX8_init_120 : decode cX8_init 120 = .ok (.aload_n 0, 1) := by decide +kernel
theorem dX8_init_121 : decode cX8_init 121 = .ok (.bipush 12, 2) := by decide +kernel
theorem dX8_init_123 : decode cX8_init 123 = .ok (.anewarray 57, 3) := by decide +kernel
theorem dX8_init_126 : decode cX8_init 126 = .ok (.dup, 1) := by decide +kernel
theorem dX8_init_127 : decode cX8_init 127 = .ok (.iconst 0, 1) := by decide +kernel
theorem dX8_init_128 : decode cX8_init 128 = .ok (.ldc 59, 2) := by decide +kernel
theorem dX8_init_130 : decode cX8_init 130 = .ok (.aastore, 1) := by decide +kernel
theorem dX8_init_131 : decode cX8_init 131 = .ok (.dup, 1) := by decide +kernel
theorem dX8_init_132 : decode cX8_init 132 = .ok (.iconst 1, 1) := by decide +kernel
theorem dX8_init_133 : decode cX8_init 133 = .ok (.ldc 61, 2) := by decide +kernel
theorem dX8_init_135 : decode cX8_init 135 = .ok (.aastore, 1) := by decide +kernel
theorem dX8_init_136 : decode cX8_init 136 = .ok (.dup, 1) := by decide +kernel
theorem dX8_init_137 : decode cX8_init 137 = .ok (.iconst 2, 1) := by decide +kernel
theorem dX8_init_138 : decode cX8_init 138 = .ok (.ldc 63, 2) := by decide +kernel
theorem dX8_init_140 : decode cX8_init 140 = .ok (.aastore, 1) := by decide +kernel
theorem dX8_init_141 : decode cX8_init 141 = .ok (.dup, 1) := by decide +kernel
theorem dX8_init_142 : decode cX8_init 142 = .ok (.iconst 3, 1) := by decide +kernel
theorem dX8_init_143 : decode cX8_init 143 = .ok (.ldc 65, 2) := by decide +kernel
theorem dX8_init_145 : decode cX8_init 145 = .ok (.aastore, 1) := by decide +kernel
theorem dX8_init_146 : decode cX8_init 146 = .ok (.dup, 1) := by decide +kernel
theorem dX8_init_147 : decode cX8_init 147 = .ok (.iconst 4, 1) := by decide +kernel
theorem dX8_init_148 : decode cX8_init 148 = .ok (.ldc 67, 2) := by decide +kernel
theorem dX8_init_150 : decode cX8_init 150 = .ok (.aastore, 1) := by decide +kernel
theorem dX8_init_151 : decode cX8_init 151 = .ok (.dup, 1) := by decide +kernel
theorem dX8_init_152 : decode cX8_init 152 = .ok (.iconst 5, 1) := by decide +kernel
theorem dX8_init_153 : decode cX8_init 153 = .ok (.ldc 69, 2) := by decide +kernel
theorem dX8_init_155 : decode cX8_init 155 = .ok (.aastore, 1) := by decide +kernel
theorem dX8_init_156 : decode cX8_init 156 = .ok (.dup, 1) := by decide +kernel
theorem dX8_init_157 : decode cX8_init 157 = .ok (.bipush 6, 2) := by decide +kernel
theorem dX8_init_159 : decode cX8_init 159 = .ok (.ldc 71, 2) := by decide +kernel
theorem dX8_init_161 : decode cX8_init 161 = .ok (.aastore, 1) := by decide +kernel
theorem dX8_init_162 : decode cX8_init 162 = .ok (.dup, 1) := by decide +kernel
theorem dX8_init_163 : decode cX8_init 163 = .ok (.bipush 7, 2) := by decide +kernel
theorem dX8_init_165 : decode cX8_init 165 = .ok (.ldc 73, 2) := by decide +kernel
theorem dX8_init_167 : decode cX8_init 167 = .ok (.aastore, 1) := by decide +kernel
theorem dX8_init_168 : decode cX8_init 168 = .ok (.dup, 1) := by decide +kernel
theorem dX8_init_169 : decode cX8_init 169 = .ok (.bipush 8, 2) := by decide +kernel
theorem dX8_init_171 : decode cX8_init 171 = .ok (.ldc 75, 2) := by decide +kernel
theorem dX8_init_173 : decode cX8_init 173 = .ok (.aastore, 1) := by decide +kernel
theorem dX8_init_174 : decode cX8_init 174 = .ok (.dup, 1) := by decide +kernel
theorem dX8_init_175 : decode cX8_init 175 = .ok (.bipush 9, 2) := by decide +kernel
theorem dX8_init_177 : decode cX8_init 177 = .ok (.ldc 77, 2) := by decide +kernel
theorem dX8_init_179 : decode cX8_init 179 = .ok (.aastore, 1) := by decide +kernel
theorem dX8_init_180 : decode cX8_init 180 = .ok (.dup, 1) := by decide +kernel
theorem dX8_init_181 : decode cX8_init 181 = .ok (.bipush 10, 2) := by decide +kernel
theorem dX8_init_183 : decode cX8_init 183 = .ok (.ldc 79, 2) := by decide +kernel
theorem dX8_init_185 : decode cX8_init 185 = .ok (.aastore, 1) := by decide +kernel
theorem dX8_init_186 : decode cX8_init 186 = .ok (.dup, 1) := by decide +kernel
theorem dX8_init_187 : decode cX8_init 187 = .ok (.bipush 11, 2) := by decide +kernel
theorem dX8_init_189 : decode cX8_init 189 = .ok (.ldc 81, 2) := by decide +kernel
theorem dX8_init_191 : decode cX8_init 191 = .ok (.aastore, 1) := by decide +kernel
theorem dX8_init_192 : decode cX8_init 192 = .ok (.putfield 83, 3) := by decide +kernel
theorem dX8_init_195 : decode cX8_init 195 = .ok (.aload_n 0, 1) := by decide +kernel
theorem dX8_init_196 : decode cX8_init 196 = .ok (.bipush 12, 2) := by decide +kernel
theorem dX8_init_198 : decode cX8_init 198 = .ok (.newarray .int, 2) := by decide +kernel
theorem dX8_init_200 : decode cX8_init 200 = .ok (.putfield 87, 3) := by decide +kernel
theorem dX8_init_203 : decode cX8_init 203 = .ok (.aload_n 0, 1) := by decide +kernel
theorem dX8_init_204 : decode cX8_init 204 = .ok (.bipush 36, 2) := by decide +kernel
theorem dX8_init_206 : decode cX8_init 206 = .ok (.newarray .int, 2) := by decide +kernel
theorem dX8_init_208 : decode cX8_init 208 = .ok (.putfield 90, 3) := by decide +kernel
theorem dX8_init_211 : decode cX8_init 211 = .ok (.aload_n 0, 1) := by decide +kernel
theorem dX8_init_212 : decode cX8_init 212 = .ok (.iconst 3, 1) := by decide +kernel
theorem dX8_init_213 : decode cX8_init 213 = .ok (.newarray .int, 2) := by decide +kernel
theorem dX8_init_215 : decode cX8_init 215 = .ok (.putfield 93, 3) := by decide +kernel
theorem dX8_init_218 : decode cX8_init 218 = .ok (.aload_n 0, 1) := by decide +kernel
theorem dX8_init_219 : decode cX8_init 219 = .ok (.getfield 7, 3) := by decide +kernel
theorem dX8_init_222 : decode cX8_init 222 = .ok (.iconst 1, 1) := by decide +kernel
theorem dX8_init_223 : decode cX8_init 223 = .ok (.iconst 3, 1) := by decide +kernel
theorem dX8_init_224 : decode cX8_init 224 = .ok (.iastore, 1) := by decide +kernel
theorem dX8_init_225 : decode cX8_init 225 = .ok (.aload_n 0, 1) := by decide +kernel
theorem dX8_init_226 : decode cX8_init 226 = .ok (.getfield 7, 3) := by decide +kernel
theorem dX8_init_229 : decode cX8_init 229 = .ok (.iconst 3, 1) := by decide +kernel
theorem dX8_init_230 : decode cX8_init 230 = .ok (.iconst (-1), 1) := by decide +kernel
theorem dX8_init_231 : decode cX8_init 231 = .ok (.iastore, 1) := by decide +kernel
theorem dX8_init_232 : decode cX8_init 232 = .ok (.return_, 1) := by decide +kernel
theorem dX8_thrown_0 : decode cX8_thrown 0 = .ok (.aload_n 0, 1) := by decide +kernel
theorem dX8_thrown_1 : decode cX8_thrown 1 = .ok (.getfield 96, 3) := by decide +kernel
theorem dX8_thrown_4 : decode cX8_thrown 4 = .ok (.ireturn, 1) := by decide +kernel
theorem dX8_in_0 : decode cX8_in 0 = .ok (.iload_n 0, 1) := by decide +kernel
theorem dX8_in_1 : decode cX8_in 1 = .ok (.iload_n 1, 1) := by decide +kernel
theorem dX8_in_2 : decode cX8_in 2 = .ok (.if_icmp .lt 12, 3) := by decide +kernel
theorem dX8_in_5 : decode cX8_in 5 = .ok (.iload_n 0, 1) := by decide +kernel
theorem dX8_in_6 : decode cX8_in 6 = .ok (.iload_n 2, 1) := by decide +kernel
theorem dX8_in_7 : decode cX8_in 7 = .ok (.if_icmp .gt 7, 3) := by decide +kernel
theorem dX8_in_10 : decode cX8_in 10 = .ok (.iconst 1, 1) := by decide +kernel
theorem dX8_in_11 : decode cX8_in 11 = .ok (.goto 4, 3) := by decide +kernel
theorem dX8_in_14 : decode cX8_in 14 = .ok (.iconst 0, 1) := by decide +kernel
theorem dX8_in_15 : decode cX8_in 15 = .ok (.ireturn, 1) := by decide +kernel
theorem dX8_copies_0 : decode cX8_copies 0 = .ok (.iconst 0, 1) := by decide +kernel
theorem dX8_copies_1 : decode cX8_copies 1 = .ok (.istore_n 2, 1) := by decide +kernel
theorem dX8_copies_2 : decode cX8_copies 2 = .ok (.iload_n 2, 1) := by decide +kernel
theorem dX8_copies_3 : decode cX8_copies 3 = .ok (.sipush 153, 3) := by decide +kernel
theorem dX8_copies_6 : decode cX8_copies 6 = .ok (.if_icmp .ge 15, 3) := by decide +kernel
theorem dX8_copies_9 : decode cX8_copies 9 = .ok (.aload_n 1, 1) := by decide +kernel
theorem dX8_copies_10 : decode cX8_copies 10 = .ok (.iload_n 2, 1) := by decide +kernel
theorem dX8_copies_11 : decode cX8_copies 11 = .ok (.aload_n 0, 1) := by decide +kernel
theorem dX8_copies_12 : decode cX8_copies 12 = .ok (.iload_n 2, 1) := by decide +kernel
theorem dX8_copies_13 : decode cX8_copies 13 = .ok (.iaload, 1) := by decide +kernel
theorem dX8_copies_14 : decode cX8_copies 14 = .ok (.iastore, 1) := by decide +kernel
theorem dX8_copies_15 : decode cX8_copies 15 = .ok (.iinc 2 1, 3) := by decide +kernel
theorem dX8_copies_18 : decode cX8_copies 18 = .ok (.goto (-16), 3) := by decide +kernel
theorem dX8_copies_21 : decode cX8_copies 21 = .ok (.return_, 1) := by decide +kernel
theorem dX8_fails_0 : decode cX8_fails 0 = .ok (.aload_n 0, 1) := by decide +kernel
theorem dX8_fails_1 : decode cX8_fails 1 = .ok (.iload_n 1, 1) := by decide +kernel
theorem dX8_fails_2 : decode cX8_fails 2 = .ok (.putfield 96, 3) := by decide +kernel
theorem dX8_fails_5 : decode cX8_fails 5 = .ok (.iconst 0, 1) := by decide +kernel
theorem dX8_fails_6 : decode cX8_fails 6 = .ok (.ireturn, 1) := by decide +kernel
theorem dX8_tells_0 : decode cX8_tells 0 = .ok (.aload_n 0, 1) := by decide +kernel
theorem dX8_tells_1 : decode cX8_tells 1 = .ok (.iconst 0, 1) := by decide +kernel
theorem dX8_tells_2 : decode cX8_tells 2 = .ok (.putfield 96, 3) := by decide +kernel
theorem dX8_tells_5 : decode cX8_tells 5 = .ok (.iload_n 1, 1) := by decide +kernel
theorem dX8_tells_6 : decode cX8_tells 6 = .ok (.ireturn, 1) := by decide +kernel
theorem dX8_begins_0 : decode cX8_begins 0 = .ok (.aload_n 0, 1) := by decide +kernel
theorem dX8_begins_1 : decode cX8_begins 1 = .ok (.getfield 7, 3) := by decide +kernel
theorem dX8_begins_4 : decode cX8_begins 4 = .ok (.aload_n 0, 1) := by decide +kernel
theorem dX8_begins_5 : decode cX8_begins 5 = .ok (.getfield 13, 3) := by decide +kernel
theorem dX8_begins_8 : decode cX8_begins 8 = .ok (.invokestatic 99, 3) := by decide +kernel
theorem dX8_begins_11 : decode cX8_begins 11 = .ok (.aload_n 0, 1) := by decide +kernel
theorem dX8_begins_12 : decode cX8_begins 12 = .ok (.iconst 0, 1) := by decide +kernel
theorem dX8_begins_13 : decode cX8_begins 13 = .ok (.putfield 103, 3) := by decide +kernel
theorem dX8_begins_16 : decode cX8_begins 16 = .ok (.return_, 1) := by decide +kernel
theorem dX8_bad_0 : decode cX8_bad 0 = .ok (.aload_n 0, 1) := by decide +kernel
theorem dX8_bad_1 : decode cX8_bad 1 = .ok (.iload_n 1, 1) := by decide +kernel
theorem dX8_bad_2 : decode cX8_bad 2 = .ok (.putfield 103, 3) := by decide +kernel
theorem dX8_bad_5 : decode cX8_bad 5 = .ok (.iconst 0, 1) := by decide +kernel
theorem dX8_bad_6 : decode cX8_bad 6 = .ok (.ireturn, 1) := by decide +kernel
theorem dX8_ends_0 : decode cX8_ends 0 = .ok (.aload_n 0, 1) := by decide +kernel
theorem dX8_ends_1 : decode cX8_ends 1 = .ok (.getfield 103, 3) := by decide +kernel
theorem dX8_ends_4 : decode cX8_ends 4 = .ok (.ifCond .eq 33, 3) := by decide +kernel
theorem dX8_ends_7 : decode cX8_ends 7 = .ok (.aload_n 0, 1) := by decide +kernel
theorem dX8_ends_8 : decode cX8_ends 8 = .ok (.aload_n 0, 1) := by decide +kernel
theorem dX8_ends_9 : decode cX8_ends 9 = .ok (.getfield 103, 3) := by decide +kernel
theorem dX8_ends_12 : decode cX8_ends 12 = .ok (.iload_n 2, 1) := by decide +kernel
theorem dX8_ends_13 : decode cX8_ends 13 = .ok (.if_icmp .ne 7, 3) := by decide +kernel
theorem dX8_ends_16 : decode cX8_ends 16 = .ok (.iconst 1, 1) := by decide +kernel
theorem dX8_ends_17 : decode cX8_ends 17 = .ok (.goto 16, 3) := by decide +kernel
theorem dX8_ends_20 : decode cX8_ends 20 = .ok (.aload_n 0, 1) := by decide +kernel
theorem dX8_ends_21 : decode cX8_ends 21 = .ok (.getfield 103, 3) := by decide +kernel
theorem dX8_ends_24 : decode cX8_ends 24 = .ok (.iload_n 3, 1) := by decide +kernel
theorem dX8_ends_25 : decode cX8_ends 25 = .ok (.if_icmp .ne 7, 3) := by decide +kernel
theorem dX8_ends_28 : decode cX8_ends 28 = .ok (.iconst 2, 1) := by decide +kernel
theorem dX8_ends_29 : decode cX8_ends 29 = .ok (.goto 4, 3) := by decide +kernel
theorem dX8_ends_32 : decode cX8_ends 32 = .ok (.iconst 3, 1) := by decide +kernel
theorem dX8_ends_33 : decode cX8_ends 33 = .ok (.invokevirtual 106, 3) := by decide +kernel
theorem dX8_ends_36 : decode cX8_ends 36 = .ok (.ireturn, 1) := by decide +kernel
theorem dX8_ends_37 : decode cX8_ends 37 = .ok (.aload_n 0, 1) := by decide +kernel
theorem dX8_ends_38 : decode cX8_ends 38 = .ok (.getfield 110, 3) := by decide +kernel
theorem dX8_ends_41 : decode cX8_ends 41 = .ok (.bipush 8, 2) := by decide +kernel
theorem dX8_ends_43 : decode cX8_ends 43 = .ok (.if_icmp .ne 53, 3) := by decide +kernel
theorem dX8_ends_46 : decode cX8_ends 46 = .ok (.aload_n 0, 1) := by decide +kernel
theorem dX8_ends_47 : decode cX8_ends 47 = .ok (.dup, 1) := by decide +kernel
theorem dX8_ends_48 : decode cX8_ends 48 = .ok (.getfield 110, 3) := by decide +kernel
theorem dX8_ends_51 : decode cX8_ends 51 = .ok (.iconst 1, 1) := by decide +kernel
theorem dX8_ends_52 : decode cX8_ends 52 = .ok (.isub, 1) := by decide +kernel
theorem dX8_ends_53 : decode cX8_ends 53 = .ok (.putfield 110, 3) := by decide +kernel
theorem dX8_ends_56 : decode cX8_ends 56 = .ok (.iconst 0, 1) := by decide +kernel
theorem dX8_ends_57 : decode cX8_ends 57 = .ok (.istore 4, 2) := by decide +kernel
theorem dX8_ends_59 : decode cX8_ends 59 = .ok (.iload 4, 2) := by decide +kernel
theorem dX8_ends_61 : decode cX8_ends 61 = .ok (.sipush 153, 3) := by decide +kernel
theorem dX8_ends_64 : decode cX8_ends 64 = .ok (.aload_n 0, 1) := by decide +kernel
theorem dX8_ends_65 : decode cX8_ends 65 = .ok (.getfield 110, 3) := by decide +kernel
theorem dX8_ends_68 : decode cX8_ends 68 = .ok (.imul, 1) := by decide +kernel
theorem dX8_ends_69 : decode cX8_ends 69 = .ok (.if_icmp .ge 27, 3) := by decide +kernel
theorem dX8_ends_72 : decode cX8_ends 72 = .ok (.aload_n 0, 1) := by decide +kernel
theorem dX8_ends_73 : decode cX8_ends 73 = .ok (.getfield 22, 3) := by decide +kernel
theorem dX8_ends_76 : decode cX8_ends 76 = .ok (.iload 4, 2) := by decide +kernel
theorem dX8_ends_78 : decode cX8_ends 78 = .ok (.aload_n 0, 1) := by decide +kernel
theorem dX8_ends_79 : decode cX8_ends 79 = .ok (.getfield 22, 3) := by decide +kernel
theorem dX8_ends_82 : decode cX8_ends 82 = .ok (.iload 4, 2) := by decide +kernel
theorem dX8_ends_84 : decode cX8_ends 84 = .ok (.sipush 153, 3) := by decide +kernel
theorem dX8_ends_87 : decode cX8_ends 87 = .ok (.iadd, 1) := by decide +kernel
theorem dX8_ends_88 : decode cX8_ends 88 = .ok (.iaload, 1) := by decide +kernel
theorem dX8_ends_89 : decode cX8_ends 89 = .ok (.iastore, 1) := by decide +kernel
theorem dX8_ends_90 : decode cX8_ends 90 = .ok (.iinc 4 1, 3) := by decide +kernel
theorem dX8_ends_93 : decode cX8_ends 93 = .ok (.goto (-34), 3) := by decide +kernel
theorem dX8_ends_96 : decode cX8_ends 96 = .ok (.iconst 0, 1) := by decide +kernel
theorem dX8_ends_97 : decode cX8_ends 97 = .ok (.istore 4, 2) := by decide +kernel
theorem dX8_ends_99 : decode cX8_ends 99 = .ok (.iload 4, 2) := by decide +kernel
theorem dX8_ends_101 : decode cX8_ends 101 = .ok (.sipush 153, 3) := by decide +kernel
theorem dX8_ends_104 : decode cX8_ends 104 = .ok (.if_icmp .ge 32, 3) := by decide +kernel
theorem dX8_ends_107 : decode cX8_ends 107 = .ok (.aload_n 0, 1) := by decide +kernel
theorem dX8_ends_108 : decode cX8_ends 108 = .ok (.getfield 22, 3) := by decide +kernel
theorem dX8_ends_111 : decode cX8_ends 111 = .ok (.sipush 153, 3) := by decide +kernel
theorem dX8_ends_114 : decode cX8_ends 114 = .ok (.aload_n 0, 1) := by decide +kernel
theorem dX8_ends_115 : decode cX8_ends 115 = .ok (.getfield 110, 3) := by decide +kernel
theorem dX8_ends_118 : decode cX8_ends 118 = .ok (.imul, 1) := by decide +kernel
theorem dX8_ends_119 : decode cX8_ends 119 = .ok (.iload 4, 2) := by decide +kernel
theorem dX8_ends_121 : decode cX8_ends 121 = .ok (.iadd, 1) := by decide +kernel
theorem dX8_ends_122 : decode cX8_ends 122 = .ok (.aload_n 0, 1) := by decide +kernel
theorem dX8_ends_123 : decode cX8_ends 123 = .ok (.getfield 13, 3) := by decide +kernel
theorem dX8_ends_126 : decode cX8_ends 126 = .ok (.iload 4, 2) := by decide +kernel
theorem dX8_ends_128 : decode cX8_ends 128 = .ok (.iaload, 1) := by decide +kernel
theorem dX8_ends_129 : decode cX8_ends 129 = .ok (.iastore, 1) := by decide +kernel
theorem dX8_ends_130 : decode cX8_ends 130 = .ok (.iinc 4 1, 3) := by decide +kernel
theorem dX8_ends_133 : decode cX8_ends 133 = .ok (.goto (-34), 3) := by decide +kernel
theorem dX8_ends_136 : decode cX8_ends 136 = .ok (.aload_n 0, 1) := by decide +kernel
theorem dX8_ends_137 : decode cX8_ends 137 = .ok (.dup, 1) := by decide +kernel
theorem dX8_ends_138 : decode cX8_ends 138 = .ok (.getfield 110, 3) := by decide +kernel
theorem dX8_ends_141 : decode cX8_ends 141 = .ok (.iconst 1, 1) := by decide +kernel
theorem dX8_ends_142 : decode cX8_ends 142 = .ok (.iadd, 1) := by decide +kernel
theorem dX8_ends_143 : decode cX8_ends 143 = .ok (.putfield 110, 3) := by decide +kernel
theorem dX8_ends_146 : decode cX8_ends 146 = .ok (.aload_n 0, 1) := by decide +kernel
theorem dX8_ends_147 : decode cX8_ends 147 = .ok (.iload_n 1, 1) := by decide +kernel
theorem dX8_ends_148 : decode cX8_ends 148 = .ok (.invokevirtual 113, 3) := by decide +kernel
theorem dX8_ends_151 : decode cX8_ends 151 = .ok (.ireturn, 1) := by decide +kernel
theorem dX8_undo_0 : decode cX8_undo 0 = .ok (.aload_n 0, 1) := by decide +kernel
theorem dX8_undo_1 : decode cX8_undo 1 = .ok (.getfield 110, 3) := by decide +kernel
theorem dX8_undo_4 : decode cX8_undo 4 = .ok (.ifCond .ne 9, 3) := by decide +kernel
theorem dX8_undo_7 : decode cX8_undo 7 = .ok (.aload_n 0, 1) := by decide +kernel
theorem dX8_undo_8 : decode cX8_undo 8 = .ok (.iconst 1, 1) := by decide +kernel
theorem dX8_undo_9 : decode cX8_undo 9 = .ok (.invokevirtual 106, 3) := by decide +kernel
theorem dX8_undo_12 : decode cX8_undo 12 = .ok (.ireturn, 1) := by decide +kernel
theorem dX8_undo_13 : decode cX8_undo 13 = .ok (.aload_n 0, 1) := by decide +kernel
theorem dX8_undo_14 : decode cX8_undo 14 = .ok (.dup, 1) := by decide +kernel
theorem dX8_undo_15 : decode cX8_undo 15 = .ok (.getfield 110, 3) := by decide +kernel
theorem dX8_undo_18 : decode cX8_undo 18 = .ok (.iconst 1, 1) := by decide +kernel
theorem dX8_undo_19 : decode cX8_undo 19 = .ok (.isub, 1) := by decide +kernel
theorem dX8_undo_20 : decode cX8_undo 20 = .ok (.putfield 110, 3) := by decide +kernel
theorem dX8_undo_23 : decode cX8_undo 23 = .ok (.iconst 0, 1) := by decide +kernel
theorem dX8_undo_24 : decode cX8_undo 24 = .ok (.istore_n 1, 1) := by decide +kernel
theorem dX8_undo_25 : decode cX8_undo 25 = .ok (.iload_n 1, 1) := by decide +kernel
theorem dX8_undo_26 : decode cX8_undo 26 = .ok (.sipush 153, 3) := by decide +kernel
theorem dX8_undo_29 : decode cX8_undo 29 = .ok (.if_icmp .ge 30, 3) := by decide +kernel
theorem dX8_undo_32 : decode cX8_undo 32 = .ok (.aload_n 0, 1) := by decide +kernel
theorem dX8_undo_33 : decode cX8_undo 33 = .ok (.getfield 7, 3) := by decide +kernel
theorem dX8_undo_36 : decode cX8_undo 36 = .ok (.iload_n 1, 1) := by decide +kernel
theorem dX8_undo_37 : decode cX8_undo 37 = .ok (.aload_n 0, 1) := by decide +kernel
theorem dX8_undo_38 : decode cX8_undo 38 = .ok (.getfield 22, 3) := by decide +kernel
theorem dX8_undo_41 : decode cX8_undo 41 = .ok (.sipush 153, 3) := by decide +kernel
theorem dX8_undo_44 : decode cX8_undo 44 = .ok (.aload_n 0, 1) := by decide +kernel
theorem dX8_undo_45 : decode cX8_undo 45 = .ok (.getfield 110, 3) := by decide +kernel
theorem dX8_undo_48 : decode cX8_undo 48 = .ok (.imul, 1) := by decide +kernel
theorem dX8_undo_49 : decode cX8_undo 49 = .ok (.iload_n 1, 1) := by decide +kernel
theorem dX8_undo_50 : decode cX8_undo 50 = .ok (.iadd, 1) := by decide +kernel
theorem dX8_undo_51 : decode cX8_undo 51 = .ok (.iaload, 1) := by decide +kernel
theorem dX8_undo_52 : decode cX8_undo 52 = .ok (.iastore, 1) := by decide +kernel
theorem dX8_undo_53 : decode cX8_undo 53 = .ok (.iinc 1 1, 3) := by decide +kernel
theorem dX8_undo_56 : decode cX8_undo 56 = .ok (.goto (-31), 3) := by decide +kernel
theorem dX8_undo_59 : decode cX8_undo 59 = .ok (.aload_n 0, 1) := by decide +kernel
theorem dX8_undo_60 : decode cX8_undo 60 = .ok (.aload_n 0, 1) := by decide +kernel
theorem dX8_undo_61 : decode cX8_undo 61 = .ok (.getfield 110, 3) := by decide +kernel
theorem dX8_undo_64 : decode cX8_undo 64 = .ok (.invokevirtual 113, 3) := by decide +kernel
theorem dX8_undo_67 : decode cX8_undo 67 = .ok (.ireturn, 1) := by decide +kernel
theorem dX8_save_0 : decode cX8_save 0 = .ok (.aload_n 0, 1) := by decide +kernel
theorem dX8_save_1 : decode cX8_save 1 = .ok (.getfield 7, 3) := by decide +kernel
theorem dX8_save_4 : decode cX8_save 4 = .ok (.aload_n 0, 1) := by decide +kernel
theorem dX8_save_5 : decode cX8_save 5 = .ok (.getfield 16, 3) := by decide +kernel
theorem dX8_save_8 : decode cX8_save 8 = .ok (.invokestatic 99, 3) := by decide +kernel
theorem dX8_save_11 : decode cX8_save 11 = .ok (.aload_n 0, 1) := by decide +kernel
theorem dX8_save_12 : decode cX8_save 12 = .ok (.iconst 1, 1) := by decide +kernel
theorem dX8_save_13 : decode cX8_save 13 = .ok (.putfield 116, 3) := by decide +kernel
theorem dX8_save_16 : decode cX8_save 16 = .ok (.aload_n 0, 1) := by decide +kernel
theorem dX8_save_17 : decode cX8_save 17 = .ok (.aload_n 0, 1) := by decide +kernel
theorem dX8_save_18 : decode cX8_save 18 = .ok (.getfield 7, 3) := by decide +kernel
theorem dX8_save_21 : decode cX8_save 21 = .ok (.iconst 2, 1) := by decide +kernel
theorem dX8_save_22 : decode cX8_save 22 = .ok (.iaload, 1) := by decide +kernel
theorem dX8_save_23 : decode cX8_save 23 = .ok (.invokevirtual 113, 3) := by decide +kernel
theorem dX8_save_26 : decode cX8_save 26 = .ok (.ireturn, 1) := by decide +kernel
theorem dX8_restore_0 : decode cX8_restore 0 = .ok (.aload_n 0, 1) := by decide +kernel
theorem dX8_restore_1 : decode cX8_restore 1 = .ok (.getfield 116, 3) := by decide +kernel
theorem dX8_restore_4 : decode cX8_restore 4 = .ok (.ifCond .ne 9, 3) := by decide +kernel
theorem dX8_restore_7 : decode cX8_restore 7 = .ok (.aload_n 0, 1) := by decide +kernel
theorem dX8_restore_8 : decode cX8_restore 8 = .ok (.iconst 1, 1) := by decide +kernel
theorem dX8_restore_9 : decode cX8_restore 9 = .ok (.invokevirtual 106, 3) := by decide +kernel
theorem dX8_restore_12 : decode cX8_restore 12 = .ok (.ireturn, 1) := by decide +kernel
theorem dX8_restore_13 : decode cX8_restore 13 = .ok (.aload_n 0, 1) := by decide +kernel
theorem dX8_restore_14 : decode cX8_restore 14 = .ok (.getfield 16, 3) := by decide +kernel
theorem dX8_restore_17 : decode cX8_restore 17 = .ok (.aload_n 0, 1) := by decide +kernel
theorem dX8_restore_18 : decode cX8_restore 18 = .ok (.getfield 7, 3) := by decide +kernel
theorem dX8_restore_21 : decode cX8_restore 21 = .ok (.invokestatic 99, 3) := by decide +kernel
theorem dX8_restore_24 : decode cX8_restore 24 = .ok (.aload_n 0, 1) := by decide +kernel
theorem dX8_restore_25 : decode cX8_restore 25 = .ok (.iconst 0, 1) := by decide +kernel
theorem dX8_restore_26 : decode cX8_restore 26 = .ok (.putfield 110, 3) := by decide +kernel
theorem dX8_restore_29 : decode cX8_restore 29 = .ok (.aload_n 0, 1) := by decide +kernel
theorem dX8_restore_30 : decode cX8_restore 30 = .ok (.aload_n 0, 1) := by decide +kernel
theorem dX8_restore_31 : decode cX8_restore 31 = .ok (.getfield 7, 3) := by decide +kernel
theorem dX8_restore_34 : decode cX8_restore 34 = .ok (.iconst 2, 1) := by decide +kernel
theorem dX8_restore_35 : decode cX8_restore 35 = .ok (.iaload, 1) := by decide +kernel
theorem dX8_restore_36 : decode cX8_restore 36 = .ok (.invokevirtual 113, 3) := by decide +kernel
theorem dX8_restore_39 : decode cX8_restore 39 = .ok (.ireturn, 1) := by decide +kernel
theorem dX8_isSubject_0 : decode cX8_isSubject 0 = .ok (.iload_n 1, 1) := by decide +kernel
theorem dX8_isSubject_1 : decode cX8_isSubject 1 = .ok (.iconst 0, 1) := by decide +kernel
theorem dX8_isSubject_2 : decode cX8_isSubject 2 = .ok (.aload_n 0, 1) := by decide +kernel
theorem dX8_isSubject_3 : decode cX8_isSubject 3 = .ok (.getfield 7, 3) := by decide +kernel
theorem dX8_isSubject_6 : decode cX8_isSubject 6 = .ok (.iconst 0, 1) := by decide +kernel
theorem dX8_isSubject_7 : decode cX8_isSubject 7 = .ok (.iaload, 1) := by decide +kernel
theorem dX8_isSubject_8 : decode cX8_isSubject 8 = .ok (.iconst 1, 1) := by decide +kernel
theorem dX8_isSubject_9 : decode cX8_isSubject 9 = .ok (.isub, 1) := by decide +kernel
theorem dX8_isSubject_10 : decode cX8_isSubject 10 = .ok (.invokestatic 120, 3) := by decide +kernel
theorem dX8_isSubject_13 : decode cX8_isSubject 13 = .ok (.ireturn, 1) := by decide +kernel
theorem dX8_isBlock_0 : decode cX8_isBlock 0 = .ok (.iload_n 1, 1) := by decide +kernel
theorem dX8_isBlock_1 : decode cX8_isBlock 1 = .ok (.iconst 0, 1) := by decide +kernel
theorem dX8_isBlock_2 : decode cX8_isBlock 2 = .ok (.aload_n 0, 1) := by decide +kernel
theorem dX8_isBlock_3 : decode cX8_isBlock 3 = .ok (.getfield 7, 3) := by decide +kernel
theorem dX8_isBlock_6 : decode cX8_isBlock 6 = .ok (.iconst 1, 1) := by decide +kernel
theorem dX8_isBlock_7 : decode cX8_isBlock 7 = .ok (.iaload, 1) := by decide +kernel
theorem dX8_isBlock_8 : decode cX8_isBlock 8 = .ok (.iconst 1, 1) := by decide +kernel
theorem dX8_isBlock_9 : decode cX8_isBlock 9 = .ok (.isub, 1) := by decide +kernel
theorem dX8_isBlock_10 : decode cX8_isBlock 10 = .ok (.invokestatic 120, 3) := by decide +kernel
theorem dX8_isBlock_13 : decode cX8_isBlock 13 = .ok (.ireturn, 1) := by decide +kernel
theorem dX8_isPupil_0 : decode cX8_isPupil 0 = .ok (.iload_n 1, 1) := by decide +kernel
theorem dX8_isPupil_1 : decode cX8_isPupil 1 = .ok (.iconst 0, 1) := by decide +kernel
theorem dX8_isPupil_2 : decode cX8_isPupil 2 = .ok (.aload_n 0, 1) := by decide +kernel
theorem dX8_isPupil_3 : decode cX8_isPupil 3 = .ok (.getfield 7, 3) := by decide +kernel
theorem dX8_isPupil_6 : decode cX8_isPupil 6 = .ok (.iconst 2, 1) := by decide +kernel
theorem dX8_isPupil_7 : decode cX8_isPupil 7 = .ok (.iaload, 1) := by decide +kernel
theorem dX8_isPupil_8 : decode cX8_isPupil 8 = .ok (.iconst 1, 1) := by decide +kernel
theorem dX8_isPupil_9 : decode cX8_isPupil 9 = .ok (.isub, 1) := by decide +kernel
theorem dX8_isPupil_10 : decode cX8_isPupil 10 = .ok (.invokestatic 120, 3) := by decide +kernel
theorem dX8_isPupil_13 : decode cX8_isPupil 13 = .ok (.ireturn, 1) := by decide +kernel
theorem dX8_hasOpen_0 : decode cX8_hasOpen 0 = .ok (.aload_n 0, 1) := by decide +kernel
theorem dX8_hasOpen_1 : decode cX8_hasOpen 1 = .ok (.getfield 7, 3) := by decide +kernel
theorem dX8_hasOpen_4 : decode cX8_hasOpen 4 = .ok (.bipush 17, 2) := by decide +kernel
theorem dX8_hasOpen_6 : decode cX8_hasOpen 6 = .ok (.iconst 4, 1) := by decide +kernel
theorem dX8_hasOpen_7 : decode cX8_hasOpen 7 = .ok (.iload_n 1, 1) := by decide +kernel
theorem dX8_hasOpen_8 : decode cX8_hasOpen 8 = .ok (.imul, 1) := by decide +kernel
theorem dX8_hasOpen_9 : decode cX8_hasOpen 9 = .ok (.iadd, 1) := by decide +kernel
theorem dX8_hasOpen_10 : decode cX8_hasOpen 10 = .ok (.iload_n 2, 1) := by decide +kernel
theorem dX8_hasOpen_11 : decode cX8_hasOpen 11 = .ok (.iadd, 1) := by decide +kernel
theorem dX8_hasOpen_12 : decode cX8_hasOpen 12 = .ok (.iaload, 1) := by decide +kernel
theorem dX8_hasOpen_13 : decode cX8_hasOpen 13 = .ok (.iconst 1, 1) := by decide +kernel
theorem dX8_hasOpen_14 : decode cX8_hasOpen 14 = .ok (.if_icmp .ne 7, 3) := by decide +kernel
theorem dX8_hasOpen_17 : decode cX8_hasOpen 17 = .ok (.iconst 1, 1) := by decide +kernel
theorem dX8_hasOpen_18 : decode cX8_hasOpen 18 = .ok (.goto 4, 3) := by decide +kernel
theorem dX8_hasOpen_21 : decode cX8_hasOpen 21 = .ok (.iconst 0, 1) := by decide +kernel
theorem dX8_hasOpen_22 : decode cX8_hasOpen 22 = .ok (.ireturn, 1) := by decide +kernel
theorem dX8_subjectOf_0 : decode cX8_subjectOf 0 = .ok (.aload_n 0, 1) := by decide +kernel
theorem dX8_subjectOf_1 : decode cX8_subjectOf 1 = .ok (.getfield 7, 3) := by decide +kernel
theorem dX8_subjectOf_4 : decode cX8_subjectOf 4 = .ok (.bipush 105, 2) := by decide +kernel
theorem dX8_subjectOf_6 : decode cX8_subjectOf 6 = .ok (.iconst 4, 1) := by decide +kernel
theorem dX8_subjectOf_7 : decode cX8_subjectOf 7 = .ok (.iload_n 1, 1) := by decide +kernel
theorem dX8_subjectOf_8 : decode cX8_subjectOf 8 = .ok (.imul, 1) := by decide +kernel
theorem dX8_subjectOf_9 : decode cX8_subjectOf 9 = .ok (.iadd, 1) := by decide +kernel
theorem dX8_subjectOf_10 : decode cX8_subjectOf 10 = .ok (.iload_n 2, 1) := by decide +kernel
theorem dX8_subjectOf_11 : decode cX8_subjectOf 11 = .ok (.iadd, 1) := by decide +kernel
theorem dX8_subjectOf_12 : decode cX8_subjectOf 12 = .ok (.iaload, 1) := by decide +kernel
theorem dX8_subjectOf_13 : decode cX8_subjectOf 13 = .ok (.ireturn, 1) := by decide +kernel
theorem dX8_blockOfSubject_0 : decode cX8_blockOfSubject 0 = .ok (.iconst 0, 1) := by decide +kernel
theorem dX8_blockOfSubject_1 : decode cX8_blockOfSubject 1 = .ok (.istore_n 3, 1) := by decide +kernel
theorem dX8_blockOfSubject_2 : decode cX8_blockOfSubject 2 = .ok (.iload_n 3, 1) := by decide +kernel
theorem dX8_blockOfSubject_3 : decode cX8_blockOfSubject 3 = .ok (.iconst 4, 1) := by decide +kernel
theorem dX8_blockOfSubject_4 : decode cX8_blockOfSubject 4 = .ok (.if_icmp .ge 21, 3) := by decide +kernel
theorem dX8_blockOfSubject_7 : decode cX8_blockOfSubject 7 = .ok (.aload_n 0, 1) := by decide +kernel
theorem dX8_blockOfSubject_8 : decode cX8_blockOfSubject 8 = .ok (.iload_n 1, 1) := by decide +kernel
theorem dX8_blockOfSubject_9 : decode cX8_blockOfSubject 9 = .ok (.iload_n 3, 1) := by decide +kernel
theorem dX8_blockOfSubject_10 : decode cX8_blockOfSubject 10 = .ok (.invokevirtual 124, 3) := by decide +kernel
theorem dX8_blockOfSubject_13 : decode cX8_blockOfSubject 13 = .ok (.iload_n 2, 1) := by decide +kernel
theorem dX8_blockOfSubject_14 : decode cX8_blockOfSubject 14 = .ok (.if_icmp .ne 5, 3) := by decide +kernel
theorem dX8_blockOfSubject_17 : decode cX8_blockOfSubject 17 = .ok (.iload_n 3, 1) := by decide +kernel
theorem dX8_blockOfSubject_18 : decode cX8_blockOfSubject 18 = .ok (.ireturn, 1) := by decide +kernel
theorem dX8_blockOfSubject_19 : decode cX8_blockOfSubject 19 = .ok (.iinc 3 1, 3) := by decide +kernel
theorem dX8_blockOfSubject_22 : decode cX8_blockOfSubject 22 = .ok (.goto (-20), 3) := by decide +kernel
theorem dX8_blockOfSubject_25 : decode cX8_blockOfSubject 25 = .ok (.iconst (-1), 1) := by decide +kernel
theorem dX8_blockOfSubject_26 : decode cX8_blockOfSubject 26 = .ok (.ireturn, 1) := by decide +kernel
theorem dX8_inClass_0 : decode cX8_inClass 0 = .ok (.iconst 0, 1) := by decide +kernel
theorem dX8_inClass_1 : decode cX8_inClass 1 = .ok (.istore_n 3, 1) := by decide +kernel
theorem dX8_inClass_2 : decode cX8_inClass 2 = .ok (.iconst 0, 1) := by decide +kernel
theorem dX8_inClass_3 : decode cX8_inClass 3 = .ok (.istore 4, 2) := by decide +kernel
theorem dX8_inClass_5 : decode cX8_inClass 5 = .ok (.iload 4, 2) := by decide +kernel
theorem dX8_inClass_7 : decode cX8_inClass 7 = .ok (.aload_n 0, 1) := by decide +kernel
theorem dX8_inClass_8 : decode cX8_inClass 8 = .ok (.getfield 7, 3) := by decide +kernel
theorem dX8_inClass_11 : decode cX8_inClass 11 = .ok (.iconst 2, 1) := by decide +kernel
theorem dX8_inClass_12 : decode cX8_inClass 12 = .ok (.iaload, 1) := by decide +kernel
theorem dX8_inClass_13 : decode cX8_inClass 13 = .ok (.if_icmp .ge 28, 3) := by decide +kernel
theorem dX8_inClass_16 : decode cX8_inClass 16 = .ok (.iload_n 3, 1) := by decide +kernel
theorem dX8_inClass_17 : decode cX8_inClass 17 = .ok (.aload_n 0, 1) := by decide +kernel
theorem dX8_inClass_18 : decode cX8_inClass 18 = .ok (.iload 4, 2) := by decide +kernel
theorem dX8_inClass_20 : decode cX8_inClass 20 = .ok (.iload_n 2, 1) := by decide +kernel
theorem dX8_inClass_21 : decode cX8_inClass 21 = .ok (.invokevirtual 124, 3) := by decide +kernel
theorem dX8_inClass_24 : decode cX8_inClass 24 = .ok (.iload_n 1, 1) := by decide +kernel
theorem dX8_inClass_25 : decode cX8_inClass 25 = .ok (.if_icmp .ne 7, 3) := by decide +kernel
theorem dX8_inClass_28 : decode cX8_inClass 28 = .ok (.iconst 1, 1) := by decide +kernel
theorem dX8_inClass_29 : decode cX8_inClass 29 = .ok (.goto 4, 3) := by decide +kernel
theorem dX8_inClass_32 : decode cX8_inClass 32 = .ok (.iconst 0, 1) := by decide +kernel
theorem dX8_inClass_33 : decode cX8_inClass 33 = .ok (.iadd, 1) := by decide +kernel
theorem dX8_inClass_34 : decode cX8_inClass 34 = .ok (.istore_n 3, 1) := by decide +kernel
theorem dX8_inClass_35 : decode cX8_inClass 35 = .ok (.iinc 4 1, 3) := by decide +kernel
theorem dX8_inClass_38 : decode cX8_inClass 38 = .ok (.goto (-33), 3) := by decide +kernel
theorem dX8_inClass_41 : decode cX8_inClass 41 = .ok (.iload_n 3, 1) := by decide +kernel
theorem dX8_inClass_42 : decode cX8_inClass 42 = .ok (.ireturn, 1) := by decide +kernel
theorem dX8_openOf_0 : decode cX8_openOf 0 = .ok (.iconst 0, 1) := by decide +kernel
theorem dX8_openOf_1 : decode cX8_openOf 1 = .ok (.istore_n 2, 1) := by decide +kernel
theorem dX8_openOf_2 : decode cX8_openOf 2 = .ok (.iconst 0, 1) := by decide +kernel
theorem dX8_openOf_3 : decode cX8_openOf 3 = .ok (.istore_n 3, 1) := by decide +kernel
theorem dX8_openOf_4 : decode cX8_openOf 4 = .ok (.iload_n 3, 1) := by decide +kernel
theorem dX8_openOf_5 : decode cX8_openOf 5 = .ok (.iconst 4, 1) := by decide +kernel
theorem dX8_openOf_6 : decode cX8_openOf 6 = .ok (.if_icmp .ge 25, 3) := by decide +kernel
theorem dX8_openOf_9 : decode cX8_openOf 9 = .ok (.iload_n 2, 1) := by decide +kernel
theorem dX8_openOf_10 : decode cX8_openOf 10 = .ok (.aload_n 0, 1) := by decide +kernel
theorem dX8_openOf_11 : decode cX8_openOf 11 = .ok (.getfield 7, 3) := by decide +kernel
theorem dX8_openOf_14 : decode cX8_openOf 14 = .ok (.bipush 17, 2) := by decide +kernel
theorem dX8_openOf_16 : decode cX8_openOf 16 = .ok (.iconst 4, 1) := by decide +kernel
theorem dX8_openOf_17 : decode cX8_openOf 17 = .ok (.iload_n 1, 1) := by decide +kernel
theorem dX8_openOf_18 : decode cX8_openOf 18 = .ok (.imul, 1) := by decide +kernel
theorem dX8_openOf_19 : decode cX8_openOf 19 = .ok (.iadd, 1) := by decide +kernel
theorem dX8_openOf_20 : decode cX8_openOf 20 = .ok (.iload_n 3, 1) := by decide +kernel
theorem dX8_openOf_21 : decode cX8_openOf 21 = .ok (.iadd, 1) := by decide +kernel
theorem dX8_openOf_22 : decode cX8_openOf 22 = .ok (.iaload, 1) := by decide +kernel
theorem dX8_openOf_23 : decode cX8_openOf 23 = .ok (.iadd, 1) := by decide +kernel
theorem dX8_openOf_24 : decode cX8_openOf 24 = .ok (.istore_n 2, 1) := by decide +kernel
theorem dX8_openOf_25 : decode cX8_openOf 25 = .ok (.iinc 3 1, 3) := by decide +kernel
theorem dX8_openOf_28 : decode cX8_openOf 28 = .ok (.goto (-24), 3) := by decide +kernel
theorem dX8_openOf_31 : decode cX8_openOf 31 = .ok (.iload_n 2, 1) := by decide +kernel
theorem dX8_openOf_32 : decode cX8_openOf 32 = .ok (.ireturn, 1) := by decide +kernel
theorem dX8_classesOf_0 : decode cX8_classesOf 0 = .ok (.iconst 0, 1) := by decide +kernel
theorem dX8_classesOf_1 : decode cX8_classesOf 1 = .ok (.istore_n 2, 1) := by decide +kernel
theorem dX8_classesOf_2 : decode cX8_classesOf 2 = .ok (.iconst 0, 1) := by decide +kernel
theorem dX8_classesOf_3 : decode cX8_classesOf 3 = .ok (.istore_n 3, 1) := by decide +kernel
theorem dX8_classesOf_4 : decode cX8_classesOf 4 = .ok (.iload_n 3, 1) := by decide +kernel
theorem dX8_classesOf_5 : decode cX8_classesOf 5 = .ok (.iconst 4, 1) := by decide +kernel
theorem dX8_classesOf_6 : decode cX8_classesOf 6 = .ok (.if_icmp .ge 27, 3) := by decide +kernel
theorem dX8_classesOf_9 : decode cX8_classesOf 9 = .ok (.iload_n 2, 1) := by decide +kernel
theorem dX8_classesOf_10 : decode cX8_classesOf 10 = .ok (.aload_n 0, 1) := by decide +kernel
theorem dX8_classesOf_11 : decode cX8_classesOf 11 = .ok (.iload_n 1, 1) := by decide +kernel
theorem dX8_classesOf_12 : decode cX8_classesOf 12 = .ok (.iload_n 3, 1) := by decide +kernel
theorem dX8_classesOf_13 : decode cX8_classesOf 13 = .ok (.invokevirtual 124, 3) := by decide +kernel
theorem dX8_classesOf_16 : decode cX8_classesOf 16 = .ok (.iconst (-1), 1) := by decide +kernel
theorem dX8_classesOf_17 : decode cX8_classesOf 17 = .ok (.if_icmp .eq 7, 3) := by decide +kernel
theorem dX8_classesOf_20 : decode cX8_classesOf 20 = .ok (.iconst 1, 1) := by decide +kernel
theorem dX8_classesOf_21 : decode cX8_classesOf 21 = .ok (.goto 4, 3) := by decide +kernel
theorem dX8_classesOf_24 : decode cX8_classesOf 24 = .ok (.iconst 0, 1) := by decide +kernel
theorem dX8_classesOf_25 : decode cX8_classesOf 25 = .ok (.iadd, 1) := by decide +kernel
theorem dX8_classesOf_26 : decode cX8_classesOf 26 = .ok (.istore_n 2, 1) := by decide +kernel
theorem dX8_classesOf_27 : decode cX8_classesOf 27 = .ok (.iinc 3 1, 3) := by decide +kernel
theorem dX8_classesOf_30 : decode cX8_classesOf 30 = .ok (.goto (-26), 3) := by decide +kernel
theorem dX8_classesOf_33 : decode cX8_classesOf 33 = .ok (.iload_n 2, 1) := by decide +kernel
theorem dX8_classesOf_34 : decode cX8_classesOf 34 = .ok (.ireturn, 1) := by decide +kernel
theorem dX8_wish_0 : decode cX8_wish 0 = .ok (.aload_n 0, 1) := by decide +kernel
theorem dX8_wish_1 : decode cX8_wish 1 = .ok (.getfield 7, 3) := by decide +kernel
theorem dX8_wish_4 : decode cX8_wish 4 = .ok (.bipush 57, 2) := by decide +kernel
theorem dX8_wish_6 : decode cX8_wish 6 = .ok (.iconst 3, 1) := by decide +kernel
theorem dX8_wish_7 : decode cX8_wish 7 = .ok (.iload_n 1, 1) := by decide +kernel
theorem dX8_wish_8 : decode cX8_wish 8 = .ok (.imul, 1) := by decide +kernel
theorem dX8_wish_9 : decode cX8_wish 9 = .ok (.iadd, 1) := by decide +kernel
theorem dX8_wish_10 : decode cX8_wish 10 = .ok (.iload_n 2, 1) := by decide +kernel
theorem dX8_wish_11 : decode cX8_wish 11 = .ok (.iadd, 1) := by decide +kernel
theorem dX8_wish_12 : decode cX8_wish 12 = .ok (.iaload, 1) := by decide +kernel
theorem dX8_wish_13 : decode cX8_wish 13 = .ok (.ireturn, 1) := by decide +kernel
theorem dX8_isWish_0 : decode cX8_isWish 0 = .ok (.iconst 0, 1) := by decide +kernel
theorem dX8_isWish_1 : decode cX8_isWish 1 = .ok (.istore_n 3, 1) := by decide +kernel
theorem dX8_isWish_2 : decode cX8_isWish 2 = .ok (.iconst 0, 1) := by decide +kernel
theorem dX8_isWish_3 : decode cX8_isWish 3 = .ok (.istore 4, 2) := by decide +kernel
theorem dX8_isWish_5 : decode cX8_isWish 5 = .ok (.iload 4, 2) := by decide +kernel
theorem dX8_isWish_7 : decode cX8_isWish 7 = .ok (.aload_n 0, 1) := by decide +kernel
theorem dX8_isWish_8 : decode cX8_isWish 8 = .ok (.getfield 7, 3) := by decide +kernel
theorem dX8_isWish_11 : decode cX8_isWish 11 = .ok (.bipush 45, 2) := by decide +kernel
theorem dX8_isWish_13 : decode cX8_isWish 13 = .ok (.iload_n 1, 1) := by decide +kernel
theorem dX8_isWish_14 : decode cX8_isWish 14 = .ok (.iadd, 1) := by decide +kernel
theorem dX8_isWish_15 : decode cX8_isWish 15 = .ok (.iaload, 1) := by decide +kernel
theorem dX8_isWish_16 : decode cX8_isWish 16 = .ok (.if_icmp .ge 30, 3) := by decide +kernel
theorem dX8_isWish_19 : decode cX8_isWish 19 = .ok (.iload_n 3, 1) := by decide +kernel
theorem dX8_isWish_20 : decode cX8_isWish 20 = .ok (.ifCond .ne 14, 3) := by decide +kernel
theorem dX8_isWish_23 : decode cX8_isWish 23 = .ok (.aload_n 0, 1) := by decide +kernel
theorem dX8_isWish_24 : decode cX8_isWish 24 = .ok (.iload_n 1, 1) := by decide +kernel
theorem dX8_isWish_25 : decode cX8_isWish 25 = .ok (.iload 4, 2) := by decide +kernel
theorem dX8_isWish_27 : decode cX8_isWish 27 = .ok (.invokevirtual 128, 3) := by decide +kernel
theorem dX8_isWish_30 : decode cX8_isWish 30 = .ok (.iload_n 2, 1) := by decide +kernel
theorem dX8_isWish_31 : decode cX8_isWish 31 = .ok (.if_icmp .ne 7, 3) := by decide +kernel
theorem dX8_isWish_34 : decode cX8_isWish 34 = .ok (.iconst 1, 1) := by decide +kernel
theorem dX8_isWish_35 : decode cX8_isWish 35 = .ok (.goto 4, 3) := by decide +kernel
theorem dX8_isWish_38 : decode cX8_isWish 38 = .ok (.iconst 0, 1) := by decide +kernel
theorem dX8_isWish_39 : decode cX8_isWish 39 = .ok (.istore_n 3, 1) := by decide +kernel
theorem dX8_isWish_40 : decode cX8_isWish 40 = .ok (.iinc 4 1, 3) := by decide +kernel
theorem dX8_isWish_43 : decode cX8_isWish 43 = .ok (.goto (-38), 3) := by decide +kernel
theorem dX8_isWish_46 : decode cX8_isWish 46 = .ok (.iload_n 3, 1) := by decide +kernel
theorem dX8_isWish_47 : decode cX8_isWish 47 = .ok (.ireturn, 1) := by decide +kernel
theorem dX8_addSubjectNow_0 : decode cX8_addSubjectNow 0 = .ok (.iload_n 1, 1) := by decide +kernel
theorem dX8_addSubjectNow_1 : decode cX8_addSubjectNow 1 = .ok (.iconst 1, 1) := by decide +kernel
theorem dX8_addSubjectNow_2 : decode cX8_addSubjectNow 2 = .ok (.bipush 9, 2) := by decide +kernel
theorem dX8_addSubjectNow_4 : decode cX8_addSubjectNow 4 = .ok (.invokestatic 120, 3) := by decide +kernel
theorem dX8_addSubjectNow_7 : decode cX8_addSubjectNow 7 = .ok (.ifCond .ne 9, 3) := by decide +kernel
theorem dX8_addSubjectNow_10 : decode cX8_addSubjectNow 10 = .ok (.aload_n 0, 1) := by decide +kernel
theorem dX8_addSubjectNow_11 : decode cX8_addSubjectNow 11 = .ok (.iconst 2, 1) := by decide +kernel
theorem dX8_addSubjectNow_12 : decode cX8_addSubjectNow 12 = .ok (.invokevirtual 131, 3) := by decide +kernel
theorem dX8_addSubjectNow_15 : decode cX8_addSubjectNow 15 = .ok (.ireturn, 1) := by decide +kernel
theorem dX8_addSubjectNow_16 : decode cX8_addSubjectNow 16 = .ok (.aload_n 0, 1) := by decide +kernel
theorem dX8_addSubjectNow_17 : decode cX8_addSubjectNow 17 = .ok (.getfield 7, 3) := by decide +kernel
theorem dX8_addSubjectNow_20 : decode cX8_addSubjectNow 20 = .ok (.iconst 0, 1) := by decide +kernel
theorem dX8_addSubjectNow_21 : decode cX8_addSubjectNow 21 = .ok (.iaload, 1) := by decide +kernel
theorem dX8_addSubjectNow_22 : decode cX8_addSubjectNow 22 = .ok (.bipush 7, 2) := by decide +kernel
theorem dX8_addSubjectNow_24 : decode cX8_addSubjectNow 24 = .ok (.if_icmp .ne 9, 3) := by decide +kernel
theorem dX8_addSubjectNow_27 : decode cX8_addSubjectNow 27 = .ok (.aload_n 0, 1) := by decide +kernel
theorem dX8_addSubjectNow_28 : decode cX8_addSubjectNow 28 = .ok (.iconst 3, 1) := by decide +kernel
theorem dX8_addSubjectNow_29 : decode cX8_addSubjectNow 29 = .ok (.invokevirtual 131, 3) := by decide +kernel
theorem dX8_addSubjectNow_32 : decode cX8_addSubjectNow 32 = .ok (.ireturn, 1) := by decide +kernel
theorem dX8_addSubjectNow_33 : decode cX8_addSubjectNow 33 = .ok (.aload_n 0, 1) := by decide +kernel
theorem dX8_addSubjectNow_34 : decode cX8_addSubjectNow 34 = .ok (.getfield 7, 3) := by decide +kernel
theorem dX8_addSubjectNow_37 : decode cX8_addSubjectNow 37 = .ok (.iconst 0, 1) := by decide +kernel
theorem dX8_addSubjectNow_38 : decode cX8_addSubjectNow 38 = .ok (.iaload, 1) := by decide +kernel
theorem dX8_addSubjectNow_39 : decode cX8_addSubjectNow 39 = .ok (.istore_n 2, 1) := by decide +kernel
theorem dX8_addSubjectNow_40 : decode cX8_addSubjectNow 40 = .ok (.aload_n 0, 1) := by decide +kernel
theorem dX8_addSubjectNow_41 : decode cX8_addSubjectNow 41 = .ok (.getfield 7, 3) := by decide +kernel
theorem dX8_addSubjectNow_44 : decode cX8_addSubjectNow 44 = .ok (.bipush 10, 2) := by decide +kernel
theorem dX8_addSubjectNow_46 : decode cX8_addSubjectNow 46 = .ok (.iload_n 2, 1) := by decide +kernel
theorem dX8_addSubjectNow_47 : decode cX8_addSubjectNow 47 = .ok (.iadd, 1) := by decide +kernel
theorem dX8_addSubjectNow_48 : decode cX8_addSubjectNow 48 = .ok (.iload_n 1, 1) := by decide +kernel
theorem dX8_addSubjectNow_49 : decode cX8_addSubjectNow 49 = .ok (.iastore, 1) := by decide +kernel
theorem dX8_addSubjectNow_50 : decode cX8_addSubjectNow 50 = .ok (.iconst 0, 1) := by decide +kernel
theorem dX8_addSubjectNow_51 : decode cX8_addSubjectNow 51 = .ok (.istore_n 3, 1) := by decide +kernel
theorem dX8_addSubjectNow_52 : decode cX8_addSubjectNow 52 = .ok (.iload_n 3, 1) := by decide +kernel
theorem dX8_addSubjectNow_53 : decode cX8_addSubjectNow 53 = .ok (.iconst 4, 1) := by decide +kernel
theorem dX8_addSubjectNow_54 : decode cX8_addSubjectNow 54 = .ok (.if_icmp .ge 23, 3) := by decide +kernel
theorem dX8_addSubjectNow_57 : decode cX8_addSubjectNow 57 = .ok (.aload_n 0, 1) := by decide +kernel
theorem dX8_addSubjectNow_58 : decode cX8_addSubjectNow 58 = .ok (.getfield 7, 3) := by decide +kernel
theorem dX8_addSubjectNow_61 : decode cX8_addSubjectNow 61 = .ok (.bipush 17, 2) := by decide +kernel
theorem dX8_addSubjectNow_63 : decode cX8_addSubjectNow 63 = .ok (.iconst 4, 1) := by decide +kernel
theorem dX8_addSubjectNow_64 : decode cX8_addSubjectNow 64 = .ok (.iload_n 2, 1) := by decide +kernel
theorem dX8_addSubjectNow_65 : decode cX8_addSubjectNow 65 = .ok (.imul, 1) := by decide +kernel
theorem dX8_addSubjectNow_66 : decode cX8_addSubjectNow 66 = .ok (.iadd, 1) := by decide +kernel
theorem dX8_addSubjectNow_67 : decode cX8_addSubjectNow 67 = .ok (.iload_n 3, 1) := by decide +kernel
theorem dX8_addSubjectNow_68 : decode cX8_addSubjectNow 68 = .ok (.iadd, 1) := by decide +kernel
theorem dX8_addSubjectNow_69 : decode cX8_addSubjectNow 69 = .ok (.iconst 0, 1) := by decide +kernel
theorem dX8_addSubjectNow_70 : decode cX8_addSubjectNow 70 = .ok (.iastore, 1) := by decide +kernel
theorem dX8_addSubjectNow_71 : decode cX8_addSubjectNow 71 = .ok (.iinc 3 1, 3) := by decide +kernel
theorem dX8_addSubjectNow_74 : decode cX8_addSubjectNow 74 = .ok (.goto (-22), 3) := by decide +kernel
theorem dX8_addSubjectNow_77 : decode cX8_addSubjectNow 77 = .ok (.aload_n 0, 1) := by decide +kernel
theorem dX8_addSubjectNow_78 : decode cX8_addSubjectNow 78 = .ok (.getfield 7, 3) := by decide +kernel
theorem dX8_addSubjectNow_81 : decode cX8_addSubjectNow 81 = .ok (.iconst 0, 1) := by decide +kernel
theorem dX8_addSubjectNow_82 : decode cX8_addSubjectNow 82 = .ok (.dup2, 1) := by decide +kernel
theorem dX8_addSubjectNow_83 : decode cX8_addSubjectNow 83 = .ok (.iaload, 1) := by decide +kernel
theorem dX8_addSubjectNow_84 : decode cX8_addSubjectNow 84 = .ok (.iconst 1, 1) := by decide +kernel
theorem dX8_addSubjectNow_85 : decode cX8_addSubjectNow 85 = .ok (.iadd, 1) := by decide +kernel
theorem dX8_addSubjectNow_86 : decode cX8_addSubjectNow 86 = .ok (.iastore, 1) := by decide +kernel
theorem dX8_addSubjectNow_87 : decode cX8_addSubjectNow 87 = .ok (.iload_n 2, 1) := by decide +kernel
theorem dX8_addSubjectNow_88 : decode cX8_addSubjectNow 88 = .ok (.ireturn, 1) := by decide +kernel
theorem dX8_addSubject_0 : decode cX8_addSubject 0 = .ok (.aload_n 0, 1) := by decide +kernel
theorem dX8_addSubject_1 : decode cX8_addSubject 1 = .ok (.invokevirtual 134, 3) := by decide +kernel
theorem dX8_addSubject_4 : decode cX8_addSubject 4 = .ok (.aload_n 0, 1) := by decide +kernel
theorem dX8_addSubject_5 : decode cX8_addSubject 5 = .ok (.aload_n 0, 1) := by decide +kernel
theorem dX8_addSubject_6 : decode cX8_addSubject 6 = .ok (.iload_n 1, 1) := by decide +kernel
theorem dX8_addSubject_7 : decode cX8_addSubject 7 = .ok (.invokevirtual 137, 3) := by decide +kernel
theorem dX8_addSubject_10 : decode cX8_addSubject 10 = .ok (.iconst 2, 1) := by decide +kernel
theorem dX8_addSubject_11 : decode cX8_addSubject 11 = .ok (.iconst 3, 1) := by decide +kernel
theorem dX8_addSubject_12 : decode cX8_addSubject 12 = .ok (.invokevirtual 140, 3) := by decide +kernel
theorem dX8_addSubject_15 : decode cX8_addSubject 15 = .ok (.ireturn, 1) := by decide +kernel
theorem dX8_setSizeNow_0 : decode cX8_setSizeNow 0 = .ok (.aload_n 0, 1) := by decide +kernel
theorem dX8_setSizeNow_1 : decode cX8_setSizeNow 1 = .ok (.iload_n 1, 1) := by decide +kernel
theorem dX8_setSizeNow_2 : decode cX8_setSizeNow 2 = .ok (.invokevirtual 144, 3) := by decide +kernel
theorem dX8_setSizeNow_5 : decode cX8_setSizeNow 5 = .ok (.ifCond .ne 9, 3) := by decide +kernel
theorem dX8_setSizeNow_8 : decode cX8_setSizeNow 8 = .ok (.aload_n 0, 1) := by decide +kernel
theorem dX8_setSizeNow_9 : decode cX8_setSizeNow 9 = .ok (.iconst 1, 1) := by decide +kernel
theorem dX8_setSizeNow_10 : decode cX8_setSizeNow 10 = .ok (.invokevirtual 131, 3) := by decide +kernel
theorem dX8_setSizeNow_13 : decode cX8_setSizeNow 13 = .ok (.ireturn, 1) := by decide +kernel
theorem dX8_setSizeNow_14 : decode cX8_setSizeNow 14 = .ok (.iload_n 2, 1) := by decide +kernel
theorem dX8_setSizeNow_15 : decode cX8_setSizeNow 15 = .ok (.iconst 1, 1) := by decide +kernel
theorem dX8_setSizeNow_16 : decode cX8_setSizeNow 16 = .ok (.bipush 9, 2) := by decide +kernel
theorem dX8_setSizeNow_18 : decode cX8_setSizeNow 18 = .ok (.invokestatic 120, 3) := by decide +kernel
theorem dX8_setSizeNow_21 : decode cX8_setSizeNow 21 = .ok (.ifCond .ne 9, 3) := by decide +kernel
theorem dX8_setSizeNow_24 : decode cX8_setSizeNow 24 = .ok (.aload_n 0, 1) := by decide +kernel
theorem dX8_setSizeNow_25 : decode cX8_setSizeNow 25 = .ok (.iconst 2, 1) := by decide +kernel
theorem dX8_setSizeNow_26 : decode cX8_setSizeNow 26 = .ok (.invokevirtual 131, 3) := by decide +kernel
theorem dX8_setSizeNow_29 : decode cX8_setSizeNow 29 = .ok (.ireturn, 1) := by decide +kernel
theorem dX8_setSizeNow_30 : decode cX8_setSizeNow 30 = .ok (.iconst 0, 1) := by decide +kernel
theorem dX8_setSizeNow_31 : decode cX8_setSizeNow 31 = .ok (.istore_n 3, 1) := by decide +kernel
theorem dX8_setSizeNow_32 : decode cX8_setSizeNow 32 = .ok (.iload_n 3, 1) := by decide +kernel
theorem dX8_setSizeNow_33 : decode cX8_setSizeNow 33 = .ok (.iconst 4, 1) := by decide +kernel
theorem dX8_setSizeNow_34 : decode cX8_setSizeNow 34 = .ok (.if_icmp .ge 25, 3) := by decide +kernel
theorem dX8_setSizeNow_37 : decode cX8_setSizeNow 37 = .ok (.aload_n 0, 1) := by decide +kernel
theorem dX8_setSizeNow_38 : decode cX8_setSizeNow 38 = .ok (.iload_n 1, 1) := by decide +kernel
theorem dX8_setSizeNow_39 : decode cX8_setSizeNow 39 = .ok (.iload_n 3, 1) := by decide +kernel
theorem dX8_setSizeNow_40 : decode cX8_setSizeNow 40 = .ok (.invokevirtual 148, 3) := by decide +kernel
theorem dX8_setSizeNow_43 : decode cX8_setSizeNow 43 = .ok (.iload_n 2, 1) := by decide +kernel
theorem dX8_setSizeNow_44 : decode cX8_setSizeNow 44 = .ok (.if_icmp .le 9, 3) := by decide +kernel
theorem dX8_setSizeNow_47 : decode cX8_setSizeNow 47 = .ok (.aload_n 0, 1) := by decide +kernel
theorem dX8_setSizeNow_48 : decode cX8_setSizeNow 48 = .ok (.iconst 3, 1) := by decide +kernel
theorem dX8_setSizeNow_49 : decode cX8_setSizeNow 49 = .ok (.invokevirtual 131, 3) := by decide +kernel
theorem dX8_setSizeNow_52 : decode cX8_setSizeNow 52 = .ok (.ireturn, 1) := by decide +kernel
theorem dX8_setSizeNow_53 : decode cX8_setSizeNow 53 = .ok (.iinc 3 1, 3) := by decide +kernel
theorem dX8_setSizeNow_56 : decode cX8_setSizeNow 56 = .ok (.goto (-24), 3) := by decide +kernel
theorem dX8_setSizeNow_59 : decode cX8_setSizeNow 59 = .ok (.aload_n 0, 1) := by decide +kernel
theorem dX8_setSizeNow_60 : decode cX8_setSizeNow 60 = .ok (.getfield 7, 3) := by decide +kernel
theorem dX8_setSizeNow_63 : decode cX8_setSizeNow 63 = .ok (.bipush 10, 2) := by decide +kernel
theorem dX8_setSizeNow_65 : decode cX8_setSizeNow 65 = .ok (.iload_n 1, 1) := by decide +kernel
theorem dX8_setSizeNow_66 : decode cX8_setSizeNow 66 = .ok (.iadd, 1) := by decide +kernel
theorem dX8_setSizeNow_67 : decode cX8_setSizeNow 67 = .ok (.iaload, 1) := by decide +kernel
theorem dX8_setSizeNow_68 : decode cX8_setSizeNow 68 = .ok (.istore_n 3, 1) := by decide +kernel
theorem dX8_setSizeNow_69 : decode cX8_setSizeNow 69 = .ok (.aload_n 0, 1) := by decide +kernel
theorem dX8_setSizeNow_70 : decode cX8_setSizeNow 70 = .ok (.getfield 7, 3) := by decide +kernel
theorem dX8_setSizeNow_73 : decode cX8_setSizeNow 73 = .ok (.bipush 10, 2) := by decide +kernel
theorem dX8_setSizeNow_75 : decode cX8_setSizeNow 75 = .ok (.iload_n 1, 1) := by decide +kernel
theorem dX8_setSizeNow_76 : decode cX8_setSizeNow 76 = .ok (.iadd, 1) := by decide +kernel
theorem dX8_setSizeNow_77 : decode cX8_setSizeNow 77 = .ok (.iload_n 2, 1) := by decide +kernel
theorem dX8_setSizeNow_78 : decode cX8_setSizeNow 78 = .ok (.iastore, 1) := by decide +kernel
theorem dX8_setSizeNow_79 : decode cX8_setSizeNow 79 = .ok (.iload_n 3, 1) := by decide +kernel
theorem dX8_setSizeNow_80 : decode cX8_setSizeNow 80 = .ok (.ireturn, 1) := by decide +kernel
theorem dX8_setSize_0 : decode cX8_setSize 0 = .ok (.aload_n 0, 1) := by decide +kernel
theorem dX8_setSize_1 : decode cX8_setSize 1 = .ok (.invokevirtual 134, 3) := by decide +kernel
theorem dX8_setSize_4 : decode cX8_setSize 4 = .ok (.aload_n 0, 1) := by decide +kernel
theorem dX8_setSize_5 : decode cX8_setSize 5 = .ok (.aload_n 0, 1) := by decide +kernel
theorem dX8_setSize_6 : decode cX8_setSize 6 = .ok (.iload_n 1, 1) := by decide +kernel
theorem dX8_setSize_7 : decode cX8_setSize 7 = .ok (.iload_n 2, 1) := by decide +kernel
theorem dX8_setSize_8 : decode cX8_setSize 8 = .ok (.invokevirtual 151, 3) := by decide +kernel
theorem dX8_setSize_11 : decode cX8_setSize 11 = .ok (.iconst 1, 1) := by decide +kernel
theorem dX8_setSize_12 : decode cX8_setSize 12 = .ok (.iconst 2, 1) := by decide +kernel
theorem dX8_setSize_13 : decode cX8_setSize 13 = .ok (.invokevirtual 140, 3) := by decide +kernel
theorem dX8_setSize_16 : decode cX8_setSize 16 = .ok (.ireturn, 1) := by decide +kernel
theorem dX8_subjectCount_0 : decode cX8_subjectCount 0 = .ok (.aload_n 0, 1) := by decide +kernel
theorem dX8_subjectCount_1 : decode cX8_subjectCount 1 = .ok (.aload_n 0, 1) := by decide +kernel
theorem dX8_subjectCount_2 : decode cX8_subjectCount 2 = .ok (.getfield 7, 3) := by decide +kernel
theorem dX8_subjectCount_5 : decode cX8_subjectCount 5 = .ok (.iconst 0, 1) := by decide +kernel
theorem dX8_subjectCount_6 : decode cX8_subjectCount 6 = .ok (.iaload, 1) := by decide +kernel
theorem dX8_subjectCount_7 : decode cX8_subjectCount 7 = .ok (.invokevirtual 113, 3) := by decide +kernel
theorem dX8_subjectCount_10 : decode cX8_subjectCount 10 = .ok (.ireturn, 1) := by decide +kernel
theorem dX8_sizeOf_0 : decode cX8_sizeOf 0 = .ok (.aload_n 0, 1) := by decide +kernel
theorem dX8_sizeOf_1 : decode cX8_sizeOf 1 = .ok (.iload_n 1, 1) := by decide +kernel
theorem dX8_sizeOf_2 : decode cX8_sizeOf 2 = .ok (.invokevirtual 144, 3) := by decide +kernel
theorem dX8_sizeOf_5 : decode cX8_sizeOf 5 = .ok (.ifCond .eq 19, 3) := by decide +kernel
theorem dX8_sizeOf_8 : decode cX8_sizeOf 8 = .ok (.aload_n 0, 1) := by decide +kernel
theorem dX8_sizeOf_9 : decode cX8_sizeOf 9 = .ok (.aload_n 0, 1) := by decide +kernel
theorem dX8_sizeOf_10 : decode cX8_sizeOf 10 = .ok (.getfield 7, 3) := by decide +kernel
theorem dX8_sizeOf_13 : decode cX8_sizeOf 13 = .ok (.bipush 10, 2) := by decide +kernel
theorem dX8_sizeOf_15 : decode cX8_sizeOf 15 = .ok (.iload_n 1, 1) := by decide +kernel
theorem dX8_sizeOf_16 : decode cX8_sizeOf 16 = .ok (.iadd, 1) := by decide +kernel
theorem dX8_sizeOf_17 : decode cX8_sizeOf 17 = .ok (.iaload, 1) := by decide +kernel
theorem dX8_sizeOf_18 : decode cX8_sizeOf 18 = .ok (.invokevirtual 113, 3) := by decide +kernel
theorem dX8_sizeOf_21 : decode cX8_sizeOf 21 = .ok (.goto 8, 3) := by decide +kernel
theorem dX8_sizeOf_24 : decode cX8_sizeOf 24 = .ok (.aload_n 0, 1) := by decide +kernel
theorem dX8_sizeOf_25 : decode cX8_sizeOf 25 = .ok (.iconst 1, 1) := by decide +kernel
theorem dX8_sizeOf_26 : decode cX8_sizeOf 26 = .ok (.invokevirtual 106, 3) := by decide +kernel
theorem dX8_sizeOf_29 : decode cX8_sizeOf 29 = .ok (.ireturn, 1) := by decide +kernel
theorem dX8_setBlockCountNow_0 : decode cX8_setBlockCountNow 0 = .ok (.iload_n 1, 1) := by decide +kernel
theorem dX8_setBlockCountNow_1 : decode cX8_setBlockCountNow 1 = .ok (.iconst 1, 1) := by decide +kernel
theorem dX8_setBlockCountNow_2 : decode cX8_setBlockCountNow 2 = .ok (.iconst 4, 1) := by decide +kernel
theorem dX8_setBlockCountNow_3 : decode cX8_setBlockCountNow 3 = .ok (.invokestatic 120, 3) := by decide +kernel
theorem dX8_setBlockCountNow_6 : decode cX8_setBlockCountNow 6 = .ok (.ifCond .ne 9, 3) := by decide +kernel
theorem dX8_setBlockCountNow_9 : decode cX8_setBlockCountNow 9 = .ok (.aload_n 0, 1) := by decide +kernel
theorem dX8_setBlockCountNow_10 : decode cX8_setBlockCountNow 10 = .ok (.iconst 2, 1) := by decide +kernel
theorem dX8_setBlockCountNow_11 : decode cX8_setBlockCountNow 11 = .ok (.invokevirtual 131, 3) := by decide +kernel
theorem dX8_setBlockCountNow_14 : decode cX8_setBlockCountNow 14 = .ok (.ireturn, 1) := by decide +kernel
theorem dX8_setBlockCountNow_15 : decode cX8_setBlockCountNow 15 = .ok (.iconst 0, 1) := by decide +kernel
theorem dX8_setBlockCountNow_16 : decode cX8_setBlockCountNow 16 = .ok (.istore_n 2, 1) := by decide +kernel
theorem dX8_setBlockCountNow_17 : decode cX8_setBlockCountNow 17 = .ok (.iload_n 2, 1) := by decide +kernel
theorem dX8_setBlockCountNow_18 : decode cX8_setBlockCountNow 18 = .ok (.aload_n 0, 1) := by decide +kernel
theorem dX8_setBlockCountNow_19 : decode cX8_setBlockCountNow 19 = .ok (.getfield 7, 3) := by decide +kernel
theorem dX8_setBlockCountNow_22 : decode cX8_setBlockCountNow 22 = .ok (.iconst 0, 1) := by decide +kernel
theorem dX8_setBlockCountNow_23 : decode cX8_setBlockCountNow 23 = .ok (.iaload, 1) := by decide +kernel
theorem dX8_setBlockCountNow_24 : decode cX8_setBlockCountNow 24 = .ok (.if_icmp .ge 37, 3) := by decide +kernel
theorem dX8_setBlockCountNow_27 : decode cX8_setBlockCountNow 27 = .ok (.iload_n 1, 1) := by decide +kernel
theorem dX8_setBlockCountNow_28 : decode cX8_setBlockCountNow 28 = .ok (.istore_n 3, 1) := by decide +kernel
theorem dX8_setBlockCountNow_29 : decode cX8_setBlockCountNow 29 = .ok (.iload_n 3, 1) := by decide +kernel
theorem dX8_setBlockCountNow_30 : decode cX8_setBlockCountNow 30 = .ok (.iconst 4, 1) := by decide +kernel
theorem dX8_setBlockCountNow_31 : decode cX8_setBlockCountNow 31 = .ok (.if_icmp .ge 24, 3) := by decide +kernel
theorem dX8_setBlockCountNow_34 : decode cX8_setBlockCountNow 34 = .ok (.aload_n 0, 1) := by decide +kernel
theorem dX8_setBlockCountNow_35 : decode cX8_setBlockCountNow 35 = .ok (.iload_n 2, 1) := by decide +kernel
theorem dX8_setBlockCountNow_36 : decode cX8_setBlockCountNow 36 = .ok (.iload_n 3, 1) := by decide +kernel
theorem dX8_setBlockCountNow_37 : decode cX8_setBlockCountNow 37 = .ok (.invokevirtual 154, 3) := by decide +kernel
theorem dX8_setBlockCountNow_40 : decode cX8_setBlockCountNow 40 = .ok (.ifCond .eq 9, 3) := by decide +kernel
theorem dX8_setBlockCountNow_43 : decode cX8_setBlockCountNow 43 = .ok (.aload_n 0, 1) := by decide +kernel
theorem dX8_setBlockCountNow_44 : decode cX8_setBlockCountNow 44 = .ok (.iconst 3, 1) := by decide +kernel
theorem dX8_setBlockCountNow_45 : decode cX8_setBlockCountNow 45 = .ok (.invokevirtual 131, 3) := by decide +kernel
theorem dX8_setBlockCountNow_48 : decode cX8_setBlockCountNow 48 = .ok (.ireturn, 1) := by decide +kernel
theorem dX8_setBlockCountNow_49 : decode cX8_setBlockCountNow 49 = .ok (.iinc 3 1, 3) := by decide +kernel
theorem dX8_setBlockCountNow_52 : decode cX8_setBlockCountNow 52 = .ok (.goto (-23), 3) := by decide +kernel
theorem dX8_setBlockCountNow_55 : decode cX8_setBlockCountNow 55 = .ok (.iinc 2 1, 3) := by decide +kernel
theorem dX8_setBlockCountNow_58 : decode cX8_setBlockCountNow 58 = .ok (.goto (-41), 3) := by decide +kernel
theorem dX8_setBlockCountNow_61 : decode cX8_setBlockCountNow 61 = .ok (.aload_n 0, 1) := by decide +kernel
theorem dX8_setBlockCountNow_62 : decode cX8_setBlockCountNow 62 = .ok (.getfield 7, 3) := by decide +kernel
theorem dX8_setBlockCountNow_65 : decode cX8_setBlockCountNow 65 = .ok (.iconst 1, 1) := by decide +kernel
theorem dX8_setBlockCountNow_66 : decode cX8_setBlockCountNow 66 = .ok (.iaload, 1) := by decide +kernel
theorem dX8_setBlockCountNow_67 : decode cX8_setBlockCountNow 67 = .ok (.istore_n 2, 1) := by decide +kernel
theorem dX8_setBlockCountNow_68 : decode cX8_setBlockCountNow 68 = .ok (.aload_n 0, 1) := by decide +kernel
theorem dX8_setBlockCountNow_69 : decode cX8_setBlockCountNow 69 = .ok (.getfield 7, 3) := by decide +kernel
theorem dX8_setBlockCountNow_72 : decode cX8_setBlockCountNow 72 = .ok (.iconst 1, 1) := by decide +kernel
theorem dX8_setBlockCountNow_73 : decode cX8_setBlockCountNow 73 = .ok (.iload_n 1, 1) := by decide +kernel
theorem dX8_setBlockCountNow_74 : decode cX8_setBlockCountNow 74 = .ok (.iastore, 1) := by decide +kernel
theorem dX8_setBlockCountNow_75 : decode cX8_setBlockCountNow 75 = .ok (.iload_n 2, 1) := by decide +kernel
theorem dX8_setBlockCountNow_76 : decode cX8_setBlockCountNow 76 = .ok (.ireturn, 1) := by decide +kernel
theorem dX8_setBlockCount_0 : decode cX8_setBlockCount 0 = .ok (.aload_n 0, 1) := by decide +kernel
theorem dX8_setBlockCount_1 : decode cX8_setBlockCount 1 = .ok (.invokevirtual 134, 3) := by decide +kernel
theorem dX8_setBlockCount_4 : decode cX8_setBlockCount 4 = .ok (.aload_n 0, 1) := by decide +kernel
theorem dX8_setBlockCount_5 : decode cX8_setBlockCount 5 = .ok (.aload_n 0, 1) := by decide +kernel
theorem dX8_setBlockCount_6 : decode cX8_setBlockCount 6 = .ok (.iload_n 1, 1) := by decide +kernel
theorem dX8_setBlockCount_7 : decode cX8_setBlockCount 7 = .ok (.invokevirtual 158, 3) := by decide +kernel
theorem dX8_setBlockCount_10 : decode cX8_setBlockCount 10 = .ok (.iconst 2, 1) := by decide +kernel
theorem dX8_setBlockCount_11 : decode cX8_setBlockCount 11 = .ok (.iconst 3, 1) := by decide +kernel
theorem dX8_setBlockCount_12 : decode cX8_setBlockCount 12 = .ok (.invokevirtual 140, 3) := by decide +kernel
theorem dX8_setBlockCount_15 : decode cX8_setBlockCount 15 = .ok (.ireturn, 1) := by decide +kernel
theorem dX8_blockCount_0 : decode cX8_blockCount 0 = .ok (.aload_n 0, 1) := by decide +kernel
theorem dX8_blockCount_1 : decode cX8_blockCount 1 = .ok (.aload_n 0, 1) := by decide +kernel
theorem dX8_blockCount_2 : decode cX8_blockCount 2 = .ok (.getfield 7, 3) := by decide +kernel
theorem dX8_blockCount_5 : decode cX8_blockCount 5 = .ok (.iconst 1, 1) := by decide +kernel
theorem dX8_blockCount_6 : decode cX8_blockCount 6 = .ok (.iaload, 1) := by decide +kernel
theorem dX8_blockCount_7 : decode cX8_blockCount 7 = .ok (.invokevirtual 113, 3) := by decide +kernel
theorem dX8_blockCount_10 : decode cX8_blockCount 10 = .ok (.ireturn, 1) := by decide +kernel
theorem dX8_openClassNow_0 : decode cX8_openClassNow 0 = .ok (.aload_n 0, 1) := by decide +kernel
theorem dX8_openClassNow_1 : decode cX8_openClassNow 1 = .ok (.iload_n 1, 1) := by decide +kernel
theorem dX8_openClassNow_2 : decode cX8_openClassNow 2 = .ok (.invokevirtual 144, 3) := by decide +kernel
theorem dX8_openClassNow_5 : decode cX8_openClassNow 5 = .ok (.ifCond .eq 11, 3) := by decide +kernel
theorem dX8_openClassNow_8 : decode cX8_openClassNow 8 = .ok (.aload_n 0, 1) := by decide +kernel
theorem dX8_openClassNow_9 : decode cX8_openClassNow 9 = .ok (.iload_n 2, 1) := by decide +kernel
theorem dX8_openClassNow_10 : decode cX8_openClassNow 10 = .ok (.invokevirtual 161, 3) := by decide +kernel
theorem dX8_openClassNow_13 : decode cX8_openClassNow 13 = .ok (.ifCond .ne 9, 3) := by decide +kernel
theorem dX8_openClassNow_16 : decode cX8_openClassNow 16 = .ok (.aload_n 0, 1) := by decide +kernel
theorem dX8_openClassNow_17 : decode cX8_openClassNow 17 = .ok (.iconst 1, 1) := by decide +kernel
theorem dX8_openClassNow_18 : decode cX8_openClassNow 18 = .ok (.invokevirtual 131, 3) := by decide +kernel
theorem dX8_openClassNow_21 : decode cX8_openClassNow 21 = .ok (.ireturn, 1) := by decide +kernel
theorem dX8_openClassNow_22 : decode cX8_openClassNow 22 = .ok (.aload_n 0, 1) := by decide +kernel
theorem dX8_openClassNow_23 : decode cX8_openClassNow 23 = .ok (.iload_n 1, 1) := by decide +kernel
theorem dX8_openClassNow_24 : decode cX8_openClassNow 24 = .ok (.iload_n 2, 1) := by decide +kernel
theorem dX8_openClassNow_25 : decode cX8_openClassNow 25 = .ok (.invokevirtual 154, 3) := by decide +kernel
theorem dX8_openClassNow_28 : decode cX8_openClassNow 28 = .ok (.ifCond .eq 9, 3) := by decide +kernel
theorem dX8_openClassNow_31 : decode cX8_openClassNow 31 = .ok (.aload_n 0, 1) := by decide +kernel
theorem dX8_openClassNow_32 : decode cX8_openClassNow 32 = .ok (.iconst 3, 1) := by decide +kernel
theorem dX8_openClassNow_33 : decode cX8_openClassNow 33 = .ok (.invokevirtual 131, 3) := by decide +kernel
theorem dX8_openClassNow_36 : decode cX8_openClassNow 36 = .ok (.ireturn, 1) := by decide +kernel
theorem dX8_openClassNow_37 : decode cX8_openClassNow 37 = .ok (.aload_n 0, 1) := by decide +kernel
theorem dX8_openClassNow_38 : decode cX8_openClassNow 38 = .ok (.getfield 7, 3) := by decide +kernel
theorem dX8_openClassNow_41 : decode cX8_openClassNow 41 = .ok (.bipush 17, 2) := by decide +kernel
theorem dX8_openClassNow_43 : decode cX8_openClassNow 43 = .ok (.iconst 4, 1) := by decide +kernel
theorem dX8_openClassNow_44 : decode cX8_openClassNow 44 = .ok (.iload_n 1, 1) := by decide +kernel
theorem dX8_openClassNow_45 : decode cX8_openClassNow 45 = .ok (.imul, 1) := by decide +kernel
theorem dX8_openClassNow_46 : decode cX8_openClassNow 46 = .ok (.iadd, 1) := by decide +kernel
theorem dX8_openClassNow_47 : decode cX8_openClassNow 47 = .ok (.iload_n 2, 1) := by decide +kernel
theorem dX8_openClassNow_48 : decode cX8_openClassNow 48 = .ok (.iadd, 1) := by decide +kernel
theorem dX8_openClassNow_49 : decode cX8_openClassNow 49 = .ok (.iconst 1, 1) := by decide +kernel
theorem dX8_openClassNow_50 : decode cX8_openClassNow 50 = .ok (.iastore, 1) := by decide +kernel
theorem dX8_openClassNow_51 : decode cX8_openClassNow 51 = .ok (.aload_n 0, 1) := by decide +kernel
theorem dX8_openClassNow_52 : decode cX8_openClassNow 52 = .ok (.iload_n 1, 1) := by decide +kernel
theorem dX8_openClassNow_53 : decode cX8_openClassNow 53 = .ok (.invokevirtual 164, 3) := by decide +kernel
theorem dX8_openClassNow_56 : decode cX8_openClassNow 56 = .ok (.ireturn, 1) := by decide +kernel
theorem dX8_openClass_0 : decode cX8_openClass 0 = .ok (.aload_n 0, 1) := by decide +kernel
theorem dX8_openClass_1 : decode cX8_openClass 1 = .ok (.invokevirtual 134, 3) := by decide +kernel
theorem dX8_openClass_4 : decode cX8_openClass 4 = .ok (.aload_n 0, 1) := by decide +kernel
theorem dX8_openClass_5 : decode cX8_openClass 5 = .ok (.aload_n 0, 1) := by decide +kernel
theorem dX8_openClass_6 : decode cX8_openClass 6 = .ok (.iload_n 1, 1) := by decide +kernel
theorem dX8_openClass_7 : decode cX8_openClass 7 = .ok (.iload_n 2, 1) := by decide +kernel
theorem dX8_openClass_8 : decode cX8_openClass 8 = .ok (.invokevirtual 167, 3) := by decide +kernel
theorem dX8_openClass_11 : decode cX8_openClass 11 = .ok (.iconst 1, 1) := by decide +kernel
theorem dX8_openClass_12 : decode cX8_openClass 12 = .ok (.iconst 3, 1) := by decide +kernel
theorem dX8_openClass_13 : decode cX8_openClass 13 = .ok (.invokevirtual 140, 3) := by decide +kernel
theorem dX8_openClass_16 : decode cX8_openClass 16 = .ok (.ireturn, 1) := by decide +kernel
theorem dX8_closeClassNow_0 : decode cX8_closeClassNow 0 = .ok (.aload_n 0, 1) := by decide +kernel
theorem dX8_closeClassNow_1 : decode cX8_closeClassNow 1 = .ok (.iload_n 1, 1) := by decide +kernel
theorem dX8_closeClassNow_2 : decode cX8_closeClassNow 2 = .ok (.invokevirtual 144, 3) := by decide +kernel
theorem dX8_closeClassNow_5 : decode cX8_closeClassNow 5 = .ok (.ifCond .eq 11, 3) := by decide +kernel
theorem dX8_closeClassNow_8 : decode cX8_closeClassNow 8 = .ok (.aload_n 0, 1) := by decide +kernel
theorem dX8_closeClassNow_9 : decode cX8_closeClassNow 9 = .ok (.iload_n 2, 1) := by decide +kernel
theorem dX8_closeClassNow_10 : decode cX8_closeClassNow 10 = .ok (.invokevirtual 161, 3) := by decide +kernel
theorem dX8_closeClassNow_13 : decode cX8_closeClassNow 13 = .ok (.ifCond .ne 9, 3) := by decide +kernel
theorem dX8_closeClassNow_16 : decode cX8_closeClassNow 16 = .ok (.aload_n 0, 1) := by decide +kernel
theorem dX8_closeClassNow_17 : decode cX8_closeClassNow 17 = .ok (.iconst 1, 1) := by decide +kernel
theorem dX8_closeClassNow_18 : decode cX8_closeClassNow 18 = .ok (.invokevirtual 131, 3) := by decide +kernel
theorem dX8_closeClassNow_21 : decode cX8_closeClassNow 21 = .ok (.ireturn, 1) := by decide +kernel
theorem dX8_closeClassNow_22 : decode cX8_closeClassNow 22 = .ok (.aload_n 0, 1) := by decide +kernel
theorem dX8_closeClassNow_23 : decode cX8_closeClassNow 23 = .ok (.iload_n 1, 1) := by decide +kernel
theorem dX8_closeClassNow_24 : decode cX8_closeClassNow 24 = .ok (.iload_n 2, 1) := by decide +kernel
theorem dX8_closeClassNow_25 : decode cX8_closeClassNow 25 = .ok (.invokevirtual 154, 3) := by decide +kernel
theorem dX8_closeClassNow_28 : decode cX8_closeClassNow 28 = .ok (.ifCond .eq 12, 3) := by decide +kernel
theorem dX8_closeClassNow_31 : decode cX8_closeClassNow 31 = .ok (.aload_n 0, 1) := by decide +kernel
theorem dX8_closeClassNow_32 : decode cX8_closeClassNow 32 = .ok (.iload_n 1, 1) := by decide +kernel
theorem dX8_closeClassNow_33 : decode cX8_closeClassNow 33 = .ok (.iload_n 2, 1) := by decide +kernel
theorem dX8_closeClassNow_34 : decode cX8_closeClassNow 34 = .ok (.invokevirtual 148, 3) := by decide +kernel
theorem dX8_closeClassNow_37 : decode cX8_closeClassNow 37 = .ok (.ifCond .le 9, 3) := by decide +kernel
theorem dX8_closeClassNow_40 : decode cX8_closeClassNow 40 = .ok (.aload_n 0, 1) := by decide +kernel
theorem dX8_closeClassNow_41 : decode cX8_closeClassNow 41 = .ok (.iconst 3, 1) := by decide +kernel
theorem dX8_closeClassNow_42 : decode cX8_closeClassNow 42 = .ok (.invokevirtual 131, 3) := by decide +kernel
theorem dX8_closeClassNow_45 : decode cX8_closeClassNow 45 = .ok (.ireturn, 1) := by decide +kernel
theorem dX8_closeClassNow_46 : decode cX8_closeClassNow 46 = .ok (.aload_n 0, 1) := by decide +kernel
theorem dX8_closeClassNow_47 : decode cX8_closeClassNow 47 = .ok (.getfield 7, 3) := by decide +kernel
theorem dX8_closeClassNow_50 : decode cX8_closeClassNow 50 = .ok (.bipush 17, 2) := by decide +kernel
theorem dX8_closeClassNow_52 : decode cX8_closeClassNow 52 = .ok (.iconst 4, 1) := by decide +kernel
theorem dX8_closeClassNow_53 : decode cX8_closeClassNow 53 = .ok (.iload_n 1, 1) := by decide +kernel
theorem dX8_closeClassNow_54 : decode cX8_closeClassNow 54 = .ok (.imul, 1) := by decide +kernel
theorem dX8_closeClassNow_55 : decode cX8_closeClassNow 55 = .ok (.iadd, 1) := by decide +kernel
theorem dX8_closeClassNow_56 : decode cX8_closeClassNow 56 = .ok (.iload_n 2, 1) := by decide +kernel
theorem dX8_closeClassNow_57 : decode cX8_closeClassNow 57 = .ok (.iadd, 1) := by decide +kernel
theorem dX8_closeClassNow_58 : decode cX8_closeClassNow 58 = .ok (.iconst 0, 1) := by decide +kernel
theorem dX8_closeClassNow_59 : decode cX8_closeClassNow 59 = .ok (.iastore, 1) := by decide +kernel
theorem dX8_closeClassNow_60 : decode cX8_closeClassNow 60 = .ok (.aload_n 0, 1) := by decide +kernel
theorem dX8_closeClassNow_61 : decode cX8_closeClassNow 61 = .ok (.iload_n 1, 1) := by decide +kernel
theorem dX8_closeClassNow_62 : decode cX8_closeClassNow 62 = .ok (.invokevirtual 164, 3) := by decide +kernel
theorem dX8_closeClassNow_65 : decode cX8_closeClassNow 65 = .ok (.ireturn, 1) := by decide +kernel
theorem dX8_closeClass_0 : decode cX8_closeClass 0 = .ok (.aload_n 0, 1) := by decide +kernel
theorem dX8_closeClass_1 : decode cX8_closeClass 1 = .ok (.invokevirtual 134, 3) := by decide +kernel
theorem dX8_closeClass_4 : decode cX8_closeClass 4 = .ok (.aload_n 0, 1) := by decide +kernel
theorem dX8_closeClass_5 : decode cX8_closeClass 5 = .ok (.aload_n 0, 1) := by decide +kernel
theorem dX8_closeClass_6 : decode cX8_closeClass 6 = .ok (.iload_n 1, 1) := by decide +kernel
theorem dX8_closeClass_7 : decode cX8_closeClass 7 = .ok (.iload_n 2, 1) := by decide +kernel
theorem dX8_closeClass_8 : decode cX8_closeClass 8 = .ok (.invokevirtual 170, 3) := by decide +kernel
theorem dX8_closeClass_11 : decode cX8_closeClass 11 = .ok (.iconst 1, 1) := by decide +kernel
theorem dX8_closeClass_12 : decode cX8_closeClass 12 = .ok (.iconst 3, 1) := by decide +kernel
theorem dX8_closeClass_13 : decode cX8_closeClass 13 = .ok (.invokevirtual 140, 3) := by decide +kernel
theorem dX8_closeClass_16 : decode cX8_closeClass 16 = .ok (.ireturn, 1) := by decide +kernel
theorem dX8_isOpen_0 : decode cX8_isOpen 0 = .ok (.aload_n 0, 1) := by decide +kernel
theorem dX8_isOpen_1 : decode cX8_isOpen 1 = .ok (.aload_n 0, 1) := by decide +kernel
theorem dX8_isOpen_2 : decode cX8_isOpen 2 = .ok (.iload_n 1, 1) := by decide +kernel
theorem dX8_isOpen_3 : decode cX8_isOpen 3 = .ok (.invokevirtual 144, 3) := by decide +kernel
theorem dX8_isOpen_6 : decode cX8_isOpen 6 = .ok (.ifCond .eq 15, 3) := by decide +kernel
theorem dX8_isOpen_9 : decode cX8_isOpen 9 = .ok (.aload_n 0, 1) := by decide +kernel
theorem dX8_isOpen_10 : decode cX8_isOpen 10 = .ok (.iload_n 2, 1) := by decide +kernel
theorem dX8_isOpen_11 : decode cX8_isOpen 11 = .ok (.invokevirtual 161, 3) := by decide +kernel
theorem dX8_isOpen_14 : decode cX8_isOpen 14 = .ok (.ifCond .eq 7, 3) := by decide +kernel
theorem dX8_isOpen_17 : decode cX8_isOpen 17 = .ok (.iconst 0, 1) := by decide +kernel
theorem dX8_isOpen_18 : decode cX8_isOpen 18 = .ok (.goto 4, 3) := by decide +kernel
theorem dX8_isOpen_21 : decode cX8_isOpen 21 = .ok (.iconst 1, 1) := by decide +kernel
theorem dX8_isOpen_22 : decode cX8_isOpen 22 = .ok (.putfield 96, 3) := by decide +kernel
theorem dX8_isOpen_25 : decode cX8_isOpen 25 = .ok (.aload_n 0, 1) := by decide +kernel
theorem dX8_isOpen_26 : decode cX8_isOpen 26 = .ok (.getfield 96, 3) := by decide +kernel
theorem dX8_isOpen_29 : decode cX8_isOpen 29 = .ok (.ifCond .ne 16, 3) := by decide +kernel
theorem dX8_isOpen_32 : decode cX8_isOpen 32 = .ok (.aload_n 0, 1) := by decide +kernel
theorem dX8_isOpen_33 : decode cX8_isOpen 33 = .ok (.iload_n 1, 1) := by decide +kernel
theorem dX8_isOpen_34 : decode cX8_isOpen 34 = .ok (.iload_n 2, 1) := by decide +kernel
theorem dX8_isOpen_35 : decode cX8_isOpen 35 = .ok (.invokevirtual 154, 3) := by decide +kernel
theorem dX8_isOpen_38 : decode cX8_isOpen 38 = .ok (.ifCond .eq 7, 3) := by decide +kernel
theorem dX8_isOpen_41 : decode cX8_isOpen 41 = .ok (.iconst 1, 1) := by decide +kernel
theorem dX8_isOpen_42 : decode cX8_isOpen 42 = .ok (.goto 4, 3) := by decide +kernel
theorem dX8_isOpen_45 : decode cX8_isOpen 45 = .ok (.iconst 0, 1) := by decide +kernel
theorem dX8_isOpen_46 : decode cX8_isOpen 46 = .ok (.ireturn, 1) := by decide +kernel
theorem dX8_pupilsInClass_0 : decode cX8_pupilsInClass 0 = .ok (.aload_n 0, 1) := by decide +kernel
theorem dX8_pupilsInClass_1 : decode cX8_pupilsInClass 1 = .ok (.iload_n 1, 1) := by decide +kernel
theorem dX8_pupilsInClass_2 : decode cX8_pupilsInClass 2 = .ok (.invokevirtual 144, 3) := by decide +kernel
theorem dX8_pupilsInClass_5 : decode cX8_pupilsInClass 5 = .ok (.ifCond .eq 24, 3) := by decide +kernel
theorem dX8_pupilsInClass_8 : decode cX8_pupilsInClass 8 = .ok (.aload_n 0, 1) := by decide +kernel
theorem dX8_pupilsInClass_9 : decode cX8_pupilsInClass 9 = .ok (.iload_n 2, 1) := by decide +kernel
theorem dX8_pupilsInClass_10 : decode cX8_pupilsInClass 10 = .ok (.invokevirtual 161, 3) := by decide +kernel
theorem dX8_pupilsInClass_13 : decode cX8_pupilsInClass 13 = .ok (.ifCond .eq 16, 3) := by decide +kernel
theorem dX8_pupilsInClass_16 : decode cX8_pupilsInClass 16 = .ok (.aload_n 0, 1) := by decide +kernel
theorem dX8_pupilsInClass_17 : decode cX8_pupilsInClass 17 = .ok (.aload_n 0, 1) := by decide +kernel
theorem dX8_pupilsInClass_18 : decode cX8_pupilsInClass 18 = .ok (.iload_n 1, 1) := by decide +kernel
theorem dX8_pupilsInClass_19 : decode cX8_pupilsInClass 19 = .ok (.iload_n 2, 1) := by decide +kernel
theorem dX8_pupilsInClass_20 : decode cX8_pupilsInClass 20 = .ok (.invokevirtual 148, 3) := by decide +kernel
theorem dX8_pupilsInClass_23 : decode cX8_pupilsInClass 23 = .ok (.invokevirtual 113, 3) := by decide +kernel
theorem dX8_pupilsInClass_26 : decode cX8_pupilsInClass 26 = .ok (.goto 8, 3) := by decide +kernel
theorem dX8_pupilsInClass_29 : decode cX8_pupilsInClass 29 = .ok (.aload_n 0, 1) := by decide +kernel
theorem dX8_pupilsInClass_30 : decode cX8_pupilsInClass 30 = .ok (.iconst 1, 1) := by decide +kernel
theorem dX8_pupilsInClass_31 : decode cX8_pupilsInClass 31 = .ok (.invokevirtual 106, 3) := by decide +kernel
theorem dX8_pupilsInClass_34 : decode cX8_pupilsInClass 34 = .ok (.ireturn, 1) := by decide +kernel
theorem dX8_pupilInClass_0 : decode cX8_pupilInClass 0 = .ok (.aload_n 0, 1) := by decide +kernel
theorem dX8_pupilInClass_1 : decode cX8_pupilInClass 1 = .ok (.iload_n 1, 1) := by decide +kernel
theorem dX8_pupilInClass_2 : decode cX8_pupilInClass 2 = .ok (.invokevirtual 144, 3) := by decide +kernel
theorem dX8_pupilInClass_5 : decode cX8_pupilInClass 5 = .ok (.ifCond .eq 11, 3) := by decide +kernel
theorem dX8_pupilInClass_8 : decode cX8_pupilInClass 8 = .ok (.aload_n 0, 1) := by decide +kernel
theorem dX8_pupilInClass_9 : decode cX8_pupilInClass 9 = .ok (.iload_n 2, 1) := by decide +kernel
theorem dX8_pupilInClass_10 : decode cX8_pupilInClass 10 = .ok (.invokevirtual 161, 3) := by decide +kernel
theorem dX8_pupilInClass_13 : decode cX8_pupilInClass 13 = .ok (.ifCond .ne 9, 3) := by decide +kernel
theorem dX8_pupilInClass_16 : decode cX8_pupilInClass 16 = .ok (.aload_n 0, 1) := by decide +kernel
theorem dX8_pupilInClass_17 : decode cX8_pupilInClass 17 = .ok (.iconst 1, 1) := by decide +kernel
theorem dX8_pupilInClass_18 : decode cX8_pupilInClass 18 = .ok (.invokevirtual 106, 3) := by decide +kernel
theorem dX8_pupilInClass_21 : decode cX8_pupilInClass 21 = .ok (.ireturn, 1) := by decide +kernel
theorem dX8_pupilInClass_22 : decode cX8_pupilInClass 22 = .ok (.iload_n 3, 1) := by decide +kernel
theorem dX8_pupilInClass_23 : decode cX8_pupilInClass 23 = .ok (.istore 4, 2) := by decide +kernel
theorem dX8_pupilInClass_25 : decode cX8_pupilInClass 25 = .ok (.iconst 0, 1) := by decide +kernel
theorem dX8_pupilInClass_26 : decode cX8_pupilInClass 26 = .ok (.istore 5, 2) := by decide +kernel
theorem dX8_pupilInClass_28 : decode cX8_pupilInClass 28 = .ok (.iload 5, 2) := by decide +kernel
theorem dX8_pupilInClass_30 : decode cX8_pupilInClass 30 = .ok (.aload_n 0, 1) := by decide +kernel
theorem dX8_pupilInClass_31 : decode cX8_pupilInClass 31 = .ok (.getfield 7, 3) := by decide +kernel
theorem dX8_pupilInClass_34 : decode cX8_pupilInClass 34 = .ok (.iconst 2, 1) := by decide +kernel
theorem dX8_pupilInClass_35 : decode cX8_pupilInClass 35 = .ok (.iaload, 1) := by decide +kernel
theorem dX8_pupilInClass_36 : decode cX8_pupilInClass 36 = .ok (.if_icmp .ge 38, 3) := by decide +kernel
theorem dX8_pupilInClass_39 : decode cX8_pupilInClass 39 = .ok (.aload_n 0, 1) := by decide +kernel
theorem dX8_pupilInClass_40 : decode cX8_pupilInClass 40 = .ok (.iload 5, 2) := by decide +kernel
theorem dX8_pupilInClass_42 : decode cX8_pupilInClass 42 = .ok (.iload_n 2, 1) := by decide +kernel
theorem dX8_pupilInClass_43 : decode cX8_pupilInClass 43 = .ok (.invokevirtual 124, 3) := by decide +kernel
theorem dX8_pupilInClass_46 : decode cX8_pupilInClass 46 = .ok (.iload_n 1, 1) := by decide +kernel
theorem dX8_pupilInClass_47 : decode cX8_pupilInClass 47 = .ok (.if_icmp .eq 6, 3) := by decide +kernel
theorem dX8_pupilInClass_50 : decode cX8_pupilInClass 50 = .ok (.goto 18, 3) := by decide +kernel
theorem dX8_pupilInClass_53 : decode cX8_pupilInClass 53 = .ok (.iload 4, 2) := by decide +kernel
theorem dX8_pupilInClass_55 : decode cX8_pupilInClass 55 = .ok (.ifCond .ne 10, 3) := by decide +kernel
theorem dX8_pupilInClass_58 : decode cX8_pupilInClass 58 = .ok (.aload_n 0, 1) := by decide +kernel
theorem dX8_pupilInClass_59 : decode cX8_pupilInClass 59 = .ok (.iload 5, 2) := by decide +kernel
theorem dX8_pupilInClass_61 : decode cX8_pupilInClass 61 = .ok (.invokevirtual 113, 3) := by decide +kernel
theorem dX8_pupilInClass_64 : decode cX8_pupilInClass 64 = .ok (.ireturn, 1) := by decide +kernel
theorem dX8_pupilInClass_65 : decode cX8_pupilInClass 65 = .ok (.iinc 4 (-1), 3) := by decide +kernel
theorem dX8_pupilInClass_68 : decode cX8_pupilInClass 68 = .ok (.iinc 5 1, 3) := by decide +kernel
theorem dX8_pupilInClass_71 : decode cX8_pupilInClass 71 = .ok (.goto (-43), 3) := by decide +kernel
theorem dX8_pupilInClass_74 : decode cX8_pupilInClass 74 = .ok (.aload_n 0, 1) := by decide +kernel
theorem dX8_pupilInClass_75 : decode cX8_pupilInClass 75 = .ok (.iconst 2, 1) := by decide +kernel
theorem dX8_pupilInClass_76 : decode cX8_pupilInClass 76 = .ok (.invokevirtual 106, 3) := by decide +kernel
theorem dX8_pupilInClass_79 : decode cX8_pupilInClass 79 = .ok (.ireturn, 1) := by decide +kernel
theorem dX8_addPupilNow_0 : decode cX8_addPupilNow 0 = .ok (.aload_n 0, 1) := by decide +kernel
theorem dX8_addPupilNow_1 : decode cX8_addPupilNow 1 = .ok (.getfield 7, 3) := by decide +kernel
theorem dX8_addPupilNow_4 : decode cX8_addPupilNow 4 = .ok (.iconst 2, 1) := by decide +kernel
theorem dX8_addPupilNow_5 : decode cX8_addPupilNow 5 = .ok (.iaload, 1) := by decide +kernel
theorem dX8_addPupilNow_6 : decode cX8_addPupilNow 6 = .ok (.bipush 12, 2) := by decide +kernel
theorem dX8_addPupilNow_8 : decode cX8_addPupilNow 8 = .ok (.if_icmp .ne 9, 3) := by decide +kernel
theorem dX8_addPupilNow_11 : decode cX8_addPupilNow 11 = .ok (.aload_n 0, 1) := by decide +kernel
theorem dX8_addPupilNow_12 : decode cX8_addPupilNow 12 = .ok (.iconst 3, 1) := by decide +kernel
theorem dX8_addPupilNow_13 : decode cX8_addPupilNow 13 = .ok (.invokevirtual 131, 3) := by decide +kernel
theorem dX8_addPupilNow_16 : decode cX8_addPupilNow 16 = .ok (.ireturn, 1) := by decide +kernel
theorem dX8_addPupilNow_17 : decode cX8_addPupilNow 17 = .ok (.aload_n 0, 1) := by decide +kernel
theorem dX8_addPupilNow_18 : decode cX8_addPupilNow 18 = .ok (.getfield 7, 3) := by decide +kernel
theorem dX8_addPupilNow_21 : decode cX8_addPupilNow 21 = .ok (.iconst 2, 1) := by decide +kernel
theorem dX8_addPupilNow_22 : decode cX8_addPupilNow 22 = .ok (.iaload, 1) := by decide +kernel
theorem dX8_addPupilNow_23 : decode cX8_addPupilNow 23 = .ok (.istore_n 1, 1) := by decide +kernel
theorem dX8_addPupilNow_24 : decode cX8_addPupilNow 24 = .ok (.aload_n 0, 1) := by decide +kernel
theorem dX8_addPupilNow_25 : decode cX8_addPupilNow 25 = .ok (.getfield 7, 3) := by decide +kernel
theorem dX8_addPupilNow_28 : decode cX8_addPupilNow 28 = .ok (.bipush 45, 2) := by decide +kernel
theorem dX8_addPupilNow_30 : decode cX8_addPupilNow 30 = .ok (.iload_n 1, 1) := by decide +kernel
theorem dX8_addPupilNow_31 : decode cX8_addPupilNow 31 = .ok (.iadd, 1) := by decide +kernel
theorem dX8_addPupilNow_32 : decode cX8_addPupilNow 32 = .ok (.iconst 0, 1) := by decide +kernel
theorem dX8_addPupilNow_33 : decode cX8_addPupilNow 33 = .ok (.iastore, 1) := by decide +kernel
theorem dX8_addPupilNow_34 : decode cX8_addPupilNow 34 = .ok (.aload_n 0, 1) := by decide +kernel
theorem dX8_addPupilNow_35 : decode cX8_addPupilNow 35 = .ok (.getfield 7, 3) := by decide +kernel
theorem dX8_addPupilNow_38 : decode cX8_addPupilNow 38 = .ok (.bipush 93, 2) := by decide +kernel
theorem dX8_addPupilNow_40 : decode cX8_addPupilNow 40 = .ok (.iload_n 1, 1) := by decide +kernel
theorem dX8_addPupilNow_41 : decode cX8_addPupilNow 41 = .ok (.iadd, 1) := by decide +kernel
theorem dX8_addPupilNow_42 : decode cX8_addPupilNow 42 = .ok (.iconst (-1), 1) := by decide +kernel
theorem dX8_addPupilNow_43 : decode cX8_addPupilNow 43 = .ok (.iastore, 1) := by decide +kernel
theorem dX8_addPupilNow_44 : decode cX8_addPupilNow 44 = .ok (.iconst 0, 1) := by decide +kernel
theorem dX8_addPupilNow_45 : decode cX8_addPupilNow 45 = .ok (.istore_n 2, 1) := by decide +kernel
theorem dX8_addPupilNow_46 : decode cX8_addPupilNow 46 = .ok (.iload_n 2, 1) := by decide +kernel
theorem dX8_addPupilNow_47 : decode cX8_addPupilNow 47 = .ok (.iconst 4, 1) := by decide +kernel
theorem dX8_addPupilNow_48 : decode cX8_addPupilNow 48 = .ok (.if_icmp .ge 23, 3) := by decide +kernel
theorem dX8_addPupilNow_51 : decode cX8_addPupilNow 51 = .ok (.aload_n 0, 1) := by decide +kernel
theorem dX8_addPupilNow_52 : decode cX8_addPupilNow 52 = .ok (.getfield 7, 3) := by decide +kernel
theorem dX8_addPupilNow_55 : decode cX8_addPupilNow 55 = .ok (.bipush 105, 2) := by decide +kernel
theorem dX8_addPupilNow_57 : decode cX8_addPupilNow 57 = .ok (.iconst 4, 1) := by decide +kernel
theorem dX8_addPupilNow_58 : decode cX8_addPupilNow 58 = .ok (.iload_n 1, 1) := by decide +kernel
theorem dX8_addPupilNow_59 : decode cX8_addPupilNow 59 = .ok (.imul, 1) := by decide +kernel
theorem dX8_addPupilNow_60 : decode cX8_addPupilNow 60 = .ok (.iadd, 1) := by decide +kernel
theorem dX8_addPupilNow_61 : decode cX8_addPupilNow 61 = .ok (.iload_n 2, 1) := by decide +kernel
theorem dX8_addPupilNow_62 : decode cX8_addPupilNow 62 = .ok (.iadd, 1) := by decide +kernel
theorem dX8_addPupilNow_63 : decode cX8_addPupilNow 63 = .ok (.iconst (-1), 1) := by decide +kernel
theorem dX8_addPupilNow_64 : decode cX8_addPupilNow 64 = .ok (.iastore, 1) := by decide +kernel
theorem dX8_addPupilNow_65 : decode cX8_addPupilNow 65 = .ok (.iinc 2 1, 3) := by decide +kernel
theorem dX8_addPupilNow_68 : decode cX8_addPupilNow 68 = .ok (.goto (-22), 3) := by decide +kernel
theorem dX8_addPupilNow_71 : decode cX8_addPupilNow 71 = .ok (.aload_n 0, 1) := by decide +kernel
theorem dX8_addPupilNow_72 : decode cX8_addPupilNow 72 = .ok (.getfield 7, 3) := by decide +kernel
theorem dX8_addPupilNow_75 : decode cX8_addPupilNow 75 = .ok (.iconst 2, 1) := by decide +kernel
theorem dX8_addPupilNow_76 : decode cX8_addPupilNow 76 = .ok (.dup2, 1) := by decide +kernel
theorem dX8_addPupilNow_77 : decode cX8_addPupilNow 77 = .ok (.iaload, 1) := by decide +kernel
theorem dX8_addPupilNow_78 : decode cX8_addPupilNow 78 = .ok (.iconst 1, 1) := by decide +kernel
theorem dX8_addPupilNow_79 : decode cX8_addPupilNow 79 = .ok (.iadd, 1) := by decide +kernel
theorem dX8_addPupilNow_80 : decode cX8_addPupilNow 80 = .ok (.iastore, 1) := by decide +kernel
theorem dX8_addPupilNow_81 : decode cX8_addPupilNow 81 = .ok (.iload_n 1, 1) := by decide +kernel
theorem dX8_addPupilNow_82 : decode cX8_addPupilNow 82 = .ok (.ireturn, 1) := by decide +kernel
theorem dX8_addPupil_0 : decode cX8_addPupil 0 = .ok (.aload_n 0, 1) := by decide +kernel
theorem dX8_addPupil_1 : decode cX8_addPupil 1 = .ok (.invokevirtual 134, 3) := by decide +kernel
theorem dX8_addPupil_4 : decode cX8_addPupil 4 = .ok (.aload_n 0, 1) := by decide +kernel
theorem dX8_addPupil_5 : decode cX8_addPupil 5 = .ok (.aload_n 0, 1) := by decide +kernel
theorem dX8_addPupil_6 : decode cX8_addPupil 6 = .ok (.invokevirtual 173, 3) := by decide +kernel
theorem dX8_addPupil_9 : decode cX8_addPupil 9 = .ok (.iconst 3, 1) := by decide +kernel
theorem dX8_addPupil_10 : decode cX8_addPupil 10 = .ok (.iconst 0, 1) := by decide +kernel
theorem dX8_addPupil_11 : decode cX8_addPupil 11 = .ok (.invokevirtual 140, 3) := by decide +kernel
theorem dX8_addPupil_14 : decode cX8_addPupil 14 = .ok (.ireturn, 1) := by decide +kernel
theorem dX8_pupilCount_0 : decode cX8_pupilCount 0 = .ok (.aload_n 0, 1) := by decide +kernel
theorem dX8_pupilCount_1 : decode cX8_pupilCount 1 = .ok (.aload_n 0, 1) := by decide +kernel
theorem dX8_pupilCount_2 : decode cX8_pupilCount 2 = .ok (.getfield 7, 3) := by decide +kernel
theorem dX8_pupilCount_5 : decode cX8_pupilCount 5 = .ok (.iconst 2, 1) := by decide +kernel
theorem dX8_pupilCount_6 : decode cX8_pupilCount 6 = .ok (.iaload, 1) := by decide +kernel
theorem dX8_pupilCount_7 : decode cX8_pupilCount 7 = .ok (.invokevirtual 113, 3) := by decide +kernel
theorem dX8_pupilCount_10 : decode cX8_pupilCount 10 = .ok (.ireturn, 1) := by decide +kernel
theorem dX8_addWishNow_0 : decode cX8_addWishNow 0 = .ok (.aload_n 0, 1) := by decide +kernel
theorem dX8_addWishNow_1 : decode cX8_addWishNow 1 = .ok (.iload_n 1, 1) := by decide +kernel
theorem dX8_addWishNow_2 : decode cX8_addWishNow 2 = .ok (.invokevirtual 177, 3) := by decide +kernel
theorem dX8_addWishNow_5 : decode cX8_addWishNow 5 = .ok (.ifCond .eq 11, 3) := by decide +kernel
theorem dX8_addWishNow_8 : decode cX8_addWishNow 8 = .ok (.aload_n 0, 1) := by decide +kernel
theorem dX8_addWishNow_9 : decode cX8_addWishNow 9 = .ok (.iload_n 2, 1) := by decide +kernel
theorem dX8_addWishNow_10 : decode cX8_addWishNow 10 = .ok (.invokevirtual 144, 3) := by decide +kernel
theorem dX8_addWishNow_13 : decode cX8_addWishNow 13 = .ok (.ifCond .ne 9, 3) := by decide +kernel
theorem dX8_addWishNow_16 : decode cX8_addWishNow 16 = .ok (.aload_n 0, 1) := by decide +kernel
theorem dX8_addWishNow_17 : decode cX8_addWishNow 17 = .ok (.iconst 1, 1) := by decide +kernel
theorem dX8_addWishNow_18 : decode cX8_addWishNow 18 = .ok (.invokevirtual 131, 3) := by decide +kernel
theorem dX8_addWishNow_21 : decode cX8_addWishNow 21 = .ok (.ireturn, 1) := by decide +kernel
theorem dX8_addWishNow_22 : decode cX8_addWishNow 22 = .ok (.aload_n 0, 1) := by decide +kernel
theorem dX8_addWishNow_23 : decode cX8_addWishNow 23 = .ok (.getfield 7, 3) := by decide +kernel
theorem dX8_addWishNow_26 : decode cX8_addWishNow 26 = .ok (.bipush 45, 2) := by decide +kernel
theorem dX8_addWishNow_28 : decode cX8_addWishNow 28 = .ok (.iload_n 1, 1) := by decide +kernel
theorem dX8_addWishNow_29 : decode cX8_addWishNow 29 = .ok (.iadd, 1) := by decide +kernel
theorem dX8_addWishNow_30 : decode cX8_addWishNow 30 = .ok (.iaload, 1) := by decide +kernel
theorem dX8_addWishNow_31 : decode cX8_addWishNow 31 = .ok (.iconst 3, 1) := by decide +kernel
theorem dX8_addWishNow_32 : decode cX8_addWishNow 32 = .ok (.if_icmp .eq 25, 3) := by decide +kernel
theorem dX8_addWishNow_35 : decode cX8_addWishNow 35 = .ok (.aload_n 0, 1) := by decide +kernel
theorem dX8_addWishNow_36 : decode cX8_addWishNow 36 = .ok (.iload_n 1, 1) := by decide +kernel
theorem dX8_addWishNow_37 : decode cX8_addWishNow 37 = .ok (.iload_n 2, 1) := by decide +kernel
theorem dX8_addWishNow_38 : decode cX8_addWishNow 38 = .ok (.invokevirtual 180, 3) := by decide +kernel
theorem dX8_addWishNow_41 : decode cX8_addWishNow 41 = .ok (.ifCond .ne 16, 3) := by decide +kernel
theorem dX8_addWishNow_44 : decode cX8_addWishNow 44 = .ok (.aload_n 0, 1) := by decide +kernel
theorem dX8_addWishNow_45 : decode cX8_addWishNow 45 = .ok (.getfield 7, 3) := by decide +kernel
theorem dX8_addWishNow_48 : decode cX8_addWishNow 48 = .ok (.bipush 93, 2) := by decide +kernel
theorem dX8_addWishNow_50 : decode cX8_addWishNow 50 = .ok (.iload_n 1, 1) := by decide +kernel
theorem dX8_addWishNow_51 : decode cX8_addWishNow 51 = .ok (.iadd, 1) := by decide +kernel
theorem dX8_addWishNow_52 : decode cX8_addWishNow 52 = .ok (.iaload, 1) := by decide +kernel
theorem dX8_addWishNow_53 : decode cX8_addWishNow 53 = .ok (.iload_n 2, 1) := by decide +kernel
theorem dX8_addWishNow_54 : decode cX8_addWishNow 54 = .ok (.if_icmp .ne 9, 3) := by decide +kernel
theorem dX8_addWishNow_57 : decode cX8_addWishNow 57 = .ok (.aload_n 0, 1) := by decide +kernel
theorem dX8_addWishNow_58 : decode cX8_addWishNow 58 = .ok (.iconst 3, 1) := by decide +kernel
theorem dX8_addWishNow_59 : decode cX8_addWishNow 59 = .ok (.invokevirtual 131, 3) := by decide +kernel
theorem dX8_addWishNow_62 : decode cX8_addWishNow 62 = .ok (.ireturn, 1) := by decide +kernel
theorem dX8_addWishNow_63 : decode cX8_addWishNow 63 = .ok (.aload_n 0, 1) := by decide +kernel
theorem dX8_addWishNow_64 : decode cX8_addWishNow 64 = .ok (.getfield 7, 3) := by decide +kernel
theorem dX8_addWishNow_67 : decode cX8_addWishNow 67 = .ok (.bipush 57, 2) := by decide +kernel
theorem dX8_addWishNow_69 : decode cX8_addWishNow 69 = .ok (.iconst 3, 1) := by decide +kernel
theorem dX8_addWishNow_70 : decode cX8_addWishNow 70 = .ok (.iload_n 1, 1) := by decide +kernel
theorem dX8_addWishNow_71 : decode cX8_addWishNow 71 = .ok (.imul, 1) := by decide +kernel
theorem dX8_addWishNow_72 : decode cX8_addWishNow 72 = .ok (.iadd, 1) := by decide +kernel
theorem dX8_addWishNow_73 : decode cX8_addWishNow 73 = .ok (.aload_n 0, 1) := by decide +kernel
theorem dX8_addWishNow_74 : decode cX8_addWishNow 74 = .ok (.getfield 7, 3) := by decide +kernel
theorem dX8_addWishNow_77 : decode cX8_addWishNow 77 = .ok (.bipush 45, 2) := by decide +kernel
theorem dX8_addWishNow_79 : decode cX8_addWishNow 79 = .ok (.iload_n 1, 1) := by decide +kernel
theorem dX8_addWishNow_80 : decode cX8_addWishNow 80 = .ok (.iadd, 1) := by decide +kernel
theorem dX8_addWishNow_81 : decode cX8_addWishNow 81 = .ok (.iaload, 1) := by decide +kernel
theorem dX8_addWishNow_82 : decode cX8_addWishNow 82 = .ok (.iadd, 1) := by decide +kernel
theorem dX8_addWishNow_83 : decode cX8_addWishNow 83 = .ok (.iload_n 2, 1) := by decide +kernel
theorem dX8_addWishNow_84 : decode cX8_addWishNow 84 = .ok (.iastore, 1) := by decide +kernel
theorem dX8_addWishNow_85 : decode cX8_addWishNow 85 = .ok (.aload_n 0, 1) := by decide +kernel
theorem dX8_addWishNow_86 : decode cX8_addWishNow 86 = .ok (.getfield 7, 3) := by decide +kernel
theorem dX8_addWishNow_89 : decode cX8_addWishNow 89 = .ok (.bipush 45, 2) := by decide +kernel
theorem dX8_addWishNow_91 : decode cX8_addWishNow 91 = .ok (.iload_n 1, 1) := by decide +kernel
theorem dX8_addWishNow_92 : decode cX8_addWishNow 92 = .ok (.iadd, 1) := by decide +kernel
theorem dX8_addWishNow_93 : decode cX8_addWishNow 93 = .ok (.dup2, 1) := by decide +kernel
theorem dX8_addWishNow_94 : decode cX8_addWishNow 94 = .ok (.iaload, 1) := by decide +kernel
theorem dX8_addWishNow_95 : decode cX8_addWishNow 95 = .ok (.iconst 1, 1) := by decide +kernel
theorem dX8_addWishNow_96 : decode cX8_addWishNow 96 = .ok (.iadd, 1) := by decide +kernel
theorem dX8_addWishNow_97 : decode cX8_addWishNow 97 = .ok (.iastore, 1) := by decide +kernel
theorem dX8_addWishNow_98 : decode cX8_addWishNow 98 = .ok (.aload_n 0, 1) := by decide +kernel
theorem dX8_addWishNow_99 : decode cX8_addWishNow 99 = .ok (.getfield 7, 3) := by decide +kernel
theorem dX8_addWishNow_102 : decode cX8_addWishNow 102 = .ok (.bipush 45, 2) := by decide +kernel
theorem dX8_addWishNow_104 : decode cX8_addWishNow 104 = .ok (.iload_n 1, 1) := by decide +kernel
theorem dX8_addWishNow_105 : decode cX8_addWishNow 105 = .ok (.iadd, 1) := by decide +kernel
theorem dX8_addWishNow_106 : decode cX8_addWishNow 106 = .ok (.iaload, 1) := by decide +kernel
theorem dX8_addWishNow_107 : decode cX8_addWishNow 107 = .ok (.ireturn, 1) := by decide +kernel
theorem dX8_addWish_0 : decode cX8_addWish 0 = .ok (.aload_n 0, 1) := by decide +kernel
theorem dX8_addWish_1 : decode cX8_addWish 1 = .ok (.invokevirtual 134, 3) := by decide +kernel
theorem dX8_addWish_4 : decode cX8_addWish 4 = .ok (.aload_n 0, 1) := by decide +kernel
theorem dX8_addWish_5 : decode cX8_addWish 5 = .ok (.aload_n 0, 1) := by decide +kernel
theorem dX8_addWish_6 : decode cX8_addWish 6 = .ok (.iload_n 1, 1) := by decide +kernel
theorem dX8_addWish_7 : decode cX8_addWish 7 = .ok (.iload_n 2, 1) := by decide +kernel
theorem dX8_addWish_8 : decode cX8_addWish 8 = .ok (.invokevirtual 183, 3) := by decide +kernel
theorem dX8_addWish_11 : decode cX8_addWish 11 = .ok (.iconst 1, 1) := by decide +kernel
theorem dX8_addWish_12 : decode cX8_addWish 12 = .ok (.iconst 3, 1) := by decide +kernel
theorem dX8_addWish_13 : decode cX8_addWish 13 = .ok (.invokevirtual 140, 3) := by decide +kernel
theorem dX8_addWish_16 : decode cX8_addWish 16 = .ok (.ireturn, 1) := by decide +kernel
theorem dX8_setReserveNow_0 : decode cX8_setReserveNow 0 = .ok (.aload_n 0, 1) := by decide +kernel
theorem dX8_setReserveNow_1 : decode cX8_setReserveNow 1 = .ok (.iload_n 1, 1) := by decide +kernel
theorem dX8_setReserveNow_2 : decode cX8_setReserveNow 2 = .ok (.invokevirtual 177, 3) := by decide +kernel
theorem dX8_setReserveNow_5 : decode cX8_setReserveNow 5 = .ok (.ifCond .eq 11, 3) := by decide +kernel
theorem dX8_setReserveNow_8 : decode cX8_setReserveNow 8 = .ok (.aload_n 0, 1) := by decide +kernel
theorem dX8_setReserveNow_9 : decode cX8_setReserveNow 9 = .ok (.iload_n 2, 1) := by decide +kernel
theorem dX8_setReserveNow_10 : decode cX8_setReserveNow 10 = .ok (.invokevirtual 144, 3) := by decide +kernel
theorem dX8_setReserveNow_13 : decode cX8_setReserveNow 13 = .ok (.ifCond .ne 9, 3) := by decide +kernel
theorem dX8_setReserveNow_16 : decode cX8_setReserveNow 16 = .ok (.aload_n 0, 1) := by decide +kernel
theorem dX8_setReserveNow_17 : decode cX8_setReserveNow 17 = .ok (.iconst 1, 1) := by decide +kernel
theorem dX8_setReserveNow_18 : decode cX8_setReserveNow 18 = .ok (.invokevirtual 131, 3) := by decide +kernel
theorem dX8_setReserveNow_21 : decode cX8_setReserveNow 21 = .ok (.ireturn, 1) := by decide +kernel
theorem dX8_setReserveNow_22 : decode cX8_setReserveNow 22 = .ok (.aload_n 0, 1) := by decide +kernel
theorem dX8_setReserveNow_23 : decode cX8_setReserveNow 23 = .ok (.iload_n 1, 1) := by decide +kernel
theorem dX8_setReserveNow_24 : decode cX8_setReserveNow 24 = .ok (.iload_n 2, 1) := by decide +kernel
theorem dX8_setReserveNow_25 : decode cX8_setReserveNow 25 = .ok (.invokevirtual 180, 3) := by decide +kernel
theorem dX8_setReserveNow_28 : decode cX8_setReserveNow 28 = .ok (.ifCond .ne 16, 3) := by decide +kernel
theorem dX8_setReserveNow_31 : decode cX8_setReserveNow 31 = .ok (.aload_n 0, 1) := by decide +kernel
theorem dX8_setReserveNow_32 : decode cX8_setReserveNow 32 = .ok (.getfield 7, 3) := by decide +kernel
theorem dX8_setReserveNow_35 : decode cX8_setReserveNow 35 = .ok (.bipush 93, 2) := by decide +kernel
theorem dX8_setReserveNow_37 : decode cX8_setReserveNow 37 = .ok (.iload_n 1, 1) := by decide +kernel
theorem dX8_setReserveNow_38 : decode cX8_setReserveNow 38 = .ok (.iadd, 1) := by decide +kernel
theorem dX8_setReserveNow_39 : decode cX8_setReserveNow 39 = .ok (.iaload, 1) := by decide +kernel
theorem dX8_setReserveNow_40 : decode cX8_setReserveNow 40 = .ok (.iload_n 2, 1) := by decide +kernel
theorem dX8_setReserveNow_41 : decode cX8_setReserveNow 41 = .ok (.if_icmp .ne 9, 3) := by decide +kernel
theorem dX8_setReserveNow_44 : decode cX8_setReserveNow 44 = .ok (.aload_n 0, 1) := by decide +kernel
theorem dX8_setReserveNow_45 : decode cX8_setReserveNow 45 = .ok (.iconst 3, 1) := by decide +kernel
theorem dX8_setReserveNow_46 : decode cX8_setReserveNow 46 = .ok (.invokevirtual 131, 3) := by decide +kernel
theorem dX8_setReserveNow_49 : decode cX8_setReserveNow 49 = .ok (.ireturn, 1) := by decide +kernel
theorem dX8_setReserveNow_50 : decode cX8_setReserveNow 50 = .ok (.aload_n 0, 1) := by decide +kernel
theorem dX8_setReserveNow_51 : decode cX8_setReserveNow 51 = .ok (.getfield 7, 3) := by decide +kernel
theorem dX8_setReserveNow_54 : decode cX8_setReserveNow 54 = .ok (.bipush 93, 2) := by decide +kernel
theorem dX8_setReserveNow_56 : decode cX8_setReserveNow 56 = .ok (.iload_n 1, 1) := by decide +kernel
theorem dX8_setReserveNow_57 : decode cX8_setReserveNow 57 = .ok (.iadd, 1) := by decide +kernel
theorem dX8_setReserveNow_58 : decode cX8_setReserveNow 58 = .ok (.iaload, 1) := by decide +kernel
theorem dX8_setReserveNow_59 : decode cX8_setReserveNow 59 = .ok (.istore_n 3, 1) := by decide +kernel
theorem dX8_setReserveNow_60 : decode cX8_setReserveNow 60 = .ok (.aload_n 0, 1) := by decide +kernel

theorem dX5_wish_24 : decode cX5_wish 24 = .ok (.iconst (-1), 1) := by decide +kernel
theorem dX5_wish_25 : decode cX5_wish 25 = .ok (.ireturn, 1) := by decide +kernel
theorem dX5_wishSet_0 : decode cX5_wishSet 0 = .ok (.aload_n 0, 1) := by decide +kernel
theorem dX5_wishSet_1 : decode cX5_wishSet 1 = .ok (.getfield 25, 3) := by decide +kernel
theorem dX5_wishSet_4 : decode cX5_wishSet 4 = .ok (.iload_n 1, 1) := by decide +kernel
theorem dX5_wishSet_5 : decode cX5_wishSet 5 = .ok (.invokestatic 60, 3) := by decide +kernel
theorem dX5_wishSet_8 : decode cX5_wishSet 8 = .ok (.istore_n 2, 1) := by decide +kernel
theorem dX5_wishSet_9 : decode cX5_wishSet 9 = .ok (.iconst 0, 1) := by decide +kernel
theorem dX5_wishSet_10 : decode cX5_wishSet 10 = .ok (.istore_n 3, 1) := by decide +kernel
theorem dX5_wishSet_11 : decode cX5_wishSet 11 = .ok (.iconst 0, 1) := by decide +kernel
theorem dX5_wishSet_12 : decode cX5_wishSet 12 = .ok (.istore 4, 2) := by decide +kernel
theorem dX5_wishSet_14 : decode cX5_wishSet 14 = .ok (.iload 4, 2) := by decide +kernel
theorem dX5_wishSet_16 : decode cX5_wishSet 16 = .ok (.iload_n 2, 1) := by decide +kernel
theorem dX5_wishSet_17 : decode cX5_wishSet 17 = .ok (.if_icmp .ge 27, 3) := by decide +kernel
theorem dX5_wishSet_20 : decode cX5_wishSet 20 = .ok (.iload_n 3, 1) := by decide +kernel
theorem dX5_wishSet_21 : decode cX5_wishSet 21 = .ok (.iconst 1, 1) := by decide +kernel
theorem dX5_wishSet_22 : decode cX5_wishSet 22 = .ok (.aload_n 0, 1) := by decide +kernel
theorem dX5_wishSet_23 : decode cX5_wishSet 23 = .ok (.getfield 28, 3) := by decide +kernel
theorem dX5_wishSet_26 : decode cX5_wishSet 26 = .ok (.iload_n 1, 1) := by decide +kernel
theorem dX5_wishSet_27 : decode cX5_wishSet 27 = .ok (.iconst 3, 1) := by decide +kernel
theorem dX5_wishSet_28 : decode cX5_wishSet 28 = .ok (.imul, 1) := by decide +kernel
theorem dX5_wishSet_29 : decode cX5_wishSet 29 = .ok (.iload 4, 2) := by decide +kernel
theorem dX5_wishSet_31 : decode cX5_wishSet 31 = .ok (.iadd, 1) := by decide +kernel
theorem dX5_wishSet_32 : decode cX5_wishSet 32 = .ok (.invokestatic 60, 3) := by decide +kernel
theorem dX5_wishSet_35 : decode cX5_wishSet 35 = .ok (.ishl, 1) := by decide +kernel
theorem dX5_wishSet_36 : decode cX5_wishSet 36 = .ok (.ior, 1) := by decide +kernel
theorem dX5_wishSet_37 : decode cX5_wishSet 37 = .ok (.istore_n 3, 1) := by decide +kernel
theorem dX5_wishSet_38 : decode cX5_wishSet 38 = .ok (.iinc 4 1, 3) := by decide +kernel
theorem dX5_wishSet_41 : decode cX5_wishSet 41 = .ok (.goto (-27), 3) := by decide +kernel
theorem dX5_wishSet_44 : decode cX5_wishSet 44 = .ok (.iload_n 3, 1) := by decide +kernel
theorem dX5_wishSet_45 : decode cX5_wishSet 45 = .ok (.ireturn, 1) := by decide +kernel
theorem dX5_newPupil_0 : decode cX5_newPupil 0 = .ok (.aload_n 0, 1) := by decide +kernel
theorem dX5_newPupil_1 : decode cX5_newPupil 1 = .ok (.getfield 31, 3) := by decide +kernel
theorem dX5_newPupil_4 : decode cX5_newPupil 4 = .ok (.aload_n 0, 1) := by decide +kernel
theorem dX5_newPupil_5 : decode cX5_newPupil 5 = .ok (.getfield 46, 3) := by decide +kernel
theorem dX5_newPupil_8 : decode cX5_newPupil 8 = .ok (.iconst (-1), 1) := by decide +kernel
theorem dX5_newPupil_9 : decode cX5_newPupil 9 = .ok (.invokestatic 86, 3) := by decide +kernel
theorem dX5_newPupil_12 : decode cX5_newPupil 12 = .ok (.aload_n 0, 1) := by decide +kernel
theorem dX5_newPupil_13 : decode cX5_newPupil 13 = .ok (.dup, 1) := by decide +kernel
theorem dX5_newPupil_14 : decode cX5_newPupil 14 = .ok (.getfield 46, 3) := by decide +kernel
theorem dX5_newPupil_17 : decode cX5_newPupil 17 = .ok (.iconst 1, 1) := by decide +kernel
theorem dX5_newPupil_18 : decode cX5_newPupil 18 = .ok (.iadd, 1) := by decide +kernel
theorem dX5_newPupil_19 : decode cX5_newPupil 19 = .ok (.putfield 46, 3) := by decide +kernel
theorem dX5_newPupil_22 : decode cX5_newPupil 22 = .ok (.aload_n 0, 1) := by decide +kernel
theorem dX5_newPupil_23 : decode cX5_newPupil 23 = .ok (.getfield 46, 3) := by decide +kernel
theorem dX5_newPupil_26 : decode cX5_newPupil 26 = .ok (.iconst 1, 1) := by decide +kernel
theorem dX5_newPupil_27 : decode cX5_newPupil 27 = .ok (.isub, 1) := by decide +kernel
theorem dX5_newPupil_28 : decode cX5_newPupil 28 = .ok (.ireturn, 1) := by decide +kernel
theorem dX5_newWish_0 : decode cX5_newWish 0 = .ok (.aload_n 0, 1) := by decide +kernel
theorem dX5_newWish_1 : decode cX5_newWish 1 = .ok (.getfield 25, 3) := by decide +kernel
theorem dX5_newWish_4 : decode cX5_newWish 4 = .ok (.iload_n 1, 1) := by decide +kernel
theorem dX5_newWish_5 : decode cX5_newWish 5 = .ok (.invokestatic 60, 3) := by decide +kernel
theorem dX5_newWish_8 : decode cX5_newWish 8 = .ok (.istore_n 3, 1) := by decide +kernel
theorem dX5_newWish_9 : decode cX5_newWish 9 = .ok (.aload_n 0, 1) := by decide +kernel
theorem dX5_newWish_10 : decode cX5_newWish 10 = .ok (.getfield 28, 3) := by decide +kernel
theorem dX5_newWish_13 : decode cX5_newWish 13 = .ok (.iload_n 1, 1) := by decide +kernel
theorem dX5_newWish_14 : decode cX5_newWish 14 = .ok (.iconst 3, 1) := by decide +kernel
theorem dX5_newWish_15 : decode cX5_newWish 15 = .ok (.imul, 1) := by decide +kernel
theorem dX5_newWish_16 : decode cX5_newWish 16 = .ok (.iload_n 3, 1) := by decide +kernel
theorem dX5_newWish_17 : decode cX5_newWish 17 = .ok (.iadd, 1) := by decide +kernel
theorem dX5_newWish_18 : decode cX5_newWish 18 = .ok (.iload_n 2, 1) := by decide +kernel
theorem dX5_newWish_19 : decode cX5_newWish 19 = .ok (.invokestatic 86, 3) := by decide +kernel
theorem dX5_newWish_22 : decode cX5_newWish 22 = .ok (.aload_n 0, 1) := by decide +kernel
theorem dX5_newWish_23 : decode cX5_newWish 23 = .ok (.getfield 25, 3) := by decide +kernel
theorem dX5_newWish_26 : decode cX5_newWish 26 = .ok (.iload_n 1, 1) := by decide +kernel
theorem dX5_newWish_27 : decode cX5_newWish 27 = .ok (.iload_n 3, 1) := by decide +kernel
theorem dX5_newWish_28 : decode cX5_newWish 28 = .ok (.iconst 1, 1) := by decide +kernel
theorem dX5_newWish_29 : decode cX5_newWish 29 = .ok (.iadd, 1) := by decide +kernel
theorem dX5_newWish_30 : decode cX5_newWish 30 = .ok (.invokestatic 86, 3) := by decide +kernel
theorem dX5_newWish_33 : decode cX5_newWish 33 = .ok (.iload_n 3, 1) := by decide +kernel
theorem dX5_newWish_34 : decode cX5_newWish 34 = .ok (.iconst 1, 1) := by decide +kernel
theorem dX5_newWish_35 : decode cX5_newWish 35 = .ok (.iadd, 1) := by decide +kernel
theorem dX5_newWish_36 : decode cX5_newWish 36 = .ok (.ireturn, 1) := by decide +kernel
theorem dX5_newReserve_0 : decode cX5_newReserve 0 = .ok (.aload_n 0, 1) := by decide +kernel
theorem dX5_newReserve_1 : decode cX5_newReserve 1 = .ok (.getfield 31, 3) := by decide +kernel
theorem dX5_newReserve_4 : decode cX5_newReserve 4 = .ok (.iload_n 1, 1) := by decide +kernel
theorem dX5_newReserve_5 : decode cX5_newReserve 5 = .ok (.invokestatic 60, 3) := by decide +kernel
theorem dX5_newReserve_8 : decode cX5_newReserve 8 = .ok (.istore_n 3, 1) := by decide +kernel
theorem dX5_newReserve_9 : decode cX5_newReserve 9 = .ok (.aload_n 0, 1) := by decide +kernel
theorem dX5_newReserve_10 : decode cX5_newReserve 10 = .ok (.getfield 31, 3) := by decide +kernel
theorem dX5_newReserve_13 : decode cX5_newReserve 13 = .ok (.iload_n 1, 1) := by decide +kernel
theorem dX5_newReserve_14 : decode cX5_newReserve 14 = .ok (.iload_n 2, 1) := by decide +kernel
theorem dX5_newReserve_15 : decode cX5_newReserve 15 = .ok (.invokestatic 86, 3) := by decide +kernel
theorem dX5_newReserve_18 : decode cX5_newReserve 18 = .ok (.iload_n 3, 1) := by decide +kernel
theorem dX5_newReserve_19 : decode cX5_newReserve 19 = .ok (.ireturn, 1) := by decide +kernel
theorem dX5_enter_0 : decode cX5_enter 0 = .ok (.aload_n 0, 1) := by decide +kernel
theorem dX5_enter_1 : decode cX5_enter 1 = .ok (.iload_n 2, 1) := by decide +kernel
theorem dX5_enter_2 : decode cX5_enter 2 = .ok (.iload_n 3, 1) := by decide +kernel
theorem dX5_enter_3 : decode cX5_enter 3 = .ok (.invokevirtual 93, 3) := by decide +kernel
theorem dX5_enter_6 : decode cX5_enter 6 = .ok (.ifCond .eq 25, 3) := by decide +kernel
theorem dX5_enter_9 : decode cX5_enter 9 = .ok (.aload_n 0, 1) := by decide +kernel
theorem dX5_enter_10 : decode cX5_enter 10 = .ok (.getfield 22, 3) := by decide +kernel
theorem dX5_enter_13 : decode cX5_enter 13 = .ok (.iload_n 2, 1) := by decide +kernel
theorem dX5_enter_14 : decode cX5_enter 14 = .ok (.iconst 4, 1) := by decide +kernel
theorem dX5_enter_15 : decode cX5_enter 15 = .ok (.imul, 1) := by decide +kernel
theorem dX5_enter_16 : decode cX5_enter 16 = .ok (.iload_n 3, 1) := by decide +kernel
theorem dX5_enter_17 : decode cX5_enter 17 = .ok (.iadd, 1) := by decide +kernel
theorem dX5_enter_18 : decode cX5_enter 18 = .ok (.aload_n 0, 1) := by decide +kernel
theorem dX5_enter_19 : decode cX5_enter 19 = .ok (.iload_n 2, 1) := by decide +kernel
theorem dX5_enter_20 : decode cX5_enter 20 = .ok (.iload_n 3, 1) := by decide +kernel
theorem dX5_enter_21 : decode cX5_enter 21 = .ok (.invokevirtual 73, 3) := by decide +kernel
theorem dX5_enter_24 : decode cX5_enter 24 = .ok (.iconst 1, 1) := by decide +kernel
theorem dX5_enter_25 : decode cX5_enter 25 = .ok (.iload_n 1, 1) := by decide +kernel
theorem dX5_enter_26 : decode cX5_enter 26 = .ok (.ishl, 1) := by decide +kernel
theorem dX5_enter_27 : decode cX5_enter 27 = .ok (.ior, 1) := by decide +kernel
theorem dX5_enter_28 : decode cX5_enter 28 = .ok (.invokestatic 86, 3) := by decide +kernel
theorem dX5_enter_31 : decode cX5_enter 31 = .ok (.return_, 1) := by decide +kernel
theorem dX5_leave_0 : decode cX5_leave 0 = .ok (.aload_n 0, 1) := by decide +kernel
theorem dX5_leave_1 : decode cX5_leave 1 = .ok (.iload_n 2, 1) := by decide +kernel
theorem dX5_leave_2 : decode cX5_leave 2 = .ok (.iload_n 3, 1) := by decide +kernel
theorem dX5_leave_3 : decode cX5_leave 3 = .ok (.invokevirtual 93, 3) := by decide +kernel
theorem dX5_leave_6 : decode cX5_leave 6 = .ok (.ifCond .eq 27, 3) := by decide +kernel
theorem dX5_leave_9 : decode cX5_leave 9 = .ok (.aload_n 0, 1) := by decide +kernel
theorem dX5_leave_10 : decode cX5_leave 10 = .ok (.getfield 22, 3) := by decide +kernel
theorem dX5_leave_13 : decode cX5_leave 13 = .ok (.iload_n 2, 1) := by decide +kernel
theorem dX5_leave_14 : decode cX5_leave 14 = .ok (.iconst 4, 1) := by decide +kernel
theorem dX5_leave_15 : decode cX5_leave 15 = .ok (.imul, 1) := by decide +kernel
theorem dX5_leave_16 : decode cX5_leave 16 = .ok (.iload_n 3, 1) := by decide +kernel
theorem dX5_leave_17 : decode cX5_leave 17 = .ok (.iadd, 1) := by decide +kernel
theorem dX5_leave_18 : decode cX5_leave 18 = .ok (.aload_n 0, 1) := by decide +kernel
theorem dX5_leave_19 : decode cX5_leave 19 = .ok (.iload_n 2, 1) := by decide +kernel
theorem dX5_leave_20 : decode cX5_leave 20 = .ok (.iload_n 3, 1) := by decide +kernel
theorem dX5_leave_21 : decode cX5_leave 21 = .ok (.invokevirtual 73, 3) := by decide +kernel
theorem dX5_leave_24 : decode cX5_leave 24 = .ok (.iconst 1, 1) := by decide +kernel
theorem dX5_leave_25 : decode cX5_leave 25 = .ok (.iload_n 1, 1) := by decide +kernel
theorem dX5_leave_26 : decode cX5_leave 26 = .ok (.ishl, 1) := by decide +kernel
theorem dX5_leave_27 : decode cX5_leave 27 = .ok (.iconst (-1), 1) := by decide +kernel
theorem dX5_leave_28 : decode cX5_leave 28 = .ok (.ixor, 1) := by decide +kernel
theorem dX5_leave_29 : decode cX5_leave 29 = .ok (.iand, 1) := by decide +kernel
theorem dX5_leave_30 : decode cX5_leave 30 = .ok (.invokestatic 86, 3) := by decide +kernel
theorem dX5_leave_33 : decode cX5_leave 33 = .ok (.return_, 1) := by decide +kernel
theorem dX5_lesson_0 : decode cX5_lesson 0 = .ok (.iconst 0, 1) := by decide +kernel
theorem dX5_lesson_1 : decode cX5_lesson 1 = .ok (.istore_n 3, 1) := by decide +kernel
theorem dX5_lesson_2 : decode cX5_lesson 2 = .ok (.iload_n 3, 1) := by decide +kernel
theorem dX5_lesson_3 : decode cX5_lesson 3 = .ok (.aload_n 0, 1) := by decide +kernel
theorem dX5_lesson_4 : decode cX5_lesson 4 = .ok (.getfield 43, 3) := by decide +kernel
theorem dX5_lesson_7 : decode cX5_lesson 7 = .ok (.if_icmp .ge 24, 3) := by decide +kernel
theorem dX5_lesson_10 : decode cX5_lesson 10 = .ok (.aload_n 0, 1) := by decide +kernel
theorem dX5_lesson_11 : decode cX5_lesson 11 = .ok (.iload_n 3, 1) := by decide +kernel
theorem dX5_lesson_12 : decode cX5_lesson 12 = .ok (.iload_n 2, 1) := by decide +kernel
theorem dX5_lesson_13 : decode cX5_lesson 13 = .ok (.invokevirtual 73, 3) := by decide +kernel
theorem dX5_lesson_16 : decode cX5_lesson 16 = .ok (.iload_n 1, 1) := by decide +kernel
theorem dX5_lesson_17 : decode cX5_lesson 17 = .ok (.invokestatic 82, 3) := by decide +kernel
theorem dX5_lesson_20 : decode cX5_lesson 20 = .ok (.ifCond .eq 5, 3) := by decide +kernel
theorem dX5_lesson_23 : decode cX5_lesson 23 = .ok (.iload_n 3, 1) := by decide +kernel
theorem dX5_lesson_24 : decode cX5_lesson 24 = .ok (.ireturn, 1) := by decide +kernel
theorem dX5_lesson_25 : decode cX5_lesson 25 = .ok (.iinc 3 1, 3) := by decide +kernel
theorem dX5_lesson_28 : decode cX5_lesson 28 = .ok (.goto (-26), 3) := by decide +kernel
theorem dX5_lesson_31 : decode cX5_lesson 31 = .ok (.iconst (-1), 1) := by decide +kernel
theorem dX5_lesson_32 : decode cX5_lesson 32 = .ok (.ireturn, 1) := by decide +kernel
theorem dX5_blockTaken_0 : decode cX5_blockTaken 0 = .ok (.iconst 0, 1) := by decide +kernel
theorem dX5_blockTaken_1 : decode cX5_blockTaken 1 = .ok (.istore_n 3, 1) := by decide +kernel
theorem dX5_blockTaken_2 : decode cX5_blockTaken 2 = .ok (.iload_n 3, 1) := by decide +kernel
theorem dX5_blockTaken_3 : decode cX5_blockTaken 3 = .ok (.aload_n 0, 1) := by decide +kernel
theorem dX5_blockTaken_4 : decode cX5_blockTaken 4 = .ok (.getfield 9, 3) := by decide +kernel
theorem dX5_blockTaken_7 : decode cX5_blockTaken 7 = .ok (.if_icmp .ge 24, 3) := by decide +kernel
theorem dX5_blockTaken_10 : decode cX5_blockTaken 10 = .ok (.aload_n 0, 1) := by decide +kernel
theorem dX5_blockTaken_11 : decode cX5_blockTaken 11 = .ok (.iload_n 2, 1) := by decide +kernel
theorem dX5_blockTaken_12 : decode cX5_blockTaken 12 = .ok (.iload_n 3, 1) := by decide +kernel
theorem dX5_blockTaken_13 : decode cX5_blockTaken 13 = .ok (.invokevirtual 73, 3) := by decide +kernel
theorem dX5_blockTaken_16 : decode cX5_blockTaken 16 = .ok (.iload_n 1, 1) := by decide +kernel
theorem dX5_blockTaken_17 : decode cX5_blockTaken 17 = .ok (.invokestatic 82, 3) := by decide +kernel
theorem dX5_blockTaken_20 : decode cX5_blockTaken 20 = .ok (.ifCond .eq 5, 3) := by decide +kernel
theorem dX5_blockTaken_23 : decode cX5_blockTaken 23 = .ok (.iload_n 3, 1) := by decide +kernel
theorem dX5_blockTaken_24 : decode cX5_blockTaken 24 = .ok (.ireturn, 1) := by decide +kernel
theorem dX5_blockTaken_25 : decode cX5_blockTaken 25 = .ok (.iinc 3 1, 3) := by decide +kernel
theorem dX5_blockTaken_28 : decode cX5_blockTaken 28 = .ok (.goto (-26), 3) := by decide +kernel
theorem dX5_blockTaken_31 : decode cX5_blockTaken 31 = .ok (.iconst (-1), 1) := by decide +kernel
theorem dX5_blockTaken_32 : decode cX5_blockTaken 32 = .ok (.ireturn, 1) := by decide +kernel
theorem dX5_busyPupils_0 : decode cX5_busyPupils 0 = .ok (.iconst 0, 1) := by decide +kernel
theorem dX5_busyPupils_1 : decode cX5_busyPupils 1 = .ok (.istore_n 2, 1) := by decide +kernel
theorem dX5_busyPupils_2 : decode cX5_busyPupils 2 = .ok (.iconst 0, 1) := by decide +kernel
theorem dX5_busyPupils_3 : decode cX5_busyPupils 3 = .ok (.istore_n 3, 1) := by decide +kernel
theorem dX5_busyPupils_4 : decode cX5_busyPupils 4 = .ok (.iload_n 3, 1) := by decide +kernel
theorem dX5_busyPupils_5 : decode cX5_busyPupils 5 = .ok (.aload_n 0, 1) := by decide +kernel
theorem dX5_busyPupils_6 : decode cX5_busyPupils 6 = .ok (.getfield 43, 3) := by decide +kernel
theorem dX5_busyPupils_9 : decode cX5_busyPupils 9 = .ok (.if_icmp .ge 18, 3) := by decide +kernel
theorem dX5_busyPupils_12 : decode cX5_busyPupils 12 = .ok (.iload_n 2, 1) := by decide +kernel
theorem dX5_busyPupils_13 : decode cX5_busyPupils 13 = .ok (.aload_n 0, 1) := by decide +kernel
theorem dX5_busyPupils_14 : decode cX5_busyPupils 14 = .ok (.iload_n 3, 1) := by decide +kernel
theorem dX5_busyPupils_15 : decode cX5_busyPupils 15 = .ok (.iload_n 1, 1) := by decide +kernel
theorem dX5_busyPupils_16 : decode cX5_busyPupils 16 = .ok (.invokevirtual 73, 3) := by decide +kernel
theorem dX5_busyPupils_19 : decode cX5_busyPupils 19 = .ok (.ior, 1) := by decide +kernel
theorem dX5_busyPupils_20 : decode cX5_busyPupils 20 = .ok (.istore_n 2, 1) := by decide +kernel
theorem dX5_busyPupils_21 : decode cX5_busyPupils 21 = .ok (.iinc 3 1, 3) := by decide +kernel
theorem dX5_busyPupils_24 : decode cX5_busyPupils 24 = .ok (.goto (-20), 3) := by decide +kernel
theorem dX5_busyPupils_27 : decode cX5_busyPupils 27 = .ok (.iload_n 2, 1) := by decide +kernel
theorem dX5_busyPupils_28 : decode cX5_busyPupils 28 = .ok (.ireturn, 1) := by decide +kernel
theorem dX5_freeBlocks_0 : decode cX5_freeBlocks 0 = .ok (.iconst 0, 1) := by decide +kernel
theorem dX5_freeBlocks_1 : decode cX5_freeBlocks 1 = .ok (.istore_n 2, 1) := by decide +kernel
theorem dX5_freeBlocks_2 : decode cX5_freeBlocks 2 = .ok (.iconst 0, 1) := by decide +kernel
theorem dX5_freeBlocks_3 : decode cX5_freeBlocks 3 = .ok (.istore_n 3, 1) := by decide +kernel
theorem dX5_freeBlocks_4 : decode cX5_freeBlocks 4 = .ok (.iload_n 3, 1) := by decide +kernel
theorem dX5_freeBlocks_5 : decode cX5_freeBlocks 5 = .ok (.aload_n 0, 1) := by decide +kernel
theorem dX5_freeBlocks_6 : decode cX5_freeBlocks 6 = .ok (.getfield 9, 3) := by decide +kernel
theorem dX5_freeBlocks_9 : decode cX5_freeBlocks 9 = .ok (.if_icmp .ge 31, 3) := by decide +kernel
theorem dX5_freeBlocks_12 : decode cX5_freeBlocks 12 = .ok (.iload_n 2, 1) := by decide +kernel
theorem dX5_freeBlocks_13 : decode cX5_freeBlocks 13 = .ok (.aload_n 0, 1) := by decide +kernel
theorem dX5_freeBlocks_14 : decode cX5_freeBlocks 14 = .ok (.iload_n 3, 1) := by decide +kernel
theorem dX5_freeBlocks_15 : decode cX5_freeBlocks 15 = .ok (.invokevirtual 96, 3) := by decide +kernel
theorem dX5_freeBlocks_18 : decode cX5_freeBlocks 18 = .ok (.iload_n 1, 1) := by decide +kernel
theorem dX5_freeBlocks_19 : decode cX5_freeBlocks 19 = .ok (.invokestatic 82, 3) := by decide +kernel
theorem dX5_freeBlocks_22 : decode cX5_freeBlocks 22 = .ok (.ifCond .eq 7, 3) := by decide +kernel
theorem dX5_freeBlocks_25 : decode cX5_freeBlocks 25 = .ok (.iconst 0, 1) := by decide +kernel
theorem dX5_freeBlocks_26 : decode cX5_freeBlocks 26 = .ok (.goto 6, 3) := by decide +kernel
theorem dX5_freeBlocks_29 : decode cX5_freeBlocks 29 = .ok (.iconst 1, 1) := by decide +kernel
theorem dX5_freeBlocks_30 : decode cX5_freeBlocks 30 = .ok (.iload_n 3, 1) := by decide +kernel
theorem dX5_freeBlocks_31 : decode cX5_freeBlocks 31 = .ok (.ishl, 1) := by decide +kernel
theorem dX5_freeBlocks_32 : decode cX5_freeBlocks 32 = .ok (.ior, 1) := by decide +kernel
theorem dX5_freeBlocks_33 : decode cX5_freeBlocks 33 = .ok (.istore_n 2, 1) := by decide +kernel
theorem dX5_freeBlocks_34 : decode cX5_freeBlocks 34 = .ok (.iinc 3 1, 3) := by decide +kernel
theorem dX5_freeBlocks_37 : decode cX5_freeBlocks 37 = .ok (.goto (-33), 3) := by decide +kernel
theorem dX5_freeBlocks_40 : decode cX5_freeBlocks 40 = .ok (.iload_n 2, 1) := by decide +kernel
theorem dX5_freeBlocks_41 : decode cX5_freeBlocks 41 = .ok (.ireturn, 1) := by decide +kernel
theorem dX5_lessonsOf_0 : decode cX5_lessonsOf 0 = .ok (.iconst 0, 1) := by decide +kernel
theorem dX5_lessonsOf_1 : decode cX5_lessonsOf 1 = .ok (.istore_n 2, 1) := by decide +kernel
theorem dX5_lessonsOf_2 : decode cX5_lessonsOf 2 = .ok (.iconst 0, 1) := by decide +kernel
theorem dX5_lessonsOf_3 : decode cX5_lessonsOf 3 = .ok (.istore_n 3, 1) := by decide +kernel
theorem dX5_lessonsOf_4 : decode cX5_lessonsOf 4 = .ok (.iload_n 3, 1) := by decide +kernel
theorem dX5_lessonsOf_5 : decode cX5_lessonsOf 5 = .ok (.aload_n 0, 1) := by decide +kernel
theorem dX5_lessonsOf_6 : decode cX5_lessonsOf 6 = .ok (.getfield 9, 3) := by decide +kernel
theorem dX5_lessonsOf_9 : decode cX5_lessonsOf 9 = .ok (.if_icmp .ge 29, 3) := by decide +kernel
theorem dX5_lessonsOf_12 : decode cX5_lessonsOf 12 = .ok (.iload_n 2, 1) := by decide +kernel
theorem dX5_lessonsOf_13 : decode cX5_lessonsOf 13 = .ok (.aload_n 0, 1) := by decide +kernel
theorem dX5_lessonsOf_14 : decode cX5_lessonsOf 14 = .ok (.iload_n 3, 1) := by decide +kernel
theorem dX5_lessonsOf_15 : decode cX5_lessonsOf 15 = .ok (.invokevirtual 96, 3) := by decide +kernel
theorem dX5_lessonsOf_18 : decode cX5_lessonsOf 18 = .ok (.iload_n 1, 1) := by decide +kernel
theorem dX5_lessonsOf_19 : decode cX5_lessonsOf 19 = .ok (.invokestatic 82, 3) := by decide +kernel
theorem dX5_lessonsOf_22 : decode cX5_lessonsOf 22 = .ok (.ifCond .eq 7, 3) := by decide +kernel
theorem dX5_lessonsOf_25 : decode cX5_lessonsOf 25 = .ok (.iconst 1, 1) := by decide +kernel
theorem dX5_lessonsOf_26 : decode cX5_lessonsOf 26 = .ok (.goto 4, 3) := by decide +kernel
theorem dX5_lessonsOf_29 : decode cX5_lessonsOf 29 = .ok (.iconst 0, 1) := by decide +kernel
theorem dX5_lessonsOf_30 : decode cX5_lessonsOf 30 = .ok (.iadd, 1) := by decide +kernel
theorem dX5_lessonsOf_31 : decode cX5_lessonsOf 31 = .ok (.istore_n 2, 1) := by decide +kernel
theorem dX5_lessonsOf_32 : decode cX5_lessonsOf 32 = .ok (.iinc 3 1, 3) := by decide +kernel
theorem dX5_lessonsOf_35 : decode cX5_lessonsOf 35 = .ok (.goto (-31), 3) := by decide +kernel
theorem dX5_lessonsOf_38 : decode cX5_lessonsOf 38 = .ok (.iload_n 2, 1) := by decide +kernel
theorem dX5_lessonsOf_39 : decode cX5_lessonsOf 39 = .ok (.ireturn, 1) := by decide +kernel
theorem dX5_lessonsOfAll_0 : decode cX5_lessonsOfAll 0 = .ok (.iconst 0, 1) := by decide +kernel
theorem dX5_lessonsOfAll_1 : decode cX5_lessonsOfAll 1 = .ok (.istore_n 1, 1) := by decide +kernel
theorem dX5_lessonsOfAll_2 : decode cX5_lessonsOfAll 2 = .ok (.iconst 0, 1) := by decide +kernel
theorem dX5_lessonsOfAll_3 : decode cX5_lessonsOfAll 3 = .ok (.istore_n 2, 1) := by decide +kernel
theorem dX5_lessonsOfAll_4 : decode cX5_lessonsOfAll 4 = .ok (.iload_n 2, 1) := by decide +kernel
theorem dX5_lessonsOfAll_5 : decode cX5_lessonsOfAll 5 = .ok (.aload_n 0, 1) := by decide +kernel
theorem dX5_lessonsOfAll_6 : decode cX5_lessonsOfAll 6 = .ok (.getfield 9, 3) := by decide +kernel
theorem dX5_lessonsOfAll_9 : decode cX5_lessonsOfAll 9 = .ok (.if_icmp .ge 20, 3) := by decide +kernel
theorem dX5_lessonsOfAll_12 : decode cX5_lessonsOfAll 12 = .ok (.iload_n 1, 1) := by decide +kernel
theorem dX5_lessonsOfAll_13 : decode cX5_lessonsOfAll 13 = .ok (.aload_n 0, 1) := by decide +kernel
theorem dX5_lessonsOfAll_14 : decode cX5_lessonsOfAll 14 = .ok (.iload_n 2, 1) := by decide +kernel
theorem dX5_lessonsOfAll_15 : decode cX5_lessonsOfAll 15 = .ok (.invokevirtual 96, 3) := by decide +kernel
theorem dX5_lessonsOfAll_18 : decode cX5_lessonsOfAll 18 = .ok (.invokestatic 68, 3) := by decide +kernel
theorem dX5_lessonsOfAll_21 : decode cX5_lessonsOfAll 21 = .ok (.iadd, 1) := by decide +kernel
theorem dX5_lessonsOfAll_22 : decode cX5_lessonsOfAll 22 = .ok (.istore_n 1, 1) := by decide +kernel
theorem dX5_lessonsOfAll_23 : decode cX5_lessonsOfAll 23 = .ok (.iinc 2 1, 3) := by decide +kernel
theorem dX5_lessonsOfAll_26 : decode cX5_lessonsOfAll 26 = .ok (.goto (-22), 3) := by decide +kernel
theorem dX5_lessonsOfAll_29 : decode cX5_lessonsOfAll 29 = .ok (.iload_n 1, 1) := by decide +kernel
theorem dX5_lessonsOfAll_30 : decode cX5_lessonsOfAll 30 = .ok (.ireturn, 1) := by decide +kernel
theorem dX5_attendsWishes_0 : decode cX5_attendsWishes 0 = .ok (.aload_n 0, 1) := by decide +kernel
theorem dX5_attendsWishes_1 : decode cX5_attendsWishes 1 = .ok (.getfield 25, 3) := by decide +kernel
theorem dX5_attendsWishes_4 : decode cX5_attendsWishes 4 = .ok (.iload_n 1, 1) := by decide +kernel
theorem dX5_attendsWishes_5 : decode cX5_attendsWishes 5 = .ok (.invokestatic 60, 3) := by decide +kernel
theorem dX5_attendsWishes_8 : decode cX5_attendsWishes 8 = .ok (.istore_n 2, 1) := by decide +kernel
theorem dX5_attendsWishes_9 : decode cX5_attendsWishes 9 = .ok (.iconst 0, 1) := by decide +kernel
theorem dX5_attendsWishes_10 : decode cX5_attendsWishes 10 = .ok (.istore_n 3, 1) := by decide +kernel
theorem dX5_attendsWishes_11 : decode cX5_attendsWishes 11 = .ok (.iload_n 3, 1) := by decide +kernel
theorem dX5_attendsWishes_12 : decode cX5_attendsWishes 12 = .ok (.iload_n 2, 1) := by decide +kernel
theorem dX5_attendsWishes_13 : decode cX5_attendsWishes 13 = .ok (.if_icmp .ge 26, 3) := by decide +kernel
theorem dX5_attendsWishes_16 : decode cX5_attendsWishes 16 = .ok (.aload_n 0, 1) := by decide +kernel
theorem dX5_attendsWishes_17 : decode cX5_attendsWishes 17 = .ok (.iload_n 1, 1) := by decide +kernel
theorem dX5_attendsWishes_18 : decode cX5_attendsWishes 18 = .ok (.aload_n 0, 1) := by decide +kernel
theorem dX5_attendsWishes_19 : decode cX5_attendsWishes 19 = .ok (.iload_n 1, 1) := by decide +kernel
theorem dX5_attendsWishes_20 : decode cX5_attendsWishes 20 = .ok (.iload_n 3, 1) := by decide +kernel
theorem dX5_attendsWishes_21 : decode cX5_attendsWishes 21 = .ok (.invokevirtual 99, 3) := by decide +kernel
theorem dX5_attendsWishes_24 : decode cX5_attendsWishes 24 = .ok (.invokevirtual 102, 3) := by decide +kernel
theorem dX5_attendsWishes_27 : decode cX5_attendsWishes 27 = .ok (.iconst (-1), 1) := by decide +kernel
theorem dX5_attendsWishes_28 : decode cX5_attendsWishes 28 = .ok (.if_icmp .ne 5, 3) := by decide +kernel
theorem dX5_attendsWishes_31 : decode cX5_attendsWishes 31 = .ok (.iconst 0, 1) := by decide +kernel
theorem dX5_attendsWishes_32 : decode cX5_attendsWishes 32 = .ok (.ireturn, 1) := by decide +kernel
theorem dX5_attendsWishes_33 : decode cX5_attendsWishes 33 = .ok (.iinc 3 1, 3) := by decide +kernel
theorem dX5_attendsWishes_36 : decode cX5_attendsWishes 36 = .ok (.goto (-25), 3) := by decide +kernel
theorem dX5_attendsWishes_39 : decode cX5_attendsWishes 39 = .ok (.iload_n 2, 1) := by decide +kernel
theorem dX5_attendsWishes_40 : decode cX5_attendsWishes 40 = .ok (.ifCond .le 7, 3) := by decide +kernel
theorem dX5_attendsWishes_43 : decode cX5_attendsWishes 43 = .ok (.iconst 1, 1) := by decide +kernel
theorem dX5_attendsWishes_44 : decode cX5_attendsWishes 44 = .ok (.goto 4, 3) := by decide +kernel
theorem dX5_attendsWishes_47 : decode cX5_attendsWishes 47 = .ok (.iconst 0, 1) := by decide +kernel
theorem dX5_attendsWishes_48 : decode cX5_attendsWishes 48 = .ok (.ireturn, 1) := by decide +kernel
theorem dX5_dropLesson_0 : decode cX5_dropLesson 0 = .ok (.aload_n 0, 1) := by decide +kernel
theorem dX5_dropLesson_1 : decode cX5_dropLesson 1 = .ok (.iload_n 1, 1) := by decide +kernel
theorem dX5_dropLesson_2 : decode cX5_dropLesson 2 = .ok (.iload_n 2, 1) := by decide +kernel
theorem dX5_dropLesson_3 : decode cX5_dropLesson 3 = .ok (.invokevirtual 102, 3) := by decide +kernel
theorem dX5_dropLesson_6 : decode cX5_dropLesson 6 = .ok (.istore_n 3, 1) := by decide +kernel
theorem dX5_dropLesson_7 : decode cX5_dropLesson 7 = .ok (.aload_n 0, 1) := by decide +kernel
theorem dX5_dropLesson_8 : decode cX5_dropLesson 8 = .ok (.iload_n 1, 1) := by decide +kernel
theorem dX5_dropLesson_9 : decode cX5_dropLesson 9 = .ok (.iload_n 2, 1) := by decide +kernel
theorem dX5_dropLesson_10 : decode cX5_dropLesson 10 = .ok (.iload_n 3, 1) := by decide +kernel
theorem dX5_dropLesson_11 : decode cX5_dropLesson 11 = .ok (.invokevirtual 105, 3) := by decide +kernel
theorem dX5_dropLesson_14 : decode cX5_dropLesson 14 = .ok (.iload_n 3, 1) := by decide +kernel
theorem dX5_dropLesson_15 : decode cX5_dropLesson 15 = .ok (.ireturn, 1) := by decide +kernel
theorem dX5_dropLessons_0 : decode cX5_dropLessons 0 = .ok (.aload_n 0, 1) := by decide +kernel
theorem dX5_dropLessons_1 : decode cX5_dropLessons 1 = .ok (.iload_n 1, 1) := by decide +kernel
theorem dX5_dropLessons_2 : decode cX5_dropLessons 2 = .ok (.invokevirtual 109, 3) := by decide +kernel
theorem dX5_dropLessons_5 : decode cX5_dropLessons 5 = .ok (.istore_n 2, 1) := by decide +kernel
theorem dX5_dropLessons_6 : decode cX5_dropLessons 6 = .ok (.iconst 0, 1) := by decide +kernel
theorem dX5_dropLessons_7 : decode cX5_dropLessons 7 = .ok (.istore_n 3, 1) := by decide +kernel
theorem dX5_dropLessons_8 : decode cX5_dropLessons 8 = .ok (.iload_n 3, 1) := by decide +kernel
theorem dX5_dropLessons_9 : decode cX5_dropLessons 9 = .ok (.aload_n 0, 1) := by decide +kernel
theorem dX5_dropLessons_10 : decode cX5_dropLessons 10 = .ok (.getfield 9, 3) := by decide +kernel
theorem dX5_dropLessons_13 : decode cX5_dropLessons 13 = .ok (.if_icmp .ge 21, 3) := by decide +kernel
theorem dX5_dropLessons_16 : decode cX5_dropLessons 16 = .ok (.aload_n 0, 1) := by decide +kernel
theorem dX5_dropLessons_17 : decode cX5_dropLessons 17 = .ok (.iload_n 1, 1) := by decide +kernel
theorem dX5_dropLessons_18 : decode cX5_dropLessons 18 = .ok (.aload_n 0, 1) := by decide +kernel
theorem dX5_dropLessons_19 : decode cX5_dropLessons 19 = .ok (.iload_n 1, 1) := by decide +kernel
theorem dX5_dropLessons_20 : decode cX5_dropLessons 20 = .ok (.iload_n 3, 1) := by decide +kernel
theorem dX5_dropLessons_21 : decode cX5_dropLessons 21 = .ok (.invokevirtual 112, 3) := by decide +kernel
theorem dX5_dropLessons_24 : decode cX5_dropLessons 24 = .ok (.iload_n 3, 1) := by decide +kernel
theorem dX5_dropLessons_25 : decode cX5_dropLessons 25 = .ok (.invokevirtual 105, 3) := by decide +kernel
theorem dX5_dropLessons_28 : decode cX5_dropLessons 28 = .ok (.iinc 3 1, 3) := by decide +kernel
theorem dX5_dropLessons_31 : decode cX5_dropLessons 31 = .ok (.goto (-23), 3) := by decide +kernel
theorem dX5_dropLessons_34 : decode cX5_dropLessons 34 = .ok (.iload_n 2, 1) := by decide +kernel
theorem dX5_dropLessons_35 : decode cX5_dropLessons 35 = .ok (.ireturn, 1) := by decide +kernel
theorem dX5_noteMove_0 : decode cX5_noteMove 0 = .ok (.aload_n 0, 1) := by decide +kernel
theorem dX5_noteMove_1 : decode cX5_noteMove 1 = .ok (.getfield 37, 3) := by decide +kernel
theorem dX5_noteMove_4 : decode cX5_noteMove 4 = .ok (.iload_n 1, 1) := by decide +kernel
theorem dX5_noteMove_5 : decode cX5_noteMove 5 = .ok (.iload_n 2, 1) := by decide +kernel
theorem dX5_noteMove_6 : decode cX5_noteMove 6 = .ok (.invokestatic 86, 3) := by decide +kernel
theorem dX5_noteMove_9 : decode cX5_noteMove 9 = .ok (.aload_n 0, 1) := by decide +kernel
theorem dX5_noteMove_10 : decode cX5_noteMove 10 = .ok (.getfield 40, 3) := by decide +kernel
theorem dX5_noteMove_13 : decode cX5_noteMove 13 = .ok (.iload_n 1, 1) := by decide +kernel
theorem dX5_noteMove_14 : decode cX5_noteMove 14 = .ok (.iload_n 3, 1) := by decide +kernel
theorem dX5_noteMove_15 : decode cX5_noteMove 15 = .ok (.invokestatic 86, 3) := by decide +kernel
theorem dX5_noteMove_18 : decode cX5_noteMove 18 = .ok (.return_, 1) := by decide +kernel
theorem dX5_makeMoves_0 : decode cX5_makeMoves 0 = .ok (.aload_n 0, 1) := by decide +kernel
theorem dX5_makeMoves_1 : decode cX5_makeMoves 1 = .ok (.iload_n 3, 1) := by decide +kernel
theorem dX5_makeMoves_2 : decode cX5_makeMoves 2 = .ok (.putfield 34, 3) := by decide +kernel
theorem dX5_makeMoves_5 : decode cX5_makeMoves 5 = .ok (.iload_n 2, 1) := by decide +kernel
theorem dX5_makeMoves_6 : decode cX5_makeMoves 6 = .ok (.istore 4, 2) := by decide +kernel
theorem dX5_makeMoves_8 : decode cX5_makeMoves 8 = .ok (.iconst 0, 1) := by decide +kernel
theorem dX5_makeMoves_9 : decode cX5_makeMoves 9 = .ok (.istore 5, 2) := by decide +kernel
theorem dX5_makeMoves_11 : decode cX5_makeMoves 11 = .ok (.iload 5, 2) := by decide +kernel
theorem dX5_makeMoves_13 : decode cX5_makeMoves 13 = .ok (.iload_n 3, 1) := by decide +kernel
theorem dX5_makeMoves_14 : decode cX5_makeMoves 14 = .ok (.if_icmp .ge 56, 3) := by decide +kernel
theorem dX5_makeMoves_17 : decode cX5_makeMoves 17 = .ok (.aload_n 0, 1) := by decide +kernel
theorem dX5_makeMoves_18 : decode cX5_makeMoves 18 = .ok (.getfield 40, 3) := by decide +kernel
theorem dX5_makeMoves_21 : decode cX5_makeMoves 21 = .ok (.iload 5, 2) := by decide +kernel
theorem dX5_makeMoves_23 : decode cX5_makeMoves 23 = .ok (.invokestatic 60, 3) := by decide +kernel
theorem dX5_makeMoves_26 : decode cX5_makeMoves 26 = .ok (.istore 6, 2) := by decide +kernel
theorem dX5_makeMoves_28 : decode cX5_makeMoves 28 = .ok (.aload_n 0, 1) := by decide +kernel
theorem dX5_makeMoves_29 : decode cX5_makeMoves 29 = .ok (.aload_n 0, 1) := by decide +kernel
theorem dX5_makeMoves_30 : decode cX5_makeMoves 30 = .ok (.getfield 37, 3) := by decide +kernel
theorem dX5_makeMoves_33 : decode cX5_makeMoves 33 = .ok (.iload 5, 2) := by decide +kernel
theorem dX5_makeMoves_35 : decode cX5_makeMoves 35 = .ok (.invokestatic 60, 3) := by decide +kernel
theorem dX5_makeMoves_38 : decode cX5_makeMoves 38 = .ok (.iload_n 1, 1) := by decide +kernel
theorem dX5_makeMoves_39 : decode cX5_makeMoves 39 = .ok (.iload 4, 2) := by decide +kernel
theorem dX5_makeMoves_41 : decode cX5_makeMoves 41 = .ok (.invokevirtual 105, 3) := by decide +kernel
theorem dX5_makeMoves_44 : decode cX5_makeMoves 44 = .ok (.aload_n 0, 1) := by decide +kernel
theorem dX5_makeMoves_45 : decode cX5_makeMoves 45 = .ok (.aload_n 0, 1) := by decide +kernel
theorem dX5_makeMoves_46 : decode cX5_makeMoves 46 = .ok (.getfield 37, 3) := by decide +kernel
theorem dX5_makeMoves_49 : decode cX5_makeMoves 49 = .ok (.iload 5, 2) := by decide +kernel
theorem dX5_makeMoves_51 : decode cX5_makeMoves 51 = .ok (.invokestatic 60, 3) := by decide +kernel
theorem dX5_makeMoves_54 : decode cX5_makeMoves 54 = .ok (.iload_n 1, 1) := by decide +kernel
theorem dX5_makeMoves_55 : decode cX5_makeMoves 55 = .ok (.iload 6, 2) := by decide +kernel
theorem dX5_makeMoves_57 : decode cX5_makeMoves 57 = .ok (.invokevirtual 115, 3) := by decide +kernel
theorem dX5_makeMoves_60 : decode cX5_makeMoves 60 = .ok (.iload 6, 2) := by decide +kernel
theorem dX5_makeMoves_62 : decode cX5_makeMoves 62 = .ok (.istore 4, 2) := by decide +kernel
theorem dX5_makeMoves_64 : decode cX5_makeMoves 64 = .ok (.iinc 5 1, 3) := by decide +kernel
theorem dX5_makeMoves_67 : decode cX5_makeMoves 67 = .ok (.goto (-56), 3) := by decide +kernel
theorem dX5_makeMoves_70 : decode cX5_makeMoves 70 = .ok (.return_, 1) := by decide +kernel
theorem dX6_init_0 : decode cX6_init 0 = .ok (.aload_n 0, 1) := by decide +kernel
theorem dX6_init_1 : decode cX6_init 1 = .ok (.invokespecial 3, 3) := by decide +kernel
theorem dX6_init_4 : decode cX6_init 4 = .ok (.aload_n 0, 1) := by decide +kernel
theorem dX6_init_5 : decode cX6_init 5 = .ok (.new 9, 3) := by decide +kernel
theorem dX6_init_8 : decode cX6_init 8 = .ok (.dup, 1) := by decide +kernel
theorem dX6_init_9 : decode cX6_init 9 = .ok (.invokespecial 11, 3) := by decide +kernel
theorem dX6_init_12 : decode cX6_init 12 = .ok (.putfield 12, 3) := by decide +kernel
theorem dX6_init_15 : decode cX6_init 15 = .ok (.aload_n 0, 1) := by decide +kernel
theorem dX6_init_16 : decode cX6_init 16 = .ok (.bipush 12, 2) := by decide +kernel
theorem dX6_init_18 : decode cX6_init 18 = .ok (.newarray .int, 2) := by decide +kernel
theorem dX6_init_20 : decode cX6_init 20 = .ok (.putfield 18, 3) := by decide +kernel
theorem dX6_init_23 : decode cX6_init 23 = .ok (.aload_n 0, 1) := by decide +kernel
theorem dX6_init_24 : decode cX6_init 24 = .ok (.bipush 36, 2) := by decide +kernel
theorem dX6_init_26 : decode cX6_init 26 = .ok (.newarray .int, 2) := by decide +kernel
theorem dX6_init_28 : decode cX6_init 28 = .ok (.putfield 22, 3) := by decide +kernel
theorem dX6_init_31 : decode cX6_init 31 = .ok (.return_, 1) := by decide +kernel
theorem dX7_init_0 : decode cX7_init 0 = .ok (.aload_n 0, 1) := by decide +kernel
theorem dX7_init_1 : decode cX7_init 1 = .ok (.invokespecial 3, 3) := by decide +kernel
theorem dX7_init_4 : decode cX7_init 4 = .ok (.aload_n 0, 1) := by decide +kernel
theorem dX7_init_5 : decode cX7_init 5 = .ok (.new 9, 3) := by decide +kernel
theorem dX7_init_8 : decode cX7_init 8 = .ok (.dup, 1) := by decide +kernel
theorem dX7_init_9 : decode cX7_init 9 = .ok (.invokespecial 11, 3) := by decide +kernel
theorem dX7_init_12 : decode cX7_init 12 = .ok (.putfield 12, 3) := by decide +kernel
theorem dX7_init_15 : decode cX7_init 15 = .ok (.aload_n 0, 1) := by decide +kernel
theorem dX7_init_16 : decode cX7_init 16 = .ok (.new 16, 3) := by decide +kernel
theorem dX7_init_19 : decode cX7_init 19 = .ok (.dup, 1) := by decide +kernel
theorem dX7_init_20 : decode cX7_init 20 = .ok (.aload_n 0, 1) := by decide +kernel
theorem dX7_init_21 : decode cX7_init 21 = .ok (.getfield 12, 3) := by decide +kernel
theorem dX7_init_24 : decode cX7_init 24 = .ok (.invokespecial 18, 3) := by decide +kernel
theorem dX7_init_27 : decode cX7_init 27 = .ok (.putfield 21, 3) := by decide +kernel
theorem dX7_init_30 : decode cX7_init 30 = .ok (.aload_n 0, 1) := by decide +kernel
theorem dX7_init_31 : decode cX7_init 31 = .ok (.new 25, 3) := by decide +kernel
theorem dX7_init_34 : decode cX7_init 34 = .ok (.dup, 1) := by decide +kernel
theorem dX7_init_35 : decode cX7_init 35 = .ok (.aload_n 0, 1) := by decide +kernel
theorem dX7_init_36 : decode cX7_init 36 = .ok (.getfield 12, 3) := by decide +kernel
theorem dX7_init_39 : decode cX7_init 39 = .ok (.invokespecial 27, 3) := by decide +kernel
theorem dX7_init_42 : decode cX7_init 42 = .ok (.putfield 28, 3) := by decide +kernel
theorem dX7_init_45 : decode cX7_init 45 = .ok (.aload_n 0, 1) := by decide +kernel
theorem dX7_init_46 : decode cX7_init 46 = .ok (.new 32, 3) := by decide +kernel
theorem dX7_init_49 : decode cX7_init 49 = .ok (.dup, 1) := by decide +kernel
theorem dX7_init_50 : decode cX7_init 50 = .ok (.aload_n 0, 1) := by decide +kernel
theorem dX7_init_51 : decode cX7_init 51 = .ok (.getfield 12, 3) := by decide +kernel
theorem dX7_init_54 : decode cX7_init 54 = .ok (.invokespecial 34, 3) := by decide +kernel
theorem dX7_init_57 : decode cX7_init 57 = .ok (.putfield 35, 3) := by decide +kernel
theorem dX7_init_60 : decode cX7_init 60 = .ok (.aload_n 0, 1) := by decide +kernel
theorem dX7_init_61 : decode cX7_init 61 = .ok (.new 39, 3) := by decide +kernel
theorem dX7_init_64 : decode cX7_init 64 = .ok (.dup, 1) := by decide +kernel
theorem dX7_init_65 : decode cX7_init 65 = .ok (.aload_n 0, 1) := by decide +kernel
theorem dX7_init_66 : decode cX7_init 66 = .ok (.getfield 12, 3) := by decide +kernel
theorem dX7_init_69 : decode cX7_init 69 = .ok (.aload_n 0, 1) := by decide +kernel
theorem dX7_init_70 : decode cX7_init 70 = .ok (.getfield 21, 3) := by decide +kernel
theorem dX7_init_73 : decode cX7_init 73 = .ok (.aload_n 0, 1) := by decide +kernel
theorem dX7_init_74 : decode cX7_init 74 = .ok (.getfield 28, 3) := by decide +kernel
theorem dX7_init_77 : decode cX7_init 77 = .ok (.aload_n 0, 1) := by decide +kernel
theorem dX7_init_78 : decode cX7_init 78 = .ok (.getfield 35, 3) := by decide +kernel
theorem dX7_init_81 : decode cX7_init 81 = .ok (.invokespecial 41, 3) := by decide +kernel
theorem dX7_init_84 : decode cX7_init 84 = .ok (.putfield 44, 3) := by decide +kernel
theorem dX7_init_87 : decode cX7_init 87 = .ok (.aload_n 0, 1) := by decide +kernel
theorem dX7_init_88 : decode cX7_init 88 = .ok (.new 48, 3) := by decide +kernel
theorem dX7_init_91 : decode cX7_init 91 = .ok (.dup, 1) := by decide +kernel
theorem dX7_init_92 : decode cX7_init 92 = .ok (.invokespecial 50, 3) := by decide +kernel
theorem dX7_init_95 : decode cX7_init 95 = .ok (.putfield 51, 3) := by decide +kernel
theorem dX7_init_98 : decode cX7_init 98 = .ok (.aload_n 0, 1) := by decide +kernel
theorem dX7_init_99 : decode cX7_init 99 = .ok (.new 9, 3) := by decide +kernel
theorem dX7_init_102 : decode cX7_init 102 = .ok (.dup, 1) := by decide +kernel
theorem dX7_init_103 : decode cX7_init 103 = .ok (.invokespecial 11, 3) := by decide +kernel
theorem dX7_init_106 : decode cX7_init 106 = .ok (.putfield 55, 3) := by decide +kernel
theorem dX7_init_109 : decode cX7_init 109 = .ok (.aload_n 0, 1) := by decide +kernel
theorem dX7_init_110 : decode cX7_init 110 = .ok (.new 9, 3) := by decide +kernel
theorem dX7_init_113 : decode cX7_init 113 = .ok (.dup, 1) := by decide +kernel
theorem dX7_init_114 : decode cX7_init 114 = .ok (.invokespecial 11, 3) := by decide +kernel
theorem dX7_init_117 : decode cX7_init 117 = .ok (.putfield 58, 3) := by decide +kernel
theorem dX7_init_120 : decode cX7_init 120 = .ok (.aload_n 0, 1) := by decide +kernel
theorem dX7_init_121 : decode cX7_init 121 = .ok (.new 61, 3) := by decide +kernel
theorem dX7_init_124 : decode cX7_init 124 = .ok (.dup, 1) := by decide +kernel
theorem dX7_init_125 : decode cX7_init 125 = .ok (.invokespecial 63, 3) := by decide +kernel
theorem dX7_init_128 : decode cX7_init 128 = .ok (.putfield 64, 3) := by decide +kernel
theorem dX7_init_131 : decode cX7_init 131 = .ok (.aload_n 0, 1) := by decide +kernel
theorem dX7_init_132 : decode cX7_init 132 = .ok (.new 68, 3) := by decide +kernel
theorem dX7_init_135 : decode cX7_init 135 = .ok (.dup, 1) := by decide +kernel
theorem dX7_init_136 : decode cX7_init 136 = .ok (.invokespecial 70, 3) := by decide +kernel
theorem dX7_init_139 : decode cX7_init 139 = .ok (.putfield 71, 3) := by decide +kernel
theorem dX7_init_142 : decode cX7_init 142 = .ok (.aload_n 0, 1) := by decide +kernel
theorem dX7_init_143 : decode cX7_init 143 = .ok (.iconst (-1), 1) := by decide +kernel
theorem dX7_init_144 : decode cX7_init 144 = .ok (.putfield 75, 3) := by decide +kernel
theorem dX7_init_147 : decode cX7_init 147 = .ok (.aload_n 0, 1) := by decide +kernel
theorem dX7_init_148 : decode cX7_init 148 = .ok (.iconst (-1), 1) := by decide +kernel
theorem dX7_init_149 : decode cX7_init 149 = .ok (.putfield 79, 3) := by decide +kernel
theorem dX7_init_152 : decode cX7_init 152 = .ok (.aload_n 0, 1) := by decide +kernel
theorem dX7_init_153 : decode cX7_init 153 = .ok (.iconst 0, 1) := by decide +kernel
theorem dX7_init_154 : decode cX7_init 154 = .ok (.putfield 82, 3) := by decide +kernel
theorem dX7_init_157 : decode cX7_init 157 = .ok (.return_, 1) := by decide +kernel
theorem dX7_addSubject_0 : decode cX7_addSubject 0 = .ok (.aload_n 0, 1) := by decide +kernel
theorem dX7_addSubject_1 : decode cX7_addSubject 1 = .ok (.iconst 0, 1) := by decide +kernel
theorem dX7_addSubject_2 : decode cX7_addSubject 2 = .ok (.iload_n 1, 1) := by decide +kernel
theorem dX7_addSubject_3 : decode cX7_addSubject 3 = .ok (.iconst 0, 1) := by decide +kernel
theorem dX7_addSubject_4 : decode cX7_addSubject 4 = .ok (.iconst 0, 1) := by decide +kernel
theorem dX7_addSubject_5 : decode cX7_addSubject 5 = .ok (.invokevirtual 85, 3) := by decide +kernel
theorem dX7_addSubject_8 : decode cX7_addSubject 8 = .ok (.ireturn, 1) := by decide +kernel
theorem dX7_subjectCount_0 : decode cX7_subjectCount 0 = .ok (.aload_n 0, 1) := by decide +kernel
theorem dX7_subjectCount_1 : decode cX7_subjectCount 1 = .ok (.getfield 12, 3) := by decide +kernel
theorem dX7_subjectCount_4 : decode cX7_subjectCount 4 = .ok (.getfield 103, 3) := by decide +kernel
theorem dX7_subjectCount_7 : decode cX7_subjectCount 7 = .ok (.ireturn, 1) := by decide +kernel
theorem dX7_sizeOf_0 : decode cX7_sizeOf 0 = .ok (.aload_n 0, 1) := by decide +kernel
theorem dX7_sizeOf_1 : decode cX7_sizeOf 1 = .ok (.getfield 12, 3) := by decide +kernel
theorem dX7_sizeOf_4 : decode cX7_sizeOf 4 = .ok (.iload_n 1, 1) := by decide +kernel
theorem dX7_sizeOf_5 : decode cX7_sizeOf 5 = .ok (.invokevirtual 106, 3) := by decide +kernel
theorem dX7_sizeOf_8 : decode cX7_sizeOf 8 = .ok (.invokestatic 110, 3) := by decide +kernel
theorem dX7_sizeOf_11 : decode cX7_sizeOf 11 = .ok (.aload_n 0, 1) := by decide +kernel
theorem dX7_sizeOf_12 : decode cX7_sizeOf 12 = .ok (.getfield 12, 3) := by decide +kernel
theorem dX7_sizeOf_15 : decode cX7_sizeOf 15 = .ok (.getfield 114, 3) := by decide +kernel
theorem dX7_sizeOf_18 : decode cX7_sizeOf 18 = .ok (.iload_n 1, 1) := by decide +kernel
theorem dX7_sizeOf_19 : decode cX7_sizeOf 19 = .ok (.invokestatic 118, 3) := by decide +kernel
theorem dX7_sizeOf_22 : decode cX7_sizeOf 22 = .ok (.ireturn, 1) := by decide +kernel
theorem dX7_setBlockCount_0 : decode cX7_setBlockCount 0 = .ok (.aload_n 0, 1) := by decide +kernel
theorem dX7_setBlockCount_1 : decode cX7_setBlockCount 1 = .ok (.iconst 1, 1) := by decide +kernel
theorem dX7_setBlockCount_2 : decode cX7_setBlockCount 2 = .ok (.iload_n 1, 1) := by decide +kernel
theorem dX7_setBlockCount_3 : decode cX7_setBlockCount 3 = .ok (.iconst 0, 1) := by decide +kernel
theorem dX7_setBlockCount_4 : decode cX7_setBlockCount 4 = .ok (.iconst 0, 1) := by decide +kernel
theorem dX7_setBlockCount_5 : decode cX7_setBlockCount 5 = .ok (.invokevirtual 85, 3) := by decide +kernel
theorem dX7_setBlockCount_8 : decode cX7_setBlockCount 8 = .ok (.ireturn, 1) := by decide +kernel
theorem dX7_blockCount_0 : decode cX7_blockCount 0 = .ok (.aload_n 0, 1) := by decide +kernel
theorem dX7_blockCount_1 : decode cX7_blockCount 1 = .ok (.getfield 12, 3) := by decide +kernel
theorem dX7_blockCount_4 : decode cX7_blockCount 4 = .ok (.getfield 122, 3) := by decide +kernel
theorem dX7_blockCount_7 : decode cX7_blockCount 7 = .ok (.ireturn, 1) := by decide +kernel
theorem dX7_openClass_0 : decode cX7_openClass 0 = .ok (.aload_n 0, 1) := by decide +kernel
theorem dX7_openClass_1 : decode cX7_openClass 1 = .ok (.iconst 2, 1) := by decide +kernel
theorem dX7_openClass_2 : decode cX7_openClass 2 = .ok (.iload_n 1, 1) := by decide +kernel
theorem dX7_openClass_3 : decode cX7_openClass 3 = .ok (.iload_n 2, 1) := by decide +kernel
theorem dX7_openClass_4 : decode cX7_openClass 4 = .ok (.iconst 0, 1) := by decide +kernel
theorem dX7_openClass_5 : decode cX7_openClass 5 = .ok (.invokevirtual 85, 3) := by decide +kernel
theorem dX7_openClass_8 : decode cX7_openClass 8 = .ok (.ireturn, 1) := by decide +kernel
theorem dX7_isOpen_0 : decode cX7_isOpen 0 = .ok (.aload_n 0, 1) := by decide +kernel
theorem dX7_isOpen_1 : decode cX7_isOpen 1 = .ok (.getfield 12, 3) := by decide +kernel
theorem dX7_isOpen_4 : decode cX7_isOpen 4 = .ok (.iload_n 1, 1) := by decide +kernel
theorem dX7_isOpen_5 : decode cX7_isOpen 5 = .ok (.iload_n 2, 1) := by decide +kernel
theorem dX7_isOpen_6 : decode cX7_isOpen 6 = .ok (.invokevirtual 125, 3) := by decide +kernel
theorem dX7_isOpen_9 : decode cX7_isOpen 9 = .ok (.invokestatic 110, 3) := by decide +kernel
theorem dX7_isOpen_12 : decode cX7_isOpen 12 = .ok (.aload_n 0, 1) := by decide +kernel
theorem dX7_isOpen_13 : decode cX7_isOpen 13 = .ok (.getfield 12, 3) := by decide +kernel
theorem dX7_isOpen_16 : decode cX7_isOpen 16 = .ok (.iload_n 1, 1) := by decide +kernel
theorem dX7_isOpen_17 : decode cX7_isOpen 17 = .ok (.invokevirtual 129, 3) := by decide +kernel
theorem dX7_isOpen_20 : decode cX7_isOpen 20 = .ok (.iload_n 2, 1) := by decide +kernel
theorem dX7_isOpen_21 : decode cX7_isOpen 21 = .ok (.invokestatic 133, 3) := by decide +kernel
theorem dX7_isOpen_24 : decode cX7_isOpen 24 = .ok (.ireturn, 1) := by decide +kernel
theorem dX7_pupilsInClass_0 : decode cX7_pupilsInClass 0 = .ok (.aload_n 0, 1) := by decide +kernel
theorem dX7_pupilsInClass_1 : decode cX7_pupilsInClass 1 = .ok (.getfield 12, 3) := by decide +kernel
theorem dX7_pupilsInClass_4 : decode cX7_pupilsInClass 4 = .ok (.iload_n 1, 1) := by decide +kernel
theorem dX7_pupilsInClass_5 : decode cX7_pupilsInClass 5 = .ok (.iload_n 2, 1) := by decide +kernel
theorem dX7_pupilsInClass_6 : decode cX7_pupilsInClass 6 = .ok (.invokevirtual 125, 3) := by decide +kernel
theorem dX7_pupilsInClass_9 : decode cX7_pupilsInClass 9 = .ok (.invokestatic 110, 3) := by decide +kernel
theorem dX7_pupilsInClass_12 : decode cX7_pupilsInClass 12 = .ok (.aload_n 0, 1) := by decide +kernel
theorem dX7_pupilsInClass_13 : decode cX7_pupilsInClass 13 = .ok (.getfield 12, 3) := by decide +kernel
theorem dX7_pupilsInClass_16 : decode cX7_pupilsInClass 16 = .ok (.iload_n 1, 1) := by decide +kernel
theorem dX7_pupilsInClass_17 : decode cX7_pupilsInClass 17 = .ok (.iload_n 2, 1) := by decide +kernel
theorem dX7_pupilsInClass_18 : decode cX7_pupilsInClass 18 = .ok (.invokevirtual 136, 3) := by decide +kernel
theorem dX7_pupilsInClass_21 : decode cX7_pupilsInClass 21 = .ok (.invokestatic 139, 3) := by decide +kernel
theorem dX7_pupilsInClass_24 : decode cX7_pupilsInClass 24 = .ok (.ireturn, 1) := by decide +kernel
theorem dX7_pupilInClass_0 : decode cX7_pupilInClass 0 = .ok (.aload_n 0, 1) := by decide +kernel
theorem dX7_pupilInClass_1 : decode cX7_pupilInClass 1 = .ok (.getfield 12, 3) := by decide +kernel
theorem dX7_pupilInClass_4 : decode cX7_pupilInClass 4 = .ok (.iload_n 1, 1) := by decide +kernel
theorem dX7_pupilInClass_5 : decode cX7_pupilInClass 5 = .ok (.iload_n 2, 1) := by decide +kernel
theorem dX7_pupilInClass_6 : decode cX7_pupilInClass 6 = .ok (.invokevirtual 125, 3) := by decide +kernel
theorem dX7_pupilInClass_9 : decode cX7_pupilInClass 9 = .ok (.invokestatic 110, 3) := by decide +kernel
theorem dX7_pupilInClass_12 : decode cX7_pupilInClass 12 = .ok (.aload_n 0, 1) := by decide +kernel
theorem dX7_pupilInClass_13 : decode cX7_pupilInClass 13 = .ok (.getfield 12, 3) := by decide +kernel
theorem dX7_pupilInClass_16 : decode cX7_pupilInClass 16 = .ok (.iload_n 1, 1) := by decide +kernel
theorem dX7_pupilInClass_17 : decode cX7_pupilInClass 17 = .ok (.iload_n 2, 1) := by decide +kernel
theorem dX7_pupilInClass_18 : decode cX7_pupilInClass 18 = .ok (.invokevirtual 136, 3) := by decide +kernel
theorem dX7_pupilInClass_21 : decode cX7_pupilInClass 21 = .ok (.istore 4, 2) := by decide +kernel
theorem dX7_pupilInClass_23 : decode cX7_pupilInClass 23 = .ok (.iload_n 3, 1) := by decide +kernel
theorem dX7_pupilInClass_24 : decode cX7_pupilInClass 24 = .ok (.ifCond .lt 16, 3) := by decide +kernel
theorem dX7_pupilInClass_27 : decode cX7_pupilInClass 27 = .ok (.iload_n 3, 1) := by decide +kernel
theorem dX7_pupilInClass_28 : decode cX7_pupilInClass 28 = .ok (.iload 4, 2) := by decide +kernel
theorem dX7_pupilInClass_30 : decode cX7_pupilInClass 30 = .ok (.invokestatic 139, 3) := by decide +kernel
theorem dX7_pupilInClass_33 : decode cX7_pupilInClass 33 = .ok (.if_icmp .ge 7, 3) := by decide +kernel
theorem dX7_pupilInClass_36 : decode cX7_pupilInClass 36 = .ok (.iconst 1, 1) := by decide +kernel
theorem dX7_pupilInClass_37 : decode cX7_pupilInClass 37 = .ok (.goto 4, 3) := by decide +kernel
theorem dX7_pupilInClass_40 : decode cX7_pupilInClass 40 = .ok (.iconst 0, 1) := by decide +kernel
theorem dX7_pupilInClass_41 : decode cX7_pupilInClass 41 = .ok (.invokestatic 144, 3) := by decide +kernel
theorem dX7_pupilInClass_44 : decode cX7_pupilInClass 44 = .ok (.iload 4, 2) := by decide +kernel
theorem dX7_pupilInClass_46 : decode cX7_pupilInClass 46 = .ok (.iload_n 3, 1) := by decide +kernel
theorem dX7_pupilInClass_47 : decode cX7_pupilInClass 47 = .ok (.invokestatic 147, 3) := by decide +kernel
theorem dX7_pupilInClass_50 : decode cX7_pupilInClass 50 = .ok (.ireturn, 1) := by decide +kernel
theorem dX7_addPupil_0 : decode cX7_addPupil 0 = .ok (.aload_n 0, 1) := by decide +kernel
theorem dX7_addPupil_1 : decode cX7_addPupil 1 = .ok (.iconst 4, 1) := by decide +kernel
theorem dX7_addPupil_2 : decode cX7_addPupil 2 = .ok (.iconst 0, 1) := by decide +kernel
theorem dX7_addPupil_3 : decode cX7_addPupil 3 = .ok (.iconst 0, 1) := by decide +kernel
theorem dX7_addPupil_4 : decode cX7_addPupil 4 = .ok (.iconst 0, 1) := by decide +kernel
theorem dX7_addPupil_5 : decode cX7_addPupil 5 = .ok (.invokevirtual 85, 3) := by decide +kernel
theorem dX7_addPupil_8 : decode cX7_addPupil 8 = .ok (.ireturn, 1) := by decide +kernel
theorem dX7_pupilCount_0 : decode cX7_pupilCount 0 = .ok (.aload_n 0, 1) := by decide +kernel
theorem dX7_pupilCount_1 : decode cX7_pupilCount 1 = .ok (.getfield 12, 3) := by decide +kernel
theorem dX7_pupilCount_4 : decode cX7_pupilCount 4 = .ok (.getfield 150, 3) := by decide +kernel
theorem dX7_pupilCount_7 : decode cX7_pupilCount 7 = .ok (.ireturn, 1) := by decide +kernel
theorem dX7_addWish_0 : decode cX7_addWish 0 = .ok (.aload_n 0, 1) := by decide +kernel
theorem dX7_addWish_1 : decode cX7_addWish 1 = .ok (.iconst 5, 1) := by decide +kernel
theorem dX7_addWish_2 : decode cX7_addWish 2 = .ok (.iload_n 1, 1) := by decide +kernel
theorem dX7_addWish_3 : decode cX7_addWish 3 = .ok (.iload_n 2, 1) := by decide +kernel
theorem dX7_addWish_4 : decode cX7_addWish 4 = .ok (.iconst 0, 1) := by decide +kernel
theorem dX7_addWish_5 : decode cX7_addWish 5 = .ok (.invokevirtual 85, 3) := by decide +kernel
theorem dX7_addWish_8 : decode cX7_addWish 8 = .ok (.ireturn, 1) := by decide +kernel
theorem dX7_setReserve_0 : decode cX7_setReserve 0 = .ok (.aload_n 0, 1) := by decide +kernel
theorem dX7_setReserve_1 : decode cX7_setReserve 1 = .ok (.bipush 6, 2) := by decide +kernel
theorem dX7_setReserve_3 : decode cX7_setReserve 3 = .ok (.iload_n 1, 1) := by decide +kernel
theorem dX7_setReserve_4 : decode cX7_setReserve 4 = .ok (.iload_n 2, 1) := by decide +kernel
theorem dX7_setReserve_5 : decode cX7_setReserve 5 = .ok (.iconst 0, 1) := by decide +kernel
theorem dX7_setReserve_6 : decode cX7_setReserve 6 = .ok (.invokevirtual 85, 3) := by decide +kernel
theorem dX7_setReserve_9 : decode cX7_setReserve 9 = .ok (.ireturn, 1) := by decide +kernel
theorem dX7_subjectIn_0 : decode cX7_subjectIn 0 = .ok (.aload_n 0, 1) := by decide +kernel
theorem dX7_subjectIn_1 : decode cX7_subjectIn 1 = .ok (.getfield 12, 3) := by decide +kernel
theorem dX7_subjectIn_4 : decode cX7_subjectIn 4 = .ok (.iload_n 1, 1) := by decide +kernel
theorem dX7_subjectIn_5 : decode cX7_subjectIn 5 = .ok (.invokevirtual 153, 3) := by decide +kernel
theorem dX7_subjectIn_8 : decode cX7_subjectIn 8 = .ok (.ifCond .eq 18, 3) := by decide +kernel
theorem dX7_subjectIn_11 : decode cX7_subjectIn 11 = .ok (.aload_n 0, 1) := by decide +kernel
theorem dX7_subjectIn_12 : decode cX7_subjectIn 12 = .ok (.getfield 12, 3) := by decide +kernel
theorem dX7_subjectIn_15 : decode cX7_subjectIn 15 = .ok (.iload_n 2, 1) := by decide +kernel
theorem dX7_subjectIn_16 : decode cX7_subjectIn 16 = .ok (.invokevirtual 165, 3) := by decide +kernel
theorem dX7_subjectIn_19 : decode cX7_subjectIn 19 = .ok (.ifCond .eq 7, 3) := by decide +kernel
theorem dX7_subjectIn_22 : decode cX7_subjectIn 22 = .ok (.iconst 1, 1) := by decide +kernel
theorem dX7_subjectIn_23 : decode cX7_subjectIn 23 = .ok (.goto 4, 3) := by decide +kernel
theorem dX7_subjectIn_26 : decode cX7_subjectIn 26 = .ok (.iconst 0, 1) := by decide +kernel
theorem dX7_subjectIn_27 : decode cX7_subjectIn 27 = .ok (.invokestatic 110, 3) := by decide +kernel
theorem dX7_subjectIn_30 : decode cX7_subjectIn 30 = .ok (.aload_n 0, 1) := by decide +kernel
theorem dX7_subjectIn_31 : decode cX7_subjectIn 31 = .ok (.getfield 12, 3) := by decide +kernel
theorem dX7_subjectIn_34 : decode cX7_subjectIn 34 = .ok (.iload_n 1, 1) := by decide +kernel
theorem dX7_subjectIn_35 : decode cX7_subjectIn 35 = .ok (.iload_n 2, 1) := by decide +kernel
theorem dX7_subjectIn_36 : decode cX7_subjectIn 36 = .ok (.invokevirtual 168, 3) := by decide +kernel
theorem dX7_subjectIn_39 : decode cX7_subjectIn 39 = .ok (.ireturn, 1) := by decide +kernel
theorem dX7_blockOf_0 : decode cX7_blockOf 0 = .ok (.aload_n 0, 1) := by decide +kernel
theorem dX7_blockOf_1 : decode cX7_blockOf 1 = .ok (.getfield 12, 3) := by decide +kernel
theorem dX7_blockOf_4 : decode cX7_blockOf 4 = .ok (.iload_n 1, 1) := by decide +kernel
theorem dX7_blockOf_5 : decode cX7_blockOf 5 = .ok (.invokevirtual 153, 3) := by decide +kernel
theorem dX7_blockOf_8 : decode cX7_blockOf 8 = .ok (.ifCond .eq 18, 3) := by decide +kernel
theorem dX7_blockOf_11 : decode cX7_blockOf 11 = .ok (.aload_n 0, 1) := by decide +kernel
theorem dX7_blockOf_12 : decode cX7_blockOf 12 = .ok (.getfield 12, 3) := by decide +kernel
theorem dX7_blockOf_15 : decode cX7_blockOf 15 = .ok (.iload_n 2, 1) := by decide +kernel
theorem dX7_blockOf_16 : decode cX7_blockOf 16 = .ok (.invokevirtual 106, 3) := by decide +kernel
theorem dX7_blockOf_19 : decode cX7_blockOf 19 = .ok (.ifCond .eq 7, 3) := by decide +kernel
theorem dX7_blockOf_22 : decode cX7_blockOf 22 = .ok (.iconst 1, 1) := by decide +kernel
theorem dX7_blockOf_23 : decode cX7_blockOf 23 = .ok (.goto 4, 3) := by decide +kernel
theorem dX7_blockOf_26 : decode cX7_blockOf 26 = .ok (.iconst 0, 1) := by decide +kernel
theorem dX7_blockOf_27 : decode cX7_blockOf 27 = .ok (.invokestatic 110, 3) := by decide +kernel
theorem dX7_blockOf_30 : decode cX7_blockOf 30 = .ok (.aload_n 0, 1) := by decide +kernel
theorem dX7_blockOf_31 : decode cX7_blockOf 31 = .ok (.getfield 12, 3) := by decide +kernel
theorem dX7_blockOf_34 : decode cX7_blockOf 34 = .ok (.iload_n 1, 1) := by decide +kernel
theorem dX7_blockOf_35 : decode cX7_blockOf 35 = .ok (.iload_n 2, 1) := by decide +kernel
theorem dX7_blockOf_36 : decode cX7_blockOf 36 = .ok (.invokevirtual 171, 3) := by decide +kernel
theorem dX7_blockOf_39 : decode cX7_blockOf 39 = .ok (.ireturn, 1) := by decide +kernel
theorem dX7_enrol_0 : decode cX7_enrol 0 = .ok (.aload_n 0, 1) := by decide +kernel
theorem dX7_enrol_1 : decode cX7_enrol 1 = .ok (.bipush 7, 2) := by decide +kernel
theorem dX7_enrol_3 : decode cX7_enrol 3 = .ok (.iload_n 1, 1) := by decide +kernel
theorem dX7_enrol_4 : decode cX7_enrol 4 = .ok (.iconst 0, 1) := by decide +kernel
theorem dX7_enrol_5 : decode cX7_enrol 5 = .ok (.iconst 0, 1) := by decide +kernel
theorem dX7_enrol_6 : decode cX7_enrol 6 = .ok (.invokevirtual 85, 3) := by decide +kernel
theorem dX7_enrol_9 : decode cX7_enrol 9 = .ok (.ireturn, 1) := by decide +kernel
theorem dX7_withdraw_0 : decode cX7_withdraw 0 = .ok (.aload_n 0, 1) := by decide +kernel
theorem dX7_withdraw_1 : decode cX7_withdraw 1 = .ok (.getfield 44, 3) := by decide +kernel
theorem dX7_withdraw_4 : decode cX7_withdraw 4 = .ok (.iload_n 1, 1) := by decide +kernel
theorem dX7_withdraw_5 : decode cX7_withdraw 5 = .ok (.invokevirtual 183, 3) := by decide +kernel
theorem dX7_withdraw_8 : decode cX7_withdraw 8 = .ok (.invokestatic 93, 3) := by decide +kernel
theorem dX7_withdraw_11 : decode cX7_withdraw 11 = .ok (.aload_n 0, 1) := by decide +kernel
theorem dX7_withdraw_12 : decode cX7_withdraw 12 = .ok (.getfield 51, 3) := by decide +kernel
theorem dX7_withdraw_15 : decode cX7_withdraw 15 = .ok (.aload_n 0, 1) := by decide +kernel
theorem dX7_withdraw_16 : decode cX7_withdraw 16 = .ok (.getfield 12, 3) := by decide +kernel
theorem dX7_withdraw_19 : decode cX7_withdraw 19 = .ok (.invokevirtual 97, 3) := by decide +kernel
theorem dX7_withdraw_22 : decode cX7_withdraw 22 = .ok (.aload_n 0, 1) := by decide +kernel
theorem dX7_withdraw_23 : decode cX7_withdraw 23 = .ok (.getfield 12, 3) := by decide +kernel
theorem dX7_withdraw_26 : decode cX7_withdraw 26 = .ok (.iload_n 1, 1) := by decide +kernel
theorem dX7_withdraw_27 : decode cX7_withdraw 27 = .ok (.invokevirtual 186, 3) := by decide +kernel
theorem dX7_withdraw_30 : decode cX7_withdraw 30 = .ok (.ireturn, 1) := by decide +kernel
theorem dX7_bestValue_0 : decode cX7_bestValue 0 = .ok (.aload_n 0, 1) := by decide +kernel
theorem dX7_bestValue_1 : decode cX7_bestValue 1 = .ok (.getfield 12, 3) := by decide +kernel
theorem dX7_bestValue_4 : decode cX7_bestValue 4 = .ok (.iload_n 1, 1) := by decide +kernel
theorem dX7_bestValue_5 : decode cX7_bestValue 5 = .ok (.invokevirtual 153, 3) := by decide +kernel
theorem dX7_bestValue_8 : decode cX7_bestValue 8 = .ok (.invokestatic 110, 3) := by decide +kernel
theorem dX7_bestValue_11 : decode cX7_bestValue 11 = .ok (.aload_n 0, 1) := by decide +kernel
theorem dX7_bestValue_12 : decode cX7_bestValue 12 = .ok (.getfield 21, 3) := by decide +kernel
theorem dX7_bestValue_15 : decode cX7_bestValue 15 = .ok (.iload_n 1, 1) := by decide +kernel
theorem dX7_bestValue_16 : decode cX7_bestValue 16 = .ok (.invokevirtual 189, 3) := by decide +kernel
theorem dX7_bestValue_19 : decode cX7_bestValue 19 = .ok (.ireturn, 1) := by decide +kernel
theorem dX7_bestValueBySets_0 : decode cX7_bestValueBySets 0 = .ok (.aload_n 0, 1) := by decide +kernel
theorem dX7_bestValueBySets_1 : decode cX7_bestValueBySets 1 = .ok (.getfield 12, 3) := by decide +kernel
theorem dX7_bestValueBySets_4 : decode cX7_bestValueBySets 4 = .ok (.iload_n 1, 1) := by decide +kernel
theorem dX7_bestValueBySets_5 : decode cX7_bestValueBySets 5 = .ok (.invokevirtual 153, 3) := by decide +kernel
theorem dX7_bestValueBySets_8 : decode cX7_bestValueBySets 8 = .ok (.invokestatic 110, 3) := by decide +kernel
theorem dX7_bestValueBySets_11 : decode cX7_bestValueBySets 11 = .ok (.aload_n 0, 1) := by decide +kernel
theorem dX7_bestValueBySets_12 : decode cX7_bestValueBySets 12 = .ok (.getfield 21, 3) := by decide +kernel
theorem dX7_bestValueBySets_15 : decode cX7_bestValueBySets 15 = .ok (.iload_n 1, 1) := by decide +kernel
theorem dX7_bestValueBySets_16 : decode cX7_bestValueBySets 16 = .ok (.invokevirtual 192, 3) := by decide +kernel
theorem dX7_bestValueBySets_19 : decode cX7_bestValueBySets 19 = .ok (.ireturn, 1) := by decide +kernel
theorem dX7_canServe_0 : decode cX7_canServe 0 = .ok (.aload_n 0, 1) := by decide +kernel
theorem dX7_canServe_1 : decode cX7_canServe 1 = .ok (.getfield 12, 3) := by decide +kernel
theorem dX7_canServe_4 : decode cX7_canServe 4 = .ok (.iload_n 1, 1) := by decide +kernel
theorem dX7_canServe_5 : decode cX7_canServe 5 = .ok (.invokevirtual 153, 3) := by decide +kernel
theorem dX7_canServe_8 : decode cX7_canServe 8 = .ok (.invokestatic 110, 3) := by decide +kernel
theorem dX7_canServe_11 : decode cX7_canServe 11 = .ok (.aload_n 0, 1) := by decide +kernel
theorem dX7_canServe_12 : decode cX7_canServe 12 = .ok (.getfield 21, 3) := by decide +kernel
theorem dX7_canServe_15 : decode cX7_canServe 15 = .ok (.iload_n 1, 1) := by decide +kernel
theorem dX7_canServe_16 : decode cX7_canServe 16 = .ok (.invokevirtual 195, 3) := by decide +kernel
theorem dX7_canServe_19 : decode cX7_canServe 19 = .ok (.ireturn, 1) := by decide +kernel
theorem dX7_canServeByCounting_0 : decode cX7_canServeByCounting 0 = .ok (.aload_n 0, 1) := by decide +kernel
theorem dX7_canServeByCounting_1 : decode cX7_canServeByCounting 1 = .ok (.getfield 12, 3) := by decide +kernel
theorem dX7_canServeByCounting_4 : decode cX7_canServeByCounting 4 = .ok (.iload_n 1, 1) := by decide +kernel
theorem dX7_canServeByCounting_5 : decode cX7_canServeByCounting 5 = .ok (.invokevirtual 153, 3) := by decide +kernel
theorem dX7_canServeByCounting_8 : decode cX7_canServeByCounting 8 = .ok (.invokestatic 110, 3) := by decide +kernel
theorem dX7_canServeByCounting_11 : decode cX7_canServeByCounting 11 = .ok (.aload_n 0, 1) := by decide +kernel
theorem dX7_canServeByCounting_12 : decode cX7_canServeByCounting 12 = .ok (.getfield 21, 3) := by decide +kernel
theorem dX7_canServeByCounting_15 : decode cX7_canServeByCounting 15 = .ok (.iload_n 1, 1) := by decide +kernel
theorem dX7_canServeByCounting_16 : decode cX7_canServeByCounting 16 = .ok (.invokevirtual 198, 3) := by decide +kernel
theorem dX7_canServeByCounting_19 : decode cX7_canServeByCounting 19 = .ok (.ireturn, 1) := by decide +kernel
theorem dX7_servedCount_0 : decode cX7_servedCount 0 = .ok (.iconst 0, 1) := by decide +kernel
theorem dX7_servedCount_1 : decode cX7_servedCount 1 = .ok (.istore_n 1, 1) := by decide +kernel
theorem dX7_servedCount_2 : decode cX7_servedCount 2 = .ok (.iconst 0, 1) := by decide +kernel
theorem dX7_servedCount_3 : decode cX7_servedCount 3 = .ok (.istore_n 2, 1) := by decide +kernel
theorem dX7_servedCount_4 : decode cX7_servedCount 4 = .ok (.iload_n 2, 1) := by decide +kernel
theorem dX7_servedCount_5 : decode cX7_servedCount 5 = .ok (.aload_n 0, 1) := by decide +kernel
theorem dX7_servedCount_6 : decode cX7_servedCount 6 = .ok (.getfield 12, 3) := by decide +kernel
theorem dX7_servedCount_9 : decode cX7_servedCount 9 = .ok (.getfield 150, 3) := by decide +kernel
theorem dX7_servedCount_12 : decode cX7_servedCount 12 = .ok (.if_icmp .ge 28, 3) := by decide +kernel
theorem dX7_servedCount_15 : decode cX7_servedCount 15 = .ok (.iload_n 1, 1) := by decide +kernel
theorem dX7_servedCount_16 : decode cX7_servedCount 16 = .ok (.aload_n 0, 1) := by decide +kernel
theorem dX7_servedCount_17 : decode cX7_servedCount 17 = .ok (.getfield 12, 3) := by decide +kernel
theorem dX7_servedCount_20 : decode cX7_servedCount 20 = .ok (.iload_n 2, 1) := by decide +kernel
theorem dX7_servedCount_21 : decode cX7_servedCount 21 = .ok (.invokevirtual 180, 3) := by decide +kernel
theorem dX7_servedCount_24 : decode cX7_servedCount 24 = .ok (.ifCond .eq 7, 3) := by decide +kernel
theorem dX7_servedCount_27 : decode cX7_servedCount 27 = .ok (.iconst 1, 1) := by decide +kernel
theorem dX7_servedCount_28 : decode cX7_servedCount 28 = .ok (.goto 4, 3) := by decide +kernel
theorem dX7_servedCount_31 : decode cX7_servedCount 31 = .ok (.iconst 0, 1) := by decide +kernel
theorem dX7_servedCount_32 : decode cX7_servedCount 32 = .ok (.iadd, 1) := by decide +kernel
theorem dX7_servedCount_33 : decode cX7_servedCount 33 = .ok (.istore_n 1, 1) := by decide +kernel
theorem dX7_servedCount_34 : decode cX7_servedCount 34 = .ok (.iinc 2 1, 3) := by decide +kernel
theorem dX7_servedCount_37 : decode cX7_servedCount 37 = .ok (.goto (-33), 3) := by decide +kernel
theorem dX7_servedCount_40 : decode cX7_servedCount 40 = .ok (.iload_n 1, 1) := by decide +kernel
theorem dX7_servedCount_41 : decode cX7_servedCount 41 = .ok (.ireturn, 1) := by decide +kernel
theorem dX7_movesFor_0 : decode cX7_movesFor 0 = .ok (.aload_n 0, 1) := by decide +kernel
theorem dX7_movesFor_1 : decode cX7_movesFor 1 = .ok (.getfield 44, 3) := by decide +kernel
theorem dX7_movesFor_4 : decode cX7_movesFor 4 = .ok (.iload_n 1, 1) := by decide +kernel
theorem dX7_movesFor_5 : decode cX7_movesFor 5 = .ok (.iload_n 2, 1) := by decide +kernel
theorem dX7_movesFor_6 : decode cX7_movesFor 6 = .ok (.invokevirtual 215, 3) := by decide +kernel
theorem dX7_movesFor_9 : decode cX7_movesFor 9 = .ok (.invokestatic 93, 3) := by decide +kernel
theorem dX7_movesFor_12 : decode cX7_movesFor 12 = .ok (.aload_n 0, 1) := by decide +kernel
theorem dX7_movesFor_13 : decode cX7_movesFor 13 = .ok (.getfield 28, 3) := by decide +kernel
theorem dX7_movesFor_16 : decode cX7_movesFor 16 = .ok (.iload_n 2, 1) := by decide +kernel
theorem dX7_movesFor_17 : decode cX7_movesFor 17 = .ok (.aload_n 0, 1) := by decide +kernel
theorem dX7_movesFor_18 : decode cX7_movesFor 18 = .ok (.getfield 12, 3) := by decide +kernel
theorem dX7_movesFor_21 : decode cX7_movesFor 21 = .ok (.iload_n 1, 1) := by decide +kernel
theorem dX7_movesFor_22 : decode cX7_movesFor 22 = .ok (.invokevirtual 218, 3) := by decide +kernel
theorem dX7_movesFor_25 : decode cX7_movesFor 25 = .ok (.invokevirtual 221, 3) := by decide +kernel
theorem dX7_movesFor_28 : decode cX7_movesFor 28 = .ok (.istore_n 3, 1) := by decide +kernel
theorem dX7_movesFor_29 : decode cX7_movesFor 29 = .ok (.iload_n 3, 1) := by decide +kernel
theorem dX7_movesFor_30 : decode cX7_movesFor 30 = .ok (.iconst (-1), 1) := by decide +kernel
theorem dX7_movesFor_31 : decode cX7_movesFor 31 = .ok (.if_icmp .eq 7, 3) := by decide +kernel
theorem dX7_movesFor_34 : decode cX7_movesFor 34 = .ok (.iconst 1, 1) := by decide +kernel
theorem dX7_movesFor_35 : decode cX7_movesFor 35 = .ok (.goto 4, 3) := by decide +kernel
theorem dX7_movesFor_38 : decode cX7_movesFor 38 = .ok (.iconst 0, 1) := by decide +kernel
theorem dX7_movesFor_39 : decode cX7_movesFor 39 = .ok (.invokestatic 144, 3) := by decide +kernel
theorem dX7_movesFor_42 : decode cX7_movesFor 42 = .ok (.iload_n 3, 1) := by decide +kernel
theorem dX7_movesFor_43 : decode cX7_movesFor 43 = .ok (.ireturn, 1) := by decide +kernel
theorem dX7_movesByTrial_0 : decode cX7_movesByTrial 0 = .ok (.aload_n 0, 1) := by decide +kernel
theorem dX7_movesByTrial_1 : decode cX7_movesByTrial 1 = .ok (.getfield 44, 3) := by decide +kernel
theorem dX7_movesByTrial_4 : decode cX7_movesByTrial 4 = .ok (.iload_n 1, 1) := by decide +kernel
theorem dX7_movesByTrial_5 : decode cX7_movesByTrial 5 = .ok (.iload_n 2, 1) := by decide +kernel
theorem dX7_movesByTrial_6 : decode cX7_movesByTrial 6 = .ok (.invokevirtual 215, 3) := by decide +kernel
theorem dX7_movesByTrial_9 : decode cX7_movesByTrial 9 = .ok (.invokestatic 93, 3) := by decide +kernel
theorem dX7_movesByTrial_12 : decode cX7_movesByTrial 12 = .ok (.aload_n 0, 1) := by decide +kernel
theorem dX7_movesByTrial_13 : decode cX7_movesByTrial 13 = .ok (.getfield 28, 3) := by decide +kernel
theorem dX7_movesByTrial_16 : decode cX7_movesByTrial 16 = .ok (.iload_n 2, 1) := by decide +kernel
theorem dX7_movesByTrial_17 : decode cX7_movesByTrial 17 = .ok (.aload_n 0, 1) := by decide +kernel
theorem dX7_movesByTrial_18 : decode cX7_movesByTrial 18 = .ok (.getfield 12, 3) := by decide +kernel
theorem dX7_movesByTrial_21 : decode cX7_movesByTrial 21 = .ok (.iload_n 1, 1) := by decide +kernel
theorem dX7_movesByTrial_22 : decode cX7_movesByTrial 22 = .ok (.invokevirtual 218, 3) := by decide +kernel
theorem dX7_movesByTrial_25 : decode cX7_movesByTrial 25 = .ok (.invokevirtual 224, 3) := by decide +kernel
theorem dX7_movesByTrial_28 : decode cX7_movesByTrial 28 = .ok (.istore_n 3, 1) := by decide +kernel
theorem dX7_movesByTrial_29 : decode cX7_movesByTrial 29 = .ok (.iload_n 3, 1) := by decide +kernel
theorem dX7_movesByTrial_30 : decode cX7_movesByTrial 30 = .ok (.iconst (-1), 1) := by decide +kernel
theorem dX7_movesByTrial_31 : decode cX7_movesByTrial 31 = .ok (.if_icmp .eq 7, 3) := by decide +kernel
theorem dX7_movesByTrial_34 : decode cX7_movesByTrial 34 = .ok (.iconst 1, 1) := by decide +kernel
theorem dX7_movesByTrial_35 : decode cX7_movesByTrial 35 = .ok (.goto 4, 3) := by decide +kernel
theorem dX7_movesByTrial_38 : decode cX7_movesByTrial 38 = .ok (.iconst 0, 1) := by decide +kernel
theorem dX7_movesByTrial_39 : decode cX7_movesByTrial 39 = .ok (.invokestatic 144, 3) := by decide +kernel
theorem dX7_movesByTrial_42 : decode cX7_movesByTrial 42 = .ok (.iload_n 3, 1) := by decide +kernel
theorem dX7_movesByTrial_43 : decode cX7_movesByTrial 43 = .ok (.ireturn, 1) := by decide +kernel
theorem dX7_join_0 : decode cX7_join 0 = .ok (.aload_n 0, 1) := by decide +kernel
theorem dX7_join_1 : decode cX7_join 1 = .ok (.bipush 8, 2) := by decide +kernel
theorem dX7_join_3 : decode cX7_join 3 = .ok (.iload_n 1, 1) := by decide +kernel
theorem dX7_join_4 : decode cX7_join 4 = .ok (.iload_n 2, 1) := by decide +kernel
theorem dX7_join_5 : decode cX7_join 5 = .ok (.iconst 0, 1) := by decide +kernel
theorem dX7_join_6 : decode cX7_join 6 = .ok (.invokevirtual 85, 3) := by decide +kernel
theorem dX7_join_9 : decode cX7_join 9 = .ok (.ireturn, 1) := by decide +kernel
theorem dX7_quit_0 : decode cX7_quit 0 = .ok (.aload_n 0, 1) := by decide +kernel
theorem dX7_quit_1 : decode cX7_quit 1 = .ok (.bipush 9, 2) := by decide +kernel
theorem dX7_quit_3 : decode cX7_quit 3 = .ok (.iload_n 1, 1) := by decide +kernel
theorem dX7_quit_4 : decode cX7_quit 4 = .ok (.iload_n 2, 1) := by decide +kernel
theorem dX7_quit_5 : decode cX7_quit 5 = .ok (.iconst 0, 1) := by decide +kernel
theorem dX7_quit_6 : decode cX7_quit 6 = .ok (.invokevirtual 85, 3) := by decide +kernel
theorem dX7_quit_9 : decode cX7_quit 9 = .ok (.ireturn, 1) := by decide +kernel
theorem dX7_change_0 : decode cX7_change 0 = .ok (.aload_n 0, 1) := by decide +kernel
theorem dX7_change_1 : decode cX7_change 1 = .ok (.bipush 10, 2) := by decide +kernel
theorem dX7_change_3 : decode cX7_change 3 = .ok (.iload_n 1, 1) := by decide +kernel
theorem dX7_change_4 : decode cX7_change 4 = .ok (.iload_n 2, 1) := by decide +kernel
theorem dX7_change_5 : decode cX7_change 5 = .ok (.iload_n 3, 1) := by decide +kernel
theorem dX7_change_6 : decode cX7_change 6 = .ok (.invokevirtual 85, 3) := by decide +kernel
theorem dX7_change_9 : decode cX7_change 9 = .ok (.ireturn, 1) := by decide +kernel
theorem dX7_refusalReason_0 : decode cX7_refusalReason 0 = .ok (.aload_n 0, 1) := by decide +kernel
theorem dX7_refusalReason_1 : decode cX7_refusalReason 1 = .ok (.getfield 44, 3) := by decide +kernel
theorem dX7_refusalReason_4 : decode cX7_refusalReason 4 = .ok (.getfield 227, 3) := by decide +kernel
theorem dX7_refusalReason_7 : decode cX7_refusalReason 7 = .ok (.ifCond .eq 7, 3) := by decide +kernel
theorem dX7_refusalReason_10 : decode cX7_refusalReason 10 = .ok (.iconst 1, 1) := by decide +kernel
theorem dX7_refusalReason_11 : decode cX7_refusalReason 11 = .ok (.goto 4, 3) := by decide +kernel
theorem dX7_refusalReason_14 : decode cX7_refusalReason 14 = .ok (.iconst 0, 1) := by decide +kernel
theorem dX7_refusalReason_15 : decode cX7_refusalReason 15 = .ok (.invokestatic 144, 3) := by decide +kernel
theorem dX7_refusalReason_18 : decode cX7_refusalReason 18 = .ok (.aload_n 0, 1) := by decide +kernel
theorem dX7_refusalReason_19 : decode cX7_refusalReason 19 = .ok (.getfield 44, 3) := by decide +kernel
theorem dX7_refusalReason_22 : decode cX7_refusalReason 22 = .ok (.getfield 227, 3) := by decide +kernel
theorem dX7_refusalReason_25 : decode cX7_refusalReason 25 = .ok (.ireturn, 1) := by decide +kernel
theorem dX7_chainMoves_0 : decode cX7_chainMoves 0 = .ok (.aload_n 0, 1) := by decide +kernel
theorem dX7_chainMoves_1 : decode cX7_chainMoves 1 = .ok (.getfield 12, 3) := by decide +kernel
theorem dX7_chainMoves_4 : decode cX7_chainMoves 4 = .ok (.getfield 230, 3) := by decide +kernel
theorem dX7_chainMoves_7 : decode cX7_chainMoves 7 = .ok (.iconst (-1), 1) := by decide +kernel
theorem dX7_chainMoves_8 : decode cX7_chainMoves 8 = .ok (.if_icmp .eq 7, 3) := by decide +kernel
theorem dX7_chainMoves_11 : decode cX7_chainMoves 11 = .ok (.iconst 1, 1) := by decide +kernel
theorem dX7_chainMoves_12 : decode cX7_chainMoves 12 = .ok (.goto 4, 3) := by decide +kernel
theorem dX7_chainMoves_15 : decode cX7_chainMoves 15 = .ok (.iconst 0, 1) := by decide +kernel
theorem dX7_chainMoves_16 : decode cX7_chainMoves 16 = .ok (.invokestatic 144, 3) := by decide +kernel
theorem dX7_chainMoves_19 : decode cX7_chainMoves 19 = .ok (.aload_n 0, 1) := by decide +kernel
theorem dX7_chainMoves_20 : decode cX7_chainMoves 20 = .ok (.getfield 12, 3) := by decide +kernel
theorem dX7_chainMoves_23 : decode cX7_chainMoves 23 = .ok (.getfield 230, 3) := by decide +kernel
theorem dX7_chainMoves_26 : decode cX7_chainMoves 26 = .ok (.ireturn, 1) := by decide +kernel
theorem dX7_chainPupil_0 : decode cX7_chainPupil 0 = .ok (.iload_n 1, 1) := by decide +kernel
theorem dX7_chainPupil_1 : decode cX7_chainPupil 1 = .ok (.ifCond .lt 18, 3) := by decide +kernel
theorem dX7_chainPupil_4 : decode cX7_chainPupil 4 = .ok (.iload_n 1, 1) := by decide +kernel
theorem dX7_chainPupil_5 : decode cX7_chainPupil 5 = .ok (.aload_n 0, 1) := by decide +kernel
theorem dX7_chainPupil_6 : decode cX7_chainPupil 6 = .ok (.getfield 12, 3) := by decide +kernel
theorem dX7_chainPupil_9 : decode cX7_chainPupil 9 = .ok (.getfield 230, 3) := by decide +kernel
theorem dX7_chainPupil_12 : decode cX7_chainPupil 12 = .ok (.if_icmp .ge 7, 3) := by decide +kernel
theorem dX7_chainPupil_15 : decode cX7_chainPupil 15 = .ok (.iconst 1, 1) := by decide +kernel
theorem dX7_chainPupil_16 : decode cX7_chainPupil 16 = .ok (.goto 4, 3) := by decide +kernel
theorem dX7_chainPupil_19 : decode cX7_chainPupil 19 = .ok (.iconst 0, 1) := by decide +kernel
theorem dX7_chainPupil_20 : decode cX7_chainPupil 20 = .ok (.invokestatic 144, 3) := by decide +kernel
theorem dX7_chainPupil_23 : decode cX7_chainPupil 23 = .ok (.aload_n 0, 1) := by decide +kernel
theorem dX7_chainPupil_24 : decode cX7_chainPupil 24 = .ok (.getfield 12, 3) := by decide +kernel
theorem dX7_chainPupil_27 : decode cX7_chainPupil 27 = .ok (.getfield 233, 3) := by decide +kernel
theorem dX7_chainPupil_30 : decode cX7_chainPupil 30 = .ok (.iload_n 1, 1) := by decide +kernel
theorem dX7_chainPupil_31 : decode cX7_chainPupil 31 = .ok (.invokestatic 118, 3) := by decide +kernel
theorem dX7_chainPupil_34 : decode cX7_chainPupil 34 = .ok (.ireturn, 1) := by decide +kernel
theorem dX7_chainBlock_0 : decode cX7_chainBlock 0 = .ok (.iload_n 1, 1) := by decide +kernel
theorem dX7_chainBlock_1 : decode cX7_chainBlock 1 = .ok (.ifCond .lt 18, 3) := by decide +kernel
theorem dX7_chainBlock_4 : decode cX7_chainBlock 4 = .ok (.iload_n 1, 1) := by decide +kernel
theorem dX7_chainBlock_5 : decode cX7_chainBlock 5 = .ok (.aload_n 0, 1) := by decide +kernel
theorem dX7_chainBlock_6 : decode cX7_chainBlock 6 = .ok (.getfield 12, 3) := by decide +kernel
theorem dX7_chainBlock_9 : decode cX7_chainBlock 9 = .ok (.getfield 230, 3) := by decide +kernel
theorem dX7_chainBlock_12 : decode cX7_chainBlock 12 = .ok (.if_icmp .ge 7, 3) := by decide +kernel
theorem dX7_chainBlock_15 : decode cX7_chainBlock 15 = .ok (.iconst 1, 1) := by decide +kernel
theorem dX7_chainBlock_16 : decode cX7_chainBlock 16 = .ok (.goto 4, 3) := by decide +kernel
theorem dX7_chainBlock_19 : decode cX7_chainBlock 19 = .ok (.iconst 0, 1) := by decide +kernel
theorem dX7_chainBlock_20 : decode cX7_chainBlock 20 = .ok (.invokestatic 144, 3) := by decide +kernel
theorem dX7_chainBlock_23 : decode cX7_chainBlock 23 = .ok (.aload_n 0, 1) := by decide +kernel
theorem dX7_chainBlock_24 : decode cX7_chainBlock 24 = .ok (.getfield 12, 3) := by decide +kernel
theorem dX7_chainBlock_27 : decode cX7_chainBlock 27 = .ok (.getfield 236, 3) := by decide +kernel
theorem dX7_chainBlock_30 : decode cX7_chainBlock 30 = .ok (.iload_n 1, 1) := by decide +kernel
theorem dX7_chainBlock_31 : decode cX7_chainBlock 31 = .ok (.invokestatic 118, 3) := by decide +kernel
theorem dX7_chainBlock_34 : decode cX7_chainBlock 34 = .ok (.ireturn, 1) := by decide +kernel
theorem dX7_leastClashes_0 : decode cX7_leastClashes 0 = .ok (.aload_n 0, 1) := by decide +kernel
theorem dX7_leastClashes_1 : decode cX7_leastClashes 1 = .ok (.getfield 35, 3) := by decide +kernel
theorem dX7_leastClashes_4 : decode cX7_leastClashes 4 = .ok (.invokevirtual 249, 3) := by decide +kernel
theorem dX7_leastClashes_7 : decode cX7_leastClashes 7 = .ok (.ireturn, 1) := by decide +kernel
theorem dX7_leastClashesByTrial_0 : decode cX7_leastClashesByTrial 0 = .ok (.aload_n 0, 1) := by decide +kernel
theorem dX7_leastClashesByTrial_1 : decode cX7_leastClashesByTrial 1 = .ok (.getfield 35, 3) := by decide +kernel
theorem dX7_leastClashesByTrial_4 : decode cX7_leastClashesByTrial 4 = .ok (.invokevirtual 252, 3) := by decide +kernel
theorem dX7_leastClashesByTrial_7 : decode cX7_leastClashesByTrial 7 = .ok (.ireturn, 1) := by decide +kernel
theorem dX7_undo_0 : decode cX7_undo 0 = .ok (.aload_n 0, 1) := by decide +kernel
theorem dX7_undo_1 : decode cX7_undo 1 = .ok (.getfield 51, 3) := by decide +kernel
theorem dX7_undo_4 : decode cX7_undo 4 = .ok (.getfield 313, 3) := by decide +kernel
theorem dX7_undo_7 : decode cX7_undo 7 = .ok (.ifCond .gt 14, 3) := by decide +kernel
theorem dX7_undo_10 : decode cX7_undo 10 = .ok (.new 283, 3) := by decide +kernel
theorem dX7_undo_13 : decode cX7_undo 13 = .ok (.dup, 1) := by decide +kernel
theorem dX7_undo_14 : decode cX7_undo 14 = .ok (.ldc_w 314, 3) := by decide +kernel
theorem dX7_undo_17 : decode cX7_undo 17 = .ok (.invokespecial 287, 3) := by decide +kernel
theorem dX7_undo_20 : decode cX7_undo 20 = .ok (.athrow, 1) := by decide +kernel
theorem dX7_undo_21 : decode cX7_undo 21 = .ok (.aload_n 0, 1) := by decide +kernel
theorem dX7_undo_22 : decode cX7_undo 22 = .ok (.getfield 51, 3) := by decide +kernel
theorem dX7_undo_25 : decode cX7_undo 25 = .ok (.aload_n 0, 1) := by decide +kernel
theorem dX7_undo_26 : decode cX7_undo 26 = .ok (.getfield 12, 3) := by decide +kernel
theorem dX7_undo_29 : decode cX7_undo 29 = .ok (.invokevirtual 316, 3) := by decide +kernel
theorem dX7_undo_32 : decode cX7_undo 32 = .ok (.aload_n 0, 1) := by decide +kernel
theorem dX7_undo_33 : decode cX7_undo 33 = .ok (.getfield 51, 3) := by decide +kernel
theorem dX7_undo_36 : decode cX7_undo 36 = .ok (.getfield 313, 3) := by decide +kernel
theorem dX7_undo_39 : decode cX7_undo 39 = .ok (.ireturn, 1) := by decide +kernel
theorem dX7_make_0 : decode cX7_make 0 = .ok (.aload_n 0, 1) := by decide +kernel
theorem dX7_make_1 : decode cX7_make 1 = .ok (.getfield 44, 3) := by decide +kernel
theorem dX7_make_4 : decode cX7_make 4 = .ok (.iload_n 1, 1) := by decide +kernel
theorem dX7_make_5 : decode cX7_make 5 = .ok (.iload_n 2, 1) := by decide +kernel
theorem dX7_make_6 : decode cX7_make 6 = .ok (.iload_n 3, 1) := by decide +kernel
theorem dX7_make_7 : decode cX7_make 7 = .ok (.iload 4, 2) := by decide +kernel
theorem dX7_make_9 : decode cX7_make 9 = .ok (.invokevirtual 305, 3) := by decide +kernel
theorem dX7_make_12 : decode cX7_make 12 = .ok (.invokestatic 93, 3) := by decide +kernel
theorem dX7_make_15 : decode cX7_make 15 = .ok (.aload_n 0, 1) := by decide +kernel
theorem dX7_make_16 : decode cX7_make 16 = .ok (.getfield 51, 3) := by decide +kernel
theorem dX7_make_19 : decode cX7_make 19 = .ok (.aload_n 0, 1) := by decide +kernel
theorem dX7_make_20 : decode cX7_make 20 = .ok (.getfield 12, 3) := by decide +kernel
theorem dX7_make_23 : decode cX7_make 23 = .ok (.invokevirtual 97, 3) := by decide +kernel
theorem dX7_make_26 : decode cX7_make 26 = .ok (.aload_n 0, 1) := by decide +kernel
theorem dX7_make_27 : decode cX7_make 27 = .ok (.getfield 44, 3) := by decide +kernel
theorem dX7_make_30 : decode cX7_make 30 = .ok (.iload_n 1, 1) := by decide +kernel
theorem dX7_make_31 : decode cX7_make 31 = .ok (.iload_n 2, 1) := by decide +kernel
theorem dX7_make_32 : decode cX7_make 32 = .ok (.iload_n 3, 1) := by decide +kernel
theorem dX7_make_33 : decode cX7_make 33 = .ok (.iload 4, 2) := by decide +kernel
theorem dX7_make_35 : decode cX7_make 35 = .ok (.invokevirtual 310, 3) := by decide +kernel
theorem dX7_make_38 : decode cX7_make 38 = .ok (.ireturn, 1) := by decide +kernel
theorem dX7_needIndex_0 : decode cX7_needIndex 0 = .ok (.iload_n 0, 1) := by decide +kernel
theorem dX7_needIndex_1 : decode cX7_needIndex 1 = .ok (.ifCond .ne 14, 3) := by decide +kernel
theorem dX7_needIndex_4 : decode cX7_needIndex 4 = .ok (.new 330, 3) := by decide +kernel
theorem dX7_needIndex_7 : decode cX7_needIndex 7 = .ok (.dup, 1) := by decide +kernel
theorem dX7_needIndex_8 : decode cX7_needIndex 8 = .ok (.ldc_w 332, 3) := by decide +kernel
theorem dX7_needIndex_11 : decode cX7_needIndex 11 = .ok (.invokespecial 334, 3) := by decide +kernel
theorem dX7_needIndex_14 : decode cX7_needIndex 14 = .ok (.athrow, 1) := by decide +kernel
theorem dX7_needIndex_15 : decode cX7_needIndex 15 = .ok (.return_, 1) := by decide +kernel
theorem dX7_needElement_0 : decode cX7_needElement 0 = .ok (.iload_n 0, 1) := by decide +kernel
theorem dX7_needElement_1 : decode cX7_needElement 1 = .ok (.ifCond .ne 14, 3) := by decide +kernel
theorem dX7_needElement_4 : decode cX7_needElement 4 = .ok (.new 335, 3) := by decide +kernel
theorem dX7_needElement_7 : decode cX7_needElement 7 = .ok (.dup, 1) := by decide +kernel
theorem dX7_needElement_8 : decode cX7_needElement 8 = .ok (.ldc_w 337, 3) := by decide +kernel
theorem dX7_needElement_11 : decode cX7_needElement 11 = .ok (.invokespecial 339, 3) := by decide +kernel
theorem dX7_needElement_14 : decode cX7_needElement 14 = .ok (.athrow, 1) := by decide +kernel
theorem dX7_needElement_15 : decode cX7_needElement 15 = .ok (.return_, 1) := by decide +kernel
theorem dX7_throwFault_0 : decode cX7_throwFault 0 = .ok (.iload_n 0, 1) := by decide +kernel
theorem dX7_throwFault_1 : decode cX7_throwFault 1 = .ok (.tableswitch 75 1 4 #[31, 42, 53, 64], 31) := by decide +kernel
theorem dX7_throwFault_32 : decode cX7_throwFault 32 = .ok (.new 330, 3) := by decide +kernel
theorem dX7_throwFault_35 : decode cX7_throwFault 35 = .ok (.dup, 1) := by decide +kernel
theorem dX7_throwFault_36 : decode cX7_throwFault 36 = .ok (.ldc_w 332, 3) := by decide +kernel
theorem dX7_throwFault_39 : decode cX7_throwFault 39 = .ok (.invokespecial 334, 3) := by decide +kernel
theorem dX7_throwFault_42 : decode cX7_throwFault 42 = .ok (.athrow, 1) := by decide +kernel
theorem dX7_throwFault_43 : decode cX7_throwFault 43 = .ok (.new 275, 3) := by decide +kernel
theorem dX7_throwFault_46 : decode cX7_throwFault 46 = .ok (.dup, 1) := by decide +kernel
theorem dX7_throwFault_47 : decode cX7_throwFault 47 = .ok (.ldc_w 340, 3) := by decide +kernel
theorem dX7_throwFault_50 : decode cX7_throwFault 50 = .ok (.invokespecial 279, 3) := by decide +kernel
theorem dX7_throwFault_53 : decode cX7_throwFault 53 = .ok (.athrow, 1) := by decide +kernel
theorem dX7_throwFault_54 : decode cX7_throwFault 54 = .ok (.new 283, 3) := by decide +kernel
theorem dX7_throwFault_57 : decode cX7_throwFault 57 = .ok (.dup, 1) := by decide +kernel
theorem dX7_throwFault_58 : decode cX7_throwFault 58 = .ok (.ldc_w 342, 3) := by decide +kernel
theorem dX7_throwFault_61 : decode cX7_throwFault 61 = .ok (.invokespecial 287, 3) := by decide +kernel
theorem dX7_throwFault_64 : decode cX7_throwFault 64 = .ok (.athrow, 1) := by decide +kernel
theorem dX7_throwFault_65 : decode cX7_throwFault 65 = .ok (.new 344, 3) := by decide +kernel
theorem dX7_throwFault_68 : decode cX7_throwFault 68 = .ok (.dup, 1) := by decide +kernel
theorem dX7_throwFault_69 : decode cX7_throwFault 69 = .ok (.ldc_w 346, 3) := by decide +kernel
theorem dX7_throwFault_72 : decode cX7_throwFault 72 = .ok (.invokespecial 348, 3) := by decide +kernel
theorem dX7_throwFault_75 : decode cX7_throwFault 75 = .ok (.athrow, 1) := by decide +kernel
theorem dX7_throwFault_76 : decode cX7_throwFault 76 = .ok (.return_, 1) := by decide +kernel
theorem dX7_read_0 : decode cX7_read 0 = .ok (.iload_n 1, 1) := by decide +kernel
theorem dX7_read_1 : decode cX7_read 1 = .ok (.ifCond .lt 15, 3) := by decide +kernel
theorem dX7_read_4 : decode cX7_read 4 = .ok (.iload_n 1, 1) := by decide +kernel
theorem dX7_read_5 : decode cX7_read 5 = .ok (.aload_n 0, 1) := by decide +kernel
theorem dX7_read_6 : decode cX7_read 6 = .ok (.arraylength, 1) := by decide +kernel
theorem dX7_read_7 : decode cX7_read 7 = .ok (.if_icmp .ge 9, 3) := by decide +kernel
theorem dX7_read_10 : decode cX7_read 10 = .ok (.aload_n 0, 1) := by decide +kernel
theorem dX7_read_11 : decode cX7_read 11 = .ok (.iload_n 1, 1) := by decide +kernel
theorem dX7_read_12 : decode cX7_read 12 = .ok (.iaload, 1) := by decide +kernel
theorem dX7_read_13 : decode cX7_read 13 = .ok (.goto 4, 3) := by decide +kernel
theorem dX7_read_16 : decode cX7_read 16 = .ok (.iconst (-1), 1) := by decide +kernel
theorem dX7_read_17 : decode cX7_read 17 = .ok (.ireturn, 1) := by decide +kernel
theorem dX7_write_0 : decode cX7_write 0 = .ok (.iload_n 1, 1) := by decide +kernel
theorem dX7_write_1 : decode cX7_write 1 = .ok (.ifCond .lt 13, 3) := by decide +kernel
theorem dX7_write_4 : decode cX7_write 4 = .ok (.iload_n 1, 1) := by decide +kernel
theorem dX7_write_5 : decode cX7_write 5 = .ok (.aload_n 0, 1) := by decide +kernel
theorem dX7_write_6 : decode cX7_write 6 = .ok (.arraylength, 1) := by decide +kernel
theorem dX7_write_7 : decode cX7_write 7 = .ok (.if_icmp .ge 7, 3) := by decide +kernel
theorem dX7_write_10 : decode cX7_write 10 = .ok (.aload_n 0, 1) := by decide +kernel
theorem dX7_write_11 : decode cX7_write 11 = .ok (.iload_n 1, 1) := by decide +kernel
theorem dX7_write_12 : decode cX7_write 12 = .ok (.iload_n 2, 1) := by decide +kernel
theorem dX7_write_13 : decode cX7_write 13 = .ok (.iastore, 1) := by decide +kernel
theorem dX7_write_14 : decode cX7_write 14 = .ok (.return_, 1) := by decide +kernel
theorem dX7_copyRow_0 : decode cX7_copyRow 0 = .ok (.aload_n 0, 1) := by decide +kernel
theorem dX7_copyRow_1 : decode cX7_copyRow 1 = .ok (.iconst 0, 1) := by decide +kernel
theorem dX7_copyRow_2 : decode cX7_copyRow 2 = .ok (.aload_n 1, 1) := by decide +kernel
theorem dX7_copyRow_3 : decode cX7_copyRow 3 = .ok (.iconst 0, 1) := by decide +kernel
theorem dX7_copyRow_4 : decode cX7_copyRow 4 = .ok (.aload_n 0, 1) := by decide +kernel
theorem dX7_copyRow_5 : decode cX7_copyRow 5 = .ok (.arraylength, 1) := by decide +kernel
theorem dX7_copyRow_6 : decode cX7_copyRow 6 = .ok (.aload_n 1, 1) := by decide +kernel
theorem dX7_copyRow_7 : decode cX7_copyRow 7 = .ok (.arraylength, 1) := by decide +kernel
theorem dX7_copyRow_8 : decode cX7_copyRow 8 = .ok (.invokestatic 349, 3) := by decide +kernel
theorem dX7_copyRow_11 : decode cX7_copyRow 11 = .ok (.invokestatic 354, 3) := by decide +kernel
theorem dX7_copyRow_14 : decode cX7_copyRow 14 = .ok (.return_, 1) := by decide +kernel
theorem dX7_holds_0 : decode cX7_holds 0 = .ok (.iload_n 1, 1) := by decide +kernel
theorem dX7_holds_1 : decode cX7_holds 1 = .ok (.ifCond .lt 22, 3) := by decide +kernel
theorem dX7_holds_4 : decode cX7_holds 4 = .ok (.iload_n 1, 1) := by decide +kernel
theorem dX7_holds_5 : decode cX7_holds 5 = .ok (.bipush 16, 2) := by decide +kernel
theorem dX7_holds_7 : decode cX7_holds 7 = .ok (.if_icmp .ge 16, 3) := by decide +kernel
theorem dX7_holds_10 : decode cX7_holds 10 = .ok (.iload_n 0, 1) := by decide +kernel
theorem dX7_holds_11 : decode cX7_holds 11 = .ok (.iload_n 1, 1) := by decide +kernel
theorem dX7_holds_12 : decode cX7_holds 12 = .ok (.ishr, 1) := by decide +kernel
theorem dX7_holds_13 : decode cX7_holds 13 = .ok (.iconst 1, 1) := by decide +kernel
theorem dX7_holds_14 : decode cX7_holds 14 = .ok (.iand, 1) := by decide +kernel
theorem dX7_holds_15 : decode cX7_holds 15 = .ok (.iconst 1, 1) := by decide +kernel
theorem dX7_holds_16 : decode cX7_holds 16 = .ok (.if_icmp .ne 7, 3) := by decide +kernel
theorem dX7_holds_19 : decode cX7_holds 19 = .ok (.iconst 1, 1) := by decide +kernel
theorem dX7_holds_20 : decode cX7_holds 20 = .ok (.goto 4, 3) := by decide +kernel
theorem dX7_holds_23 : decode cX7_holds 23 = .ok (.iconst 0, 1) := by decide +kernel
theorem dX7_holds_24 : decode cX7_holds 24 = .ok (.ireturn, 1) := by decide +kernel
theorem dX7_memberAt_0 : decode cX7_memberAt 0 = .ok (.iload_n 1, 1) := by decide +kernel
theorem dX7_memberAt_1 : decode cX7_memberAt 1 = .ok (.istore_n 2, 1) := by decide +kernel
theorem dX7_memberAt_2 : decode cX7_memberAt 2 = .ok (.iconst 0, 1) := by decide +kernel
theorem dX7_memberAt_3 : decode cX7_memberAt 3 = .ok (.istore_n 3, 1) := by decide +kernel
theorem dX7_memberAt_4 : decode cX7_memberAt 4 = .ok (.iload_n 3, 1) := by decide +kernel
theorem dX7_memberAt_5 : decode cX7_memberAt 5 = .ok (.bipush 16, 2) := by decide +kernel
theorem dX7_memberAt_7 : decode cX7_memberAt 7 = .ok (.if_icmp .ge 26, 3) := by decide +kernel
theorem dX7_memberAt_10 : decode cX7_memberAt 10 = .ok (.iload_n 0, 1) := by decide +kernel
theorem dX7_memberAt_11 : decode cX7_memberAt 11 = .ok (.iload_n 3, 1) := by decide +kernel
theorem dX7_memberAt_12 : decode cX7_memberAt 12 = .ok (.invokestatic 133, 3) := by decide +kernel
theorem dX7_memberAt_15 : decode cX7_memberAt 15 = .ok (.ifCond .eq 12, 3) := by decide +kernel
theorem dX7_memberAt_18 : decode cX7_memberAt 18 = .ok (.iload_n 2, 1) := by decide +kernel
theorem dX7_memberAt_19 : decode cX7_memberAt 19 = .ok (.ifCond .ne 5, 3) := by decide +kernel
theorem dX7_memberAt_22 : decode cX7_memberAt 22 = .ok (.iload_n 3, 1) := by decide +kernel
theorem dX7_memberAt_23 : decode cX7_memberAt 23 = .ok (.ireturn, 1) := by decide +kernel
theorem dX7_memberAt_24 : decode cX7_memberAt 24 = .ok (.iinc 2 (-1), 3) := by decide +kernel
theorem dX7_memberAt_27 : decode cX7_memberAt 27 = .ok (.iinc 3 1, 3) := by decide +kernel
theorem dX7_memberAt_30 : decode cX7_memberAt 30 = .ok (.goto (-26), 3) := by decide +kernel
theorem dX7_memberAt_33 : decode cX7_memberAt 33 = .ok (.iconst (-1), 1) := by decide +kernel
theorem dX7_memberAt_34 : decode cX7_memberAt 34 = .ok (.ireturn, 1) := by decide +kernel

theorem dX0_init_0 : decode cX0_init 0 = .ok (.aload_n 0, 1) := by decide +kernel
theorem dX0_init_1 : decode cX0_init 1 = .ok (.invokespecial 1, 3) := by decide +kernel
theorem dX0_init_4 : decode cX0_init 4 = .ok (.aload_n 0, 1) := by decide +kernel
theorem dX0_init_5 : decode cX0_init 5 = .ok (.ldc2_w 9, 3) := by decide +kernel
theorem dX0_init_8 : decode cX0_init 8 = .ok (.putfield 11, 3) := by decide +kernel
theorem dX0_init_11 : decode cX0_init 11 = .ok (.return_, 1) := by decide +kernel
theorem dX0_reset_0 : decode cX0_reset 0 = .ok (.aload_n 0, 1) := by decide +kernel
theorem dX0_reset_1 : decode cX0_reset 1 = .ok (.lconst 0, 1) := by decide +kernel
theorem dX0_reset_2 : decode cX0_reset 2 = .ok (.putfield 15, 3) := by decide +kernel
theorem dX0_reset_5 : decode cX0_reset 5 = .ok (.aload_n 0, 1) := by decide +kernel
theorem dX0_reset_6 : decode cX0_reset 6 = .ok (.ldc2_w 9, 3) := by decide +kernel
theorem dX0_reset_9 : decode cX0_reset 9 = .ok (.putfield 11, 3) := by decide +kernel
theorem dX0_reset_12 : decode cX0_reset 12 = .ok (.return_, 1) := by decide +kernel
theorem dX0_middle_0 : decode cX0_middle 0 = .ok (.aload_n 0, 1) := by decide +kernel
theorem dX0_middle_1 : decode cX0_middle 1 = .ok (.getfield 15, 3) := by decide +kernel
theorem dX0_middle_4 : decode cX0_middle 4 = .ok (.aload_n 0, 1) := by decide +kernel
theorem dX0_middle_5 : decode cX0_middle 5 = .ok (.getfield 11, 3) := by decide +kernel
theorem dX0_middle_8 : decode cX0_middle 8 = .ok (.aload_n 0, 1) := by decide +kernel
theorem dX0_middle_9 : decode cX0_middle 9 = .ok (.getfield 15, 3) := by decide +kernel
theorem dX0_middle_12 : decode cX0_middle 12 = .ok (.lsub, 1) := by decide +kernel
theorem dX0_middle_13 : decode cX0_middle 13 = .ok (.bipush 12, 2) := by decide +kernel
theorem dX0_middle_15 : decode cX0_middle 15 = .ok (.lshr, 1) := by decide +kernel
theorem dX0_middle_16 : decode cX0_middle 16 = .ok (.iload_n 1, 1) := by decide +kernel
theorem dX0_middle_17 : decode cX0_middle 17 = .ok (.i2l, 1) := by decide +kernel
theorem dX0_middle_18 : decode cX0_middle 18 = .ok (.lmul, 1) := by decide +kernel
theorem dX0_middle_19 : decode cX0_middle 19 = .ok (.ladd, 1) := by decide +kernel
theorem dX0_middle_20 : decode cX0_middle 20 = .ok (.lreturn, 1) := by decide +kernel
theorem dX0_narrow_0 : decode cX0_narrow 0 = .ok (.iload_n 1, 1) := by decide +kernel
theorem dX0_narrow_1 : decode cX0_narrow 1 = .ok (.ifCond .eq 11, 3) := by decide +kernel
theorem dX0_narrow_4 : decode cX0_narrow 4 = .ok (.aload_n 0, 1) := by decide +kernel
theorem dX0_narrow_5 : decode cX0_narrow 5 = .ok (.lload_n 2, 1) := by decide +kernel
theorem dX0_narrow_6 : decode cX0_narrow 6 = .ok (.putfield 11, 3) := by decide +kernel
theorem dX0_narrow_9 : decode cX0_narrow 9 = .ok (.goto 10, 3) := by decide +kernel
theorem dX0_narrow_12 : decode cX0_narrow 12 = .ok (.aload_n 0, 1) := by decide +kernel
theorem dX0_narrow_13 : decode cX0_narrow 13 = .ok (.lload_n 2, 1) := by decide +kernel
theorem dX0_narrow_14 : decode cX0_narrow 14 = .ok (.lconst 1, 1) := by decide +kernel
theorem dX0_narrow_15 : decode cX0_narrow 15 = .ok (.ladd, 1) := by decide +kernel
theorem dX0_narrow_16 : decode cX0_narrow 16 = .ok (.putfield 15, 3) := by decide +kernel
theorem dX0_narrow_19 : decode cX0_narrow 19 = .ok (.return_, 1) := by decide +kernel
theorem dX0_settled_0 : decode cX0_settled 0 = .ok (.aload_n 0, 1) := by decide +kernel
theorem dX0_settled_1 : decode cX0_settled 1 = .ok (.getfield 15, 3) := by decide +kernel
theorem dX0_settled_4 : decode cX0_settled 4 = .ok (.bipush 24, 2) := by decide +kernel
theorem dX0_settled_6 : decode cX0_settled 6 = .ok (.lshr, 1) := by decide +kernel
theorem dX0_settled_7 : decode cX0_settled 7 = .ok (.aload_n 0, 1) := by decide +kernel
theorem dX0_settled_8 : decode cX0_settled 8 = .ok (.getfield 11, 3) := by decide +kernel
theorem dX0_settled_11 : decode cX0_settled 11 = .ok (.bipush 24, 2) := by decide +kernel
theorem dX0_settled_13 : decode cX0_settled 13 = .ok (.lshr, 1) := by decide +kernel
theorem dX0_settled_14 : decode cX0_settled 14 = .ok (.lcmp, 1) := by decide +kernel
theorem dX0_settled_15 : decode cX0_settled 15 = .ok (.ifCond .ne 7, 3) := by decide +kernel
theorem dX0_settled_18 : decode cX0_settled 18 = .ok (.iconst 1, 1) := by decide +kernel
theorem dX0_settled_19 : decode cX0_settled 19 = .ok (.goto 4, 3) := by decide +kernel
theorem dX0_settled_22 : decode cX0_settled 22 = .ok (.iconst 0, 1) := by decide +kernel
theorem dX0_settled_23 : decode cX0_settled 23 = .ok (.ireturn, 1) := by decide +kernel
theorem dX0_highestOfLow_0 : decode cX0_highestOfLow 0 = .ok (.aload_n 0, 1) := by decide +kernel
theorem dX0_highestOfLow_1 : decode cX0_highestOfLow 1 = .ok (.getfield 15, 3) := by decide +kernel
theorem dX0_highestOfLow_4 : decode cX0_highestOfLow 4 = .ok (.bipush 24, 2) := by decide +kernel
theorem dX0_highestOfLow_6 : decode cX0_highestOfLow 6 = .ok (.lshr, 1) := by decide +kernel
theorem dX0_highestOfLow_7 : decode cX0_highestOfLow 7 = .ok (.l2i, 1) := by decide +kernel
theorem dX0_highestOfLow_8 : decode cX0_highestOfLow 8 = .ok (.sipush 255, 3) := by decide +kernel
theorem dX0_highestOfLow_11 : decode cX0_highestOfLow 11 = .ok (.iand, 1) := by decide +kernel
theorem dX0_highestOfLow_12 : decode cX0_highestOfLow 12 = .ok (.ireturn, 1) := by decide +kernel
theorem dX0_shift_0 : decode cX0_shift 0 = .ok (.aload_n 0, 1) := by decide +kernel
theorem dX0_shift_1 : decode cX0_shift 1 = .ok (.aload_n 0, 1) := by decide +kernel
theorem dX0_shift_2 : decode cX0_shift 2 = .ok (.getfield 15, 3) := by decide +kernel
theorem dX0_shift_5 : decode cX0_shift 5 = .ok (.bipush 8, 2) := by decide +kernel
theorem dX0_shift_7 : decode cX0_shift 7 = .ok (.lshl, 1) := by decide +kernel
theorem dX0_shift_8 : decode cX0_shift 8 = .ok (.ldc2_w 9, 3) := by decide +kernel
theorem dX0_shift_11 : decode cX0_shift 11 = .ok (.land, 1) := by decide +kernel
theorem dX0_shift_12 : decode cX0_shift 12 = .ok (.putfield 15, 3) := by decide +kernel
theorem dX0_shift_15 : decode cX0_shift 15 = .ok (.aload_n 0, 1) := by decide +kernel
theorem dX0_shift_16 : decode cX0_shift 16 = .ok (.aload_n 0, 1) := by decide +kernel
theorem dX0_shift_17 : decode cX0_shift 17 = .ok (.getfield 11, 3) := by decide +kernel
theorem dX0_shift_20 : decode cX0_shift 20 = .ok (.bipush 8, 2) := by decide +kernel
theorem dX0_shift_22 : decode cX0_shift 22 = .ok (.lshl, 1) := by decide +kernel
theorem dX0_shift_23 : decode cX0_shift 23 = .ok (.ldc2_w 9, 3) := by decide +kernel
theorem dX0_shift_26 : decode cX0_shift 26 = .ok (.land, 1) := by decide +kernel
theorem dX0_shift_27 : decode cX0_shift 27 = .ok (.ldc2_w 18, 3) := by decide +kernel
theorem dX0_shift_30 : decode cX0_shift 30 = .ok (.lor, 1) := by decide +kernel
theorem dX0_shift_31 : decode cX0_shift 31 = .ok (.putfield 11, 3) := by decide +kernel
theorem dX0_shift_34 : decode cX0_shift 34 = .ok (.return_, 1) := by decide +kernel
theorem dX1_init_0 : decode cX1_init 0 = .ok (.aload_n 0, 1) := by decide +kernel
theorem dX1_init_1 : decode cX1_init 1 = .ok (.invokespecial 1, 3) := by decide +kernel
theorem dX1_init_4 : decode cX1_init 4 = .ok (.aload_n 0, 1) := by decide +kernel
theorem dX1_init_5 : decode cX1_init 5 = .ok (.sipush 8448, 3) := by decide +kernel
theorem dX1_init_8 : decode cX1_init 8 = .ok (.newarray .int, 2) := by decide +kernel
theorem dX1_init_10 : decode cX1_init 10 = .ok (.putfield 9, 3) := by decide +kernel
theorem dX1_init_13 : decode cX1_init 13 = .ok (.aload_n 0, 1) := by decide +kernel
theorem dX1_init_14 : decode cX1_init 14 = .ok (.getfield 9, 3) := by decide +kernel
theorem dX1_init_17 : decode cX1_init 17 = .ok (.invokestatic 13, 3) := by decide +kernel
theorem dX1_init_20 : decode cX1_init 20 = .ok (.return_, 1) := by decide +kernel
theorem dX1_reset_0 : decode cX1_reset 0 = .ok (.aload_n 0, 1) := by decide +kernel
theorem dX1_reset_1 : decode cX1_reset 1 = .ok (.getfield 9, 3) := by decide +kernel
theorem dX1_reset_4 : decode cX1_reset 4 = .ok (.invokestatic 13, 3) := by decide +kernel
theorem dX1_reset_7 : decode cX1_reset 7 = .ok (.return_, 1) := by decide +kernel
theorem dX1_fill_0 : decode cX1_fill 0 = .ok (.iconst 0, 1) := by decide +kernel
theorem dX1_fill_1 : decode cX1_fill 1 = .ok (.istore_n 1, 1) := by decide +kernel
theorem dX1_fill_2 : decode cX1_fill 2 = .ok (.iload_n 1, 1) := by decide +kernel
theorem dX1_fill_3 : decode cX1_fill 3 = .ok (.bipush 33, 2) := by decide +kernel
theorem dX1_fill_5 : decode cX1_fill 5 = .ok (.if_icmp .ge 32, 3) := by decide +kernel
theorem dX1_fill_8 : decode cX1_fill 8 = .ok (.iload_n 1, 1) := by decide +kernel
theorem dX1_fill_9 : decode cX1_fill 9 = .ok (.aload_n 0, 1) := by decide +kernel
theorem dX1_fill_10 : decode cX1_fill 10 = .ok (.arraylength, 1) := by decide +kernel
theorem dX1_fill_11 : decode cX1_fill 11 = .ok (.if_icmp .ge 26, 3) := by decide +kernel
theorem dX1_fill_14 : decode cX1_fill 14 = .ok (.aload_n 0, 1) := by decide +kernel
theorem dX1_fill_15 : decode cX1_fill 15 = .ok (.iload_n 1, 1) := by decide +kernel
theorem dX1_fill_16 : decode cX1_fill 16 = .ok (.iload_n 1, 1) := by decide +kernel
theorem dX1_fill_17 : decode cX1_fill 17 = .ok (.bipush 16, 2) := by decide +kernel
theorem dX1_fill_19 : decode cX1_fill 19 = .ok (.isub, 1) := by decide +kernel
theorem dX1_fill_20 : decode cX1_fill 20 = .ok (.sipush 128, 3) := by decide +kernel
theorem dX1_fill_23 : decode cX1_fill 23 = .ok (.imul, 1) := by decide +kernel
theorem dX1_fill_24 : decode cX1_fill 24 = .ok (.invokestatic 17, 3) := by decide +kernel
theorem dX1_fill_27 : decode cX1_fill 27 = .ok (.bipush 16, 2) := by decide +kernel
theorem dX1_fill_29 : decode cX1_fill 29 = .ok (.imul, 1) := by decide +kernel
theorem dX1_fill_30 : decode cX1_fill 30 = .ok (.iastore, 1) := by decide +kernel
theorem dX1_fill_31 : decode cX1_fill 31 = .ok (.iinc 1 1, 3) := by decide +kernel
theorem dX1_fill_34 : decode cX1_fill 34 = .ok (.goto (-32), 3) := by decide +kernel
theorem dX1_fill_37 : decode cX1_fill 37 = .ok (.bipush 33, 2) := by decide +kernel
theorem dX1_fill_39 : decode cX1_fill 39 = .ok (.istore_n 1, 1) := by decide +kernel
theorem dX1_fill_40 : decode cX1_fill 40 = .ok (.iload_n 1, 1) := by decide +kernel
theorem dX1_fill_41 : decode cX1_fill 41 = .ok (.bipush 33, 2) := by decide +kernel
theorem dX1_fill_43 : decode cX1_fill 43 = .ok (.iadd, 1) := by decide +kernel
theorem dX1_fill_44 : decode cX1_fill 44 = .ok (.aload_n 0, 1) := by decide +kernel
theorem dX1_fill_45 : decode cX1_fill 45 = .ok (.arraylength, 1) := by decide +kernel
theorem dX1_fill_46 : decode cX1_fill 46 = .ok (.if_icmp .gt 18, 3) := by decide +kernel
theorem dX1_fill_49 : decode cX1_fill 49 = .ok (.aload_n 0, 1) := by decide +kernel
theorem dX1_fill_50 : decode cX1_fill 50 = .ok (.iconst 0, 1) := by decide +kernel
theorem dX1_fill_51 : decode cX1_fill 51 = .ok (.aload_n 0, 1) := by decide +kernel
theorem dX1_fill_52 : decode cX1_fill 52 = .ok (.iload_n 1, 1) := by decide +kernel
theorem dX1_fill_53 : decode cX1_fill 53 = .ok (.bipush 33, 2) := by decide +kernel
theorem dX1_fill_55 : decode cX1_fill 55 = .ok (.invokestatic 23, 3) := by decide +kernel
theorem dX1_fill_58 : decode cX1_fill 58 = .ok (.iinc 1 33, 3) := by decide +kernel
theorem dX1_fill_61 : decode cX1_fill 61 = .ok (.goto (-21), 3) := by decide +kernel
theorem dX1_fill_64 : decode cX1_fill 64 = .ok (.return_, 1) := by decide +kernel
theorem dX1_has_0 : decode cX1_has 0 = .ok (.iload_n 0, 1) := by decide +kernel
theorem dX1_has_1 : decode cX1_has 1 = .ok (.ifCond .lt 24, 3) := by decide +kernel
theorem dX1_has_4 : decode cX1_has 4 = .ok (.iload_n 0, 1) := by decide +kernel
theorem dX1_has_5 : decode cX1_has 5 = .ok (.sipush 256, 3) := by decide +kernel
theorem dX1_has_8 : decode cX1_has 8 = .ok (.if_icmp .ge 17, 3) := by decide +kernel
theorem dX1_has_11 : decode cX1_has 11 = .ok (.iload_n 1, 1) := by decide +kernel
theorem dX1_has_12 : decode cX1_has 12 = .ok (.ifCond .lt 13, 3) := by decide +kernel
theorem dX1_has_15 : decode cX1_has 15 = .ok (.iload_n 1, 1) := by decide +kernel
theorem dX1_has_16 : decode cX1_has 16 = .ok (.bipush 33, 2) := by decide +kernel
theorem dX1_has_18 : decode cX1_has 18 = .ok (.if_icmp .ge 7, 3) := by decide +kernel
theorem dX1_has_21 : decode cX1_has 21 = .ok (.iconst 1, 1) := by decide +kernel
theorem dX1_has_22 : decode cX1_has 22 = .ok (.goto 4, 3) := by decide +kernel
theorem dX1_has_25 : decode cX1_has 25 = .ok (.iconst 0, 1) := by decide +kernel
theorem dX1_has_26 : decode cX1_has 26 = .ok (.ireturn, 1) := by decide +kernel
theorem dX1_cellAt_0 : decode cX1_cellAt 0 = .ok (.iload_n 1, 1) := by decide +kernel
theorem dX1_cellAt_1 : decode cX1_cellAt 1 = .ok (.iload_n 2, 1) := by decide +kernel
theorem dX1_cellAt_2 : decode cX1_cellAt 2 = .ok (.invokestatic 29, 3) := by decide +kernel
theorem dX1_cellAt_5 : decode cX1_cellAt 5 = .ok (.ifCond .eq 17, 3) := by decide +kernel
theorem dX1_cellAt_8 : decode cX1_cellAt 8 = .ok (.aload_n 0, 1) := by decide +kernel
theorem dX1_cellAt_9 : decode cX1_cellAt 9 = .ok (.getfield 9, 3) := by decide +kernel
theorem dX1_cellAt_12 : decode cX1_cellAt 12 = .ok (.iload_n 1, 1) := by decide +kernel
theorem dX1_cellAt_13 : decode cX1_cellAt 13 = .ok (.bipush 33, 2) := by decide +kernel
theorem dX1_cellAt_15 : decode cX1_cellAt 15 = .ok (.imul, 1) := by decide +kernel
theorem dX1_cellAt_16 : decode cX1_cellAt 16 = .ok (.iload_n 2, 1) := by decide +kernel
theorem dX1_cellAt_17 : decode cX1_cellAt 17 = .ok (.iadd, 1) := by decide +kernel
theorem dX1_cellAt_18 : decode cX1_cellAt 18 = .ok (.iaload, 1) := by decide +kernel
theorem dX1_cellAt_19 : decode cX1_cellAt 19 = .ok (.goto 4, 3) := by decide +kernel
theorem dX1_cellAt_22 : decode cX1_cellAt 22 = .ok (.iconst 0, 1) := by decide +kernel
theorem dX1_cellAt_23 : decode cX1_cellAt 23 = .ok (.ireturn, 1) := by decide +kernel
theorem dX1_correct_0 : decode cX1_correct 0 = .ok (.iload_n 2, 1) := by decide +kernel
theorem dX1_correct_1 : decode cX1_correct 1 = .ok (.sipush 2048, 3) := by decide +kernel
theorem dX1_correct_4 : decode cX1_correct 4 = .ok (.iadd, 1) := by decide +kernel
theorem dX1_correct_5 : decode cX1_correct 5 = .ok (.istore_n 3, 1) := by decide +kernel
theorem dX1_correct_6 : decode cX1_correct 6 = .ok (.iload_n 3, 1) := by decide +kernel
theorem dX1_correct_7 : decode cX1_correct 7 = .ok (.bipush 7, 2) := by decide +kernel
theorem dX1_correct_9 : decode cX1_correct 9 = .ok (.ishr, 1) := by decide +kernel
theorem dX1_correct_10 : decode cX1_correct 10 = .ok (.istore 4, 2) := by decide +kernel
theorem dX1_correct_12 : decode cX1_correct 12 = .ok (.iload_n 3, 1) := by decide +kernel
theorem dX1_correct_13 : decode cX1_correct 13 = .ok (.bipush 127, 2) := by decide +kernel
theorem dX1_correct_15 : decode cX1_correct 15 = .ok (.iand, 1) := by decide +kernel
theorem dX1_correct_16 : decode cX1_correct 16 = .ok (.istore 5, 2) := by decide +kernel
theorem dX1_correct_18 : decode cX1_correct 18 = .ok (.aload_n 0, 1) := by decide +kernel
theorem dX1_correct_19 : decode cX1_correct 19 = .ok (.iload_n 1, 1) := by decide +kernel
theorem dX1_correct_20 : decode cX1_correct 20 = .ok (.bipush 33, 2) := by decide +kernel
theorem dX1_correct_22 : decode cX1_correct 22 = .ok (.imul, 1) := by decide +kernel
theorem dX1_correct_23 : decode cX1_correct 23 = .ok (.iload 5, 2) := by decide +kernel
theorem dX1_correct_25 : decode cX1_correct 25 = .ok (.bipush 64, 2) := by decide +kernel
theorem dX1_correct_27 : decode cX1_correct 27 = .ok (.if_icmp .lt 10, 3) := by decide +kernel
theorem dX1_correct_30 : decode cX1_correct 30 = .ok (.iload 4, 2) := by decide +kernel
theorem dX1_correct_32 : decode cX1_correct 32 = .ok (.iconst 1, 1) := by decide +kernel
theorem dX1_correct_33 : decode cX1_correct 33 = .ok (.iadd, 1) := by decide +kernel
theorem dX1_correct_34 : decode cX1_correct 34 = .ok (.goto 5, 3) := by decide +kernel
theorem dX1_correct_37 : decode cX1_correct 37 = .ok (.iload 4, 2) := by decide +kernel
theorem dX1_correct_39 : decode cX1_correct 39 = .ok (.iadd, 1) := by decide +kernel
theorem dX1_correct_40 : decode cX1_correct 40 = .ok (.iconst 0, 1) := by decide +kernel
theorem dX1_correct_41 : decode cX1_correct 41 = .ok (.aload_n 0, 1) := by decide +kernel
theorem dX1_correct_42 : decode cX1_correct 42 = .ok (.getfield 9, 3) := by decide +kernel
theorem dX1_correct_45 : decode cX1_correct 45 = .ok (.arraylength, 1) := by decide +kernel
theorem dX1_correct_46 : decode cX1_correct 46 = .ok (.iconst 1, 1) := by decide +kernel
theorem dX1_correct_47 : decode cX1_correct 47 = .ok (.isub, 1) := by decide +kernel
theorem dX1_correct_48 : decode cX1_correct 48 = .ok (.invokestatic 33, 3) := by decide +kernel
theorem dX1_correct_51 : decode cX1_correct 51 = .ok (.putfield 37, 3) := by decide +kernel
theorem dX1_correct_54 : decode cX1_correct 54 = .ok (.aload_n 0, 1) := by decide +kernel
theorem dX1_correct_55 : decode cX1_correct 55 = .ok (.iload_n 1, 1) := by decide +kernel
theorem dX1_correct_56 : decode cX1_correct 56 = .ok (.iload 4, 2) := by decide +kernel
theorem dX1_correct_58 : decode cX1_correct 58 = .ok (.invokevirtual 41, 3) := by decide +kernel
theorem dX1_correct_61 : decode cX1_correct 61 = .ok (.sipush 128, 3) := by decide +kernel
theorem dX1_correct_64 : decode cX1_correct 64 = .ok (.iload 5, 2) := by decide +kernel
theorem dX1_correct_66 : decode cX1_correct 66 = .ok (.isub, 1) := by decide +kernel
theorem dX1_correct_67 : decode cX1_correct 67 = .ok (.imul, 1) := by decide +kernel
theorem dX1_correct_68 : decode cX1_correct 68 = .ok (.aload_n 0, 1) := by decide +kernel
theorem dX1_correct_69 : decode cX1_correct 69 = .ok (.iload_n 1, 1) := by decide +kernel
theorem dX1_correct_70 : decode cX1_correct 70 = .ok (.iload 4, 2) := by decide +kernel
theorem dX1_correct_72 : decode cX1_correct 72 = .ok (.iconst 1, 1) := by decide +kernel
theorem dX1_correct_73 : decode cX1_correct 73 = .ok (.iadd, 1) := by decide +kernel
theorem dX1_correct_74 : decode cX1_correct 74 = .ok (.invokevirtual 41, 3) := by decide +kernel
theorem dX1_correct_77 : decode cX1_correct 77 = .ok (.iload 5, 2) := by decide +kernel
theorem dX1_correct_79 : decode cX1_correct 79 = .ok (.imul, 1) := by decide +kernel
theorem dX1_correct_80 : decode cX1_correct 80 = .ok (.iadd, 1) := by decide +kernel
theorem dX1_correct_81 : decode cX1_correct 81 = .ok (.bipush 11, 2) := by decide +kernel
theorem dX1_correct_83 : decode cX1_correct 83 = .ok (.ishr, 1) := by decide +kernel
theorem dX1_correct_84 : decode cX1_correct 84 = .ok (.ireturn, 1) := by decide +kernel
theorem dX1_learn_0 : decode cX1_learn 0 = .ok (.aload_n 0, 1) := by decide +kernel
theorem dX1_learn_1 : decode cX1_learn 1 = .ok (.getfield 9, 3) := by decide +kernel
theorem dX1_learn_4 : decode cX1_learn 4 = .ok (.aload_n 0, 1) := by decide +kernel
theorem dX1_learn_5 : decode cX1_learn 5 = .ok (.getfield 37, 3) := by decide +kernel
theorem dX1_learn_8 : decode cX1_learn 8 = .ok (.dup2, 1) := by decide +kernel
theorem dX1_learn_9 : decode cX1_learn 9 = .ok (.iaload, 1) := by decide +kernel
theorem dX1_learn_10 : decode cX1_learn 10 = .ok (.iload_n 1, 1) := by decide +kernel
theorem dX1_learn_11 : decode cX1_learn 11 = .ok (.ifCond .eq 8, 3) := by decide +kernel
theorem dX1_learn_14 : decode cX1_learn 14 = .ok (.ldc 45, 2) := by decide +kernel
theorem dX1_learn_16 : decode cX1_learn 16 = .ok (.goto 4, 3) := by decide +kernel
theorem dX1_learn_19 : decode cX1_learn 19 = .ok (.iconst 0, 1) := by decide +kernel
theorem dX1_learn_20 : decode cX1_learn 20 = .ok (.aload_n 0, 1) := by decide +kernel
theorem dX1_learn_21 : decode cX1_learn 21 = .ok (.getfield 9, 3) := by decide +kernel
theorem dX1_learn_24 : decode cX1_learn 24 = .ok (.aload_n 0, 1) := by decide +kernel
theorem dX1_learn_25 : decode cX1_learn 25 = .ok (.getfield 37, 3) := by decide +kernel
theorem dX1_learn_28 : decode cX1_learn 28 = .ok (.iaload, 1) := by decide +kernel
theorem dX1_learn_29 : decode cX1_learn 29 = .ok (.isub, 1) := by decide +kernel
theorem dX1_learn_30 : decode cX1_learn 30 = .ok (.bipush 7, 2) := by decide +kernel
theorem dX1_learn_32 : decode cX1_learn 32 = .ok (.ishr, 1) := by decide +kernel
theorem dX1_learn_33 : decode cX1_learn 33 = .ok (.iadd, 1) := by decide +kernel
theorem dX1_learn_34 : decode cX1_learn 34 = .ok (.iastore, 1) := by decide +kernel
theorem dX1_learn_35 : decode cX1_learn 35 = .ok (.return_, 1) := by decide +kernel
theorem dX2_init_0 : decode cX2_init 0 = .ok (.aload_n 0, 1) := by decide +kernel
theorem dX2_init_1 : decode cX2_init 1 = .ok (.invokespecial 3, 3) := by decide +kernel
theorem dX2_init_4 : decode cX2_init 4 = .ok (.aload_n 0, 1) := by decide +kernel
theorem dX2_init_5 : decode cX2_init 5 = .ok (.sipush 2000, 3) := by decide +kernel
theorem dX2_init_8 : decode cX2_init 8 = .ok (.newarray .int, 2) := by decide +kernel
theorem dX2_init_10 : decode cX2_init 10 = .ok (.putfield 9, 3) := by decide +kernel
theorem dX2_init_13 : decode cX2_init 13 = .ok (.aload_n 0, 1) := by decide +kernel
theorem dX2_init_14 : decode cX2_init 14 = .ok (.iconst 1, 1) := by decide +kernel
theorem dX2_init_15 : decode cX2_init 15 = .ok (.putfield 15, 3) := by decide +kernel
theorem dX2_init_18 : decode cX2_init 18 = .ok (.return_, 1) := by decide +kernel
theorem dX2_reset_0 : decode cX2_reset 0 = .ok (.aload_n 0, 1) := by decide +kernel
theorem dX2_reset_1 : decode cX2_reset 1 = .ok (.iconst 0, 1) := by decide +kernel
theorem dX2_reset_2 : decode cX2_reset 2 = .ok (.putfield 19, 3) := by decide +kernel
theorem dX2_reset_5 : decode cX2_reset 5 = .ok (.aload_n 0, 1) := by decide +kernel
theorem dX2_reset_6 : decode cX2_reset 6 = .ok (.iconst 1, 1) := by decide +kernel
theorem dX2_reset_7 : decode cX2_reset 7 = .ok (.putfield 15, 3) := by decide +kernel
theorem dX2_reset_10 : decode cX2_reset 10 = .ok (.aload_n 0, 1) := by decide +kernel
theorem dX2_reset_11 : decode cX2_reset 11 = .ok (.iconst 0, 1) := by decide +kernel
theorem dX2_reset_12 : decode cX2_reset 12 = .ok (.putfield 22, 3) := by decide +kernel
theorem dX2_reset_15 : decode cX2_reset 15 = .ok (.return_, 1) := by decide +kernel
theorem dX2_begun_0 : decode cX2_begun 0 = .ok (.aload_n 0, 1) := by decide +kernel
theorem dX2_begun_1 : decode cX2_begun 1 = .ok (.getfield 19, 3) := by decide +kernel
theorem dX2_begun_4 : decode cX2_begun 4 = .ok (.ifCond .gt 10, 3) := by decide +kernel
theorem dX2_begun_7 : decode cX2_begun 7 = .ok (.aload_n 0, 1) := by decide +kernel
theorem dX2_begun_8 : decode cX2_begun 8 = .ok (.getfield 22, 3) := by decide +kernel
theorem dX2_begun_11 : decode cX2_begun 11 = .ok (.ifCond .le 7, 3) := by decide +kernel
theorem dX2_begun_14 : decode cX2_begun 14 = .ok (.iconst 1, 1) := by decide +kernel
theorem dX2_begun_15 : decode cX2_begun 15 = .ok (.goto 4, 3) := by decide +kernel
theorem dX2_begun_18 : decode cX2_begun 18 = .ok (.iconst 0, 1) := by decide +kernel
theorem dX2_begun_19 : decode cX2_begun 19 = .ok (.ireturn, 1) := by decide +kernel
theorem dX2_byteAt_0 : decode cX2_byteAt 0 = .ok (.iload_n 1, 1) := by decide +kernel
theorem dX2_byteAt_1 : decode cX2_byteAt 1 = .ok (.ifCond .lt 20, 3) := by decide +kernel
theorem dX2_byteAt_4 : decode cX2_byteAt 4 = .ok (.iload_n 1, 1) := by decide +kernel
theorem dX2_byteAt_5 : decode cX2_byteAt 5 = .ok (.aload_n 0, 1) := by decide +kernel
theorem dX2_byteAt_6 : decode cX2_byteAt 6 = .ok (.getfield 19, 3) := by decide +kernel
theorem dX2_byteAt_9 : decode cX2_byteAt 9 = .ok (.if_icmp .ge 12, 3) := by decide +kernel
theorem dX2_byteAt_12 : decode cX2_byteAt 12 = .ok (.aload_n 0, 1) := by decide +kernel
theorem dX2_byteAt_13 : decode cX2_byteAt 13 = .ok (.getfield 9, 3) := by decide +kernel
theorem dX2_byteAt_16 : decode cX2_byteAt 16 = .ok (.iload_n 1, 1) := by decide +kernel
theorem dX2_byteAt_17 : decode cX2_byteAt 17 = .ok (.iaload, 1) := by decide +kernel
theorem dX2_byteAt_18 : decode cX2_byteAt 18 = .ok (.goto 4, 3) := by decide +kernel
theorem dX2_byteAt_21 : decode cX2_byteAt 21 = .ok (.iconst 0, 1) := by decide +kernel
theorem dX2_byteAt_22 : decode cX2_byteAt 22 = .ok (.ireturn, 1) := by decide +kernel
theorem dX2_back_0 : decode cX2_back 0 = .ok (.aload_n 0, 1) := by decide +kernel
theorem dX2_back_1 : decode cX2_back 1 = .ok (.getfield 19, 3) := by decide +kernel
theorem dX2_back_4 : decode cX2_back 4 = .ok (.iload_n 1, 1) := by decide +kernel
theorem dX2_back_5 : decode cX2_back 5 = .ok (.isub, 1) := by decide +kernel
theorem dX2_back_6 : decode cX2_back 6 = .ok (.istore_n 2, 1) := by decide +kernel
theorem dX2_back_7 : decode cX2_back 7 = .ok (.iload_n 2, 1) := by decide +kernel
theorem dX2_back_8 : decode cX2_back 8 = .ok (.ifCond .lt 20, 3) := by decide +kernel
theorem dX2_back_11 : decode cX2_back 11 = .ok (.iload_n 2, 1) := by decide +kernel
theorem dX2_back_12 : decode cX2_back 12 = .ok (.aload_n 0, 1) := by decide +kernel
theorem dX2_back_13 : decode cX2_back 13 = .ok (.getfield 19, 3) := by decide +kernel
theorem dX2_back_16 : decode cX2_back 16 = .ok (.if_icmp .ge 12, 3) := by decide +kernel
theorem dX2_back_19 : decode cX2_back 19 = .ok (.aload_n 0, 1) := by decide +kernel
theorem dX2_back_20 : decode cX2_back 20 = .ok (.getfield 9, 3) := by decide +kernel
theorem dX2_back_23 : decode cX2_back 23 = .ok (.iload_n 2, 1) := by decide +kernel
theorem dX2_back_24 : decode cX2_back 24 = .ok (.iaload, 1) := by decide +kernel
theorem dX2_back_25 : decode cX2_back 25 = .ok (.goto 4, 3) := by decide +kernel
theorem dX2_back_28 : decode cX2_back 28 = .ok (.iconst 0, 1) := by decide +kernel
theorem dX2_back_29 : decode cX2_back 29 = .ok (.ireturn, 1) := by decide +kernel
theorem dX2_add_0 : decode cX2_add 0 = .ok (.aload_n 0, 1) := by decide +kernel
theorem dX2_add_1 : decode cX2_add 1 = .ok (.aload_n 0, 1) := by decide +kernel
theorem dX2_add_2 : decode cX2_add 2 = .ok (.getfield 15, 3) := by decide +kernel
theorem dX2_add_5 : decode cX2_add 5 = .ok (.iconst 1, 1) := by decide +kernel
theorem dX2_add_6 : decode cX2_add 6 = .ok (.ishl, 1) := by decide +kernel
theorem dX2_add_7 : decode cX2_add 7 = .ok (.iload_n 1, 1) := by decide +kernel
theorem dX2_add_8 : decode cX2_add 8 = .ok (.ifCond .eq 7, 3) := by decide +kernel
theorem dX2_add_11 : decode cX2_add 11 = .ok (.iconst 1, 1) := by decide +kernel
theorem dX2_add_12 : decode cX2_add 12 = .ok (.goto 4, 3) := by decide +kernel
theorem dX2_add_15 : decode cX2_add 15 = .ok (.iconst 0, 1) := by decide +kernel
theorem dX2_add_16 : decode cX2_add 16 = .ok (.ior, 1) := by decide +kernel
theorem dX2_add_17 : decode cX2_add 17 = .ok (.putfield 15, 3) := by decide +kernel
theorem dX2_add_20 : decode cX2_add 20 = .ok (.aload_n 0, 1) := by decide +kernel
theorem dX2_add_21 : decode cX2_add 21 = .ok (.dup, 1) := by decide +kernel
theorem dX2_add_22 : decode cX2_add 22 = .ok (.getfield 22, 3) := by decide +kernel
theorem dX2_add_25 : decode cX2_add 25 = .ok (.iconst 1, 1) := by decide +kernel
theorem dX2_add_26 : decode cX2_add 26 = .ok (.iadd, 1) := by decide +kernel
theorem dX2_add_27 : decode cX2_add 27 = .ok (.putfield 22, 3) := by decide +kernel
theorem dX2_add_30 : decode cX2_add 30 = .ok (.aload_n 0, 1) := by decide +kernel
theorem dX2_add_31 : decode cX2_add 31 = .ok (.getfield 22, 3) := by decide +kernel
theorem dX2_add_34 : decode cX2_add 34 = .ok (.bipush 8, 2) := by decide +kernel
theorem dX2_add_36 : decode cX2_add 36 = .ok (.if_icmp .ge 5, 3) := by decide +kernel
theorem dX2_add_39 : decode cX2_add 39 = .ok (.iconst 0, 1) := by decide +kernel
theorem dX2_add_40 : decode cX2_add 40 = .ok (.ireturn, 1) := by decide +kernel
theorem dX2_add_41 : decode cX2_add 41 = .ok (.aload_n 0, 1) := by decide +kernel
theorem dX2_add_42 : decode cX2_add 42 = .ok (.getfield 19, 3) := by decide +kernel
theorem dX2_add_45 : decode cX2_add 45 = .ok (.aload_n 0, 1) := by decide +kernel
theorem dX2_add_46 : decode cX2_add 46 = .ok (.getfield 9, 3) := by decide +kernel
theorem dX2_add_49 : decode cX2_add 49 = .ok (.arraylength, 1) := by decide +kernel
theorem dX2_add_50 : decode cX2_add 50 = .ok (.if_icmp .ge 30, 3) := by decide +kernel
theorem dX2_add_53 : decode cX2_add 53 = .ok (.aload_n 0, 1) := by decide +kernel
theorem dX2_add_54 : decode cX2_add 54 = .ok (.getfield 9, 3) := by decide +kernel
theorem dX2_add_57 : decode cX2_add 57 = .ok (.aload_n 0, 1) := by decide +kernel
theorem dX2_add_58 : decode cX2_add 58 = .ok (.getfield 19, 3) := by decide +kernel
theorem dX2_add_61 : decode cX2_add 61 = .ok (.aload_n 0, 1) := by decide +kernel
theorem dX2_add_62 : decode cX2_add 62 = .ok (.getfield 15, 3) := by decide +kernel
theorem dX2_add_65 : decode cX2_add 65 = .ok (.sipush 255, 3) := by decide +kernel
theorem dX2_add_68 : decode cX2_add 68 = .ok (.iand, 1) := by decide +kernel
theorem dX2_add_69 : decode cX2_add 69 = .ok (.iastore, 1) := by decide +kernel
theorem dX2_add_70 : decode cX2_add 70 = .ok (.aload_n 0, 1) := by decide +kernel
theorem dX2_add_71 : decode cX2_add 71 = .ok (.dup, 1) := by decide +kernel
theorem dX2_add_72 : decode cX2_add 72 = .ok (.getfield 19, 3) := by decide +kernel
theorem dX2_add_75 : decode cX2_add 75 = .ok (.iconst 1, 1) := by decide +kernel
theorem dX2_add_76 : decode cX2_add 76 = .ok (.iadd, 1) := by decide +kernel
theorem dX2_add_77 : decode cX2_add 77 = .ok (.putfield 19, 3) := by decide +kernel
theorem dX2_add_80 : decode cX2_add 80 = .ok (.aload_n 0, 1) := by decide +kernel
theorem dX2_add_81 : decode cX2_add 81 = .ok (.iconst 1, 1) := by decide +kernel
theorem dX2_add_82 : decode cX2_add 82 = .ok (.putfield 15, 3) := by decide +kernel
theorem dX2_add_85 : decode cX2_add 85 = .ok (.aload_n 0, 1) := by decide +kernel
theorem dX2_add_86 : decode cX2_add 86 = .ok (.iconst 0, 1) := by decide +kernel
theorem dX2_add_87 : decode cX2_add 87 = .ok (.putfield 22, 3) := by decide +kernel
theorem dX2_add_90 : decode cX2_add 90 = .ok (.iconst 1, 1) := by decide +kernel
theorem dX2_add_91 : decode cX2_add 91 = .ok (.ireturn, 1) := by decide +kernel
theorem dX2_contextOf_0 : decode cX2_contextOf 0 = .ok (.iload_n 1, 1) := by decide +kernel
theorem dX2_contextOf_1 : decode cX2_contextOf 1 = .ok (.tableswitch 54 0 3 #[31, 37, 42, 48], 31) := by decide +kernel
theorem dX2_contextOf_32 : decode cX2_contextOf 32 = .ok (.aload_n 0, 1) := by decide +kernel
theorem dX2_contextOf_33 : decode cX2_contextOf 33 = .ok (.iload_n 2, 1) := by decide +kernel
theorem dX2_contextOf_34 : decode cX2_contextOf 34 = .ok (.invokevirtual 25, 3) := by decide +kernel
theorem dX2_contextOf_37 : decode cX2_contextOf 37 = .ok (.ireturn, 1) := by decide +kernel
theorem dX2_contextOf_38 : decode cX2_contextOf 38 = .ok (.aload_n 0, 1) := by decide +kernel
theorem dX2_contextOf_39 : decode cX2_contextOf 39 = .ok (.invokevirtual 29, 3) := by decide +kernel
theorem dX2_contextOf_42 : decode cX2_contextOf 42 = .ok (.ireturn, 1) := by decide +kernel
theorem dX2_contextOf_43 : decode cX2_contextOf 43 = .ok (.aload_n 0, 1) := by decide +kernel
theorem dX2_contextOf_44 : decode cX2_contextOf 44 = .ok (.iload_n 2, 1) := by decide +kernel
theorem dX2_contextOf_45 : decode cX2_contextOf 45 = .ok (.invokevirtual 33, 3) := by decide +kernel
theorem dX2_contextOf_48 : decode cX2_contextOf 48 = .ok (.ireturn, 1) := by decide +kernel
theorem dX2_contextOf_49 : decode cX2_contextOf 49 = .ok (.aload_n 0, 1) := by decide +kernel
theorem dX2_contextOf_50 : decode cX2_contextOf 50 = .ok (.iload_n 2, 1) := by decide +kernel
theorem dX2_contextOf_51 : decode cX2_contextOf 51 = .ok (.invokevirtual 36, 3) := by decide +kernel
theorem dX2_contextOf_54 : decode cX2_contextOf 54 = .ok (.ireturn, 1) := by decide +kernel
theorem dX2_contextOf_55 : decode cX2_contextOf 55 = .ok (.iconst 0, 1) := by decide +kernel
theorem dX2_contextOf_56 : decode cX2_contextOf 56 = .ok (.ireturn, 1) := by decide +kernel
theorem dX2_latestContext_0 : decode cX2_latestContext 0 = .ok (.iload_n 1, 1) := by decide +kernel
theorem dX2_latestContext_1 : decode cX2_latestContext 1 = .ok (.iconst 1, 1) := by decide +kernel
theorem dX2_latestContext_2 : decode cX2_latestContext 2 = .ok (.iadd, 1) := by decide +kernel
theorem dX2_latestContext_3 : decode cX2_latestContext 3 = .ok (.iconst 0, 1) := by decide +kernel
theorem dX2_latestContext_4 : decode cX2_latestContext 4 = .ok (.invokestatic 39, 3) := by decide +kernel
theorem dX2_latestContext_7 : decode cX2_latestContext 7 = .ok (.istore_n 2, 1) := by decide +kernel
theorem dX2_latestContext_8 : decode cX2_latestContext 8 = .ok (.iconst 1, 1) := by decide +kernel
theorem dX2_latestContext_9 : decode cX2_latestContext 9 = .ok (.istore_n 3, 1) := by decide +kernel
theorem dX2_latestContext_10 : decode cX2_latestContext 10 = .ok (.iload_n 3, 1) := by decide +kernel
theorem dX2_latestContext_11 : decode cX2_latestContext 11 = .ok (.iload_n 1, 1) := by decide +kernel
theorem dX2_latestContext_12 : decode cX2_latestContext 12 = .ok (.if_icmp .gt 19, 3) := by decide +kernel
theorem dX2_latestContext_15 : decode cX2_latestContext 15 = .ok (.iload_n 2, 1) := by decide +kernel
theorem dX2_latestContext_16 : decode cX2_latestContext 16 = .ok (.aload_n 0, 1) := by decide +kernel
theorem dX2_latestContext_17 : decode cX2_latestContext 17 = .ok (.iload_n 3, 1) := by decide +kernel
theorem dX2_latestContext_18 : decode cX2_latestContext 18 = .ok (.invokevirtual 45, 3) := by decide +kernel
theorem dX2_latestContext_21 : decode cX2_latestContext 21 = .ok (.invokestatic 39, 3) := by decide +kernel
theorem dX2_latestContext_24 : decode cX2_latestContext 24 = .ok (.istore_n 2, 1) := by decide +kernel
theorem dX2_latestContext_25 : decode cX2_latestContext 25 = .ok (.iinc 3 1, 3) := by decide +kernel
theorem dX2_latestContext_28 : decode cX2_latestContext 28 = .ok (.goto (-18), 3) := by decide +kernel
theorem dX2_latestContext_31 : decode cX2_latestContext 31 = .ok (.iload_n 2, 1) := by decide +kernel
theorem dX2_latestContext_32 : decode cX2_latestContext 32 = .ok (.ireturn, 1) := by decide +kernel
theorem dX2_wordContext_0 : decode cX2_wordContext 0 = .ok (.iconst 0, 1) := by decide +kernel
theorem dX2_wordContext_1 : decode cX2_wordContext 1 = .ok (.istore_n 1, 1) := by decide +kernel
theorem dX2_wordContext_2 : decode cX2_wordContext 2 = .ok (.iload_n 1, 1) := by decide +kernel
theorem dX2_wordContext_3 : decode cX2_wordContext 3 = .ok (.bipush 16, 2) := by decide +kernel
theorem dX2_wordContext_5 : decode cX2_wordContext 5 = .ok (.if_icmp .ge 22, 3) := by decide +kernel
theorem dX2_wordContext_8 : decode cX2_wordContext 8 = .ok (.aload_n 0, 1) := by decide +kernel
theorem dX2_wordContext_9 : decode cX2_wordContext 9 = .ok (.iload_n 1, 1) := by decide +kernel
theorem dX2_wordContext_10 : decode cX2_wordContext 10 = .ok (.iconst 1, 1) := by decide +kernel
theorem dX2_wordContext_11 : decode cX2_wordContext 11 = .ok (.iadd, 1) := by decide +kernel
theorem dX2_wordContext_12 : decode cX2_wordContext 12 = .ok (.invokevirtual 45, 3) := by decide +kernel
theorem dX2_wordContext_15 : decode cX2_wordContext 15 = .ok (.invokestatic 48, 3) := by decide +kernel
theorem dX2_wordContext_18 : decode cX2_wordContext 18 = .ok (.ifCond .eq 9, 3) := by decide +kernel
theorem dX2_wordContext_21 : decode cX2_wordContext 21 = .ok (.iinc 1 1, 3) := by decide +kernel
theorem dX2_wordContext_24 : decode cX2_wordContext 24 = .ok (.goto (-22), 3) := by decide +kernel
theorem dX2_wordContext_27 : decode cX2_wordContext 27 = .ok (.bipush 32, 2) := by decide +kernel
theorem dX2_wordContext_29 : decode cX2_wordContext 29 = .ok (.iconst 0, 1) := by decide +kernel
theorem dX2_wordContext_30 : decode cX2_wordContext 30 = .ok (.invokestatic 39, 3) := by decide +kernel
theorem dX2_wordContext_33 : decode cX2_wordContext 33 = .ok (.istore_n 2, 1) := by decide +kernel
theorem dX2_wordContext_34 : decode cX2_wordContext 34 = .ok (.iload_n 1, 1) := by decide +kernel
theorem dX2_wordContext_35 : decode cX2_wordContext 35 = .ok (.istore_n 3, 1) := by decide +kernel
theorem dX2_wordContext_36 : decode cX2_wordContext 36 = .ok (.iload_n 3, 1) := by decide +kernel
theorem dX2_wordContext_37 : decode cX2_wordContext 37 = .ok (.iconst 1, 1) := by decide +kernel
theorem dX2_wordContext_38 : decode cX2_wordContext 38 = .ok (.if_icmp .lt 19, 3) := by decide +kernel
theorem dX2_wordContext_41 : decode cX2_wordContext 41 = .ok (.iload_n 2, 1) := by decide +kernel
theorem dX2_wordContext_42 : decode cX2_wordContext 42 = .ok (.aload_n 0, 1) := by decide +kernel
theorem dX2_wordContext_43 : decode cX2_wordContext 43 = .ok (.iload_n 3, 1) := by decide +kernel
theorem dX2_wordContext_44 : decode cX2_wordContext 44 = .ok (.invokevirtual 45, 3) := by decide +kernel
theorem dX2_wordContext_47 : decode cX2_wordContext 47 = .ok (.invokestatic 39, 3) := by decide +kernel
theorem dX2_wordContext_50 : decode cX2_wordContext 50 = .ok (.istore_n 2, 1) := by decide +kernel
theorem dX2_wordContext_51 : decode cX2_wordContext 51 = .ok (.iinc 3 (-1), 3) := by decide +kernel
theorem dX2_wordContext_54 : decode cX2_wordContext 54 = .ok (.goto (-18), 3) := by decide +kernel
theorem dX2_wordContext_57 : decode cX2_wordContext 57 = .ok (.iload_n 2, 1) := by decide +kernel
theorem dX2_wordContext_58 : decode cX2_wordContext 58 = .ok (.ireturn, 1) := by decide +kernel
theorem dX2_columnContext_0 : decode cX2_columnContext 0 = .ok (.iload_n 1, 1) := by decide +kernel
theorem dX2_columnContext_1 : decode cX2_columnContext 1 = .ok (.ifCond .le 12, 3) := by decide +kernel
theorem dX2_columnContext_4 : decode cX2_columnContext 4 = .ok (.aload_n 0, 1) := by decide +kernel
theorem dX2_columnContext_5 : decode cX2_columnContext 5 = .ok (.getfield 19, 3) := by decide +kernel
theorem dX2_columnContext_8 : decode cX2_columnContext 8 = .ok (.iload_n 1, 1) := by decide +kernel
theorem dX2_columnContext_9 : decode cX2_columnContext 9 = .ok (.irem, 1) := by decide +kernel
theorem dX2_columnContext_10 : decode cX2_columnContext 10 = .ok (.goto 4, 3) := by decide +kernel
theorem dX2_columnContext_13 : decode cX2_columnContext 13 = .ok (.iconst 0, 1) := by decide +kernel
theorem dX2_columnContext_14 : decode cX2_columnContext 14 = .ok (.istore_n 2, 1) := by decide +kernel
theorem dX2_columnContext_15 : decode cX2_columnContext 15 = .ok (.bipush 64, 2) := by decide +kernel
theorem dX2_columnContext_17 : decode cX2_columnContext 17 = .ok (.iload_n 1, 1) := by decide +kernel
theorem dX2_columnContext_18 : decode cX2_columnContext 18 = .ok (.iadd, 1) := by decide +kernel
theorem dX2_columnContext_19 : decode cX2_columnContext 19 = .ok (.iconst 0, 1) := by decide +kernel
theorem dX2_columnContext_20 : decode cX2_columnContext 20 = .ok (.invokestatic 39, 3) := by decide +kernel
theorem dX2_columnContext_23 : decode cX2_columnContext 23 = .ok (.iload_n 2, 1) := by decide +kernel
theorem dX2_columnContext_24 : decode cX2_columnContext 24 = .ok (.invokestatic 39, 3) := by decide +kernel
theorem dX2_columnContext_27 : decode cX2_columnContext 27 = .ok (.istore_n 3, 1) := by decide +kernel
theorem dX2_columnContext_28 : decode cX2_columnContext 28 = .ok (.iload_n 3, 1) := by decide +kernel
theorem dX2_columnContext_29 : decode cX2_columnContext 29 = .ok (.aload_n 0, 1) := by decide +kernel
theorem dX2_columnContext_30 : decode cX2_columnContext 30 = .ok (.iload_n 1, 1) := by decide +kernel
theorem dX2_columnContext_31 : decode cX2_columnContext 31 = .ok (.invokevirtual 45, 3) := by decide +kernel
theorem dX2_columnContext_34 : decode cX2_columnContext 34 = .ok (.invokestatic 39, 3) := by decide +kernel
theorem dX2_columnContext_37 : decode cX2_columnContext 37 = .ok (.ireturn, 1) := by decide +kernel
theorem dX2_apartContext_0 : decode cX2_apartContext 0 = .ok (.sipush 128, 3) := by decide +kernel
theorem dX2_apartContext_3 : decode cX2_apartContext 3 = .ok (.iload_n 1, 1) := by decide +kernel
theorem dX2_apartContext_4 : decode cX2_apartContext 4 = .ok (.iadd, 1) := by decide +kernel
theorem dX2_apartContext_5 : decode cX2_apartContext 5 = .ok (.iconst 0, 1) := by decide +kernel
theorem dX2_apartContext_6 : decode cX2_apartContext 6 = .ok (.invokestatic 39, 3) := by decide +kernel
theorem dX2_apartContext_9 : decode cX2_apartContext 9 = .ok (.istore_n 2, 1) := by decide +kernel
theorem dX2_apartContext_10 : decode cX2_apartContext 10 = .ok (.iconst 0, 1) := by decide +kernel
theorem dX2_apartContext_11 : decode cX2_apartContext 11 = .ok (.istore_n 3, 1) := by decide +kernel
theorem dX2_apartContext_12 : decode cX2_apartContext 12 = .ok (.iload_n 3, 1) := by decide +kernel
theorem dX2_apartContext_13 : decode cX2_apartContext 13 = .ok (.iconst 4, 1) := by decide +kernel
theorem dX2_apartContext_14 : decode cX2_apartContext 14 = .ok (.if_icmp .ge 30, 3) := by decide +kernel
theorem dX2_apartContext_17 : decode cX2_apartContext 17 = .ok (.iload_n 1, 1) := by decide +kernel
theorem dX2_apartContext_18 : decode cX2_apartContext 18 = .ok (.iload_n 3, 1) := by decide +kernel
theorem dX2_apartContext_19 : decode cX2_apartContext 19 = .ok (.ishr, 1) := by decide +kernel
theorem dX2_apartContext_20 : decode cX2_apartContext 20 = .ok (.iconst 1, 1) := by decide +kernel
theorem dX2_apartContext_21 : decode cX2_apartContext 21 = .ok (.iand, 1) := by decide +kernel
theorem dX2_apartContext_22 : decode cX2_apartContext 22 = .ok (.iconst 1, 1) := by decide +kernel
theorem dX2_apartContext_23 : decode cX2_apartContext 23 = .ok (.if_icmp .ne 15, 3) := by decide +kernel
theorem dX2_apartContext_26 : decode cX2_apartContext 26 = .ok (.iload_n 2, 1) := by decide +kernel
theorem dX2_apartContext_27 : decode cX2_apartContext 27 = .ok (.aload_n 0, 1) := by decide +kernel
theorem dX2_apartContext_28 : decode cX2_apartContext 28 = .ok (.iload_n 3, 1) := by decide +kernel
theorem dX2_apartContext_29 : decode cX2_apartContext 29 = .ok (.iconst 1, 1) := by decide +kernel
theorem dX2_apartContext_30 : decode cX2_apartContext 30 = .ok (.iadd, 1) := by decide +kernel
theorem dX2_apartContext_31 : decode cX2_apartContext 31 = .ok (.invokevirtual 45, 3) := by decide +kernel
theorem dX2_apartContext_34 : decode cX2_apartContext 34 = .ok (.invokestatic 39, 3) := by decide +kernel
theorem dX2_apartContext_37 : decode cX2_apartContext 37 = .ok (.istore_n 2, 1) := by decide +kernel
theorem dX2_apartContext_38 : decode cX2_apartContext 38 = .ok (.iinc 3 1, 3) := by decide +kernel
theorem dX2_apartContext_41 : decode cX2_apartContext 41 = .ok (.goto (-29), 3) := by decide +kernel
theorem dX2_apartContext_44 : decode cX2_apartContext 44 = .ok (.iload_n 2, 1) := by decide +kernel
theorem dX2_apartContext_45 : decode cX2_apartContext 45 = .ok (.ireturn, 1) := by decide +kernel
theorem dX2_sameBefore_0 : decode cX2_sameBefore 0 = .ok (.iconst 1, 1) := by decide +kernel
theorem dX2_sameBefore_1 : decode cX2_sameBefore 1 = .ok (.istore_n 3, 1) := by decide +kernel
theorem dX2_sameBefore_2 : decode cX2_sameBefore 2 = .ok (.iload_n 3, 1) := by decide +kernel
theorem dX2_sameBefore_3 : decode cX2_sameBefore 3 = .ok (.iload_n 2, 1) := by decide +kernel
theorem dX2_sameBefore_4 : decode cX2_sameBefore 4 = .ok (.if_icmp .gt 26, 3) := by decide +kernel
theorem dX2_sameBefore_7 : decode cX2_sameBefore 7 = .ok (.aload_n 0, 1) := by decide +kernel
theorem dX2_sameBefore_8 : decode cX2_sameBefore 8 = .ok (.iload_n 1, 1) := by decide +kernel
theorem dX2_sameBefore_9 : decode cX2_sameBefore 9 = .ok (.iload_n 3, 1) := by decide +kernel
theorem dX2_sameBefore_10 : decode cX2_sameBefore 10 = .ok (.isub, 1) := by decide +kernel
theorem dX2_sameBefore_11 : decode cX2_sameBefore 11 = .ok (.invokevirtual 52, 3) := by decide +kernel
theorem dX2_sameBefore_14 : decode cX2_sameBefore 14 = .ok (.aload_n 0, 1) := by decide +kernel
theorem dX2_sameBefore_15 : decode cX2_sameBefore 15 = .ok (.iload_n 3, 1) := by decide +kernel
theorem dX2_sameBefore_16 : decode cX2_sameBefore 16 = .ok (.invokevirtual 45, 3) := by decide +kernel
theorem dX2_sameBefore_19 : decode cX2_sameBefore 19 = .ok (.if_icmp .eq 5, 3) := by decide +kernel
theorem dX2_sameBefore_22 : decode cX2_sameBefore 22 = .ok (.iconst 0, 1) := by decide +kernel
theorem dX2_sameBefore_23 : decode cX2_sameBefore 23 = .ok (.ireturn, 1) := by decide +kernel
theorem dX2_sameBefore_24 : decode cX2_sameBefore 24 = .ok (.iinc 3 1, 3) := by decide +kernel
theorem dX2_sameBefore_27 : decode cX2_sameBefore 27 = .ok (.goto (-25), 3) := by decide +kernel
theorem dX2_sameBefore_30 : decode cX2_sameBefore 30 = .ok (.iconst 1, 1) := by decide +kernel
theorem dX2_sameBefore_31 : decode cX2_sameBefore 31 = .ok (.ireturn, 1) := by decide +kernel
theorem dX2_sameAs_0 : decode cX2_sameAs 0 = .ok (.aload_n 0, 1) := by decide +kernel
theorem dX2_sameAs_1 : decode cX2_sameAs 1 = .ok (.getfield 19, 3) := by decide +kernel
theorem dX2_sameAs_4 : decode cX2_sameAs 4 = .ok (.aload_n 1, 1) := by decide +kernel
theorem dX2_sameAs_5 : decode cX2_sameAs 5 = .ok (.getfield 19, 3) := by decide +kernel
theorem dX2_sameAs_8 : decode cX2_sameAs 8 = .ok (.if_icmp .ne 14, 3) := by decide +kernel
theorem dX2_sameAs_11 : decode cX2_sameAs 11 = .ok (.aload_n 0, 1) := by decide +kernel
theorem dX2_sameAs_12 : decode cX2_sameAs 12 = .ok (.getfield 15, 3) := by decide +kernel
theorem dX2_sameAs_15 : decode cX2_sameAs 15 = .ok (.aload_n 1, 1) := by decide +kernel
theorem dX2_sameAs_16 : decode cX2_sameAs 16 = .ok (.getfield 15, 3) := by decide +kernel
theorem dX2_sameAs_19 : decode cX2_sameAs 19 = .ok (.if_icmp .eq 5, 3) := by decide +kernel
theorem dX2_sameAs_22 : decode cX2_sameAs 22 = .ok (.iconst 0, 1) := by decide +kernel
theorem dX2_sameAs_23 : decode cX2_sameAs 23 = .ok (.ireturn, 1) := by decide +kernel
theorem dX2_sameAs_24 : decode cX2_sameAs 24 = .ok (.iconst 0, 1) := by decide +kernel
theorem dX2_sameAs_25 : decode cX2_sameAs 25 = .ok (.istore_n 2, 1) := by decide +kernel
theorem dX2_sameAs_26 : decode cX2_sameAs 26 = .ok (.iload_n 2, 1) := by decide +kernel
theorem dX2_sameAs_27 : decode cX2_sameAs 27 = .ok (.aload_n 0, 1) := by decide +kernel
theorem dX2_sameAs_28 : decode cX2_sameAs 28 = .ok (.getfield 19, 3) := by decide +kernel
theorem dX2_sameAs_31 : decode cX2_sameAs 31 = .ok (.if_icmp .ge 24, 3) := by decide +kernel
theorem dX2_sameAs_34 : decode cX2_sameAs 34 = .ok (.aload_n 0, 1) := by decide +kernel
theorem dX2_sameAs_35 : decode cX2_sameAs 35 = .ok (.iload_n 2, 1) := by decide +kernel
theorem dX2_sameAs_36 : decode cX2_sameAs 36 = .ok (.invokevirtual 52, 3) := by decide +kernel
theorem dX2_sameAs_39 : decode cX2_sameAs 39 = .ok (.aload_n 1, 1) := by decide +kernel
theorem dX2_sameAs_40 : decode cX2_sameAs 40 = .ok (.iload_n 2, 1) := by decide +kernel
theorem dX2_sameAs_41 : decode cX2_sameAs 41 = .ok (.invokevirtual 52, 3) := by decide +kernel
theorem dX2_sameAs_44 : decode cX2_sameAs 44 = .ok (.if_icmp .eq 5, 3) := by decide +kernel
theorem dX2_sameAs_47 : decode cX2_sameAs 47 = .ok (.iconst 0, 1) := by decide +kernel
theorem dX2_sameAs_48 : decode cX2_sameAs 48 = .ok (.ireturn, 1) := by decide +kernel
theorem dX2_sameAs_49 : decode cX2_sameAs 49 = .ok (.iinc 2 1, 3) := by decide +kernel
theorem dX2_sameAs_52 : decode cX2_sameAs 52 = .ok (.goto (-26), 3) := by decide +kernel
theorem dX2_sameAs_55 : decode cX2_sameAs 55 = .ok (.iconst 1, 1) := by decide +kernel
theorem dX2_sameAs_56 : decode cX2_sameAs 56 = .ok (.ireturn, 1) := by decide +kernel
theorem dX2_isLetter_0 : decode cX2_isLetter 0 = .ok (.iload_n 0, 1) := by decide +kernel
theorem dX2_isLetter_1 : decode cX2_isLetter 1 = .ok (.bipush 65, 2) := by decide +kernel
theorem dX2_isLetter_3 : decode cX2_isLetter 3 = .ok (.if_icmp .lt 9, 3) := by decide +kernel
theorem dX2_isLetter_6 : decode cX2_isLetter 6 = .ok (.iload_n 0, 1) := by decide +kernel
theorem dX2_isLetter_7 : decode cX2_isLetter 7 = .ok (.bipush 90, 2) := by decide +kernel
theorem dX2_isLetter_9 : decode cX2_isLetter 9 = .ok (.if_icmp .le 15, 3) := by decide +kernel
theorem dX2_isLetter_12 : decode cX2_isLetter 12 = .ok (.iload_n 0, 1) := by decide +kernel
theorem dX2_isLetter_13 : decode cX2_isLetter 13 = .ok (.bipush 97, 2) := by decide +kernel
theorem dX2_isLetter_15 : decode cX2_isLetter 15 = .ok (.if_icmp .lt 13, 3) := by decide +kernel
theorem dX2_isLetter_18 : decode cX2_isLetter 18 = .ok (.iload_n 0, 1) := by decide +kernel
theorem dX2_isLetter_19 : decode cX2_isLetter 19 = .ok (.bipush 122, 2) := by decide +kernel
theorem dX2_isLetter_21 : decode cX2_isLetter 21 = .ok (.if_icmp .gt 7, 3) := by decide +kernel
theorem dX2_isLetter_24 : decode cX2_isLetter 24 = .ok (.iconst 1, 1) := by decide +kernel
theorem dX2_isLetter_25 : decode cX2_isLetter 25 = .ok (.goto 4, 3) := by decide +kernel
theorem dX2_isLetter_28 : decode cX2_isLetter 28 = .ok (.iconst 0, 1) := by decide +kernel
theorem dX2_isLetter_29 : decode cX2_isLetter 29 = .ok (.ireturn, 1) := by decide +kernel
theorem dX3_init_0 : decode cX3_init 0 = .ok (.aload_n 0, 1) := by decide +kernel
theorem dX3_init_1 : decode cX3_init 1 = .ok (.invokespecial 3, 3) := by decide +kernel
theorem dX3_init_4 : decode cX3_init 4 = .ok (.return_, 1) := by decide +kernel
theorem dX3_follow_0 : decode cX3_follow 0 = .ok (.aload_n 0, 1) := by decide +kernel
theorem dX3_follow_1 : decode cX3_follow 1 = .ok (.getfield 9, 3) := by decide +kernel
theorem dX3_follow_4 : decode cX3_follow 4 = .ok (.ifCond .le 47, 3) := by decide +kernel
theorem dX3_follow_7 : decode cX3_follow 7 = .ok (.aload_n 1, 1) := by decide +kernel
theorem dX3_follow_8 : decode cX3_follow 8 = .ok (.aload_n 0, 1) := by decide +kernel
theorem dX3_follow_9 : decode cX3_follow 9 = .ok (.getfield 15, 3) := by decide +kernel
theorem dX3_follow_12 : decode cX3_follow 12 = .ok (.invokevirtual 18, 3) := by decide +kernel
theorem dX3_follow_15 : decode cX3_follow 15 = .ok (.aload_n 1, 1) := by decide +kernel
theorem dX3_follow_16 : decode cX3_follow 16 = .ok (.iconst 1, 1) := by decide +kernel
theorem dX3_follow_17 : decode cX3_follow 17 = .ok (.invokevirtual 24, 3) := by decide +kernel
theorem dX3_follow_20 : decode cX3_follow 20 = .ok (.if_icmp .ne 31, 3) := by decide +kernel
theorem dX3_follow_23 : decode cX3_follow 23 = .ok (.aload_n 0, 1) := by decide +kernel
theorem dX3_follow_24 : decode cX3_follow 24 = .ok (.dup, 1) := by decide +kernel
theorem dX3_follow_25 : decode cX3_follow 25 = .ok (.getfield 15, 3) := by decide +kernel
theorem dX3_follow_28 : decode cX3_follow 28 = .ok (.iconst 1, 1) := by decide +kernel
theorem dX3_follow_29 : decode cX3_follow 29 = .ok (.iadd, 1) := by decide +kernel
theorem dX3_follow_30 : decode cX3_follow 30 = .ok (.putfield 15, 3) := by decide +kernel
theorem dX3_follow_33 : decode cX3_follow 33 = .ok (.aload_n 0, 1) := by decide +kernel
theorem dX3_follow_34 : decode cX3_follow 34 = .ok (.bipush 32, 2) := by decide +kernel
theorem dX3_follow_36 : decode cX3_follow 36 = .ok (.aload_n 0, 1) := by decide +kernel
theorem dX3_follow_37 : decode cX3_follow 37 = .ok (.getfield 9, 3) := by decide +kernel
theorem dX3_follow_40 : decode cX3_follow 40 = .ok (.iconst 1, 1) := by decide +kernel
theorem dX3_follow_41 : decode cX3_follow 41 = .ok (.iadd, 1) := by decide +kernel
theorem dX3_follow_42 : decode cX3_follow 42 = .ok (.invokestatic 27, 3) := by decide +kernel
theorem dX3_follow_45 : decode cX3_follow 45 = .ok (.putfield 9, 3) := by decide +kernel
theorem dX3_follow_48 : decode cX3_follow 48 = .ok (.goto 8, 3) := by decide +kernel
theorem dX3_follow_51 : decode cX3_follow 51 = .ok (.aload_n 0, 1) := by decide +kernel
theorem dX3_follow_52 : decode cX3_follow 52 = .ok (.iconst 0, 1) := by decide +kernel
theorem dX3_follow_53 : decode cX3_follow 53 = .ok (.putfield 9, 3) := by decide +kernel
theorem dX3_follow_56 : decode cX3_follow 56 = .ok (.return_, 1) := by decide +kernel
theorem dX3_find_0 : decode cX3_find 0 = .ok (.aload_n 0, 1) := by decide +kernel
theorem dX3_find_1 : decode cX3_find 1 = .ok (.getfield 9, 3) := by decide +kernel
theorem dX3_find_4 : decode cX3_find 4 = .ok (.ifCond .le 4, 3) := by decide +kernel
theorem dX3_find_7 : decode cX3_find 7 = .ok (.return_, 1) := by decide +kernel
theorem dX3_find_8 : decode cX3_find 8 = .ok (.iload_n 2, 1) := by decide +kernel
theorem dX3_find_9 : decode cX3_find 9 = .ok (.aload_n 1, 1) := by decide +kernel
theorem dX3_find_10 : decode cX3_find 10 = .ok (.getfield 33, 3) := by decide +kernel
theorem dX3_find_13 : decode cX3_find 13 = .ok (.bipush 64, 2) := by decide +kernel
theorem dX3_find_15 : decode cX3_find 15 = .ok (.isub, 1) := by decide +kernel
theorem dX3_find_16 : decode cX3_find 16 = .ok (.invokestatic 36, 3) := by decide +kernel
theorem dX3_find_19 : decode cX3_find 19 = .ok (.istore_n 3, 1) := by decide +kernel
theorem dX3_find_20 : decode cX3_find 20 = .ok (.aload_n 1, 1) := by decide +kernel
theorem dX3_find_21 : decode cX3_find 21 = .ok (.getfield 33, 3) := by decide +kernel
theorem dX3_find_24 : decode cX3_find 24 = .ok (.iconst 1, 1) := by decide +kernel
theorem dX3_find_25 : decode cX3_find 25 = .ok (.isub, 1) := by decide +kernel
theorem dX3_find_26 : decode cX3_find 26 = .ok (.istore 4, 2) := by decide +kernel
theorem dX3_find_28 : decode cX3_find 28 = .ok (.iload 4, 2) := by decide +kernel
theorem dX3_find_30 : decode cX3_find 30 = .ok (.iload_n 3, 1) := by decide +kernel
theorem dX3_find_31 : decode cX3_find 31 = .ok (.if_icmp .lt 31, 3) := by decide +kernel
theorem dX3_find_34 : decode cX3_find 34 = .ok (.aload_n 1, 1) := by decide +kernel
theorem dX3_find_35 : decode cX3_find 35 = .ok (.iload 4, 2) := by decide +kernel
theorem dX3_find_37 : decode cX3_find 37 = .ok (.iload_n 2, 1) := by decide +kernel
theorem dX3_find_38 : decode cX3_find 38 = .ok (.invokevirtual 39, 3) := by decide +kernel
theorem dX3_find_41 : decode cX3_find 41 = .ok (.ifCond .eq 15, 3) := by decide +kernel
theorem dX3_find_44 : decode cX3_find 44 = .ok (.aload_n 0, 1) := by decide +kernel
theorem dX3_find_45 : decode cX3_find 45 = .ok (.iload 4, 2) := by decide +kernel
theorem dX3_find_47 : decode cX3_find 47 = .ok (.putfield 15, 3) := by decide +kernel
theorem dX3_find_50 : decode cX3_find 50 = .ok (.aload_n 0, 1) := by decide +kernel
theorem dX3_find_51 : decode cX3_find 51 = .ok (.iload_n 2, 1) := by decide +kernel
theorem dX3_find_52 : decode cX3_find 52 = .ok (.putfield 9, 3) := by decide +kernel
theorem dX3_find_55 : decode cX3_find 55 = .ok (.return_, 1) := by decide +kernel
theorem dX3_find_56 : decode cX3_find 56 = .ok (.iinc 4 (-1), 3) := by decide +kernel
theorem dX3_find_59 : decode cX3_find 59 = .ok (.goto (-31), 3) := by decide +kernel
theorem dX3_find_62 : decode cX3_find 62 = .ok (.return_, 1) := by decide +kernel
theorem dX3_told_0 : decode cX3_told 0 = .ok (.aload_n 1, 1) := by decide +kernel
theorem dX3_told_1 : decode cX3_told 1 = .ok (.aload_n 0, 1) := by decide +kernel
theorem dX3_told_2 : decode cX3_told 2 = .ok (.getfield 15, 3) := by decide +kernel
theorem dX3_told_5 : decode cX3_told 5 = .ok (.invokevirtual 18, 3) := by decide +kernel
theorem dX3_told_8 : decode cX3_told 8 = .ok (.sipush 256, 3) := by decide +kernel
theorem dX3_told_11 : decode cX3_told 11 = .ok (.ior, 1) := by decide +kernel
theorem dX3_told_12 : decode cX3_told 12 = .ok (.istore_n 2, 1) := by decide +kernel
theorem dX3_told_13 : decode cX3_told 13 = .ok (.bipush 8, 2) := by decide +kernel
theorem dX3_told_15 : decode cX3_told 15 = .ok (.aload_n 1, 1) := by decide +kernel
theorem dX3_told_16 : decode cX3_told 16 = .ok (.getfield 43, 3) := by decide +kernel
theorem dX3_told_19 : decode cX3_told 19 = .ok (.isub, 1) := by decide +kernel
theorem dX3_told_20 : decode cX3_told 20 = .ok (.istore_n 3, 1) := by decide +kernel
theorem dX3_told_21 : decode cX3_told 21 = .ok (.aload_n 0, 1) := by decide +kernel
theorem dX3_told_22 : decode cX3_told 22 = .ok (.getfield 9, 3) := by decide +kernel
theorem dX3_told_25 : decode cX3_told 25 = .ok (.ifCond .eq 13, 3) := by decide +kernel
theorem dX3_told_28 : decode cX3_told 28 = .ok (.iload_n 2, 1) := by decide +kernel
theorem dX3_told_29 : decode cX3_told 29 = .ok (.iload_n 3, 1) := by decide +kernel
theorem dX3_told_30 : decode cX3_told 30 = .ok (.ishr, 1) := by decide +kernel
theorem dX3_told_31 : decode cX3_told 31 = .ok (.aload_n 1, 1) := by decide +kernel
theorem dX3_told_32 : decode cX3_told 32 = .ok (.getfield 46, 3) := by decide +kernel
theorem dX3_told_35 : decode cX3_told 35 = .ok (.if_icmp .eq 5, 3) := by decide +kernel
theorem dX3_told_38 : decode cX3_told 38 = .ok (.iconst 0, 1) := by decide +kernel
theorem dX3_told_39 : decode cX3_told 39 = .ok (.ireturn, 1) := by decide +kernel
theorem dX3_told_40 : decode cX3_told 40 = .ok (.bipush 64, 2) := by decide +kernel
theorem dX3_told_42 : decode cX3_told 42 = .ok (.bipush 16, 2) := by decide +kernel
theorem dX3_told_44 : decode cX3_told 44 = .ok (.aload_n 0, 1) := by decide +kernel
theorem dX3_told_45 : decode cX3_told 45 = .ok (.getfield 9, 3) := by decide +kernel
theorem dX3_told_48 : decode cX3_told 48 = .ok (.invokestatic 27, 3) := by decide +kernel
theorem dX3_told_51 : decode cX3_told 51 = .ok (.imul, 1) := by decide +kernel
theorem dX3_told_52 : decode cX3_told 52 = .ok (.istore 4, 2) := by decide +kernel
theorem dX3_told_54 : decode cX3_told 54 = .ok (.iload_n 2, 1) := by decide +kernel
theorem dX3_told_55 : decode cX3_told 55 = .ok (.iload_n 3, 1) := by decide +kernel
theorem dX3_told_56 : decode cX3_told 56 = .ok (.iconst 1, 1) := by decide +kernel
theorem dX3_told_57 : decode cX3_told 57 = .ok (.isub, 1) := by decide +kernel
theorem dX3_told_58 : decode cX3_told 58 = .ok (.ishr, 1) := by decide +kernel
theorem dX3_told_59 : decode cX3_told 59 = .ok (.iconst 1, 1) := by decide +kernel
theorem dX3_told_60 : decode cX3_told 60 = .ok (.iand, 1) := by decide +kernel
theorem dX3_told_61 : decode cX3_told 61 = .ok (.iconst 1, 1) := by decide +kernel
theorem dX3_told_62 : decode cX3_told 62 = .ok (.if_icmp .ne 8, 3) := by decide +kernel
theorem dX3_told_65 : decode cX3_told 65 = .ok (.iload 4, 2) := by decide +kernel
theorem dX3_told_67 : decode cX3_told 67 = .ok (.goto 6, 3) := by decide +kernel
theorem dX3_told_70 : decode cX3_told 70 = .ok (.iload 4, 2) := by decide +kernel
theorem dX3_told_72 : decode cX3_told 72 = .ok (.ineg, 1) := by decide +kernel
theorem dX3_told_73 : decode cX3_told 73 = .ok (.ireturn, 1) := by decide +kernel
theorem dX4_init_0 : decode cX4_init 0 = .ok (.aload_n 0, 1) := by decide +kernel
theorem dX4_init_1 : decode cX4_init 1 = .ok (.invokespecial 3, 3) := by decide +kernel
theorem dX4_init_4 : decode cX4_init 4 = .ok (.aload_n 0, 1) := by decide +kernel
theorem dX4_init_5 : decode cX4_init 5 = .ok (.sipush 2304, 3) := by decide +kernel
theorem dX4_init_8 : decode cX4_init 8 = .ok (.newarray .int, 2) := by decide +kernel
theorem dX4_init_10 : decode cX4_init 10 = .ok (.putfield 11, 3) := by decide +kernel
theorem dX4_init_13 : decode cX4_init 13 = .ok (.aload_n 0, 1) := by decide +kernel
theorem dX4_init_14 : decode cX4_init 14 = .ok (.getfield 11, 3) := by decide +kernel
theorem dX4_init_17 : decode cX4_init 17 = .ok (.invokestatic 15, 3) := by decide +kernel
theorem dX4_init_20 : decode cX4_init 20 = .ok (.return_, 1) := by decide +kernel
theorem dX4_reset_0 : decode cX4_reset 0 = .ok (.aload_n 0, 1) := by decide +kernel
theorem dX4_reset_1 : decode cX4_reset 1 = .ok (.getfield 11, 3) := by decide +kernel
theorem dX4_reset_4 : decode cX4_reset 4 = .ok (.invokestatic 15, 3) := by decide +kernel
theorem dX4_reset_7 : decode cX4_reset 7 = .ok (.return_, 1) := by decide +kernel
theorem dX4_fill_0 : decode cX4_fill 0 = .ok (.aload_n 0, 1) := by decide +kernel
theorem dX4_fill_1 : decode cX4_fill 1 = .ok (.sipush 20000, 3) := by decide +kernel
theorem dX4_fill_4 : decode cX4_fill 4 = .ok (.invokestatic 19, 3) := by decide +kernel
theorem dX4_fill_7 : decode cX4_fill 7 = .ok (.bipush 8, 2) := by decide +kernel
theorem dX4_fill_9 : decode cX4_fill 9 = .ok (.istore_n 1, 1) := by decide +kernel
theorem dX4_fill_10 : decode cX4_fill 10 = .ok (.iload_n 1, 1) := by decide +kernel
theorem dX4_fill_11 : decode cX4_fill 11 = .ok (.aload_n 0, 1) := by decide +kernel
theorem dX4_fill_12 : decode cX4_fill 12 = .ok (.arraylength, 1) := by decide +kernel
theorem dX4_fill_13 : decode cX4_fill 13 = .ok (.if_icmp .ge 13, 3) := by decide +kernel
theorem dX4_fill_16 : decode cX4_fill 16 = .ok (.aload_n 0, 1) := by decide +kernel
theorem dX4_fill_17 : decode cX4_fill 17 = .ok (.iload_n 1, 1) := by decide +kernel
theorem dX4_fill_18 : decode cX4_fill 18 = .ok (.iconst 0, 1) := by decide +kernel
theorem dX4_fill_19 : decode cX4_fill 19 = .ok (.iastore, 1) := by decide +kernel
theorem dX4_fill_20 : decode cX4_fill 20 = .ok (.iinc 1 9, 3) := by decide +kernel
theorem dX4_fill_23 : decode cX4_fill 23 = .ok (.goto (-13), 3) := by decide +kernel
theorem dX4_fill_26 : decode cX4_fill 26 = .ok (.return_, 1) := by decide +kernel
theorem dX4_weightAt_0 : decode cX4_weightAt 0 = .ok (.aload_n 0, 1) := by decide +kernel
theorem dX4_weightAt_1 : decode cX4_weightAt 1 = .ok (.getfield 11, 3) := by decide +kernel
theorem dX4_weightAt_4 : decode cX4_weightAt 4 = .ok (.iload_n 1, 1) := by decide +kernel
theorem dX4_weightAt_5 : decode cX4_weightAt 5 = .ok (.iconst 0, 1) := by decide +kernel
theorem dX4_weightAt_6 : decode cX4_weightAt 6 = .ok (.sipush 255, 3) := by decide +kernel
theorem dX4_weightAt_9 : decode cX4_weightAt 9 = .ok (.invokestatic 24, 3) := by decide +kernel
theorem dX4_weightAt_12 : decode cX4_weightAt 12 = .ok (.bipush 9, 2) := by decide +kernel
theorem dX4_weightAt_14 : decode cX4_weightAt 14 = .ok (.imul, 1) := by decide +kernel
theorem dX4_weightAt_15 : decode cX4_weightAt 15 = .ok (.iload_n 2, 1) := by decide +kernel
theorem dX4_weightAt_16 : decode cX4_weightAt 16 = .ok (.iconst 0, 1) := by decide +kernel
theorem dX4_weightAt_17 : decode cX4_weightAt 17 = .ok (.bipush 8, 2) := by decide +kernel
theorem dX4_weightAt_19 : decode cX4_weightAt 19 = .ok (.invokestatic 24, 3) := by decide +kernel
theorem dX4_weightAt_22 : decode cX4_weightAt 22 = .ok (.iadd, 1) := by decide +kernel
theorem dX4_weightAt_23 : decode cX4_weightAt 23 = .ok (.iaload, 1) := by decide +kernel
theorem dX4_weightAt_24 : decode cX4_weightAt 24 = .ok (.ireturn, 1) := by decide +kernel
theorem dX4_tell_0 : decode cX4_tell 0 = .ok (.aload_n 0, 1) := by decide +kernel
theorem dX4_tell_1 : decode cX4_tell 1 = .ok (.iload_n 1, 1) := by decide +kernel
theorem dX4_tell_2 : decode cX4_tell 2 = .ok (.iconst 0, 1) := by decide +kernel
theorem dX4_tell_3 : decode cX4_tell 3 = .ok (.sipush 255, 3) := by decide +kernel
theorem dX4_tell_6 : decode cX4_tell 6 = .ok (.invokestatic 24, 3) := by decide +kernel
theorem dX4_tell_9 : decode cX4_tell 9 = .ok (.bipush 9, 2) := by decide +kernel
theorem dX4_tell_11 : decode cX4_tell 11 = .ok (.imul, 1) := by decide +kernel
theorem dX4_tell_12 : decode cX4_tell 12 = .ok (.putfield 30, 3) := by decide +kernel
theorem dX4_tell_15 : decode cX4_tell 15 = .ok (.lconst 0, 1) := by decide +kernel
theorem dX4_tell_16 : decode cX4_tell 16 = .ok (.lstore_n 3, 1) := by decide +kernel
theorem dX4_tell_17 : decode cX4_tell 17 = .ok (.iconst 0, 1) := by decide +kernel
theorem dX4_tell_18 : decode cX4_tell 18 = .ok (.istore 5, 2) := by decide +kernel
theorem dX4_tell_20 : decode cX4_tell 20 = .ok (.iload 5, 2) := by decide +kernel
theorem dX4_tell_22 : decode cX4_tell 22 = .ok (.bipush 9, 2) := by decide +kernel
theorem dX4_tell_24 : decode cX4_tell 24 = .ok (.if_icmp .ge 38, 3) := by decide +kernel
theorem dX4_tell_27 : decode cX4_tell 27 = .ok (.iload 5, 2) := by decide +kernel
theorem dX4_tell_29 : decode cX4_tell 29 = .ok (.aload_n 2, 1) := by decide +kernel
theorem dX4_tell_30 : decode cX4_tell 30 = .ok (.arraylength, 1) := by decide +kernel
theorem dX4_tell_31 : decode cX4_tell 31 = .ok (.if_icmp .ge 31, 3) := by decide +kernel
theorem dX4_tell_34 : decode cX4_tell 34 = .ok (.lload_n 3, 1) := by decide +kernel
theorem dX4_tell_35 : decode cX4_tell 35 = .ok (.aload_n 0, 1) := by decide +kernel
theorem dX4_tell_36 : decode cX4_tell 36 = .ok (.getfield 11, 3) := by decide +kernel
theorem dX4_tell_39 : decode cX4_tell 39 = .ok (.aload_n 0, 1) := by decide +kernel
theorem dX4_tell_40 : decode cX4_tell 40 = .ok (.getfield 30, 3) := by decide +kernel
theorem dX4_tell_43 : decode cX4_tell 43 = .ok (.iload 5, 2) := by decide +kernel
theorem dX4_tell_45 : decode cX4_tell 45 = .ok (.iadd, 1) := by decide +kernel
theorem dX4_tell_46 : decode cX4_tell 46 = .ok (.iaload, 1) := by decide +kernel
theorem dX4_tell_47 : decode cX4_tell 47 = .ok (.i2l, 1) := by decide +kernel
theorem dX4_tell_48 : decode cX4_tell 48 = .ok (.aload_n 2, 1) := by decide +kernel
theorem dX4_tell_49 : decode cX4_tell 49 = .ok (.iload 5, 2) := by decide +kernel
theorem dX4_tell_51 : decode cX4_tell 51 = .ok (.iaload, 1) := by decide +kernel
theorem dX4_tell_52 : decode cX4_tell 52 = .ok (.i2l, 1) := by decide +kernel
theorem dX4_tell_53 : decode cX4_tell 53 = .ok (.lmul, 1) := by decide +kernel
theorem dX4_tell_54 : decode cX4_tell 54 = .ok (.ladd, 1) := by decide +kernel
theorem dX4_tell_55 : decode cX4_tell 55 = .ok (.lstore_n 3, 1) := by decide +kernel
theorem dX4_tell_56 : decode cX4_tell 56 = .ok (.iinc 5 1, 3) := by decide +kernel
theorem dX4_tell_59 : decode cX4_tell 59 = .ok (.goto (-39), 3) := by decide +kernel
theorem dX4_tell_62 : decode cX4_tell 62 = .ok (.ldc2_w 34, 3) := by decide +kernel
theorem dX4_tell_65 : decode cX4_tell 65 = .ok (.ldc2_w 36, 3) := by decide +kernel
theorem dX4_tell_68 : decode cX4_tell 68 = .ok (.lload_n 3, 1) := by decide +kernel
theorem dX4_tell_69 : decode cX4_tell 69 = .ok (.bipush 16, 2) := by decide +kernel
theorem dX4_tell_71 : decode cX4_tell 71 = .ok (.lshr, 1) := by decide +kernel
theorem dX4_tell_72 : decode cX4_tell 72 = .ok (.invokestatic 38, 3) := by decide +kernel
theorem dX4_tell_75 : decode cX4_tell 75 = .ok (.invokestatic 44, 3) := by decide +kernel
theorem dX4_tell_78 : decode cX4_tell 78 = .ok (.lstore 5, 2) := by decide +kernel
theorem dX4_tell_80 : decode cX4_tell 80 = .ok (.aload_n 0, 1) := by decide +kernel
theorem dX4_tell_81 : decode cX4_tell 81 = .ok (.lload 5, 2) := by decide +kernel
theorem dX4_tell_83 : decode cX4_tell 83 = .ok (.l2i, 1) := by decide +kernel
theorem dX4_tell_84 : decode cX4_tell 84 = .ok (.invokestatic 47, 3) := by decide +kernel
theorem dX4_tell_87 : decode cX4_tell 87 = .ok (.putfield 51, 3) := by decide +kernel
theorem dX4_tell_90 : decode cX4_tell 90 = .ok (.aload_n 0, 1) := by decide +kernel
theorem dX4_tell_91 : decode cX4_tell 91 = .ok (.getfield 51, 3) := by decide +kernel
theorem dX4_tell_94 : decode cX4_tell 94 = .ok (.ireturn, 1) := by decide +kernel
theorem dX4_learn_0 : decode cX4_learn 0 = .ok (.iload_n 1, 1) := by decide +kernel
theorem dX4_learn_1 : decode cX4_learn 1 = .ok (.ifCond .eq 9, 3) := by decide +kernel
theorem dX4_learn_4 : decode cX4_learn 4 = .ok (.sipush 4095, 3) := by decide +kernel
theorem dX4_learn_7 : decode cX4_learn 7 = .ok (.goto 4, 3) := by decide +kernel
theorem dX4_learn_10 : decode cX4_learn 10 = .ok (.iconst 0, 1) := by decide +kernel
theorem dX4_learn_11 : decode cX4_learn 11 = .ok (.aload_n 0, 1) := by decide +kernel
theorem dX4_learn_12 : decode cX4_learn 12 = .ok (.getfield 51, 3) := by decide +kernel
theorem dX4_learn_15 : decode cX4_learn 15 = .ok (.isub, 1) := by decide +kernel
theorem dX4_learn_16 : decode cX4_learn 16 = .ok (.bipush 7, 2) := by decide +kernel
theorem dX4_learn_18 : decode cX4_learn 18 = .ok (.imul, 1) := by decide +kernel
theorem dX4_learn_19 : decode cX4_learn 19 = .ok (.istore_n 3, 1) := by decide +kernel
theorem dX4_learn_20 : decode cX4_learn 20 = .ok (.iconst 0, 1) := by decide +kernel
theorem dX4_learn_21 : decode cX4_learn 21 = .ok (.istore 4, 2) := by decide +kernel
theorem dX4_learn_23 : decode cX4_learn 23 = .ok (.iload 4, 2) := by decide +kernel
theorem dX4_learn_25 : decode cX4_learn 25 = .ok (.bipush 9, 2) := by decide +kernel
theorem dX4_learn_27 : decode cX4_learn 27 = .ok (.if_icmp .ge 64, 3) := by decide +kernel
theorem dX4_learn_30 : decode cX4_learn 30 = .ok (.iload 4, 2) := by decide +kernel
theorem dX4_learn_32 : decode cX4_learn 32 = .ok (.aload_n 2, 1) := by decide +kernel
theorem dX4_learn_33 : decode cX4_learn 33 = .ok (.arraylength, 1) := by decide +kernel
theorem dX4_learn_34 : decode cX4_learn 34 = .ok (.if_icmp .ge 57, 3) := by decide +kernel
theorem dX4_learn_37 : decode cX4_learn 37 = .ok (.aload_n 0, 1) := by decide +kernel
theorem dX4_learn_38 : decode cX4_learn 38 = .ok (.getfield 11, 3) := by decide +kernel
theorem dX4_learn_41 : decode cX4_learn 41 = .ok (.aload_n 0, 1) := by decide +kernel
theorem dX4_learn_42 : decode cX4_learn 42 = .ok (.getfield 30, 3) := by decide +kernel
theorem dX4_learn_45 : decode cX4_learn 45 = .ok (.iload 4, 2) := by decide +kernel
theorem dX4_learn_47 : decode cX4_learn 47 = .ok (.iadd, 1) := by decide +kernel
theorem dX4_learn_48 : decode cX4_learn 48 = .ok (.iaload, 1) := by decide +kernel
theorem dX4_learn_49 : decode cX4_learn 49 = .ok (.aload_n 2, 1) := by decide +kernel
theorem dX4_learn_50 : decode cX4_learn 50 = .ok (.iload 4, 2) := by decide +kernel
theorem dX4_learn_52 : decode cX4_learn 52 = .ok (.iaload, 1) := by decide +kernel
theorem dX4_learn_53 : decode cX4_learn 53 = .ok (.iload_n 3, 1) := by decide +kernel
theorem dX4_learn_54 : decode cX4_learn 54 = .ok (.imul, 1) := by decide +kernel
theorem dX4_learn_55 : decode cX4_learn 55 = .ok (.ldc 54, 2) := by decide +kernel
theorem dX4_learn_57 : decode cX4_learn 57 = .ok (.iadd, 1) := by decide +kernel
theorem dX4_learn_58 : decode cX4_learn 58 = .ok (.bipush 16, 2) := by decide +kernel
theorem dX4_learn_60 : decode cX4_learn 60 = .ok (.ishr, 1) := by decide +kernel
theorem dX4_learn_61 : decode cX4_learn 61 = .ok (.iadd, 1) := by decide +kernel
theorem dX4_learn_62 : decode cX4_learn 62 = .ok (.istore 5, 2) := by decide +kernel
theorem dX4_learn_64 : decode cX4_learn 64 = .ok (.aload_n 0, 1) := by decide +kernel
theorem dX4_learn_65 : decode cX4_learn 65 = .ok (.getfield 11, 3) := by decide +kernel
theorem dX4_learn_68 : decode cX4_learn 68 = .ok (.aload_n 0, 1) := by decide +kernel
theorem dX4_learn_69 : decode cX4_learn 69 = .ok (.getfield 30, 3) := by decide +kernel
theorem dX4_learn_72 : decode cX4_learn 72 = .ok (.iload 4, 2) := by decide +kernel
theorem dX4_learn_74 : decode cX4_learn 74 = .ok (.iadd, 1) := by decide +kernel
theorem dX4_learn_75 : decode cX4_learn 75 = .ok (.iload 5, 2) := by decide +kernel
theorem dX4_learn_77 : decode cX4_learn 77 = .ok (.ldc 55, 2) := by decide +kernel
theorem dX4_learn_79 : decode cX4_learn 79 = .ok (.ldc 56, 2) := by decide +kernel
theorem dX4_learn_81 : decode cX4_learn 81 = .ok (.invokestatic 24, 3) := by decide +kernel
theorem dX4_learn_84 : decode cX4_learn 84 = .ok (.iastore, 1) := by decide +kernel
theorem dX4_learn_85 : decode cX4_learn 85 = .ok (.iinc 4 1, 3) := by decide +kernel
theorem dX4_learn_88 : decode cX4_learn 88 = .ok (.goto (-65), 3) := by decide +kernel
theorem dX4_learn_91 : decode cX4_learn 91 = .ok (.return_, 1) := by decide +kernel
theorem dX5_init_0 : decode cX5_init 0 = .ok (.aload_n 0, 1) := by decide +kernel
theorem dX5_init_1 : decode cX5_init 1 = .ok (.invokespecial 1, 3) := by decide +kernel
theorem dX5_init_4 : decode cX5_init 4 = .ok (.aload_n 0, 1) := by decide +kernel
theorem dX5_init_5 : decode cX5_init 5 = .ok (.sipush 4096, 3) := by decide +kernel
theorem dX5_init_8 : decode cX5_init 8 = .ok (.newarray .int, 2) := by decide +kernel
theorem dX5_init_10 : decode cX5_init 10 = .ok (.putfield 7, 3) := by decide +kernel
theorem dX5_init_13 : decode cX5_init 13 = .ok (.sipush (-2047), 3) := by decide +kernel
theorem dX5_init_16 : decode cX5_init 16 = .ok (.istore_n 1, 1) := by decide +kernel
theorem dX5_init_17 : decode cX5_init 17 = .ok (.iconst 0, 1) := by decide +kernel
theorem dX5_init_18 : decode cX5_init 18 = .ok (.istore_n 2, 1) := by decide +kernel
theorem dX5_init_19 : decode cX5_init 19 = .ok (.iload_n 2, 1) := by decide +kernel
theorem dX5_init_20 : decode cX5_init 20 = .ok (.aload_n 0, 1) := by decide +kernel
theorem dX5_init_21 : decode cX5_init 21 = .ok (.getfield 7, 3) := by decide +kernel
theorem dX5_init_24 : decode cX5_init 24 = .ok (.arraylength, 1) := by decide +kernel
theorem dX5_init_25 : decode cX5_init 25 = .ok (.if_icmp .ge 37, 3) := by decide +kernel
theorem dX5_init_28 : decode cX5_init 28 = .ok (.iload_n 1, 1) := by decide +kernel
theorem dX5_init_29 : decode cX5_init 29 = .ok (.sipush 2047, 3) := by decide +kernel
theorem dX5_init_32 : decode cX5_init 32 = .ok (.if_icmp .ge 17, 3) := by decide +kernel
theorem dX5_init_35 : decode cX5_init 35 = .ok (.iload_n 1, 1) := by decide +kernel
theorem dX5_init_36 : decode cX5_init 36 = .ok (.invokestatic 13, 3) := by decide +kernel
theorem dX5_init_39 : decode cX5_init 39 = .ok (.iload_n 2, 1) := by decide +kernel
theorem dX5_init_40 : decode cX5_init 40 = .ok (.if_icmp .ge 9, 3) := by decide +kernel
theorem dX5_init_43 : decode cX5_init 43 = .ok (.iinc 1 1, 3) := by decide +kernel
theorem dX5_init_46 : decode cX5_init 46 = .ok (.goto (-18), 3) := by decide +kernel
theorem dX5_init_49 : decode cX5_init 49 = .ok (.aload_n 0, 1) := by decide +kernel
theorem dX5_init_50 : decode cX5_init 50 = .ok (.getfield 7, 3) := by decide +kernel
theorem dX5_init_53 : decode cX5_init 53 = .ok (.iload_n 2, 1) := by decide +kernel
theorem dX5_init_54 : decode cX5_init 54 = .ok (.iload_n 1, 1) := by decide +kernel
theorem dX5_init_55 : decode cX5_init 55 = .ok (.iastore, 1) := by decide +kernel
theorem dX5_init_56 : decode cX5_init 56 = .ok (.iinc 2 1, 3) := by decide +kernel
theorem dX5_init_59 : decode cX5_init 59 = .ok (.goto (-40), 3) := by decide +kernel
theorem dX5_init_62 : decode cX5_init 62 = .ok (.return_, 1) := by decide +kernel
theorem dX5_stretched_0 : decode cX5_stretched 0 = .ok (.aload_n 0, 1) := by decide +kernel
theorem dX5_stretched_1 : decode cX5_stretched 1 = .ok (.getfield 7, 3) := by decide +kernel
theorem dX5_stretched_4 : decode cX5_stretched 4 = .ok (.iload_n 1, 1) := by decide +kernel
theorem dX5_stretched_5 : decode cX5_stretched 5 = .ok (.iconst 0, 1) := by decide +kernel
theorem dX5_stretched_6 : decode cX5_stretched 6 = .ok (.aload_n 0, 1) := by decide +kernel
theorem dX5_stretched_7 : decode cX5_stretched 7 = .ok (.getfield 7, 3) := by decide +kernel
theorem dX5_stretched_10 : decode cX5_stretched 10 = .ok (.arraylength, 1) := by decide +kernel
theorem dX5_stretched_11 : decode cX5_stretched 11 = .ok (.iconst 1, 1) := by decide +kernel
theorem dX5_stretched_12 : decode cX5_stretched 12 = .ok (.isub, 1) := by decide +kernel
theorem dX5_stretched_13 : decode cX5_stretched 13 = .ok (.invokestatic 17, 3) := by decide +kernel
theorem dX5_stretched_16 : decode cX5_stretched 16 = .ok (.iaload, 1) := by decide +kernel
theorem dX5_stretched_17 : decode cX5_stretched 17 = .ok (.ireturn, 1) := by decide +kernel
theorem dX5_squashed_0 : decode cX5_squashed 0 = .ok (.iload_n 0, 1) := by decide +kernel
theorem dX5_squashed_1 : decode cX5_squashed 1 = .ok (.sipush 2047, 3) := by decide +kernel
theorem dX5_squashed_4 : decode cX5_squashed 4 = .ok (.if_icmp .le 7, 3) := by decide +kernel
theorem dX5_squashed_7 : decode cX5_squashed 7 = .ok (.sipush 4095, 3) := by decide +kernel
theorem dX5_squashed_10 : decode cX5_squashed 10 = .ok (.ireturn, 1) := by decide +kernel
theorem dX5_squashed_11 : decode cX5_squashed 11 = .ok (.iload_n 0, 1) := by decide +kernel
theorem dX5_squashed_12 : decode cX5_squashed 12 = .ok (.sipush (-2047), 3) := by decide +kernel
theorem dX5_squashed_15 : decode cX5_squashed 15 = .ok (.if_icmp .ge 5, 3) := by decide +kernel
theorem dX5_squashed_18 : decode cX5_squashed 18 = .ok (.iconst 0, 1) := by decide +kernel
theorem dX5_squashed_19 : decode cX5_squashed 19 = .ok (.ireturn, 1) := by decide +kernel
theorem dX5_squashed_20 : decode cX5_squashed 20 = .ok (.iload_n 0, 1) := by decide +kernel
theorem dX5_squashed_21 : decode cX5_squashed 21 = .ok (.bipush 7, 2) := by decide +kernel
theorem dX5_squashed_23 : decode cX5_squashed 23 = .ok (.ishr, 1) := by decide +kernel
theorem dX5_squashed_24 : decode cX5_squashed 24 = .ok (.bipush 16, 2) := by decide +kernel
theorem dX5_squashed_26 : decode cX5_squashed 26 = .ok (.iadd, 1) := by decide +kernel
theorem dX5_squashed_27 : decode cX5_squashed 27 = .ok (.istore_n 1, 1) := by decide +kernel
theorem dX5_squashed_28 : decode cX5_squashed 28 = .ok (.iload_n 0, 1) := by decide +kernel
theorem dX5_squashed_29 : decode cX5_squashed 29 = .ok (.bipush 127, 2) := by decide +kernel
theorem dX5_squashed_31 : decode cX5_squashed 31 = .ok (.iand, 1) := by decide +kernel
theorem dX5_squashed_32 : decode cX5_squashed 32 = .ok (.istore_n 2, 1) := by decide +kernel
theorem dX5_squashed_33 : decode cX5_squashed 33 = .ok (.getstatic 21, 3) := by decide +kernel
theorem dX5_squashed_36 : decode cX5_squashed 36 = .ok (.iload_n 1, 1) := by decide +kernel
theorem dX5_squashed_37 : decode cX5_squashed 37 = .ok (.iaload, 1) := by decide +kernel
theorem dX5_squashed_38 : decode cX5_squashed 38 = .ok (.sipush 128, 3) := by decide +kernel
theorem dX5_squashed_41 : decode cX5_squashed 41 = .ok (.iload_n 2, 1) := by decide +kernel
theorem dX5_squashed_42 : decode cX5_squashed 42 = .ok (.isub, 1) := by decide +kernel
theorem dX5_squashed_43 : decode cX5_squashed 43 = .ok (.imul, 1) := by decide +kernel
theorem dX5_squashed_44 : decode cX5_squashed 44 = .ok (.getstatic 21, 3) := by decide +kernel
theorem dX5_squashed_47 : decode cX5_squashed 47 = .ok (.iload_n 1, 1) := by decide +kernel
theorem dX5_squashed_48 : decode cX5_squashed 48 = .ok (.iconst 1, 1) := by decide +kernel
theorem dX5_squashed_49 : decode cX5_squashed 49 = .ok (.iadd, 1) := by decide +kernel
theorem dX5_squashed_50 : decode cX5_squashed 50 = .ok (.iaload, 1) := by decide +kernel
theorem dX5_squashed_51 : decode cX5_squashed 51 = .ok (.iload_n 2, 1) := by decide +kernel
theorem dX5_squashed_52 : decode cX5_squashed 52 = .ok (.imul, 1) := by decide +kernel
theorem dX5_squashed_53 : decode cX5_squashed 53 = .ok (.iadd, 1) := by decide +kernel
theorem dX5_squashed_54 : decode cX5_squashed 54 = .ok (.bipush 64, 2) := by decide +kernel
theorem dX5_squashed_56 : decode cX5_squashed 56 = .ok (.iadd, 1) := by decide +kernel
theorem dX5_squashed_57 : decode cX5_squashed 57 = .ok (.bipush 7, 2) := by decide +kernel
theorem dX5_squashed_59 : decode cX5_squashed 59 = .ok (.ishr, 1) := by decide +kernel
theorem dX5_squashed_60 : decode cX5_squashed 60 = .ok (.ireturn, 1) := by decide +kernel
theorem dX5_hash_0 : decode cX5_hash 0 = .ok (.iload_n 0, 1) := by decide +kernel
theorem dX5_hash_1 : decode cX5_hash 1 = .ok (.ldc 24, 2) := by decide +kernel
theorem dX5_hash_3 : decode cX5_hash 3 = .ok (.ixor, 1) := by decide +kernel
theorem dX5_hash_4 : decode cX5_hash 4 = .ok (.ldc 25, 2) := by decide +kernel
theorem dX5_hash_6 : decode cX5_hash 6 = .ok (.imul, 1) := by decide +kernel
theorem dX5_hash_7 : decode cX5_hash 7 = .ok (.iload_n 1, 1) := by decide +kernel
theorem dX5_hash_8 : decode cX5_hash 8 = .ok (.ldc 26, 2) := by decide +kernel
theorem dX5_hash_10 : decode cX5_hash 10 = .ok (.imul, 1) := by decide +kernel
theorem dX5_hash_11 : decode cX5_hash 11 = .ok (.iadd, 1) := by decide +kernel
theorem dX5_hash_12 : decode cX5_hash 12 = .ok (.istore_n 2, 1) := by decide +kernel
theorem dX5_hash_13 : decode cX5_hash 13 = .ok (.iload_n 2, 1) := by decide +kernel
theorem dX5_hash_14 : decode cX5_hash 14 = .ok (.iload_n 2, 1) := by decide +kernel
theorem dX5_hash_15 : decode cX5_hash 15 = .ok (.bipush 15, 2) := by decide +kernel
theorem dX5_hash_17 : decode cX5_hash 17 = .ok (.iushr, 1) := by decide +kernel
theorem dX5_hash_18 : decode cX5_hash 18 = .ok (.ixor, 1) := by decide +kernel
theorem dX5_hash_19 : decode cX5_hash 19 = .ok (.ireturn, 1) := by decide +kernel
theorem dX5_bound_0 : decode cX5_bound 0 = .ok (.iload_n 1, 1) := by decide +kernel
theorem dX5_bound_1 : decode cX5_bound 1 = .ok (.iload_n 2, 1) := by decide +kernel
theorem dX5_bound_2 : decode cX5_bound 2 = .ok (.iload_n 0, 1) := by decide +kernel
theorem dX5_bound_3 : decode cX5_bound 3 = .ok (.invokestatic 27, 3) := by decide +kernel
theorem dX5_bound_6 : decode cX5_bound 6 = .ok (.invokestatic 33, 3) := by decide +kernel
theorem dX5_bound_9 : decode cX5_bound 9 = .ok (.ireturn, 1) := by decide +kernel
theorem dX5_same_0 : decode cX5_same 0 = .ok (.aload_n 0, 1) := by decide +kernel
theorem dX5_same_1 : decode cX5_same 1 = .ok (.arraylength, 1) := by decide +kernel
theorem dX5_same_2 : decode cX5_same 2 = .ok (.aload_n 1, 1) := by decide +kernel
theorem dX5_same_3 : decode cX5_same 3 = .ok (.arraylength, 1) := by decide +kernel
theorem dX5_same_4 : decode cX5_same 4 = .ok (.if_icmp .eq 5, 3) := by decide +kernel
theorem dX5_same_7 : decode cX5_same 7 = .ok (.iconst 0, 1) := by decide +kernel
theorem dX5_same_8 : decode cX5_same 8 = .ok (.ireturn, 1) := by decide +kernel
theorem dX5_same_9 : decode cX5_same 9 = .ok (.iconst 0, 1) := by decide +kernel
theorem dX5_same_10 : decode cX5_same 10 = .ok (.istore_n 2, 1) := by decide +kernel
theorem dX5_same_11 : decode cX5_same 11 = .ok (.iload_n 2, 1) := by decide +kernel
theorem dX5_same_12 : decode cX5_same 12 = .ok (.aload_n 0, 1) := by decide +kernel
theorem dX5_same_13 : decode cX5_same 13 = .ok (.arraylength, 1) := by decide +kernel
theorem dX5_same_14 : decode cX5_same 14 = .ok (.if_icmp .ge 26, 3) := by decide +kernel
theorem dX5_same_17 : decode cX5_same 17 = .ok (.iload_n 2, 1) := by decide +kernel
theorem dX5_same_18 : decode cX5_same 18 = .ok (.aload_n 1, 1) := by decide +kernel
theorem dX5_same_19 : decode cX5_same 19 = .ok (.arraylength, 1) := by decide +kernel
theorem dX5_same_20 : decode cX5_same 20 = .ok (.if_icmp .ge 20, 3) := by decide +kernel
theorem dX5_same_23 : decode cX5_same 23 = .ok (.aload_n 0, 1) := by decide +kernel
theorem dX5_same_24 : decode cX5_same 24 = .ok (.iload_n 2, 1) := by decide +kernel
theorem dX5_same_25 : decode cX5_same 25 = .ok (.iaload, 1) := by decide +kernel
theorem dX5_same_26 : decode cX5_same 26 = .ok (.aload_n 1, 1) := by decide +kernel
theorem dX5_same_27 : decode cX5_same 27 = .ok (.iload_n 2, 1) := by decide +kernel
theorem dX5_same_28 : decode cX5_same 28 = .ok (.iaload, 1) := by decide +kernel
theorem dX5_same_29 : decode cX5_same 29 = .ok (.if_icmp .eq 5, 3) := by decide +kernel
theorem dX5_same_32 : decode cX5_same 32 = .ok (.iconst 0, 1) := by decide +kernel
theorem dX5_same_33 : decode cX5_same 33 = .ok (.ireturn, 1) := by decide +kernel
theorem dX5_same_34 : decode cX5_same 34 = .ok (.iinc 2 1, 3) := by decide +kernel
theorem dX5_same_37 : decode cX5_same 37 = .ok (.goto (-26), 3) := by decide +kernel
theorem dX5_same_40 : decode cX5_same 40 = .ok (.iconst 1, 1) := by decide +kernel
theorem dX5_same_41 : decode cX5_same 41 = .ok (.ireturn, 1) := by decide +kernel
theorem dX6_init_0 : decode cX6_init 0 = .ok (.aload_n 0, 1) := by decide +kernel
theorem dX6_init_1 : decode cX6_init 1 = .ok (.invokespecial 5, 3) := by decide +kernel
theorem dX6_init_4 : decode cX6_init 4 = .ok (.aload_n 0, 1) := by decide +kernel
theorem dX6_init_5 : decode cX6_init 5 = .ok (.sipush 3028, 3) := by decide +kernel
theorem dX6_init_8 : decode cX6_init 8 = .ok (.newarray .int, 2) := by decide +kernel
theorem dX6_init_10 : decode cX6_init 10 = .ok (.putfield 13, 3) := by decide +kernel
theorem dX6_init_13 : decode cX6_init 13 = .ok (.return_, 1) := by decide +kernel
theorem dX6_has_0 : decode cX6_has 0 = .ok (.iload_n 1, 1) := by decide +kernel
theorem dX6_has_1 : decode cX6_has 1 = .ok (.ifCond .lt 15, 3) := by decide +kernel
theorem dX6_has_4 : decode cX6_has 4 = .ok (.iload_n 1, 1) := by decide +kernel
theorem dX6_has_5 : decode cX6_has 5 = .ok (.aload_n 0, 1) := by decide +kernel
theorem dX6_has_6 : decode cX6_has 6 = .ok (.getfield 17, 3) := by decide +kernel
theorem dX6_has_9 : decode cX6_has 9 = .ok (.if_icmp .ge 7, 3) := by decide +kernel
theorem dX6_has_12 : decode cX6_has 12 = .ok (.iconst 1, 1) := by decide +kernel
theorem dX6_has_13 : decode cX6_has 13 = .ok (.goto 4, 3) := by decide +kernel
theorem dX6_has_16 : decode cX6_has 16 = .ok (.iconst 0, 1) := by decide +kernel
theorem dX6_has_17 : decode cX6_has 17 = .ok (.ireturn, 1) := by decide +kernel
theorem dX6_byteAt_0 : decode cX6_byteAt 0 = .ok (.aload_n 0, 1) := by decide +kernel
theorem dX6_byteAt_1 : decode cX6_byteAt 1 = .ok (.iload_n 1, 1) := by decide +kernel
theorem dX6_byteAt_2 : decode cX6_byteAt 2 = .ok (.invokevirtual 21, 3) := by decide +kernel
theorem dX6_byteAt_5 : decode cX6_byteAt 5 = .ok (.ifCond .eq 12, 3) := by decide +kernel
theorem dX6_byteAt_8 : decode cX6_byteAt 8 = .ok (.aload_n 0, 1) := by decide +kernel
theorem dX6_byteAt_9 : decode cX6_byteAt 9 = .ok (.getfield 13, 3) := by decide +kernel
theorem dX6_byteAt_12 : decode cX6_byteAt 12 = .ok (.iload_n 1, 1) := by decide +kernel
theorem dX6_byteAt_13 : decode cX6_byteAt 13 = .ok (.iaload, 1) := by decide +kernel
theorem dX6_byteAt_14 : decode cX6_byteAt 14 = .ok (.goto 4, 3) := by decide +kernel
theorem dX6_byteAt_17 : decode cX6_byteAt 17 = .ok (.iconst 0, 1) := by decide +kernel
theorem dX6_byteAt_18 : decode cX6_byteAt 18 = .ok (.ireturn, 1) := by decide +kernel
theorem dX6_add_0 : decode cX6_add 0 = .ok (.aload_n 0, 1) := by decide +kernel
theorem dX6_add_1 : decode cX6_add 1 = .ok (.getfield 17, 3) := by decide +kernel
theorem dX6_add_4 : decode cX6_add 4 = .ok (.aload_n 0, 1) := by decide +kernel
theorem dX6_add_5 : decode cX6_add 5 = .ok (.getfield 13, 3) := by decide +kernel
theorem dX6_add_8 : decode cX6_add 8 = .ok (.arraylength, 1) := by decide +kernel
theorem dX6_add_9 : decode cX6_add 9 = .ok (.if_icmp .ge 23, 3) := by decide +kernel
theorem dX6_add_12 : decode cX6_add 12 = .ok (.aload_n 0, 1) := by decide +kernel
theorem dX6_add_13 : decode cX6_add 13 = .ok (.getfield 13, 3) := by decide +kernel
theorem dX6_add_16 : decode cX6_add 16 = .ok (.aload_n 0, 1) := by decide +kernel
theorem dX6_add_17 : decode cX6_add 17 = .ok (.getfield 17, 3) := by decide +kernel
theorem dX6_add_20 : decode cX6_add 20 = .ok (.iload_n 1, 1) := by decide +kernel
theorem dX6_add_21 : decode cX6_add 21 = .ok (.iastore, 1) := by decide +kernel
theorem dX6_add_22 : decode cX6_add 22 = .ok (.aload_n 0, 1) := by decide +kernel
theorem dX6_add_23 : decode cX6_add 23 = .ok (.dup, 1) := by decide +kernel
theorem dX6_add_24 : decode cX6_add 24 = .ok (.getfield 17, 3) := by decide +kernel
theorem dX6_add_27 : decode cX6_add 27 = .ok (.iconst 1, 1) := by decide +kernel
theorem dX6_add_28 : decode cX6_add 28 = .ok (.iadd, 1) := by decide +kernel
theorem dX6_add_29 : decode cX6_add 29 = .ok (.putfield 17, 3) := by decide +kernel
theorem dX6_add_32 : decode cX6_add 32 = .ok (.return_, 1) := by decide +kernel
theorem dX6_flip_0 : decode cX6_flip 0 = .ok (.aload_n 0, 1) := by decide +kernel
theorem dX6_flip_1 : decode cX6_flip 1 = .ok (.iload_n 1, 1) := by decide +kernel
theorem dX6_flip_2 : decode cX6_flip 2 = .ok (.invokevirtual 21, 3) := by decide +kernel
theorem dX6_flip_5 : decode cX6_flip 5 = .ok (.ifCond .eq 13, 3) := by decide +kernel
theorem dX6_flip_8 : decode cX6_flip 8 = .ok (.aload_n 0, 1) := by decide +kernel
theorem dX6_flip_9 : decode cX6_flip 9 = .ok (.getfield 13, 3) := by decide +kernel
theorem dX6_flip_12 : decode cX6_flip 12 = .ok (.iload_n 1, 1) := by decide +kernel
theorem dX6_flip_13 : decode cX6_flip 13 = .ok (.dup2, 1) := by decide +kernel
theorem dX6_flip_14 : decode cX6_flip 14 = .ok (.iaload, 1) := by decide +kernel
theorem dX6_flip_15 : decode cX6_flip 15 = .ok (.iload_n 2, 1) := by decide +kernel
theorem dX6_flip_16 : decode cX6_flip 16 = .ok (.ixor, 1) := by decide +kernel
theorem dX6_flip_17 : decode cX6_flip 17 = .ok (.iastore, 1) := by decide +kernel
theorem dX6_flip_18 : decode cX6_flip 18 = .ok (.return_, 1) := by decide +kernel
theorem dX7_init_0 : decode cX7_init 0 = .ok (.aload_n 0, 1) := by decide +kernel
theorem dX7_init_1 : decode cX7_init 1 = .ok (.invokespecial 3, 3) := by decide +kernel
theorem dX7_init_4 : decode cX7_init 4 = .ok (.aload_n 0, 1) := by decide +kernel
theorem dX7_init_5 : decode cX7_init 5 = .ok (.bipush 8, 2) := by decide +kernel
theorem dX7_init_7 : decode cX7_init 7 = .ok (.newarray .int, 2) := by decide +kernel
theorem dX7_init_9 : decode cX7_init 9 = .ok (.putfield 9, 3) := by decide +kernel
theorem dX7_init_12 : decode cX7_init 12 = .ok (.aload_n 0, 1) := by decide +kernel
theorem dX7_init_13 : decode cX7_init 13 = .ok (.bipush 8, 2) := by decide +kernel
theorem dX7_init_15 : decode cX7_init 15 = .ok (.newarray .int, 2) := by decide +kernel
theorem dX7_init_17 : decode cX7_init 17 = .ok (.putfield 15, 3) := by decide +kernel
theorem dX7_init_20 : decode cX7_init 20 = .ok (.aload_n 0, 1) := by decide +kernel
theorem dX7_init_21 : decode cX7_init 21 = .ok (.bipush 8, 2) := by decide +kernel
theorem dX7_init_23 : decode cX7_init 23 = .ok (.newarray .boolean, 2) := by decide +kernel
theorem dX7_init_25 : decode cX7_init 25 = .ok (.putfield 18, 3) := by decide +kernel
theorem dX7_init_28 : decode cX7_init 28 = .ok (.return_, 1) := by decide +kernel
theorem dX7_allows_0 : decode cX7_allows 0 = .ok (.iload_n 0, 1) := by decide +kernel
theorem dX7_allows_1 : decode cX7_allows 1 = .ok (.tableswitch 104 0 4 #[35, 51, 53, 70, 87], 35) := by decide +kernel
theorem dX7_allows_36 : decode cX7_allows 36 = .ok (.iload_n 1, 1) := by decide +kernel
theorem dX7_allows_37 : decode cX7_allows 37 = .ok (.ifCond .lt 13, 3) := by decide +kernel
theorem dX7_allows_40 : decode cX7_allows 40 = .ok (.iload_n 1, 1) := by decide +kernel
theorem dX7_allows_41 : decode cX7_allows 41 = .ok (.bipush 6, 2) := by decide +kernel
theorem dX7_allows_43 : decode cX7_allows 43 = .ok (.if_icmp .gt 7, 3) := by decide +kernel
theorem dX7_allows_46 : decode cX7_allows 46 = .ok (.iconst 1, 1) := by decide +kernel
theorem dX7_allows_47 : decode cX7_allows 47 = .ok (.goto 4, 3) := by decide +kernel
theorem dX7_allows_50 : decode cX7_allows 50 = .ok (.iconst 0, 1) := by decide +kernel
theorem dX7_allows_51 : decode cX7_allows 51 = .ok (.ireturn, 1) := by decide +kernel
theorem dX7_allows_52 : decode cX7_allows 52 = .ok (.iconst 1, 1) := by decide +kernel
theorem dX7_allows_53 : decode cX7_allows 53 = .ok (.ireturn, 1) := by decide +kernel
theorem dX7_allows_54 : decode cX7_allows 54 = .ok (.iload_n 1, 1) := by decide +kernel
theorem dX7_allows_55 : decode cX7_allows 55 = .ok (.iconst 1, 1) := by decide +kernel
theorem dX7_allows_56 : decode cX7_allows 56 = .ok (.if_icmp .lt 13, 3) := by decide +kernel
theorem dX7_allows_59 : decode cX7_allows 59 = .ok (.iload_n 1, 1) := by decide +kernel
theorem dX7_allows_60 : decode cX7_allows 60 = .ok (.bipush 64, 2) := by decide +kernel
theorem dX7_allows_62 : decode cX7_allows 62 = .ok (.if_icmp .gt 7, 3) := by decide +kernel
theorem dX7_allows_65 : decode cX7_allows 65 = .ok (.iconst 1, 1) := by decide +kernel
theorem dX7_allows_66 : decode cX7_allows 66 = .ok (.goto 4, 3) := by decide +kernel
theorem dX7_allows_69 : decode cX7_allows 69 = .ok (.iconst 0, 1) := by decide +kernel
theorem dX7_allows_70 : decode cX7_allows 70 = .ok (.ireturn, 1) := by decide +kernel
theorem dX7_allows_71 : decode cX7_allows 71 = .ok (.iload_n 1, 1) := by decide +kernel
theorem dX7_allows_72 : decode cX7_allows 72 = .ok (.iconst 1, 1) := by decide +kernel
theorem dX7_allows_73 : decode cX7_allows 73 = .ok (.if_icmp .lt 13, 3) := by decide +kernel
theorem dX7_allows_76 : decode cX7_allows 76 = .ok (.iload_n 1, 1) := by decide +kernel
theorem dX7_allows_77 : decode cX7_allows 77 = .ok (.bipush 15, 2) := by decide +kernel
theorem dX7_allows_79 : decode cX7_allows 79 = .ok (.if_icmp .gt 7, 3) := by decide +kernel
theorem dX7_allows_82 : decode cX7_allows 82 = .ok (.iconst 1, 1) := by decide +kernel
theorem dX7_allows_83 : decode cX7_allows 83 = .ok (.goto 4, 3) := by decide +kernel
theorem dX7_allows_86 : decode cX7_allows 86 = .ok (.iconst 0, 1) := by decide +kernel
theorem dX7_allows_87 : decode cX7_allows 87 = .ok (.ireturn, 1) := by decide +kernel
theorem dX7_allows_88 : decode cX7_allows 88 = .ok (.iload_n 1, 1) := by decide +kernel
theorem dX7_allows_89 : decode cX7_allows 89 = .ok (.iconst 3, 1) := by decide +kernel
theorem dX7_allows_90 : decode cX7_allows 90 = .ok (.if_icmp .lt 13, 3) := by decide +kernel
theorem dX7_allows_93 : decode cX7_allows 93 = .ok (.iload_n 1, 1) := by decide +kernel
theorem dX7_allows_94 : decode cX7_allows 94 = .ok (.bipush 8, 2) := by decide +kernel
theorem dX7_allows_96 : decode cX7_allows 96 = .ok (.if_icmp .gt 7, 3) := by decide +kernel
theorem dX7_allows_99 : decode cX7_allows 99 = .ok (.iconst 1, 1) := by decide +kernel
theorem dX7_allows_100 : decode cX7_allows 100 = .ok (.goto 4, 3) := by decide +kernel
theorem dX7_allows_103 : decode cX7_allows 103 = .ok (.iconst 0, 1) := by decide +kernel
theorem dX7_allows_104 : decode cX7_allows 104 = .ok (.ireturn, 1) := by decide +kernel
theorem dX7_allows_105 : decode cX7_allows 105 = .ok (.iconst 0, 1) := by decide +kernel
theorem dX7_allows_106 : decode cX7_allows 106 = .ok (.ireturn, 1) := by decide +kernel
theorem dX7_has_0 : decode cX7_has 0 = .ok (.iload_n 1, 1) := by decide +kernel
theorem dX7_has_1 : decode cX7_has 1 = .ok (.ifCond .lt 15, 3) := by decide +kernel
theorem dX7_has_4 : decode cX7_has 4 = .ok (.iload_n 1, 1) := by decide +kernel
theorem dX7_has_5 : decode cX7_has 5 = .ok (.aload_n 0, 1) := by decide +kernel
theorem dX7_has_6 : decode cX7_has 6 = .ok (.getfield 22, 3) := by decide +kernel
theorem dX7_has_9 : decode cX7_has 9 = .ok (.if_icmp .ge 7, 3) := by decide +kernel
theorem dX7_has_12 : decode cX7_has 12 = .ok (.iconst 1, 1) := by decide +kernel
theorem dX7_has_13 : decode cX7_has 13 = .ok (.goto 4, 3) := by decide +kernel
theorem dX7_has_16 : decode cX7_has 16 = .ok (.iconst 0, 1) := by decide +kernel
theorem dX7_has_17 : decode cX7_has 17 = .ok (.ireturn, 1) := by decide +kernel
theorem dX7_add_0 : decode cX7_add 0 = .ok (.aload_n 0, 1) := by decide +kernel
theorem dX7_add_1 : decode cX7_add 1 = .ok (.getfield 22, 3) := by decide +kernel
theorem dX7_add_4 : decode cX7_add 4 = .ok (.bipush 8, 2) := by decide +kernel
theorem dX7_add_6 : decode cX7_add 6 = .ok (.if_icmp .lt 6, 3) := by decide +kernel
theorem dX7_add_9 : decode cX7_add 9 = .ok (.bipush (-3), 2) := by decide +kernel
theorem dX7_add_11 : decode cX7_add 11 = .ok (.ireturn, 1) := by decide +kernel
theorem dX7_add_12 : decode cX7_add 12 = .ok (.aload_n 0, 1) := by decide +kernel
theorem dX7_add_13 : decode cX7_add 13 = .ok (.getfield 9, 3) := by decide +kernel
theorem dX7_add_16 : decode cX7_add 16 = .ok (.aload_n 0, 1) := by decide +kernel
theorem dX7_add_17 : decode cX7_add 17 = .ok (.getfield 22, 3) := by decide +kernel
theorem dX7_add_20 : decode cX7_add 20 = .ok (.iload_n 1, 1) := by decide +kernel
theorem dX7_add_21 : decode cX7_add 21 = .ok (.iastore, 1) := by decide +kernel
theorem dX7_add_22 : decode cX7_add 22 = .ok (.aload_n 0, 1) := by decide +kernel
theorem dX7_add_23 : decode cX7_add 23 = .ok (.getfield 15, 3) := by decide +kernel
theorem dX7_add_26 : decode cX7_add 26 = .ok (.aload_n 0, 1) := by decide +kernel
theorem dX7_add_27 : decode cX7_add 27 = .ok (.getfield 22, 3) := by decide +kernel
theorem dX7_add_30 : decode cX7_add 30 = .ok (.iload_n 2, 1) := by decide +kernel
theorem dX7_add_31 : decode cX7_add 31 = .ok (.iastore, 1) := by decide +kernel
theorem dX7_add_32 : decode cX7_add 32 = .ok (.aload_n 0, 1) := by decide +kernel
theorem dX7_add_33 : decode cX7_add 33 = .ok (.dup, 1) := by decide +kernel
theorem dX7_add_34 : decode cX7_add 34 = .ok (.getfield 22, 3) := by decide +kernel
theorem dX7_add_37 : decode cX7_add 37 = .ok (.iconst 1, 1) := by decide +kernel
theorem dX7_add_38 : decode cX7_add 38 = .ok (.iadd, 1) := by decide +kernel
theorem dX7_add_39 : decode cX7_add 39 = .ok (.putfield 22, 3) := by decide +kernel
theorem dX7_add_42 : decode cX7_add 42 = .ok (.aload_n 0, 1) := by decide +kernel
theorem dX7_add_43 : decode cX7_add 43 = .ok (.getfield 22, 3) := by decide +kernel
theorem dX7_add_46 : decode cX7_add 46 = .ok (.iconst 1, 1) := by decide +kernel
theorem dX7_add_47 : decode cX7_add 47 = .ok (.isub, 1) := by decide +kernel
theorem dX7_add_48 : decode cX7_add 48 = .ok (.ireturn, 1) := by decide +kernel
theorem dX7_turnOff_0 : decode cX7_turnOff 0 = .ok (.aload_n 0, 1) := by decide +kernel
theorem dX7_turnOff_1 : decode cX7_turnOff 1 = .ok (.iload_n 1, 1) := by decide +kernel
theorem dX7_turnOff_2 : decode cX7_turnOff 2 = .ok (.invokevirtual 26, 3) := by decide +kernel
theorem dX7_turnOff_5 : decode cX7_turnOff 5 = .ok (.ifCond .eq 12, 3) := by decide +kernel
theorem dX7_turnOff_8 : decode cX7_turnOff 8 = .ok (.aload_n 0, 1) := by decide +kernel
theorem dX7_turnOff_9 : decode cX7_turnOff 9 = .ok (.getfield 18, 3) := by decide +kernel
theorem dX7_turnOff_12 : decode cX7_turnOff 12 = .ok (.iload_n 1, 1) := by decide +kernel
theorem dX7_turnOff_13 : decode cX7_turnOff 13 = .ok (.baload, 1) := by decide +kernel
theorem dX7_turnOff_14 : decode cX7_turnOff 14 = .ok (.ifCond .eq 5, 3) := by decide +kernel
theorem dX7_turnOff_17 : decode cX7_turnOff 17 = .ok (.iconst 0, 1) := by decide +kernel
theorem dX7_turnOff_18 : decode cX7_turnOff 18 = .ok (.ireturn, 1) := by decide +kernel
theorem dX7_turnOff_19 : decode cX7_turnOff 19 = .ok (.aload_n 0, 1) := by decide +kernel
theorem dX7_turnOff_20 : decode cX7_turnOff 20 = .ok (.getfield 18, 3) := by decide +kernel
theorem dX7_turnOff_23 : decode cX7_turnOff 23 = .ok (.iload_n 1, 1) := by decide +kernel
theorem dX7_turnOff_24 : decode cX7_turnOff 24 = .ok (.iconst 1, 1) := by decide +kernel
theorem dX7_turnOff_25 : decode cX7_turnOff 25 = .ok (.bastore, 1) := by decide +kernel
theorem dX7_turnOff_26 : decode cX7_turnOff 26 = .ok (.iconst 1, 1) := by decide +kernel
theorem dX7_turnOff_27 : decode cX7_turnOff 27 = .ok (.ireturn, 1) := by decide +kernel
theorem dX8_init_0 : decode cX8_init 0 = .ok (.aload_n 0, 1) := by decide +kernel
theorem dX8_init_1 : decode cX8_init 1 = .ok (.invokespecial 3, 3) := by decide +kernel
theorem dX8_init_4 : decode cX8_init 4 = .ok (.aload_n 0, 1) := by decide +kernel
theorem dX8_init_5 : decode cX8_init 5 = .ok (.new 9, 3) := by decide +kernel
theorem dX8_init_8 : decode cX8_init 8 = .ok (.dup, 1) := by decide +kernel
theorem dX8_init_9 : decode cX8_init 9 = .ok (.invokespecial 11, 3) := by decide +kernel
theorem dX8_init_12 : decode cX8_init 12 = .ok (.putfield 12, 3) := by decide +kernel
theorem dX8_init_15 : decode cX8_init 15 = .ok (.aload_n 0, 1) := by decide +kernel
theorem dX8_init_16 : decode cX8_init 16 = .ok (.new 18, 3) := by decide +kernel
theorem dX8_init_19 : decode cX8_init 19 = .ok (.dup, 1) := by decide +kernel
theorem dX8_init_20 : decode cX8_init 20 = .ok (.invokespecial 20, 3) := by decide +kernel
theorem dX8_init_23 : decode cX8_init 23 = .ok (.putfield 21, 3) := by decide +kernel
theorem dX8_init_26 : decode cX8_init 26 = .ok (.aload_n 0, 1) := by decide +kernel
theorem dX8_init_27 : decode cX8_init 27 = .ok (.new 18, 3) := by decide +kernel
theorem dX8_init_30 : decode cX8_init 30 = .ok (.dup, 1) := by decide +kernel
theorem dX8_init_31 : decode cX8_init 31 = .ok (.invokespecial 20, 3) := by decide +kernel
theorem dX8_init_34 : decode cX8_init 34 = .ok (.putfield 25, 3) := by decide +kernel
theorem dX8_init_37 : decode cX8_init 37 = .ok (.aload_n 0, 1) := by decide +kernel
theorem dX8_init_38 : decode cX8_init 38 = .ok (.new 28, 3) := by decide +kernel
theorem dX8_init_41 : decode cX8_init 41 = .ok (.dup, 1) := by decide +kernel
theorem dX8_init_42 : decode cX8_init 42 = .ok (.invokespecial 30, 3) := by decide +kernel
theorem dX8_init_45 : decode cX8_init 45 = .ok (.putfield 31, 3) := by decide +kernel
theorem dX8_init_48 : decode cX8_init 48 = .ok (.aload_n 0, 1) := by decide +kernel
theorem dX8_init_49 : decode cX8_init 49 = .ok (.bipush 8, 2) := by decide +kernel
theorem dX8_init_51 : decode cX8_init 51 = .ok (.anewarray 35, 3) := by decide +kernel
theorem dX8_init_54 : decode cX8_init 54 = .ok (.putfield 37, 3) := by decide +kernel
theorem dX8_init_57 : decode cX8_init 57 = .ok (.aload_n 0, 1) := by decide +kernel
theorem dX8_init_58 : decode cX8_init 58 = .ok (.bipush 8, 2) := by decide +kernel
theorem dX8_init_60 : decode cX8_init 60 = .ok (.newarray .int, 2) := by decide +kernel
theorem dX8_init_62 : decode cX8_init 62 = .ok (.putfield 41, 3) := by decide +kernel
theorem dX8_init_65 : decode cX8_init 65 = .ok (.aload_n 0, 1) := by decide +kernel
theorem dX8_init_66 : decode cX8_init 66 = .ok (.bipush 9, 2) := by decide +kernel
theorem dX8_init_68 : decode cX8_init 68 = .ok (.newarray .int, 2) := by decide +kernel
theorem dX8_init_70 : decode cX8_init 70 = .ok (.putfield 45, 3) := by decide +kernel
theorem dX8_init_73 : decode cX8_init 73 = .ok (.aload_n 0, 1) := by decide +kernel
theorem dX8_init_74 : decode cX8_init 74 = .ok (.aload_n 2, 1) := by decide +kernel
theorem dX8_init_75 : decode cX8_init 75 = .ok (.putfield 48, 3) := by decide +kernel
theorem dX8_init_78 : decode cX8_init 78 = .ok (.aload_n 0, 1) := by decide +kernel
theorem dX8_init_79 : decode cX8_init 79 = .ok (.aload_n 3, 1) := by decide +kernel
theorem dX8_init_80 : decode cX8_init 80 = .ok (.putfield 52, 3) := by decide +kernel
theorem dX8_init_83 : decode cX8_init 83 = .ok (.aload_n 0, 1) := by decide +kernel
theorem dX8_init_84 : decode cX8_init 84 = .ok (.new 56, 3) := by decide +kernel
theorem dX8_init_87 : decode cX8_init 87 = .ok (.dup, 1) := by decide +kernel
theorem dX8_init_88 : decode cX8_init 88 = .ok (.iload_n 1, 1) := by decide +kernel
theorem dX8_init_89 : decode cX8_init 89 = .ok (.invokespecial 58, 3) := by decide +kernel
theorem dX8_init_92 : decode cX8_init 92 = .ok (.putfield 61, 3) := by decide +kernel
theorem dX8_init_95 : decode cX8_init 95 = .ok (.aload_n 0, 1) := by decide +kernel
theorem dX8_init_96 : decode cX8_init 96 = .ok (.getfield 45, 3) := by decide +kernel
theorem dX8_init_99 : decode cX8_init 99 = .ok (.bipush 8, 2) := by decide +kernel
theorem dX8_init_101 : decode cX8_init 101 = .ok (.sipush 256, 3) := by decide +kernel
theorem dX8_init_104 : decode cX8_init 104 = .ok (.iastore, 1) := by decide +kernel
theorem dX8_init_105 : decode cX8_init 105 = .ok (.iconst 0, 1) := by decide +kernel
theorem dX8_init_106 : decode cX8_init 106 = .ok (.istore 4, 2) := by decide +kernel
theorem dX8_init_108 : decode cX8_init 108 = .ok (.iload 4, 2) := by decide +kernel
theorem dX8_init_110 : decode cX8_init 110 = .ok (.aload_n 0, 1) := by decide +kernel
theorem dX8_init_111 : decode cX8_init 111 = .ok (.getfield 37, 3) := by decide +kernel
theorem dX8_init_114 : decode cX8_init 114 = .ok (.arraylength, 1) := by decide +kernel
theorem dX8_init_115 : decode cX8_init 115 = .ok (.if_icmp .ge 23, 3) := by decide +kernel
theorem dX8_init_118 : decode cX8_init 118 = .ok (.aload_n 0, 1) := by decide +kernel
theorem dX8_init_119 : decode cX8_init 119 = .ok (.getfield 37, 3) := by decide +kernel
theorem dX8_init_122 : decode cX8_init 122 = .ok (.iload 4, 2) := by decide +kernel
theorem dX8_init_124 : decode cX8_init 124 = .ok (.new 35, 3) := by decide +kernel
theorem dX8_init_127 : decode cX8_init 127 = .ok (.dup, 1) := by decide +kernel
theorem dX8_init_128 : decode cX8_init 128 = .ok (.invokespecial 65, 3) := by decide +kernel
theorem dX8_init_131 : decode cX8_init 131 = .ok (.aastore, 1) := by decide +kernel
theorem dX8_init_132 : decode cX8_init 132 = .ok (.iinc 4 1, 3) := by decide +kernel
theorem dX8_init_135 : decode cX8_init 135 = .ok (.goto (-27), 3) := by decide +kernel
theorem dX8_init_138 : decode cX8_init 138 = .ok (.return_, 1) := by decide +kernel
theorem dX8_reset_0 : decode cX8_reset 0 = .ok (.aload_n 0, 1) := by decide +kernel
theorem dX8_reset_1 : decode cX8_reset 1 = .ok (.getfield 12, 3) := by decide +kernel
theorem dX8_reset_4 : decode cX8_reset 4 = .ok (.invokevirtual 66, 3) := by decide +kernel
theorem dX8_reset_7 : decode cX8_reset 7 = .ok (.aload_n 0, 1) := by decide +kernel
theorem dX8_reset_8 : decode cX8_reset 8 = .ok (.getfield 61, 3) := by decide +kernel
theorem dX8_reset_11 : decode cX8_reset 11 = .ok (.invokevirtual 69, 3) := by decide +kernel
theorem dX8_reset_14 : decode cX8_reset 14 = .ok (.aload_n 0, 1) := by decide +kernel
theorem dX8_reset_15 : decode cX8_reset 15 = .ok (.getfield 21, 3) := by decide +kernel
theorem dX8_reset_18 : decode cX8_reset 18 = .ok (.invokevirtual 70, 3) := by decide +kernel
theorem dX8_reset_21 : decode cX8_reset 21 = .ok (.aload_n 0, 1) := by decide +kernel
theorem dX8_reset_22 : decode cX8_reset 22 = .ok (.getfield 25, 3) := by decide +kernel
theorem dX8_reset_25 : decode cX8_reset 25 = .ok (.invokevirtual 70, 3) := by decide +kernel
theorem dX8_reset_28 : decode cX8_reset 28 = .ok (.aload_n 0, 1) := by decide +kernel
theorem dX8_reset_29 : decode cX8_reset 29 = .ok (.getfield 31, 3) := by decide +kernel
theorem dX8_reset_32 : decode cX8_reset 32 = .ok (.invokevirtual 71, 3) := by decide +kernel
theorem dX8_reset_35 : decode cX8_reset 35 = .ok (.iconst 0, 1) := by decide +kernel
theorem dX8_reset_36 : decode cX8_reset 36 = .ok (.istore_n 1, 1) := by decide +kernel
theorem dX8_reset_37 : decode cX8_reset 37 = .ok (.iload_n 1, 1) := by decide +kernel
theorem dX8_reset_38 : decode cX8_reset 38 = .ok (.aload_n 0, 1) := by decide +kernel
theorem dX8_reset_39 : decode cX8_reset 39 = .ok (.getfield 37, 3) := by decide +kernel
theorem dX8_reset_42 : decode cX8_reset 42 = .ok (.arraylength, 1) := by decide +kernel
theorem dX8_reset_43 : decode cX8_reset 43 = .ok (.if_icmp .ge 19, 3) := by decide +kernel
theorem dX8_reset_46 : decode cX8_reset 46 = .ok (.aload_n 0, 1) := by decide +kernel
theorem dX8_reset_47 : decode cX8_reset 47 = .ok (.getfield 37, 3) := by decide +kernel
theorem dX8_reset_50 : decode cX8_reset 50 = .ok (.iload_n 1, 1) := by decide +kernel
theorem dX8_reset_51 : decode cX8_reset 51 = .ok (.aaload, 1) := by decide +kernel
theorem dX8_reset_52 : decode cX8_reset 52 = .ok (.iconst 0, 1) := by decide +kernel
theorem dX8_reset_53 : decode cX8_reset 53 = .ok (.putfield 72, 3) := by decide +kernel
theorem dX8_reset_56 : decode cX8_reset 56 = .ok (.iinc 1 1, 3) := by decide +kernel
theorem dX8_reset_59 : decode cX8_reset 59 = .ok (.goto (-22), 3) := by decide +kernel
theorem dX8_reset_62 : decode cX8_reset 62 = .ok (.aload_n 0, 1) := by decide +kernel
theorem dX8_reset_63 : decode cX8_reset 63 = .ok (.invokevirtual 76, 3) := by decide +kernel
theorem dX8_reset_66 : decode cX8_reset 66 = .ok (.return_, 1) := by decide +kernel
theorem dX8_beginByte_0 : decode cX8_beginByte 0 = .ok (.iconst 0, 1) := by decide +kernel
theorem dX8_beginByte_1 : decode cX8_beginByte 1 = .ok (.istore_n 1, 1) := by decide +kernel
theorem dX8_beginByte_2 : decode cX8_beginByte 2 = .ok (.iload_n 1, 1) := by decide +kernel
theorem dX8_beginByte_3 : decode cX8_beginByte 3 = .ok (.aload_n 0, 1) := by decide +kernel
theorem dX8_beginByte_4 : decode cX8_beginByte 4 = .ok (.getfield 48, 3) := by decide +kernel
theorem dX8_beginByte_7 : decode cX8_beginByte 7 = .ok (.getfield 79, 3) := by decide +kernel
theorem dX8_beginByte_10 : decode cX8_beginByte 10 = .ok (.if_icmp .ge 79, 3) := by decide +kernel
theorem dX8_beginByte_13 : decode cX8_beginByte 13 = .ok (.aload_n 0, 1) := by decide +kernel
theorem dX8_beginByte_14 : decode cX8_beginByte 14 = .ok (.getfield 48, 3) := by decide +kernel
theorem dX8_beginByte_17 : decode cX8_beginByte 17 = .ok (.getfield 84, 3) := by decide +kernel
theorem dX8_beginByte_20 : decode cX8_beginByte 20 = .ok (.iload_n 1, 1) := by decide +kernel
theorem dX8_beginByte_21 : decode cX8_beginByte 21 = .ok (.iaload, 1) := by decide +kernel
theorem dX8_beginByte_22 : decode cX8_beginByte 22 = .ok (.istore_n 2, 1) := by decide +kernel
theorem dX8_beginByte_23 : decode cX8_beginByte 23 = .ok (.aload_n 0, 1) := by decide +kernel
theorem dX8_beginByte_24 : decode cX8_beginByte 24 = .ok (.getfield 48, 3) := by decide +kernel
theorem dX8_beginByte_27 : decode cX8_beginByte 27 = .ok (.getfield 87, 3) := by decide +kernel
theorem dX8_beginByte_30 : decode cX8_beginByte 30 = .ok (.iload_n 1, 1) := by decide +kernel
theorem dX8_beginByte_31 : decode cX8_beginByte 31 = .ok (.iaload, 1) := by decide +kernel
theorem dX8_beginByte_32 : decode cX8_beginByte 32 = .ok (.istore_n 3, 1) := by decide +kernel
theorem dX8_beginByte_33 : decode cX8_beginByte 33 = .ok (.iload_n 2, 1) := by decide +kernel
theorem dX8_beginByte_34 : decode cX8_beginByte 34 = .ok (.iconst 4, 1) := by decide +kernel
theorem dX8_beginByte_35 : decode cX8_beginByte 35 = .ok (.if_icmp .ne 33, 3) := by decide +kernel
theorem dX8_beginByte_38 : decode cX8_beginByte 38 = .ok (.aload_n 0, 1) := by decide +kernel
theorem dX8_beginByte_39 : decode cX8_beginByte 39 = .ok (.getfield 37, 3) := by decide +kernel
theorem dX8_beginByte_42 : decode cX8_beginByte 42 = .ok (.iload_n 1, 1) := by decide +kernel
theorem dX8_beginByte_43 : decode cX8_beginByte 43 = .ok (.aaload, 1) := by decide +kernel
theorem dX8_beginByte_44 : decode cX8_beginByte 44 = .ok (.aload_n 0, 1) := by decide +kernel
theorem dX8_beginByte_45 : decode cX8_beginByte 45 = .ok (.getfield 12, 3) := by decide +kernel
theorem dX8_beginByte_48 : decode cX8_beginByte 48 = .ok (.invokevirtual 90, 3) := by decide +kernel
theorem dX8_beginByte_51 : decode cX8_beginByte 51 = .ok (.aload_n 0, 1) := by decide +kernel
theorem dX8_beginByte_52 : decode cX8_beginByte 52 = .ok (.getfield 37, 3) := by decide +kernel
theorem dX8_beginByte_55 : decode cX8_beginByte 55 = .ok (.iload_n 1, 1) := by decide +kernel
theorem dX8_beginByte_56 : decode cX8_beginByte 56 = .ok (.aaload, 1) := by decide +kernel
theorem dX8_beginByte_57 : decode cX8_beginByte 57 = .ok (.aload_n 0, 1) := by decide +kernel
theorem dX8_beginByte_58 : decode cX8_beginByte 58 = .ok (.getfield 12, 3) := by decide +kernel
theorem dX8_beginByte_61 : decode cX8_beginByte 61 = .ok (.iload_n 3, 1) := by decide +kernel
theorem dX8_beginByte_62 : decode cX8_beginByte 62 = .ok (.invokevirtual 94, 3) := by decide +kernel
theorem dX8_beginByte_65 : decode cX8_beginByte 65 = .ok (.goto 18, 3) := by decide +kernel
theorem dX8_beginByte_68 : decode cX8_beginByte 68 = .ok (.aload_n 0, 1) := by decide +kernel
theorem dX8_beginByte_69 : decode cX8_beginByte 69 = .ok (.getfield 41, 3) := by decide +kernel
theorem dX8_beginByte_72 : decode cX8_beginByte 72 = .ok (.iload_n 1, 1) := by decide +kernel
theorem dX8_beginByte_73 : decode cX8_beginByte 73 = .ok (.aload_n 0, 1) := by decide +kernel
theorem dX8_beginByte_74 : decode cX8_beginByte 74 = .ok (.getfield 12, 3) := by decide +kernel
theorem dX8_beginByte_77 : decode cX8_beginByte 77 = .ok (.iload_n 2, 1) := by decide +kernel
theorem dX8_beginByte_78 : decode cX8_beginByte 78 = .ok (.iload_n 3, 1) := by decide +kernel
theorem dX8_beginByte_79 : decode cX8_beginByte 79 = .ok (.invokevirtual 98, 3) := by decide +kernel
theorem dX8_beginByte_82 : decode cX8_beginByte 82 = .ok (.iastore, 1) := by decide +kernel
theorem dX8_beginByte_83 : decode cX8_beginByte 83 = .ok (.iinc 1 1, 3) := by decide +kernel
theorem dX8_beginByte_86 : decode cX8_beginByte 86 = .ok (.goto (-84), 3) := by decide +kernel
theorem dX8_beginByte_89 : decode cX8_beginByte 89 = .ok (.return_, 1) := by decide +kernel
theorem dX8_inputOf_0 : decode cX8_inputOf 0 = .ok (.aload_n 0, 1) := by decide +kernel
theorem dX8_inputOf_1 : decode cX8_inputOf 1 = .ok (.getfield 48, 3) := by decide +kernel
theorem dX8_inputOf_4 : decode cX8_inputOf 4 = .ok (.iload_n 1, 1) := by decide +kernel
theorem dX8_inputOf_5 : decode cX8_inputOf 5 = .ok (.invokevirtual 102, 3) := by decide +kernel
theorem dX8_inputOf_8 : decode cX8_inputOf 8 = .ok (.ifCond .eq 15, 3) := by decide +kernel
theorem dX8_inputOf_11 : decode cX8_inputOf 11 = .ok (.aload_n 0, 1) := by decide +kernel
theorem dX8_inputOf_12 : decode cX8_inputOf 12 = .ok (.getfield 48, 3) := by decide +kernel
theorem dX8_inputOf_15 : decode cX8_inputOf 15 = .ok (.getfield 106, 3) := by decide +kernel
theorem dX8_inputOf_18 : decode cX8_inputOf 18 = .ok (.iload_n 1, 1) := by decide +kernel
theorem dX8_inputOf_19 : decode cX8_inputOf 19 = .ok (.baload, 1) := by decide +kernel
theorem dX8_inputOf_20 : decode cX8_inputOf 20 = .ok (.ifCond .eq 5, 3) := by decide +kernel
theorem dX8_inputOf_23 : decode cX8_inputOf 23 = .ok (.iconst 0, 1) := by decide +kernel
theorem dX8_inputOf_24 : decode cX8_inputOf 24 = .ok (.ireturn, 1) := by decide +kernel
theorem dX8_inputOf_25 : decode cX8_inputOf 25 = .ok (.aload_n 0, 1) := by decide +kernel
theorem dX8_inputOf_26 : decode cX8_inputOf 26 = .ok (.getfield 48, 3) := by decide +kernel
theorem dX8_inputOf_29 : decode cX8_inputOf 29 = .ok (.getfield 84, 3) := by decide +kernel
theorem dX8_inputOf_32 : decode cX8_inputOf 32 = .ok (.iload_n 1, 1) := by decide +kernel
theorem dX8_inputOf_33 : decode cX8_inputOf 33 = .ok (.iaload, 1) := by decide +kernel
theorem dX8_inputOf_34 : decode cX8_inputOf 34 = .ok (.iconst 4, 1) := by decide +kernel
theorem dX8_inputOf_35 : decode cX8_inputOf 35 = .ok (.if_icmp .ne 17, 3) := by decide +kernel
theorem dX8_inputOf_38 : decode cX8_inputOf 38 = .ok (.aload_n 0, 1) := by decide +kernel
theorem dX8_inputOf_39 : decode cX8_inputOf 39 = .ok (.getfield 37, 3) := by decide +kernel
theorem dX8_inputOf_42 : decode cX8_inputOf 42 = .ok (.iload_n 1, 1) := by decide +kernel
theorem dX8_inputOf_43 : decode cX8_inputOf 43 = .ok (.aaload, 1) := by decide +kernel
theorem dX8_inputOf_44 : decode cX8_inputOf 44 = .ok (.aload_n 0, 1) := by decide +kernel
theorem dX8_inputOf_45 : decode cX8_inputOf 45 = .ok (.getfield 12, 3) := by decide +kernel
theorem dX8_inputOf_48 : decode cX8_inputOf 48 = .ok (.invokevirtual 110, 3) := by decide +kernel
theorem dX8_inputOf_51 : decode cX8_inputOf 51 = .ok (.ireturn, 1) := by decide +kernel
theorem dX8_inputOf_52 : decode cX8_inputOf 52 = .ok (.aload_n 0, 1) := by decide +kernel
theorem dX8_inputOf_53 : decode cX8_inputOf 53 = .ok (.getfield 52, 3) := by decide +kernel
theorem dX8_inputOf_56 : decode cX8_inputOf 56 = .ok (.aload_n 0, 1) := by decide +kernel
theorem dX8_inputOf_57 : decode cX8_inputOf 57 = .ok (.getfield 61, 3) := by decide +kernel
theorem dX8_inputOf_60 : decode cX8_inputOf 60 = .ok (.getfield 114, 3) := by decide +kernel
theorem dX8_inputOf_63 : decode cX8_inputOf 63 = .ok (.aload_n 0, 1) := by decide +kernel
theorem dX8_inputOf_64 : decode cX8_inputOf 64 = .ok (.getfield 61, 3) := by decide +kernel
theorem dX8_inputOf_67 : decode cX8_inputOf 67 = .ok (.aload_n 0, 1) := by decide +kernel
theorem dX8_inputOf_68 : decode cX8_inputOf 68 = .ok (.getfield 41, 3) := by decide +kernel
theorem dX8_inputOf_71 : decode cX8_inputOf 71 = .ok (.iload_n 1, 1) := by decide +kernel
theorem dX8_inputOf_72 : decode cX8_inputOf 72 = .ok (.iaload, 1) := by decide +kernel
theorem dX8_inputOf_73 : decode cX8_inputOf 73 = .ok (.aload_n 0, 1) := by decide +kernel
theorem dX8_inputOf_74 : decode cX8_inputOf 74 = .ok (.getfield 12, 3) := by decide +kernel
theorem dX8_inputOf_77 : decode cX8_inputOf 77 = .ok (.getfield 117, 3) := by decide +kernel
theorem dX8_inputOf_80 : decode cX8_inputOf 80 = .ok (.invokevirtual 120, 3) := by decide +kernel
theorem dX8_inputOf_83 : decode cX8_inputOf 83 = .ok (.iaload, 1) := by decide +kernel
theorem dX8_inputOf_84 : decode cX8_inputOf 84 = .ok (.iconst 4, 1) := by decide +kernel
theorem dX8_inputOf_85 : decode cX8_inputOf 85 = .ok (.ishr, 1) := by decide +kernel
theorem dX8_inputOf_86 : decode cX8_inputOf 86 = .ok (.invokevirtual 123, 3) := by decide +kernel
theorem dX8_inputOf_89 : decode cX8_inputOf 89 = .ok (.ireturn, 1) := by decide +kernel
theorem dX8_foretell_0 : decode cX8_foretell 0 = .ok (.iconst 0, 1) := by decide +kernel
theorem dX8_foretell_1 : decode cX8_foretell 1 = .ok (.istore_n 1, 1) := by decide +kernel
theorem dX8_foretell_2 : decode cX8_foretell 2 = .ok (.iload_n 1, 1) := by decide +kernel
theorem dX8_foretell_3 : decode cX8_foretell 3 = .ok (.aload_n 0, 1) := by decide +kernel
theorem dX8_foretell_4 : decode cX8_foretell 4 = .ok (.getfield 48, 3) := by decide +kernel
theorem dX8_foretell_7 : decode cX8_foretell 7 = .ok (.getfield 79, 3) := by decide +kernel
theorem dX8_foretell_10 : decode cX8_foretell 10 = .ok (.if_icmp .ge 20, 3) := by decide +kernel
theorem dX8_foretell_13 : decode cX8_foretell 13 = .ok (.aload_n 0, 1) := by decide +kernel
theorem dX8_foretell_14 : decode cX8_foretell 14 = .ok (.getfield 45, 3) := by decide +kernel
theorem dX8_foretell_17 : decode cX8_foretell 17 = .ok (.iload_n 1, 1) := by decide +kernel
theorem dX8_foretell_18 : decode cX8_foretell 18 = .ok (.aload_n 0, 1) := by decide +kernel
theorem dX8_foretell_19 : decode cX8_foretell 19 = .ok (.iload_n 1, 1) := by decide +kernel
theorem dX8_foretell_20 : decode cX8_foretell 20 = .ok (.invokevirtual 129, 3) := by decide +kernel
theorem dX8_foretell_23 : decode cX8_foretell 23 = .ok (.iastore, 1) := by decide +kernel
theorem dX8_foretell_24 : decode cX8_foretell 24 = .ok (.iinc 1 1, 3) := by decide +kernel
theorem dX8_foretell_27 : decode cX8_foretell 27 = .ok (.goto (-25), 3) := by decide +kernel
theorem dX8_foretell_30 : decode cX8_foretell 30 = .ok (.aload_n 0, 1) := by decide +kernel
theorem dX8_foretell_31 : decode cX8_foretell 31 = .ok (.getfield 21, 3) := by decide +kernel
theorem dX8_foretell_34 : decode cX8_foretell 34 = .ok (.aload_n 0, 1) := by decide +kernel
theorem dX8_foretell_35 : decode cX8_foretell 35 = .ok (.getfield 12, 3) := by decide +kernel
theorem dX8_foretell_38 : decode cX8_foretell 38 = .ok (.getfield 117, 3) := by decide +kernel
theorem dX8_foretell_41 : decode cX8_foretell 41 = .ok (.aload_n 0, 1) := by decide +kernel
theorem dX8_foretell_42 : decode cX8_foretell 42 = .ok (.getfield 45, 3) := by decide +kernel
theorem dX8_foretell_45 : decode cX8_foretell 45 = .ok (.invokevirtual 132, 3) := by decide +kernel
theorem dX8_foretell_48 : decode cX8_foretell 48 = .ok (.aload_n 0, 1) := by decide +kernel
theorem dX8_foretell_49 : decode cX8_foretell 49 = .ok (.getfield 25, 3) := by decide +kernel
theorem dX8_foretell_52 : decode cX8_foretell 52 = .ok (.aload_n 0, 1) := by decide +kernel
theorem dX8_foretell_53 : decode cX8_foretell 53 = .ok (.getfield 12, 3) := by decide +kernel
theorem dX8_foretell_56 : decode cX8_foretell 56 = .ok (.iconst 1, 1) := by decide +kernel
theorem dX8_foretell_57 : decode cX8_foretell 57 = .ok (.invokevirtual 136, 3) := by decide +kernel
theorem dX8_foretell_60 : decode cX8_foretell 60 = .ok (.aload_n 0, 1) := by decide +kernel
theorem dX8_foretell_61 : decode cX8_foretell 61 = .ok (.getfield 45, 3) := by decide +kernel
theorem dX8_foretell_64 : decode cX8_foretell 64 = .ok (.invokevirtual 132, 3) := by decide +kernel
theorem dX8_foretell_67 : decode cX8_foretell 67 = .ok (.iadd, 1) := by decide +kernel
theorem dX8_foretell_68 : decode cX8_foretell 68 = .ok (.istore_n 1, 1) := by decide +kernel
theorem dX8_foretell_69 : decode cX8_foretell 69 = .ok (.iload_n 1, 1) := by decide +kernel
theorem dX8_foretell_70 : decode cX8_foretell 70 = .ok (.iconst 1, 1) := by decide +kernel
theorem dX8_foretell_71 : decode cX8_foretell 71 = .ok (.iadd, 1) := by decide +kernel
theorem dX8_foretell_72 : decode cX8_foretell 72 = .ok (.iconst 1, 1) := by decide +kernel
theorem dX8_foretell_73 : decode cX8_foretell 73 = .ok (.ishr, 1) := by decide +kernel
theorem dX8_foretell_74 : decode cX8_foretell 74 = .ok (.istore_n 2, 1) := by decide +kernel
theorem dX8_foretell_75 : decode cX8_foretell 75 = .ok (.aload_n 0, 1) := by decide +kernel
theorem dX8_foretell_76 : decode cX8_foretell 76 = .ok (.getfield 31, 3) := by decide +kernel
theorem dX8_foretell_79 : decode cX8_foretell 79 = .ok (.aload_n 0, 1) := by decide +kernel
theorem dX8_foretell_80 : decode cX8_foretell 80 = .ok (.getfield 12, 3) := by decide +kernel
theorem dX8_foretell_83 : decode cX8_foretell 83 = .ok (.getfield 117, 3) := by decide +kernel
theorem dX8_foretell_86 : decode cX8_foretell 86 = .ok (.aload_n 0, 1) := by decide +kernel
theorem dX8_foretell_87 : decode cX8_foretell 87 = .ok (.getfield 52, 3) := by decide +kernel
theorem dX8_foretell_90 : decode cX8_foretell 90 = .ok (.iload_n 2, 1) := by decide +kernel
theorem dX8_foretell_91 : decode cX8_foretell 91 = .ok (.invokevirtual 123, 3) := by decide +kernel
theorem dX8_foretell_94 : decode cX8_foretell 94 = .ok (.invokevirtual 139, 3) := by decide +kernel
theorem dX8_foretell_97 : decode cX8_foretell 97 = .ok (.istore_n 3, 1) := by decide +kernel
theorem dX8_foretell_98 : decode cX8_foretell 98 = .ok (.iload_n 2, 1) := by decide +kernel
theorem dX8_foretell_99 : decode cX8_foretell 99 = .ok (.iconst 3, 1) := by decide +kernel
theorem dX8_foretell_100 : decode cX8_foretell 100 = .ok (.iload_n 3, 1) := by decide +kernel
theorem dX8_foretell_101 : decode cX8_foretell 101 = .ok (.imul, 1) := by decide +kernel
theorem dX8_foretell_102 : decode cX8_foretell 102 = .ok (.iadd, 1) := by decide +kernel
theorem dX8_foretell_103 : decode cX8_foretell 103 = .ok (.iconst 2, 1) := by decide +kernel
theorem dX8_foretell_104 : decode cX8_foretell 104 = .ok (.iadd, 1) := by decide +kernel
theorem dX8_foretell_105 : decode cX8_foretell 105 = .ok (.iconst 2, 1) := by decide +kernel
theorem dX8_foretell_106 : decode cX8_foretell 106 = .ok (.ishr, 1) := by decide +kernel
theorem dX8_foretell_107 : decode cX8_foretell 107 = .ok (.iconst 1, 1) := by decide +kernel
theorem dX8_foretell_108 : decode cX8_foretell 108 = .ok (.sipush 4095, 3) := by decide +kernel
theorem dX8_foretell_111 : decode cX8_foretell 111 = .ok (.invokestatic 142, 3) := by decide +kernel
theorem dX8_foretell_114 : decode cX8_foretell 114 = .ok (.ireturn, 1) := by decide +kernel
theorem dX8_learn_0 : decode cX8_learn 0 = .ok (.aload_n 0, 1) := by decide +kernel
theorem dX8_learn_1 : decode cX8_learn 1 = .ok (.getfield 21, 3) := by decide +kernel
theorem dX8_learn_4 : decode cX8_learn 4 = .ok (.iload_n 1, 1) := by decide +kernel
theorem dX8_learn_5 : decode cX8_learn 5 = .ok (.aload_n 0, 1) := by decide +kernel
theorem dX8_learn_6 : decode cX8_learn 6 = .ok (.getfield 45, 3) := by decide +kernel
theorem dX8_learn_9 : decode cX8_learn 9 = .ok (.invokevirtual 146, 3) := by decide +kernel
theorem dX8_learn_12 : decode cX8_learn 12 = .ok (.aload_n 0, 1) := by decide +kernel
theorem dX8_learn_13 : decode cX8_learn 13 = .ok (.getfield 25, 3) := by decide +kernel
theorem dX8_learn_16 : decode cX8_learn 16 = .ok (.iload_n 1, 1) := by decide +kernel
theorem dX8_learn_17 : decode cX8_learn 17 = .ok (.aload_n 0, 1) := by decide +kernel
theorem dX8_learn_18 : decode cX8_learn 18 = .ok (.getfield 45, 3) := by decide +kernel
theorem dX8_learn_21 : decode cX8_learn 21 = .ok (.invokevirtual 146, 3) := by decide +kernel
theorem dX8_learn_24 : decode cX8_learn 24 = .ok (.aload_n 0, 1) := by decide +kernel
theorem dX8_learn_25 : decode cX8_learn 25 = .ok (.getfield 31, 3) := by decide +kernel
theorem dX8_learn_28 : decode cX8_learn 28 = .ok (.iload_n 1, 1) := by decide +kernel
theorem dX8_learn_29 : decode cX8_learn 29 = .ok (.invokevirtual 150, 3) := by decide +kernel
theorem dX8_learn_32 : decode cX8_learn 32 = .ok (.iconst 0, 1) := by decide +kernel
theorem dX8_learn_33 : decode cX8_learn 33 = .ok (.istore_n 2, 1) := by decide +kernel
theorem dX8_learn_34 : decode cX8_learn 34 = .ok (.iload_n 2, 1) := by decide +kernel
theorem dX8_learn_35 : decode cX8_learn 35 = .ok (.aload_n 0, 1) := by decide +kernel
theorem dX8_learn_36 : decode cX8_learn 36 = .ok (.getfield 48, 3) := by decide +kernel
theorem dX8_learn_39 : decode cX8_learn 39 = .ok (.getfield 79, 3) := by decide +kernel
theorem dX8_learn_42 : decode cX8_learn 42 = .ok (.if_icmp .ge 62, 3) := by decide +kernel
theorem dX8_learn_45 : decode cX8_learn 45 = .ok (.aload_n 0, 1) := by decide +kernel
theorem dX8_learn_46 : decode cX8_learn 46 = .ok (.getfield 48, 3) := by decide +kernel
theorem dX8_learn_49 : decode cX8_learn 49 = .ok (.getfield 106, 3) := by decide +kernel
theorem dX8_learn_52 : decode cX8_learn 52 = .ok (.iload_n 2, 1) := by decide +kernel
theorem dX8_learn_53 : decode cX8_learn 53 = .ok (.baload, 1) := by decide +kernel
theorem dX8_learn_54 : decode cX8_learn 54 = .ok (.ifCond .ne 44, 3) := by decide +kernel
theorem dX8_learn_57 : decode cX8_learn 57 = .ok (.aload_n 0, 1) := by decide +kernel
theorem dX8_learn_58 : decode cX8_learn 58 = .ok (.getfield 48, 3) := by decide +kernel
theorem dX8_learn_61 : decode cX8_learn 61 = .ok (.getfield 84, 3) := by decide +kernel
theorem dX8_learn_64 : decode cX8_learn 64 = .ok (.iload_n 2, 1) := by decide +kernel
theorem dX8_learn_65 : decode cX8_learn 65 = .ok (.iaload, 1) := by decide +kernel
theorem dX8_learn_66 : decode cX8_learn 66 = .ok (.iconst 4, 1) := by decide +kernel
theorem dX8_learn_67 : decode cX8_learn 67 = .ok (.if_icmp .eq 31, 3) := by decide +kernel
theorem dX8_learn_70 : decode cX8_learn 70 = .ok (.aload_n 0, 1) := by decide +kernel
theorem dX8_learn_71 : decode cX8_learn 71 = .ok (.getfield 61, 3) := by decide +kernel
theorem dX8_learn_74 : decode cX8_learn 74 = .ok (.aload_n 0, 1) := by decide +kernel
theorem dX8_learn_75 : decode cX8_learn 75 = .ok (.getfield 61, 3) := by decide +kernel
theorem dX8_learn_78 : decode cX8_learn 78 = .ok (.aload_n 0, 1) := by decide +kernel
theorem dX8_learn_79 : decode cX8_learn 79 = .ok (.getfield 41, 3) := by decide +kernel
theorem dX8_learn_82 : decode cX8_learn 82 = .ok (.iload_n 2, 1) := by decide +kernel
theorem dX8_learn_83 : decode cX8_learn 83 = .ok (.iaload, 1) := by decide +kernel
theorem dX8_learn_84 : decode cX8_learn 84 = .ok (.aload_n 0, 1) := by decide +kernel
theorem dX8_learn_85 : decode cX8_learn 85 = .ok (.getfield 12, 3) := by decide +kernel
theorem dX8_learn_88 : decode cX8_learn 88 = .ok (.getfield 117, 3) := by decide +kernel
theorem dX8_learn_91 : decode cX8_learn 91 = .ok (.invokevirtual 120, 3) := by decide +kernel
theorem dX8_learn_94 : decode cX8_learn 94 = .ok (.iload_n 1, 1) := by decide +kernel
theorem dX8_learn_95 : decode cX8_learn 95 = .ok (.invokevirtual 153, 3) := by decide +kernel
theorem dX8_learn_98 : decode cX8_learn 98 = .ok (.iinc 2 1, 3) := by decide +kernel
theorem dX8_learn_101 : decode cX8_learn 101 = .ok (.goto (-67), 3) := by decide +kernel
theorem dX8_learn_104 : decode cX8_learn 104 = .ok (.aload_n 0, 1) := by decide +kernel
theorem dX8_learn_105 : decode cX8_learn 105 = .ok (.getfield 12, 3) := by decide +kernel
theorem dX8_learn_108 : decode cX8_learn 108 = .ok (.iload_n 1, 1) := by decide +kernel
theorem dX8_learn_109 : decode cX8_learn 109 = .ok (.invokevirtual 156, 3) := by decide +kernel
theorem dX8_learn_112 : decode cX8_learn 112 = .ok (.ifCond .eq 7, 3) := by decide +kernel
theorem dX8_learn_115 : decode cX8_learn 115 = .ok (.aload_n 0, 1) := by decide +kernel
theorem dX8_learn_116 : decode cX8_learn 116 = .ok (.invokevirtual 76, 3) := by decide +kernel
theorem dX8_learn_119 : decode cX8_learn 119 = .ok (.return_, 1) := by decide +kernel
theorem dX8_firstMatchLength_0 : decode cX8_firstMatchLength 0 = .ok (.iconst 0, 1) := by decide +kernel
theorem dX8_firstMatchLength_1 : decode cX8_firstMatchLength 1 = .ok (.istore_n 1, 1) := by decide +kernel
theorem dX8_firstMatchLength_2 : decode cX8_firstMatchLength 2 = .ok (.iload_n 1, 1) := by decide +kernel
theorem dX8_firstMatchLength_3 : decode cX8_firstMatchLength 3 = .ok (.aload_n 0, 1) := by decide +kernel
theorem dX8_firstMatchLength_4 : decode cX8_firstMatchLength 4 = .ok (.getfield 48, 3) := by decide +kernel
theorem dX8_firstMatchLength_7 : decode cX8_firstMatchLength 7 = .ok (.getfield 79, 3) := by decide +kernel
theorem dX8_firstMatchLength_10 : decode cX8_firstMatchLength 10 = .ok (.if_icmp .ge 32, 3) := by decide +kernel
theorem dX8_firstMatchLength_13 : decode cX8_firstMatchLength 13 = .ok (.aload_n 0, 1) := by decide +kernel
theorem dX8_firstMatchLength_14 : decode cX8_firstMatchLength 14 = .ok (.getfield 48, 3) := by decide +kernel
theorem dX8_firstMatchLength_17 : decode cX8_firstMatchLength 17 = .ok (.getfield 84, 3) := by decide +kernel
theorem dX8_firstMatchLength_20 : decode cX8_firstMatchLength 20 = .ok (.iload_n 1, 1) := by decide +kernel
theorem dX8_firstMatchLength_21 : decode cX8_firstMatchLength 21 = .ok (.iaload, 1) := by decide +kernel
theorem dX8_firstMatchLength_22 : decode cX8_firstMatchLength 22 = .ok (.iconst 4, 1) := by decide +kernel
theorem dX8_firstMatchLength_23 : decode cX8_firstMatchLength 23 = .ok (.if_icmp .ne 13, 3) := by decide +kernel
theorem dX8_firstMatchLength_26 : decode cX8_firstMatchLength 26 = .ok (.aload_n 0, 1) := by decide +kernel
theorem dX8_firstMatchLength_27 : decode cX8_firstMatchLength 27 = .ok (.getfield 37, 3) := by decide +kernel
theorem dX8_firstMatchLength_30 : decode cX8_firstMatchLength 30 = .ok (.iload_n 1, 1) := by decide +kernel
theorem dX8_firstMatchLength_31 : decode cX8_firstMatchLength 31 = .ok (.aaload, 1) := by decide +kernel
theorem dX8_firstMatchLength_32 : decode cX8_firstMatchLength 32 = .ok (.getfield 72, 3) := by decide +kernel
theorem dX8_firstMatchLength_35 : decode cX8_firstMatchLength 35 = .ok (.ireturn, 1) := by decide +kernel
theorem dX8_firstMatchLength_36 : decode cX8_firstMatchLength 36 = .ok (.iinc 1 1, 3) := by decide +kernel
theorem dX8_firstMatchLength_39 : decode cX8_firstMatchLength 39 = .ok (.goto (-37), 3) := by decide +kernel
theorem dX8_firstMatchLength_42 : decode cX8_firstMatchLength 42 = .ok (.iconst 0, 1) := by decide +kernel
theorem dX8_firstMatchLength_43 : decode cX8_firstMatchLength 43 = .ok (.ireturn, 1) := by decide +kernel
theorem dX8_sameAs_0 : decode cX8_sameAs 0 = .ok (.aload_n 0, 1) := by decide +kernel
theorem dX8_sameAs_1 : decode cX8_sameAs 1 = .ok (.getfield 12, 3) := by decide +kernel
theorem dX8_sameAs_4 : decode cX8_sameAs 4 = .ok (.aload_n 1, 1) := by decide +kernel
theorem dX8_sameAs_5 : decode cX8_sameAs 5 = .ok (.getfield 12, 3) := by decide +kernel
theorem dX8_sameAs_8 : decode cX8_sameAs 8 = .ok (.invokevirtual 160, 3) := by decide +kernel
theorem dX8_sameAs_11 : decode cX8_sameAs 11 = .ok (.ifCond .eq 81, 3) := by decide +kernel
theorem dX8_sameAs_14 : decode cX8_sameAs 14 = .ok (.aload_n 0, 1) := by decide +kernel
theorem dX8_sameAs_15 : decode cX8_sameAs 15 = .ok (.getfield 61, 3) := by decide +kernel
theorem dX8_sameAs_18 : decode cX8_sameAs 18 = .ok (.aload_n 1, 1) := by decide +kernel
theorem dX8_sameAs_19 : decode cX8_sameAs 19 = .ok (.getfield 61, 3) := by decide +kernel
theorem dX8_sameAs_22 : decode cX8_sameAs 22 = .ok (.invokevirtual 164, 3) := by decide +kernel
theorem dX8_sameAs_25 : decode cX8_sameAs 25 = .ok (.ifCond .eq 67, 3) := by decide +kernel
theorem dX8_sameAs_28 : decode cX8_sameAs 28 = .ok (.aload_n 0, 1) := by decide +kernel
theorem dX8_sameAs_29 : decode cX8_sameAs 29 = .ok (.getfield 21, 3) := by decide +kernel
theorem dX8_sameAs_32 : decode cX8_sameAs 32 = .ok (.getfield 167, 3) := by decide +kernel
theorem dX8_sameAs_35 : decode cX8_sameAs 35 = .ok (.aload_n 1, 1) := by decide +kernel
theorem dX8_sameAs_36 : decode cX8_sameAs 36 = .ok (.getfield 21, 3) := by decide +kernel
theorem dX8_sameAs_39 : decode cX8_sameAs 39 = .ok (.getfield 167, 3) := by decide +kernel
theorem dX8_sameAs_42 : decode cX8_sameAs 42 = .ok (.invokestatic 170, 3) := by decide +kernel
theorem dX8_sameAs_45 : decode cX8_sameAs 45 = .ok (.ifCond .eq 47, 3) := by decide +kernel
theorem dX8_sameAs_48 : decode cX8_sameAs 48 = .ok (.aload_n 0, 1) := by decide +kernel
theorem dX8_sameAs_49 : decode cX8_sameAs 49 = .ok (.getfield 25, 3) := by decide +kernel
theorem dX8_sameAs_52 : decode cX8_sameAs 52 = .ok (.getfield 167, 3) := by decide +kernel
theorem dX8_sameAs_55 : decode cX8_sameAs 55 = .ok (.aload_n 1, 1) := by decide +kernel
theorem dX8_sameAs_56 : decode cX8_sameAs 56 = .ok (.getfield 25, 3) := by decide +kernel
theorem dX8_sameAs_59 : decode cX8_sameAs 59 = .ok (.getfield 167, 3) := by decide +kernel
theorem dX8_sameAs_62 : decode cX8_sameAs 62 = .ok (.invokestatic 170, 3) := by decide +kernel
theorem dX8_sameAs_65 : decode cX8_sameAs 65 = .ok (.ifCond .eq 27, 3) := by decide +kernel
theorem dX8_sameAs_68 : decode cX8_sameAs 68 = .ok (.aload_n 0, 1) := by decide +kernel
theorem dX8_sameAs_69 : decode cX8_sameAs 69 = .ok (.getfield 31, 3) := by decide +kernel
theorem dX8_sameAs_72 : decode cX8_sameAs 72 = .ok (.getfield 174, 3) := by decide +kernel
theorem dX8_sameAs_75 : decode cX8_sameAs 75 = .ok (.aload_n 1, 1) := by decide +kernel
theorem dX8_sameAs_76 : decode cX8_sameAs 76 = .ok (.getfield 31, 3) := by decide +kernel
theorem dX8_sameAs_79 : decode cX8_sameAs 79 = .ok (.getfield 174, 3) := by decide +kernel
theorem dX8_sameAs_82 : decode cX8_sameAs 82 = .ok (.invokestatic 170, 3) := by decide +kernel
theorem dX8_sameAs_85 : decode cX8_sameAs 85 = .ok (.ifCond .eq 7, 3) := by decide +kernel
theorem dX8_sameAs_88 : decode cX8_sameAs 88 = .ok (.iconst 1, 1) := by decide +kernel
theorem dX8_sameAs_89 : decode cX8_sameAs 89 = .ok (.goto 4, 3) := by decide +kernel
theorem dX8_sameAs_92 : decode cX8_sameAs 92 = .ok (.iconst 0, 1) := by decide +kernel
theorem dX8_sameAs_93 : decode cX8_sameAs 93 = .ok (.ireturn, 1) := by decide +kernel
theorem dX9_init_0 : decode cX9_init 0 = .ok (.aload_n 0, 1) := by decide +kernel
theorem dX9_init_1 : decode cX9_init 1 = .ok (.invokespecial 3, 3) := by decide +kernel
theorem dX9_init_4 : decode cX9_init 4 = .ok (.iconst 1, 1) := by decide +kernel
theorem dX9_init_5 : decode cX9_init 5 = .ok (.iload_n 1, 1) := by decide +kernel
theorem dX9_init_6 : decode cX9_init 6 = .ok (.bipush 6, 2) := by decide +kernel
theorem dX9_init_8 : decode cX9_init 8 = .ok (.bipush 12, 2) := by decide +kernel
theorem dX9_init_10 : decode cX9_init 10 = .ok (.invokestatic 9, 3) := by decide +kernel
theorem dX9_init_13 : decode cX9_init 13 = .ok (.ishl, 1) := by decide +kernel
theorem dX9_init_14 : decode cX9_init 14 = .ok (.istore_n 2, 1) := by decide +kernel
theorem dX9_init_15 : decode cX9_init 15 = .ok (.aload_n 0, 1) := by decide +kernel
theorem dX9_init_16 : decode cX9_init 16 = .ok (.iload_n 2, 1) := by decide +kernel
theorem dX9_init_17 : decode cX9_init 17 = .ok (.newarray .int, 2) := by decide +kernel
theorem dX9_init_19 : decode cX9_init 19 = .ok (.putfield 15, 3) := by decide +kernel
theorem dX9_init_22 : decode cX9_init 22 = .ok (.aload_n 0, 1) := by decide +kernel
theorem dX9_init_23 : decode cX9_init 23 = .ok (.iload_n 2, 1) := by decide +kernel
theorem dX9_init_24 : decode cX9_init 24 = .ok (.newarray .int, 2) := by decide +kernel
theorem dX9_init_26 : decode cX9_init 26 = .ok (.putfield 21, 3) := by decide +kernel
theorem dX9_init_29 : decode cX9_init 29 = .ok (.aload_n 0, 1) := by decide +kernel
theorem dX9_init_30 : decode cX9_init 30 = .ok (.getfield 15, 3) := by decide +kernel
theorem dX9_init_33 : decode cX9_init 33 = .ok (.ldc 24, 2) := by decide +kernel
theorem dX9_init_35 : decode cX9_init 35 = .ok (.invokestatic 25, 3) := by decide +kernel
theorem dX9_init_38 : decode cX9_init 38 = .ok (.return_, 1) := by decide +kernel
theorem dX9_reset_0 : decode cX9_reset 0 = .ok (.aload_n 0, 1) := by decide +kernel
theorem dX9_reset_1 : decode cX9_reset 1 = .ok (.getfield 15, 3) := by decide +kernel
theorem dX9_reset_4 : decode cX9_reset 4 = .ok (.ldc 24, 2) := by decide +kernel
theorem dX9_reset_6 : decode cX9_reset 6 = .ok (.invokestatic 25, 3) := by decide +kernel
theorem dX9_reset_9 : decode cX9_reset 9 = .ok (.aload_n 0, 1) := by decide +kernel
theorem dX9_reset_10 : decode cX9_reset 10 = .ok (.getfield 21, 3) := by decide +kernel
theorem dX9_reset_13 : decode cX9_reset 13 = .ok (.iconst 0, 1) := by decide +kernel
theorem dX9_reset_14 : decode cX9_reset 14 = .ok (.invokestatic 25, 3) := by decide +kernel
theorem dX9_reset_17 : decode cX9_reset 17 = .ok (.return_, 1) := by decide +kernel
theorem dX9_has_0 : decode cX9_has 0 = .ok (.iload_n 1, 1) := by decide +kernel
theorem dX9_has_1 : decode cX9_has 1 = .ok (.ifCond .lt 16, 3) := by decide +kernel
theorem dX9_has_4 : decode cX9_has 4 = .ok (.iload_n 1, 1) := by decide +kernel
theorem dX9_has_5 : decode cX9_has 5 = .ok (.aload_n 0, 1) := by decide +kernel
theorem dX9_has_6 : decode cX9_has 6 = .ok (.getfield 15, 3) := by decide +kernel
theorem dX9_has_9 : decode cX9_has 9 = .ok (.arraylength, 1) := by decide +kernel
theorem dX9_has_10 : decode cX9_has 10 = .ok (.if_icmp .ge 7, 3) := by decide +kernel
theorem dX9_has_13 : decode cX9_has 13 = .ok (.iconst 1, 1) := by decide +kernel
theorem dX9_has_14 : decode cX9_has 14 = .ok (.goto 4, 3) := by decide +kernel
theorem dX9_has_17 : decode cX9_has 17 = .ok (.iconst 0, 1) := by decide +kernel
theorem dX9_has_18 : decode cX9_has 18 = .ok (.ireturn, 1) := by decide +kernel
theorem dX9_placeOf_0 : decode cX9_placeOf 0 = .ok (.iload_n 1, 1) := by decide +kernel
theorem dX9_placeOf_1 : decode cX9_placeOf 1 = .ok (.iload_n 2, 1) := by decide +kernel
theorem dX9_placeOf_2 : decode cX9_placeOf 2 = .ok (.invokestatic 31, 3) := by decide +kernel
theorem dX9_placeOf_5 : decode cX9_placeOf 5 = .ok (.aload_n 0, 1) := by decide +kernel
theorem dX9_placeOf_6 : decode cX9_placeOf 6 = .ok (.getfield 15, 3) := by decide +kernel
theorem dX9_placeOf_9 : decode cX9_placeOf 9 = .ok (.arraylength, 1) := by decide +kernel
theorem dX9_placeOf_10 : decode cX9_placeOf 10 = .ok (.iconst 1, 1) := by decide +kernel
theorem dX9_placeOf_11 : decode cX9_placeOf 11 = .ok (.isub, 1) := by decide +kernel
theorem dX9_placeOf_12 : decode cX9_placeOf 12 = .ok (.iand, 1) := by decide +kernel
theorem dX9_placeOf_13 : decode cX9_placeOf 13 = .ok (.ireturn, 1) := by decide +kernel
theorem dX9_learn_0 : decode cX9_learn 0 = .ok (.aload_n 0, 1) := by decide +kernel
theorem dX9_learn_1 : decode cX9_learn 1 = .ok (.iload_n 1, 1) := by decide +kernel
theorem dX9_learn_2 : decode cX9_learn 2 = .ok (.invokevirtual 35, 3) := by decide +kernel
theorem dX9_learn_5 : decode cX9_learn 5 = .ok (.ifCond .ne 4, 3) := by decide +kernel
theorem dX9_learn_8 : decode cX9_learn 8 = .ok (.return_, 1) := by decide +kernel
theorem dX9_learn_9 : decode cX9_learn 9 = .ok (.ldc 39, 2) := by decide +kernel
theorem dX9_learn_11 : decode cX9_learn 11 = .ok (.iconst 2, 1) := by decide +kernel
theorem dX9_learn_12 : decode cX9_learn 12 = .ok (.aload_n 0, 1) := by decide +kernel
theorem dX9_learn_13 : decode cX9_learn 13 = .ok (.getfield 21, 3) := by decide +kernel
theorem dX9_learn_16 : decode cX9_learn 16 = .ok (.iload_n 1, 1) := by decide +kernel
theorem dX9_learn_17 : decode cX9_learn 17 = .ok (.iaload, 1) := by decide +kernel
theorem dX9_learn_18 : decode cX9_learn 18 = .ok (.iconst 2, 1) := by decide +kernel
theorem dX9_learn_19 : decode cX9_learn 19 = .ok (.iadd, 1) := by decide +kernel
theorem dX9_learn_20 : decode cX9_learn 20 = .ok (.invokestatic 40, 3) := by decide +kernel
theorem dX9_learn_23 : decode cX9_learn 23 = .ok (.idiv, 1) := by decide +kernel
theorem dX9_learn_24 : decode cX9_learn 24 = .ok (.istore_n 3, 1) := by decide +kernel
theorem dX9_learn_25 : decode cX9_learn 25 = .ok (.aload_n 0, 1) := by decide +kernel
theorem dX9_learn_26 : decode cX9_learn 26 = .ok (.getfield 15, 3) := by decide +kernel
theorem dX9_learn_29 : decode cX9_learn 29 = .ok (.iload_n 1, 1) := by decide +kernel
theorem dX9_learn_30 : decode cX9_learn 30 = .ok (.dup2, 1) := by decide +kernel
theorem dX9_learn_31 : decode cX9_learn 31 = .ok (.iaload, 1) := by decide +kernel
theorem dX9_learn_32 : decode cX9_learn 32 = .ok (.iload_n 2, 1) := by decide +kernel
theorem dX9_learn_33 : decode cX9_learn 33 = .ok (.ifCond .eq 8, 3) := by decide +kernel
theorem dX9_learn_36 : decode cX9_learn 36 = .ok (.ldc 45, 2) := by decide +kernel
theorem dX9_learn_38 : decode cX9_learn 38 = .ok (.goto 4, 3) := by decide +kernel
theorem dX9_learn_41 : decode cX9_learn 41 = .ok (.iconst 0, 1) := by decide +kernel
theorem dX9_learn_42 : decode cX9_learn 42 = .ok (.aload_n 0, 1) := by decide +kernel
theorem dX9_learn_43 : decode cX9_learn 43 = .ok (.getfield 15, 3) := by decide +kernel
theorem dX9_learn_46 : decode cX9_learn 46 = .ok (.iload_n 1, 1) := by decide +kernel
theorem dX9_learn_47 : decode cX9_learn 47 = .ok (.iaload, 1) := by decide +kernel
theorem dX9_learn_48 : decode cX9_learn 48 = .ok (.isub, 1) := by decide +kernel
theorem dX9_learn_49 : decode cX9_learn 49 = .ok (.iload_n 3, 1) := by decide +kernel
theorem dX9_learn_50 : decode cX9_learn 50 = .ok (.imul, 1) := by decide +kernel
theorem dX9_learn_51 : decode cX9_learn 51 = .ok (.bipush 16, 2) := by decide +kernel
theorem dX9_learn_53 : decode cX9_learn 53 = .ok (.ishr, 1) := by decide +kernel
theorem dX9_learn_54 : decode cX9_learn 54 = .ok (.iadd, 1) := by decide +kernel
theorem dX9_learn_55 : decode cX9_learn 55 = .ok (.iastore, 1) := by decide +kernel
theorem dX9_learn_56 : decode cX9_learn 56 = .ok (.aload_n 0, 1) := by decide +kernel
theorem dX9_learn_57 : decode cX9_learn 57 = .ok (.getfield 21, 3) := by decide +kernel
theorem dX9_learn_60 : decode cX9_learn 60 = .ok (.iload_n 1, 1) := by decide +kernel
theorem dX9_learn_61 : decode cX9_learn 61 = .ok (.bipush 30, 2) := by decide +kernel
theorem dX9_learn_63 : decode cX9_learn 63 = .ok (.aload_n 0, 1) := by decide +kernel
theorem dX9_learn_64 : decode cX9_learn 64 = .ok (.getfield 21, 3) := by decide +kernel
theorem dX9_learn_67 : decode cX9_learn 67 = .ok (.iload_n 1, 1) := by decide +kernel
theorem dX9_learn_68 : decode cX9_learn 68 = .ok (.iaload, 1) := by decide +kernel
theorem dX9_learn_69 : decode cX9_learn 69 = .ok (.iconst 1, 1) := by decide +kernel
theorem dX9_learn_70 : decode cX9_learn 70 = .ok (.iadd, 1) := by decide +kernel
theorem dX9_learn_71 : decode cX9_learn 71 = .ok (.invokestatic 46, 3) := by decide +kernel
theorem dX9_learn_74 : decode cX9_learn 74 = .ok (.iastore, 1) := by decide +kernel
theorem dX9_learn_75 : decode cX9_learn 75 = .ok (.return_, 1) := by decide +kernel
theorem dX9_sameAs_0 : decode cX9_sameAs 0 = .ok (.aload_n 0, 1) := by decide +kernel
theorem dX9_sameAs_1 : decode cX9_sameAs 1 = .ok (.getfield 15, 3) := by decide +kernel
theorem dX9_sameAs_4 : decode cX9_sameAs 4 = .ok (.aload_n 1, 1) := by decide +kernel
theorem dX9_sameAs_5 : decode cX9_sameAs 5 = .ok (.getfield 15, 3) := by decide +kernel
theorem dX9_sameAs_8 : decode cX9_sameAs 8 = .ok (.invokestatic 49, 3) := by decide +kernel
theorem dX9_sameAs_11 : decode cX9_sameAs 11 = .ok (.ifCond .eq 21, 3) := by decide +kernel
theorem dX9_sameAs_14 : decode cX9_sameAs 14 = .ok (.aload_n 0, 1) := by decide +kernel
theorem dX9_sameAs_15 : decode cX9_sameAs 15 = .ok (.getfield 21, 3) := by decide +kernel
theorem dX9_sameAs_18 : decode cX9_sameAs 18 = .ok (.aload_n 1, 1) := by decide +kernel
theorem dX9_sameAs_19 : decode cX9_sameAs 19 = .ok (.getfield 21, 3) := by decide +kernel
theorem dX9_sameAs_22 : decode cX9_sameAs 22 = .ok (.invokestatic 49, 3) := by decide +kernel
theorem dX9_sameAs_25 : decode cX9_sameAs 25 = .ok (.ifCond .eq 7, 3) := by decide +kernel
theorem dX9_sameAs_28 : decode cX9_sameAs 28 = .ok (.iconst 1, 1) := by decide +kernel
theorem dX9_sameAs_29 : decode cX9_sameAs 29 = .ok (.goto 4, 3) := by decide +kernel
theorem dX9_sameAs_32 : decode cX9_sameAs 32 = .ok (.iconst 0, 1) := by decide +kernel
theorem dX9_sameAs_33 : decode cX9_sameAs 33 = .ok (.ireturn, 1) := by decide +kernel
theorem dX10_init_0 : decode cX10_init 0 = .ok (.aload_n 0, 1) := by decide +kernel
theorem dX10_init_1 : decode cX10_init 1 = .ok (.invokespecial 1, 3) := by decide +kernel
theorem dX10_init_4 : decode cX10_init 4 = .ok (.iload_n 1, 1) := by decide +kernel
theorem dX10_init_5 : decode cX10_init 5 = .ok (.bipush 6, 2) := by decide +kernel
theorem dX10_init_7 : decode cX10_init 7 = .ok (.bipush 12, 2) := by decide +kernel
theorem dX10_init_9 : decode cX10_init 9 = .ok (.invokestatic 9, 3) := by decide +kernel
theorem dX10_init_12 : decode cX10_init 12 = .ok (.istore_n 2, 1) := by decide +kernel
theorem dX10_init_13 : decode cX10_init 13 = .ok (.aload_n 0, 1) := by decide +kernel
theorem dX10_init_14 : decode cX10_init 14 = .ok (.new 10, 3) := by decide +kernel
theorem dX10_init_17 : decode cX10_init 17 = .ok (.dup, 1) := by decide +kernel
theorem dX10_init_18 : decode cX10_init 18 = .ok (.invokespecial 15, 3) := by decide +kernel
theorem dX10_init_21 : decode cX10_init 21 = .ok (.putfield 16, 3) := by decide +kernel
theorem dX10_init_24 : decode cX10_init 24 = .ok (.aload_n 0, 1) := by decide +kernel
theorem dX10_init_25 : decode cX10_init 25 = .ok (.new 20, 3) := by decide +kernel
theorem dX10_init_28 : decode cX10_init 28 = .ok (.dup, 1) := by decide +kernel
theorem dX10_init_29 : decode cX10_init 29 = .ok (.invokespecial 22, 3) := by decide +kernel
theorem dX10_init_32 : decode cX10_init 32 = .ok (.putfield 23, 3) := by decide +kernel
theorem dX10_init_35 : decode cX10_init 35 = .ok (.aload_n 0, 1) := by decide +kernel
theorem dX10_init_36 : decode cX10_init 36 = .ok (.new 27, 3) := by decide +kernel
theorem dX10_init_39 : decode cX10_init 39 = .ok (.dup, 1) := by decide +kernel
theorem dX10_init_40 : decode cX10_init 40 = .ok (.iload_n 2, 1) := by decide +kernel
theorem dX10_init_41 : decode cX10_init 41 = .ok (.aload_n 0, 1) := by decide +kernel
theorem dX10_init_42 : decode cX10_init 42 = .ok (.getfield 23, 3) := by decide +kernel
theorem dX10_init_45 : decode cX10_init 45 = .ok (.aload_n 0, 1) := by decide +kernel
theorem dX10_init_46 : decode cX10_init 46 = .ok (.getfield 16, 3) := by decide +kernel
theorem dX10_init_49 : decode cX10_init 49 = .ok (.invokespecial 29, 3) := by decide +kernel
theorem dX10_init_52 : decode cX10_init 52 = .ok (.putfield 32, 3) := by decide +kernel
theorem dX10_init_55 : decode cX10_init 55 = .ok (.aload_n 0, 1) := by decide +kernel
theorem dX10_init_56 : decode cX10_init 56 = .ok (.new 27, 3) := by decide +kernel
theorem dX10_init_59 : decode cX10_init 59 = .ok (.dup, 1) := by decide +kernel
theorem dX10_init_60 : decode cX10_init 60 = .ok (.iload_n 2, 1) := by decide +kernel
theorem dX10_init_61 : decode cX10_init 61 = .ok (.aload_n 0, 1) := by decide +kernel
theorem dX10_init_62 : decode cX10_init 62 = .ok (.getfield 23, 3) := by decide +kernel
theorem dX10_init_65 : decode cX10_init 65 = .ok (.aload_n 0, 1) := by decide +kernel
theorem dX10_init_66 : decode cX10_init 66 = .ok (.getfield 16, 3) := by decide +kernel
theorem dX10_init_69 : decode cX10_init 69 = .ok (.invokespecial 29, 3) := by decide +kernel
theorem dX10_init_72 : decode cX10_init 72 = .ok (.putfield 36, 3) := by decide +kernel
theorem dX10_init_75 : decode cX10_init 75 = .ok (.aload_n 0, 1) := by decide +kernel
theorem dX10_init_76 : decode cX10_init 76 = .ok (.new 39, 3) := by decide +kernel
theorem dX10_init_79 : decode cX10_init 79 = .ok (.dup, 1) := by decide +kernel
theorem dX10_init_80 : decode cX10_init 80 = .ok (.invokespecial 41, 3) := by decide +kernel
theorem dX10_init_83 : decode cX10_init 83 = .ok (.putfield 42, 3) := by decide +kernel
theorem dX10_init_86 : decode cX10_init 86 = .ok (.aload_n 0, 1) := by decide +kernel
theorem dX10_init_87 : decode cX10_init 87 = .ok (.new 46, 3) := by decide +kernel
theorem dX10_init_90 : decode cX10_init 90 = .ok (.dup, 1) := by decide +kernel
theorem dX10_init_91 : decode cX10_init 91 = .ok (.invokespecial 48, 3) := by decide +kernel
theorem dX10_init_94 : decode cX10_init 94 = .ok (.putfield 49, 3) := by decide +kernel
theorem dX10_init_97 : decode cX10_init 97 = .ok (.aload_n 0, 1) := by decide +kernel
theorem dX10_init_98 : decode cX10_init 98 = .ok (.new 46, 3) := by decide +kernel
theorem dX10_init_101 : decode cX10_init 101 = .ok (.dup, 1) := by decide +kernel
theorem dX10_init_102 : decode cX10_init 102 = .ok (.invokespecial 48, 3) := by decide +kernel
theorem dX10_init_105 : decode cX10_init 105 = .ok (.putfield 53, 3) := by decide +kernel
theorem dX10_init_108 : decode cX10_init 108 = .ok (.return_, 1) := by decide +kernel
theorem dX10_predictor_0 : decode cX10_predictor 0 = .ok (.iload_n 1, 1) := by decide +kernel
theorem dX10_predictor_1 : decode cX10_predictor 1 = .ok (.iload_n 2, 1) := by decide +kernel
theorem dX10_predictor_2 : decode cX10_predictor 2 = .ok (.invokestatic 56, 3) := by decide +kernel
theorem dX10_predictor_5 : decode cX10_predictor 5 = .ok (.ifCond .ne 5, 3) := by decide +kernel
theorem dX10_predictor_8 : decode cX10_predictor 8 = .ok (.iconst (-1), 1) := by decide +kernel
theorem dX10_predictor_9 : decode cX10_predictor 9 = .ok (.ireturn, 1) := by decide +kernel
theorem dX10_predictor_10 : decode cX10_predictor 10 = .ok (.aload_n 0, 1) := by decide +kernel
theorem dX10_predictor_11 : decode cX10_predictor 11 = .ok (.getfield 60, 3) := by decide +kernel
theorem dX10_predictor_14 : decode cX10_predictor 14 = .ok (.ifCond .ne 16, 3) := by decide +kernel
theorem dX10_predictor_17 : decode cX10_predictor 17 = .ok (.aload_n 0, 1) := by decide +kernel
theorem dX10_predictor_18 : decode cX10_predictor 18 = .ok (.getfield 32, 3) := by decide +kernel
theorem dX10_predictor_21 : decode cX10_predictor 21 = .ok (.getfield 64, 3) := by decide +kernel
theorem dX10_predictor_24 : decode cX10_predictor 24 = .ok (.invokevirtual 68, 3) := by decide +kernel
theorem dX10_predictor_27 : decode cX10_predictor 27 = .ok (.ifCond .eq 6, 3) := by decide +kernel
theorem dX10_predictor_30 : decode cX10_predictor 30 = .ok (.bipush (-4), 2) := by decide +kernel
theorem dX10_predictor_32 : decode cX10_predictor 32 = .ok (.ireturn, 1) := by decide +kernel
theorem dX10_predictor_33 : decode cX10_predictor 33 = .ok (.aload_n 0, 1) := by decide +kernel
theorem dX10_predictor_34 : decode cX10_predictor 34 = .ok (.getfield 23, 3) := by decide +kernel
theorem dX10_predictor_37 : decode cX10_predictor 37 = .ok (.iload_n 1, 1) := by decide +kernel
theorem dX10_predictor_38 : decode cX10_predictor 38 = .ok (.iload_n 2, 1) := by decide +kernel
theorem dX10_predictor_39 : decode cX10_predictor 39 = .ok (.invokevirtual 74, 3) := by decide +kernel
theorem dX10_predictor_42 : decode cX10_predictor 42 = .ok (.istore_n 3, 1) := by decide +kernel
theorem dX10_predictor_43 : decode cX10_predictor 43 = .ok (.aload_n 0, 1) := by decide +kernel
theorem dX10_predictor_44 : decode cX10_predictor 44 = .ok (.getfield 32, 3) := by decide +kernel
theorem dX10_predictor_47 : decode cX10_predictor 47 = .ok (.invokevirtual 78, 3) := by decide +kernel
theorem dX10_predictor_50 : decode cX10_predictor 50 = .ok (.aload_n 0, 1) := by decide +kernel
theorem dX10_predictor_51 : decode cX10_predictor 51 = .ok (.getfield 36, 3) := by decide +kernel
theorem dX10_predictor_54 : decode cX10_predictor 54 = .ok (.invokevirtual 78, 3) := by decide +kernel
theorem dX10_predictor_57 : decode cX10_predictor 57 = .ok (.iload_n 3, 1) := by decide +kernel
theorem dX10_predictor_58 : decode cX10_predictor 58 = .ok (.ireturn, 1) := by decide +kernel
theorem dX10_off_0 : decode cX10_off 0 = .ok (.aload_n 0, 1) := by decide +kernel
theorem dX10_off_1 : decode cX10_off 1 = .ok (.getfield 23, 3) := by decide +kernel
theorem dX10_off_4 : decode cX10_off 4 = .ok (.iload_n 1, 1) := by decide +kernel
theorem dX10_off_5 : decode cX10_off 5 = .ok (.invokevirtual 81, 3) := by decide +kernel
theorem dX10_off_8 : decode cX10_off 8 = .ok (.ifCond .ne 5, 3) := by decide +kernel
theorem dX10_off_11 : decode cX10_off 11 = .ok (.iconst (-1), 1) := by decide +kernel
theorem dX10_off_12 : decode cX10_off 12 = .ok (.ireturn, 1) := by decide +kernel
theorem dX10_off_13 : decode cX10_off 13 = .ok (.aload_n 0, 1) := by decide +kernel
theorem dX10_off_14 : decode cX10_off 14 = .ok (.getfield 60, 3) := by decide +kernel
theorem dX10_off_17 : decode cX10_off 17 = .ok (.ifCond .ne 16, 3) := by decide +kernel
theorem dX10_off_20 : decode cX10_off 20 = .ok (.aload_n 0, 1) := by decide +kernel
theorem dX10_off_21 : decode cX10_off 21 = .ok (.getfield 32, 3) := by decide +kernel
theorem dX10_off_24 : decode cX10_off 24 = .ok (.getfield 64, 3) := by decide +kernel
theorem dX10_off_27 : decode cX10_off 27 = .ok (.invokevirtual 68, 3) := by decide +kernel
theorem dX10_off_30 : decode cX10_off 30 = .ok (.ifCond .eq 6, 3) := by decide +kernel
theorem dX10_off_33 : decode cX10_off 33 = .ok (.bipush (-4), 2) := by decide +kernel
theorem dX10_off_35 : decode cX10_off 35 = .ok (.ireturn, 1) := by decide +kernel
theorem dX10_off_36 : decode cX10_off 36 = .ok (.aload_n 0, 1) := by decide +kernel
theorem dX10_off_37 : decode cX10_off 37 = .ok (.getfield 23, 3) := by decide +kernel
theorem dX10_off_40 : decode cX10_off 40 = .ok (.iload_n 1, 1) := by decide +kernel
theorem dX10_off_41 : decode cX10_off 41 = .ok (.invokevirtual 85, 3) := by decide +kernel
theorem dX10_off_44 : decode cX10_off 44 = .ok (.ifCond .eq 7, 3) := by decide +kernel
theorem dX10_off_47 : decode cX10_off 47 = .ok (.iconst 1, 1) := by decide +kernel
theorem dX10_off_48 : decode cX10_off 48 = .ok (.goto 4, 3) := by decide +kernel
theorem dX10_off_51 : decode cX10_off 51 = .ok (.iconst 0, 1) := by decide +kernel
theorem dX10_off_52 : decode cX10_off 52 = .ok (.ireturn, 1) := by decide +kernel
theorem dX10_bit_0 : decode cX10_bit 0 = .ok (.aload_n 0, 1) := by decide +kernel
theorem dX10_bit_1 : decode cX10_bit 1 = .ok (.getfield 60, 3) := by decide +kernel
theorem dX10_bit_4 : decode cX10_bit 4 = .ok (.ifCond .eq 6, 3) := by decide +kernel
theorem dX10_bit_7 : decode cX10_bit 7 = .ok (.bipush (-4), 2) := by decide +kernel
theorem dX10_bit_9 : decode cX10_bit 9 = .ok (.ireturn, 1) := by decide +kernel
theorem dX10_bit_10 : decode cX10_bit 10 = .ok (.aload_n 0, 1) := by decide +kernel
theorem dX10_bit_11 : decode cX10_bit 11 = .ok (.invokevirtual 88, 3) := by decide +kernel
theorem dX10_bit_14 : decode cX10_bit 14 = .ok (.ifCond .eq 6, 3) := by decide +kernel
theorem dX10_bit_17 : decode cX10_bit 17 = .ok (.bipush (-3), 2) := by decide +kernel
theorem dX10_bit_19 : decode cX10_bit 19 = .ok (.ireturn, 1) := by decide +kernel
theorem dX10_bit_20 : decode cX10_bit 20 = .ok (.aload_n 0, 1) := by decide +kernel
theorem dX10_bit_21 : decode cX10_bit 21 = .ok (.iload_n 1, 1) := by decide +kernel
theorem dX10_bit_22 : decode cX10_bit 22 = .ok (.invokevirtual 91, 3) := by decide +kernel
theorem dX10_bit_25 : decode cX10_bit 25 = .ok (.aload_n 0, 1) := by decide +kernel
theorem dX10_bit_26 : decode cX10_bit 26 = .ok (.getfield 42, 3) := by decide +kernel
theorem dX10_bit_29 : decode cX10_bit 29 = .ok (.getfield 95, 3) := by decide +kernel
theorem dX10_bit_32 : decode cX10_bit 32 = .ok (.ireturn, 1) := by decide +kernel
theorem dX10_octet_0 : decode cX10_octet 0 = .ok (.aload_n 0, 1) := by decide +kernel
theorem dX10_octet_1 : decode cX10_octet 1 = .ok (.getfield 60, 3) := by decide +kernel
theorem dX10_octet_4 : decode cX10_octet 4 = .ok (.ifCond .ne 16, 3) := by decide +kernel
theorem dX10_octet_7 : decode cX10_octet 7 = .ok (.aload_n 0, 1) := by decide +kernel
theorem dX10_octet_8 : decode cX10_octet 8 = .ok (.getfield 32, 3) := by decide +kernel
theorem dX10_octet_11 : decode cX10_octet 11 = .ok (.getfield 64, 3) := by decide +kernel
theorem dX10_octet_14 : decode cX10_octet 14 = .ok (.getfield 99, 3) := by decide +kernel
theorem dX10_octet_17 : decode cX10_octet 17 = .ok (.ifCond .eq 6, 3) := by decide +kernel
theorem dX10_octet_20 : decode cX10_octet 20 = .ok (.bipush (-4), 2) := by decide +kernel
theorem dX10_octet_22 : decode cX10_octet 22 = .ok (.ireturn, 1) := by decide +kernel
theorem dX10_octet_23 : decode cX10_octet 23 = .ok (.aload_n 0, 1) := by decide +kernel
theorem dX10_octet_24 : decode cX10_octet 24 = .ok (.invokevirtual 88, 3) := by decide +kernel
theorem dX10_octet_27 : decode cX10_octet 27 = .ok (.ifCond .eq 6, 3) := by decide +kernel
theorem dX10_octet_30 : decode cX10_octet 30 = .ok (.bipush (-3), 2) := by decide +kernel
theorem dX10_octet_32 : decode cX10_octet 32 = .ok (.ireturn, 1) := by decide +kernel
theorem dX10_octet_33 : decode cX10_octet 33 = .ok (.bipush 7, 2) := by decide +kernel
theorem dX10_octet_35 : decode cX10_octet 35 = .ok (.istore_n 2, 1) := by decide +kernel
theorem dX10_octet_36 : decode cX10_octet 36 = .ok (.iload_n 2, 1) := by decide +kernel
theorem dX10_octet_37 : decode cX10_octet 37 = .ok (.ifCond .lt 27, 3) := by decide +kernel
theorem dX10_octet_40 : decode cX10_octet 40 = .ok (.aload_n 0, 1) := by decide +kernel
theorem dX10_octet_41 : decode cX10_octet 41 = .ok (.iload_n 1, 1) := by decide +kernel
theorem dX10_octet_42 : decode cX10_octet 42 = .ok (.iload_n 2, 1) := by decide +kernel
theorem dX10_octet_43 : decode cX10_octet 43 = .ok (.ishr, 1) := by decide +kernel
theorem dX10_octet_44 : decode cX10_octet 44 = .ok (.iconst 1, 1) := by decide +kernel
theorem dX10_octet_45 : decode cX10_octet 45 = .ok (.iand, 1) := by decide +kernel
theorem dX10_octet_46 : decode cX10_octet 46 = .ok (.iconst 1, 1) := by decide +kernel
theorem dX10_octet_47 : decode cX10_octet 47 = .ok (.if_icmp .ne 7, 3) := by decide +kernel
theorem dX10_octet_50 : decode cX10_octet 50 = .ok (.iconst 1, 1) := by decide +kernel
theorem dX10_octet_51 : decode cX10_octet 51 = .ok (.goto 4, 3) := by decide +kernel
theorem dX10_octet_54 : decode cX10_octet 54 = .ok (.iconst 0, 1) := by decide +kernel
theorem dX10_octet_55 : decode cX10_octet 55 = .ok (.invokevirtual 91, 3) := by decide +kernel
theorem dX10_octet_58 : decode cX10_octet 58 = .ok (.iinc 2 (-1), 3) := by decide +kernel
theorem dX10_octet_61 : decode cX10_octet 61 = .ok (.goto (-25), 3) := by decide +kernel
theorem dX10_octet_64 : decode cX10_octet 64 = .ok (.aload_n 0, 1) := by decide +kernel
theorem dX10_octet_65 : decode cX10_octet 65 = .ok (.getfield 42, 3) := by decide +kernel
theorem dX10_octet_68 : decode cX10_octet 68 = .ok (.getfield 95, 3) := by decide +kernel
theorem dX10_octet_71 : decode cX10_octet 71 = .ok (.ireturn, 1) := by decide +kernel
theorem dX10_end_0 : decode cX10_end 0 = .ok (.aload_n 0, 1) := by decide +kernel
theorem dX10_end_1 : decode cX10_end 1 = .ok (.getfield 60, 3) := by decide +kernel
theorem dX10_end_4 : decode cX10_end 4 = .ok (.ifCond .eq 6, 3) := by decide +kernel
theorem dX10_end_7 : decode cX10_end 7 = .ok (.bipush (-4), 2) := by decide +kernel
theorem dX10_end_9 : decode cX10_end 9 = .ok (.ireturn, 1) := by decide +kernel
theorem dX10_end_10 : decode cX10_end 10 = .ok (.iconst 0, 1) := by decide +kernel
theorem dX10_end_11 : decode cX10_end 11 = .ok (.istore_n 1, 1) := by decide +kernel
theorem dX10_end_12 : decode cX10_end 12 = .ok (.iload_n 1, 1) := by decide +kernel
theorem dX10_end_13 : decode cX10_end 13 = .ok (.iconst 4, 1) := by decide +kernel
theorem dX10_end_14 : decode cX10_end 14 = .ok (.if_icmp .ge 30, 3) := by decide +kernel
theorem dX10_end_17 : decode cX10_end 17 = .ok (.aload_n 0, 1) := by decide +kernel
theorem dX10_end_18 : decode cX10_end 18 = .ok (.getfield 42, 3) := by decide +kernel
theorem dX10_end_21 : decode cX10_end 21 = .ok (.aload_n 0, 1) := by decide +kernel
theorem dX10_end_22 : decode cX10_end 22 = .ok (.getfield 49, 3) := by decide +kernel
theorem dX10_end_25 : decode cX10_end 25 = .ok (.invokevirtual 102, 3) := by decide +kernel
theorem dX10_end_28 : decode cX10_end 28 = .ok (.invokevirtual 106, 3) := by decide +kernel
theorem dX10_end_31 : decode cX10_end 31 = .ok (.aload_n 0, 1) := by decide +kernel
theorem dX10_end_32 : decode cX10_end 32 = .ok (.getfield 49, 3) := by decide +kernel
theorem dX10_end_35 : decode cX10_end 35 = .ok (.invokevirtual 109, 3) := by decide +kernel
theorem dX10_end_38 : decode cX10_end 38 = .ok (.iinc 1 1, 3) := by decide +kernel
theorem dX10_end_41 : decode cX10_end 41 = .ok (.goto (-29), 3) := by decide +kernel
theorem dX10_end_44 : decode cX10_end 44 = .ok (.aload_n 0, 1) := by decide +kernel
theorem dX10_end_45 : decode cX10_end 45 = .ok (.iconst 1, 1) := by decide +kernel
theorem dX10_end_46 : decode cX10_end 46 = .ok (.putfield 60, 3) := by decide +kernel
theorem dX10_end_49 : decode cX10_end 49 = .ok (.aload_n 0, 1) := by decide +kernel
theorem dX10_end_50 : decode cX10_end 50 = .ok (.invokevirtual 112, 3) := by decide +kernel
theorem dX10_end_53 : decode cX10_end 53 = .ok (.aload_n 0, 1) := by decide +kernel
theorem dX10_end_54 : decode cX10_end 54 = .ok (.getfield 42, 3) := by decide +kernel
theorem dX10_end_57 : decode cX10_end 57 = .ok (.getfield 95, 3) := by decide +kernel
theorem dX10_end_60 : decode cX10_end 60 = .ok (.ireturn, 1) := by decide +kernel
theorem dX10_get_0 : decode cX10_get 0 = .ok (.aload_n 0, 1) := by decide +kernel
theorem dX10_get_1 : decode cX10_get 1 = .ok (.getfield 60, 3) := by decide +kernel
theorem dX10_get_4 : decode cX10_get 4 = .ok (.ifCond .ne 6, 3) := by decide +kernel
theorem dX10_get_7 : decode cX10_get 7 = .ok (.bipush (-4), 2) := by decide +kernel
theorem dX10_get_9 : decode cX10_get 9 = .ok (.ireturn, 1) := by decide +kernel
theorem dX10_get_10 : decode cX10_get 10 = .ok (.aload_n 0, 1) := by decide +kernel
theorem dX10_get_11 : decode cX10_get 11 = .ok (.getfield 36, 3) := by decide +kernel
theorem dX10_get_14 : decode cX10_get 14 = .ok (.getfield 64, 3) := by decide +kernel
theorem dX10_get_17 : decode cX10_get 17 = .ok (.getfield 115, 3) := by decide +kernel
theorem dX10_get_20 : decode cX10_get 20 = .ok (.aload_n 0, 1) := by decide +kernel
theorem dX10_get_21 : decode cX10_get 21 = .ok (.getfield 32, 3) := by decide +kernel
theorem dX10_get_24 : decode cX10_get 24 = .ok (.getfield 64, 3) := by decide +kernel
theorem dX10_get_27 : decode cX10_get 27 = .ok (.getfield 115, 3) := by decide +kernel
theorem dX10_get_30 : decode cX10_get 30 = .ok (.if_icmp .lt 6, 3) := by decide +kernel
theorem dX10_get_33 : decode cX10_get 33 = .ok (.bipush (-2), 2) := by decide +kernel
theorem dX10_get_35 : decode cX10_get 35 = .ok (.ireturn, 1) := by decide +kernel
theorem dX10_get_36 : decode cX10_get 36 = .ok (.iconst 0, 1) := by decide +kernel
theorem dX10_get_37 : decode cX10_get 37 = .ok (.istore_n 1, 1) := by decide +kernel
theorem dX10_get_38 : decode cX10_get 38 = .ok (.iconst 0, 1) := by decide +kernel
theorem dX10_get_39 : decode cX10_get 39 = .ok (.istore_n 2, 1) := by decide +kernel
theorem dX10_get_40 : decode cX10_get 40 = .ok (.iload_n 2, 1) := by decide +kernel
theorem dX10_get_41 : decode cX10_get 41 = .ok (.bipush 8, 2) := by decide +kernel
theorem dX10_get_43 : decode cX10_get 43 = .ok (.if_icmp .ge 26, 3) := by decide +kernel
theorem dX10_get_46 : decode cX10_get 46 = .ok (.iload_n 1, 1) := by decide +kernel
theorem dX10_get_47 : decode cX10_get 47 = .ok (.iconst 1, 1) := by decide +kernel
theorem dX10_get_48 : decode cX10_get 48 = .ok (.ishl, 1) := by decide +kernel
theorem dX10_get_49 : decode cX10_get 49 = .ok (.aload_n 0, 1) := by decide +kernel
theorem dX10_get_50 : decode cX10_get 50 = .ok (.invokevirtual 116, 3) := by decide +kernel
theorem dX10_get_53 : decode cX10_get 53 = .ok (.ifCond .eq 7, 3) := by decide +kernel
theorem dX10_get_56 : decode cX10_get 56 = .ok (.iconst 1, 1) := by decide +kernel
theorem dX10_get_57 : decode cX10_get 57 = .ok (.goto 4, 3) := by decide +kernel
theorem dX10_get_60 : decode cX10_get 60 = .ok (.iconst 0, 1) := by decide +kernel
theorem dX10_get_61 : decode cX10_get 61 = .ok (.ior, 1) := by decide +kernel
theorem dX10_get_62 : decode cX10_get 62 = .ok (.istore_n 1, 1) := by decide +kernel
theorem dX10_get_63 : decode cX10_get 63 = .ok (.iinc 2 1, 3) := by decide +kernel
theorem dX10_get_66 : decode cX10_get 66 = .ok (.goto (-26), 3) := by decide +kernel
theorem dX10_get_69 : decode cX10_get 69 = .ok (.iload_n 1, 1) := by decide +kernel
theorem dX10_get_70 : decode cX10_get 70 = .ok (.ireturn, 1) := by decide +kernel
theorem dX10_again_0 : decode cX10_again 0 = .ok (.aload_n 0, 1) := by decide +kernel
theorem dX10_again_1 : decode cX10_again 1 = .ok (.getfield 36, 3) := by decide +kernel
theorem dX10_again_4 : decode cX10_again 4 = .ok (.getfield 64, 3) := by decide +kernel
theorem dX10_again_7 : decode cX10_again 7 = .ok (.getfield 115, 3) := by decide +kernel
theorem dX10_again_10 : decode cX10_again 10 = .ok (.istore_n 1, 1) := by decide +kernel
theorem dX10_again_11 : decode cX10_again 11 = .ok (.aload_n 0, 1) := by decide +kernel
theorem dX10_again_12 : decode cX10_again 12 = .ok (.getfield 36, 3) := by decide +kernel
theorem dX10_again_15 : decode cX10_again 15 = .ok (.invokevirtual 119, 3) := by decide +kernel
theorem dX10_again_18 : decode cX10_again 18 = .ok (.aload_n 0, 1) := by decide +kernel
theorem dX10_again_19 : decode cX10_again 19 = .ok (.invokevirtual 112, 3) := by decide +kernel
theorem dX10_again_22 : decode cX10_again 22 = .ok (.iload_n 1, 1) := by decide +kernel
theorem dX10_again_23 : decode cX10_again 23 = .ok (.ireturn, 1) := by decide +kernel
theorem dX10_clear_0 : decode cX10_clear 0 = .ok (.aload_n 0, 1) := by decide +kernel
theorem dX10_clear_1 : decode cX10_clear 1 = .ok (.getfield 32, 3) := by decide +kernel
theorem dX10_clear_4 : decode cX10_clear 4 = .ok (.invokevirtual 119, 3) := by decide +kernel
theorem dX10_clear_7 : decode cX10_clear 7 = .ok (.aload_n 0, 1) := by decide +kernel
theorem dX10_clear_8 : decode cX10_clear 8 = .ok (.getfield 36, 3) := by decide +kernel
theorem dX10_clear_11 : decode cX10_clear 11 = .ok (.invokevirtual 119, 3) := by decide +kernel
theorem dX10_clear_14 : decode cX10_clear 14 = .ok (.aload_n 0, 1) := by decide +kernel
theorem dX10_clear_15 : decode cX10_clear 15 = .ok (.getfield 42, 3) := by decide +kernel
theorem dX10_clear_18 : decode cX10_clear 18 = .ok (.iconst 0, 1) := by decide +kernel
theorem dX10_clear_19 : decode cX10_clear 19 = .ok (.putfield 95, 3) := by decide +kernel
theorem dX10_clear_22 : decode cX10_clear 22 = .ok (.aload_n 0, 1) := by decide +kernel
theorem dX10_clear_23 : decode cX10_clear 23 = .ok (.getfield 49, 3) := by decide +kernel
theorem dX10_clear_26 : decode cX10_clear 26 = .ok (.invokevirtual 122, 3) := by decide +kernel
theorem dX10_clear_29 : decode cX10_clear 29 = .ok (.aload_n 0, 1) := by decide +kernel
theorem dX10_clear_30 : decode cX10_clear 30 = .ok (.iconst 0, 1) := by decide +kernel
theorem dX10_clear_31 : decode cX10_clear 31 = .ok (.putfield 60, 3) := by decide +kernel
theorem dX10_clear_34 : decode cX10_clear 34 = .ok (.aload_n 0, 1) := by decide +kernel
theorem dX10_clear_35 : decode cX10_clear 35 = .ok (.invokevirtual 112, 3) := by decide +kernel
theorem dX10_clear_38 : decode cX10_clear 38 = .ok (.iconst 1, 1) := by decide +kernel
theorem dX10_clear_39 : decode cX10_clear 39 = .ok (.ireturn, 1) := by decide +kernel
theorem dX10_out_0 : decode cX10_out 0 = .ok (.aload_n 0, 1) := by decide +kernel
theorem dX10_out_1 : decode cX10_out 1 = .ok (.getfield 42, 3) := by decide +kernel
theorem dX10_out_4 : decode cX10_out 4 = .ok (.iload_n 1, 1) := by decide +kernel
theorem dX10_out_5 : decode cX10_out 5 = .ok (.invokevirtual 123, 3) := by decide +kernel
theorem dX10_out_8 : decode cX10_out 8 = .ok (.ifCond .eq 14, 3) := by decide +kernel
theorem dX10_out_11 : decode cX10_out 11 = .ok (.aload_n 0, 1) := by decide +kernel
theorem dX10_out_12 : decode cX10_out 12 = .ok (.getfield 42, 3) := by decide +kernel
theorem dX10_out_15 : decode cX10_out 15 = .ok (.iload_n 1, 1) := by decide +kernel
theorem dX10_out_16 : decode cX10_out 16 = .ok (.invokevirtual 124, 3) := by decide +kernel
theorem dX10_out_19 : decode cX10_out 19 = .ok (.goto 4, 3) := by decide +kernel
theorem dX10_out_22 : decode cX10_out 22 = .ok (.iconst (-1), 1) := by decide +kernel
theorem dX10_out_23 : decode cX10_out 23 = .ok (.ireturn, 1) := by decide +kernel
theorem dX10_spoil_0 : decode cX10_spoil 0 = .ok (.aload_n 0, 1) := by decide +kernel
theorem dX10_spoil_1 : decode cX10_spoil 1 = .ok (.getfield 42, 3) := by decide +kernel
theorem dX10_spoil_4 : decode cX10_spoil 4 = .ok (.iload_n 1, 1) := by decide +kernel
theorem dX10_spoil_5 : decode cX10_spoil 5 = .ok (.invokevirtual 123, 3) := by decide +kernel
theorem dX10_spoil_8 : decode cX10_spoil 8 = .ok (.ifCond .eq 15, 3) := by decide +kernel
theorem dX10_spoil_11 : decode cX10_spoil 11 = .ok (.iload_n 2, 1) := by decide +kernel
theorem dX10_spoil_12 : decode cX10_spoil 12 = .ok (.iconst 1, 1) := by decide +kernel
theorem dX10_spoil_13 : decode cX10_spoil 13 = .ok (.if_icmp .lt 10, 3) := by decide +kernel
theorem dX10_spoil_16 : decode cX10_spoil 16 = .ok (.iload_n 2, 1) := by decide +kernel
theorem dX10_spoil_17 : decode cX10_spoil 17 = .ok (.sipush 255, 3) := by decide +kernel
theorem dX10_spoil_20 : decode cX10_spoil 20 = .ok (.if_icmp .le 5, 3) := by decide +kernel
theorem dX10_spoil_23 : decode cX10_spoil 23 = .ok (.iconst (-1), 1) := by decide +kernel
theorem dX10_spoil_24 : decode cX10_spoil 24 = .ok (.ireturn, 1) := by decide +kernel
theorem dX10_spoil_25 : decode cX10_spoil 25 = .ok (.aload_n 0, 1) := by decide +kernel
theorem dX10_spoil_26 : decode cX10_spoil 26 = .ok (.getfield 42, 3) := by decide +kernel
theorem dX10_spoil_29 : decode cX10_spoil 29 = .ok (.iload_n 1, 1) := by decide +kernel
theorem dX10_spoil_30 : decode cX10_spoil 30 = .ok (.iload_n 2, 1) := by decide +kernel
theorem dX10_spoil_31 : decode cX10_spoil 31 = .ok (.invokevirtual 128, 3) := by decide +kernel
theorem dX10_spoil_34 : decode cX10_spoil 34 = .ok (.aload_n 0, 1) := by decide +kernel
theorem dX10_spoil_35 : decode cX10_spoil 35 = .ok (.getfield 42, 3) := by decide +kernel
theorem dX10_spoil_38 : decode cX10_spoil 38 = .ok (.iload_n 1, 1) := by decide +kernel
theorem dX10_spoil_39 : decode cX10_spoil 39 = .ok (.invokevirtual 124, 3) := by decide +kernel
theorem dX10_spoil_42 : decode cX10_spoil 42 = .ok (.ireturn, 1) := by decide +kernel
theorem dX10_chance_0 : decode cX10_chance 0 = .ok (.aload_n 0, 1) := by decide +kernel
theorem dX10_chance_1 : decode cX10_chance 1 = .ok (.iload_n 1, 1) := by decide +kernel
theorem dX10_chance_2 : decode cX10_chance 2 = .ok (.invokevirtual 132, 3) := by decide +kernel
theorem dX10_chance_5 : decode cX10_chance 5 = .ok (.astore_n 2, 1) := by decide +kernel
theorem dX10_chance_6 : decode cX10_chance 6 = .ok (.aload_n 2, 1) := by decide +kernel
theorem dX10_chance_7 : decode cX10_chance 7 = .ok (.ifnonnull 7, 3) := by decide +kernel
theorem dX10_chance_10 : decode cX10_chance 10 = .ok (.iconst (-1), 1) := by decide +kernel
theorem dX10_chance_11 : decode cX10_chance 11 = .ok (.goto 7, 3) := by decide +kernel
theorem dX10_chance_14 : decode cX10_chance 14 = .ok (.aload_n 2, 1) := by decide +kernel
theorem dX10_chance_15 : decode cX10_chance 15 = .ok (.invokevirtual 136, 3) := by decide +kernel
theorem dX10_chance_18 : decode cX10_chance 18 = .ok (.ireturn, 1) := by decide +kernel
theorem dX10_input_0 : decode cX10_input 0 = .ok (.aload_n 0, 1) := by decide +kernel
theorem dX10_input_1 : decode cX10_input 1 = .ok (.iload_n 1, 1) := by decide +kernel
theorem dX10_input_2 : decode cX10_input 2 = .ok (.invokevirtual 132, 3) := by decide +kernel
theorem dX10_input_5 : decode cX10_input 5 = .ok (.astore_n 3, 1) := by decide +kernel
theorem dX10_input_6 : decode cX10_input 6 = .ok (.aload_n 3, 1) := by decide +kernel
theorem dX10_input_7 : decode cX10_input 7 = .ok (.ifnull 14, 3) := by decide +kernel
theorem dX10_input_10 : decode cX10_input 10 = .ok (.aload_n 0, 1) := by decide +kernel
theorem dX10_input_11 : decode cX10_input 11 = .ok (.getfield 23, 3) := by decide +kernel
theorem dX10_input_14 : decode cX10_input 14 = .ok (.iload_n 2, 1) := by decide +kernel
theorem dX10_input_15 : decode cX10_input 15 = .ok (.invokevirtual 81, 3) := by decide +kernel
theorem dX10_input_18 : decode cX10_input 18 = .ok (.ifCond .ne 7, 3) := by decide +kernel
theorem dX10_input_21 : decode cX10_input 21 = .ok (.sipush (-9999), 3) := by decide +kernel
theorem dX10_input_24 : decode cX10_input 24 = .ok (.ireturn, 1) := by decide +kernel
theorem dX10_input_25 : decode cX10_input 25 = .ok (.aload_n 3, 1) := by decide +kernel
theorem dX10_input_26 : decode cX10_input 26 = .ok (.iload_n 2, 1) := by decide +kernel
theorem dX10_input_27 : decode cX10_input 27 = .ok (.invokevirtual 139, 3) := by decide +kernel
theorem dX10_input_30 : decode cX10_input 30 = .ok (.ireturn, 1) := by decide +kernel
theorem dX10_weight_0 : decode cX10_weight 0 = .ok (.aload_n 0, 1) := by decide +kernel
theorem dX10_weight_1 : decode cX10_weight 1 = .ok (.iload_n 1, 1) := by decide +kernel
theorem dX10_weight_2 : decode cX10_weight 2 = .ok (.invokevirtual 132, 3) := by decide +kernel
theorem dX10_weight_5 : decode cX10_weight 5 = .ok (.astore 5, 2) := by decide +kernel
theorem dX10_weight_7 : decode cX10_weight 7 = .ok (.aload 5, 2) := by decide +kernel
theorem dX10_weight_9 : decode cX10_weight 9 = .ok (.ifnull 23, 3) := by decide +kernel
theorem dX10_weight_12 : decode cX10_weight 12 = .ok (.iload_n 2, 1) := by decide +kernel
theorem dX10_weight_13 : decode cX10_weight 13 = .ok (.ifCond .lt 19, 3) := by decide +kernel
theorem dX10_weight_16 : decode cX10_weight 16 = .ok (.iload_n 2, 1) := by decide +kernel
theorem dX10_weight_17 : decode cX10_weight 17 = .ok (.iconst 1, 1) := by decide +kernel
theorem dX10_weight_18 : decode cX10_weight 18 = .ok (.if_icmp .gt 14, 3) := by decide +kernel
theorem dX10_weight_21 : decode cX10_weight 21 = .ok (.iload_n 3, 1) := by decide +kernel
theorem dX10_weight_22 : decode cX10_weight 22 = .ok (.ifCond .lt 10, 3) := by decide +kernel
theorem dX10_weight_25 : decode cX10_weight 25 = .ok (.iload_n 3, 1) := by decide +kernel
theorem dX10_weight_26 : decode cX10_weight 26 = .ok (.sipush 256, 3) := by decide +kernel
theorem dX10_weight_29 : decode cX10_weight 29 = .ok (.if_icmp .lt 6, 3) := by decide +kernel
theorem dX10_weight_32 : decode cX10_weight 32 = .ok (.ldc 144, 2) := by decide +kernel
theorem dX10_weight_34 : decode cX10_weight 34 = .ok (.ireturn, 1) := by decide +kernel
theorem dX10_weight_35 : decode cX10_weight 35 = .ok (.iload_n 2, 1) := by decide +kernel
theorem dX10_weight_36 : decode cX10_weight 36 = .ok (.ifCond .ne 11, 3) := by decide +kernel
theorem dX10_weight_39 : decode cX10_weight 39 = .ok (.aload 5, 2) := by decide +kernel
theorem dX10_weight_41 : decode cX10_weight 41 = .ok (.getfield 145, 3) := by decide +kernel
theorem dX10_weight_44 : decode cX10_weight 44 = .ok (.goto 8, 3) := by decide +kernel
theorem dX10_weight_47 : decode cX10_weight 47 = .ok (.aload 5, 2) := by decide +kernel
theorem dX10_weight_49 : decode cX10_weight 49 = .ok (.getfield 149, 3) := by decide +kernel
theorem dX10_weight_52 : decode cX10_weight 52 = .ok (.astore 6, 2) := by decide +kernel
theorem dX10_weight_54 : decode cX10_weight 54 = .ok (.iload 4, 2) := by decide +kernel
theorem dX10_weight_56 : decode cX10_weight 56 = .ok (.aload_n 0, 1) := by decide +kernel
theorem dX10_weight_57 : decode cX10_weight 57 = .ok (.getfield 23, 3) := by decide +kernel
theorem dX10_weight_60 : decode cX10_weight 60 = .ok (.getfield 152, 3) := by decide +kernel
theorem dX10_weight_63 : decode cX10_weight 63 = .ok (.if_icmp .ne 12, 3) := by decide +kernel
theorem dX10_weight_66 : decode cX10_weight 66 = .ok (.aload 6, 2) := by decide +kernel
theorem dX10_weight_68 : decode cX10_weight 68 = .ok (.iload_n 3, 1) := by decide +kernel
theorem dX10_weight_69 : decode cX10_weight 69 = .ok (.bipush 8, 2) := by decide +kernel
theorem dX10_weight_71 : decode cX10_weight 71 = .ok (.invokevirtual 153, 3) := by decide +kernel
theorem dX10_weight_74 : decode cX10_weight 74 = .ok (.ireturn, 1) := by decide +kernel
theorem dX10_weight_75 : decode cX10_weight 75 = .ok (.aload_n 0, 1) := by decide +kernel
theorem dX10_weight_76 : decode cX10_weight 76 = .ok (.getfield 23, 3) := by decide +kernel
theorem dX10_weight_79 : decode cX10_weight 79 = .ok (.iload 4, 2) := by decide +kernel
theorem dX10_weight_81 : decode cX10_weight 81 = .ok (.invokevirtual 81, 3) := by decide +kernel
theorem dX10_weight_84 : decode cX10_weight 84 = .ok (.ifCond .eq 14, 3) := by decide +kernel
theorem dX10_weight_87 : decode cX10_weight 87 = .ok (.aload 6, 2) := by decide +kernel
theorem dX10_weight_89 : decode cX10_weight 89 = .ok (.iload_n 3, 1) := by decide +kernel
theorem dX10_weight_90 : decode cX10_weight 90 = .ok (.iload 4, 2) := by decide +kernel
theorem dX10_weight_92 : decode cX10_weight 92 = .ok (.invokevirtual 153, 3) := by decide +kernel
theorem dX10_weight_95 : decode cX10_weight 95 = .ok (.goto 5, 3) := by decide +kernel
theorem dX10_weight_98 : decode cX10_weight 98 = .ok (.ldc 144, 2) := by decide +kernel
theorem dX10_weight_100 : decode cX10_weight 100 = .ok (.ireturn, 1) := by decide +kernel
theorem dX10_slot_0 : decode cX10_slot 0 = .ok (.aload_n 0, 1) := by decide +kernel
theorem dX10_slot_1 : decode cX10_slot 1 = .ok (.iload_n 1, 1) := by decide +kernel
theorem dX10_slot_2 : decode cX10_slot 2 = .ok (.invokevirtual 132, 3) := by decide +kernel
theorem dX10_slot_5 : decode cX10_slot 5 = .ok (.astore_n 3, 1) := by decide +kernel
theorem dX10_slot_6 : decode cX10_slot 6 = .ok (.aload_n 3, 1) := by decide +kernel
theorem dX10_slot_7 : decode cX10_slot 7 = .ok (.ifnonnull 5, 3) := by decide +kernel
theorem dX10_slot_10 : decode cX10_slot 10 = .ok (.iconst (-1), 1) := by decide +kernel
theorem dX10_slot_11 : decode cX10_slot 11 = .ok (.ireturn, 1) := by decide +kernel
theorem dX10_slot_12 : decode cX10_slot 12 = .ok (.aload_n 3, 1) := by decide +kernel
theorem dX10_slot_13 : decode cX10_slot 13 = .ok (.getfield 156, 3) := by decide +kernel
theorem dX10_slot_16 : decode cX10_slot 16 = .ok (.iload_n 2, 1) := by decide +kernel
theorem dX10_slot_17 : decode cX10_slot 17 = .ok (.invokevirtual 160, 3) := by decide +kernel
theorem dX10_slot_20 : decode cX10_slot 20 = .ok (.ifCond .ne 13, 3) := by decide +kernel
theorem dX10_slot_23 : decode cX10_slot 23 = .ok (.new 163, 3) := by decide +kernel
theorem dX10_slot_26 : decode cX10_slot 26 = .ok (.dup, 1) := by decide +kernel
theorem dX10_slot_27 : decode cX10_slot 27 = .ok (.ldc 165, 2) := by decide +kernel
theorem dX10_slot_29 : decode cX10_slot 29 = .ok (.invokespecial 167, 3) := by decide +kernel
theorem dX10_slot_32 : decode cX10_slot 32 = .ok (.athrow, 1) := by decide +kernel
theorem dX10_slot_33 : decode cX10_slot 33 = .ok (.aload_n 3, 1) := by decide +kernel
theorem dX10_slot_34 : decode cX10_slot 34 = .ok (.getfield 156, 3) := by decide +kernel
theorem dX10_slot_37 : decode cX10_slot 37 = .ok (.getfield 170, 3) := by decide +kernel
theorem dX10_slot_40 : decode cX10_slot 40 = .ok (.iload_n 2, 1) := by decide +kernel
theorem dX10_slot_41 : decode cX10_slot 41 = .ok (.iaload, 1) := by decide +kernel
theorem dX10_slot_42 : decode cX10_slot 42 = .ok (.ireturn, 1) := by decide +kernel
theorem dX10_seen_0 : decode cX10_seen 0 = .ok (.aload_n 0, 1) := by decide +kernel
theorem dX10_seen_1 : decode cX10_seen 1 = .ok (.iload_n 1, 1) := by decide +kernel
theorem dX10_seen_2 : decode cX10_seen 2 = .ok (.invokevirtual 132, 3) := by decide +kernel
theorem dX10_seen_5 : decode cX10_seen 5 = .ok (.astore_n 3, 1) := by decide +kernel
theorem dX10_seen_6 : decode cX10_seen 6 = .ok (.aload_n 3, 1) := by decide +kernel
theorem dX10_seen_7 : decode cX10_seen 7 = .ok (.ifnull 14, 3) := by decide +kernel
theorem dX10_seen_10 : decode cX10_seen 10 = .ok (.aload_n 3, 1) := by decide +kernel
theorem dX10_seen_11 : decode cX10_seen 11 = .ok (.getfield 156, 3) := by decide +kernel
theorem dX10_seen_14 : decode cX10_seen 14 = .ok (.iload_n 2, 1) := by decide +kernel
theorem dX10_seen_15 : decode cX10_seen 15 = .ok (.invokevirtual 160, 3) := by decide +kernel
theorem dX10_seen_18 : decode cX10_seen 18 = .ok (.ifCond .ne 5, 3) := by decide +kernel
theorem dX10_seen_21 : decode cX10_seen 21 = .ok (.iconst (-1), 1) := by decide +kernel
theorem dX10_seen_22 : decode cX10_seen 22 = .ok (.ireturn, 1) := by decide +kernel
theorem dX10_seen_23 : decode cX10_seen 23 = .ok (.aload_n 3, 1) := by decide +kernel
theorem dX10_seen_24 : decode cX10_seen 24 = .ok (.getfield 156, 3) := by decide +kernel
theorem dX10_seen_27 : decode cX10_seen 27 = .ok (.getfield 174, 3) := by decide +kernel
theorem dX10_seen_30 : decode cX10_seen 30 = .ok (.iload_n 2, 1) := by decide +kernel
theorem dX10_seen_31 : decode cX10_seen 31 = .ok (.iaload, 1) := by decide +kernel
theorem dX10_seen_32 : decode cX10_seen 32 = .ok (.ireturn, 1) := by decide +kernel
theorem dX10_cell_0 : decode cX10_cell 0 = .ok (.aload_n 0, 1) := by decide +kernel
theorem dX10_cell_1 : decode cX10_cell 1 = .ok (.iload_n 1, 1) := by decide +kernel
theorem dX10_cell_2 : decode cX10_cell 2 = .ok (.invokevirtual 132, 3) := by decide +kernel
theorem dX10_cell_5 : decode cX10_cell 5 = .ok (.astore 4, 2) := by decide +kernel
theorem dX10_cell_7 : decode cX10_cell 7 = .ok (.aload 4, 2) := by decide +kernel
theorem dX10_cell_9 : decode cX10_cell 9 = .ok (.ifnull 11, 3) := by decide +kernel
theorem dX10_cell_12 : decode cX10_cell 12 = .ok (.iload_n 2, 1) := by decide +kernel
theorem dX10_cell_13 : decode cX10_cell 13 = .ok (.iload_n 3, 1) := by decide +kernel
theorem dX10_cell_14 : decode cX10_cell 14 = .ok (.invokestatic 177, 3) := by decide +kernel
theorem dX10_cell_17 : decode cX10_cell 17 = .ok (.ifCond .ne 6, 3) := by decide +kernel
theorem dX10_cell_20 : decode cX10_cell 20 = .ok (.ldc 181, 2) := by decide +kernel
theorem dX10_cell_22 : decode cX10_cell 22 = .ok (.ireturn, 1) := by decide +kernel
theorem dX10_cell_23 : decode cX10_cell 23 = .ok (.aload 4, 2) := by decide +kernel
theorem dX10_cell_25 : decode cX10_cell 25 = .ok (.getfield 182, 3) := by decide +kernel
theorem dX10_cell_28 : decode cX10_cell 28 = .ok (.iload_n 2, 1) := by decide +kernel
theorem dX10_cell_29 : decode cX10_cell 29 = .ok (.iload_n 3, 1) := by decide +kernel
theorem dX10_cell_30 : decode cX10_cell 30 = .ok (.invokevirtual 186, 3) := by decide +kernel
theorem dX10_cell_33 : decode cX10_cell 33 = .ok (.istore 5, 2) := by decide +kernel
theorem dX10_cell_35 : decode cX10_cell 35 = .ok (.iload 5, 2) := by decide +kernel
theorem dX10_cell_37 : decode cX10_cell 37 = .ok (.sipush 32767, 3) := by decide +kernel
theorem dX10_cell_40 : decode cX10_cell 40 = .ok (.if_icmp .le 11, 3) := by decide +kernel
theorem dX10_cell_43 : decode cX10_cell 43 = .ok (.iload 5, 2) := by decide +kernel
theorem dX10_cell_45 : decode cX10_cell 45 = .ok (.ldc 189, 2) := by decide +kernel
theorem dX10_cell_47 : decode cX10_cell 47 = .ok (.isub, 1) := by decide +kernel
theorem dX10_cell_48 : decode cX10_cell 48 = .ok (.goto 5, 3) := by decide +kernel
theorem dX10_cell_51 : decode cX10_cell 51 = .ok (.iload 5, 2) := by decide +kernel
theorem dX10_cell_53 : decode cX10_cell 53 = .ok (.ireturn, 1) := by decide +kernel
theorem dX10_squash_0 : decode cX10_squash 0 = .ok (.iload_n 1, 1) := by decide +kernel
theorem dX10_squash_1 : decode cX10_squash 1 = .ok (.invokestatic 190, 3) := by decide +kernel
theorem dX10_squash_4 : decode cX10_squash 4 = .ok (.ireturn, 1) := by decide +kernel
theorem dX10_stretch_0 : decode cX10_stretch 0 = .ok (.iload_n 1, 1) := by decide +kernel
theorem dX10_stretch_1 : decode cX10_stretch 1 = .ok (.ifCond .lt 10, 3) := by decide +kernel
theorem dX10_stretch_4 : decode cX10_stretch 4 = .ok (.iload_n 1, 1) := by decide +kernel
theorem dX10_stretch_5 : decode cX10_stretch 5 = .ok (.sipush 4095, 3) := by decide +kernel
theorem dX10_stretch_8 : decode cX10_stretch 8 = .ok (.if_icmp .le 9, 3) := by decide +kernel
theorem dX10_stretch_11 : decode cX10_stretch 11 = .ok (.sipush (-9999), 3) := by decide +kernel
theorem dX10_stretch_14 : decode cX10_stretch 14 = .ok (.goto 11, 3) := by decide +kernel
theorem dX10_stretch_17 : decode cX10_stretch 17 = .ok (.aload_n 0, 1) := by decide +kernel
theorem dX10_stretch_18 : decode cX10_stretch 18 = .ok (.getfield 16, 3) := by decide +kernel
theorem dX10_stretch_21 : decode cX10_stretch 21 = .ok (.iload_n 1, 1) := by decide +kernel
theorem dX10_stretch_22 : decode cX10_stretch 22 = .ok (.invokevirtual 193, 3) := by decide +kernel
theorem dX10_stretch_25 : decode cX10_stretch 25 = .ok (.ireturn, 1) := by decide +kernel
theorem dX10_equal_0 : decode cX10_equal 0 = .ok (.aload_n 0, 1) := by decide +kernel
theorem dX10_equal_1 : decode cX10_equal 1 = .ok (.getfield 32, 3) := by decide +kernel
theorem dX10_equal_4 : decode cX10_equal 4 = .ok (.aload_n 0, 1) := by decide +kernel
theorem dX10_equal_5 : decode cX10_equal 5 = .ok (.getfield 36, 3) := by decide +kernel
theorem dX10_equal_8 : decode cX10_equal 8 = .ok (.invokevirtual 196, 3) := by decide +kernel
theorem dX10_equal_11 : decode cX10_equal 11 = .ok (.ifCond .eq 7, 3) := by decide +kernel
theorem dX10_equal_14 : decode cX10_equal 14 = .ok (.iconst 1, 1) := by decide +kernel
theorem dX10_equal_15 : decode cX10_equal 15 = .ok (.goto 4, 3) := by decide +kernel
theorem dX10_equal_18 : decode cX10_equal 18 = .ok (.iconst 0, 1) := by decide +kernel
theorem dX10_equal_19 : decode cX10_equal 19 = .ok (.ireturn, 1) := by decide +kernel
theorem dX10_count_0 : decode cX10_count 0 = .ok (.iload_n 1, 1) := by decide +kernel
theorem dX10_count_1 : decode cX10_count 1 = .ok (.tableswitch 129 0 7 #[47, 55, 66, 77, 85, 96, 108, 121], 47) := by decide +kernel
theorem dX10_count_48 : decode cX10_count 48 = .ok (.aload_n 0, 1) := by decide +kernel
theorem dX10_count_49 : decode cX10_count 49 = .ok (.getfield 23, 3) := by decide +kernel
theorem dX10_count_52 : decode cX10_count 52 = .ok (.getfield 152, 3) := by decide +kernel
theorem dX10_count_55 : decode cX10_count 55 = .ok (.ireturn, 1) := by decide +kernel
theorem dX10_count_56 : decode cX10_count 56 = .ok (.aload_n 0, 1) := by decide +kernel
theorem dX10_count_57 : decode cX10_count 57 = .ok (.getfield 32, 3) := by decide +kernel
theorem dX10_count_60 : decode cX10_count 60 = .ok (.getfield 64, 3) := by decide +kernel
theorem dX10_count_63 : decode cX10_count 63 = .ok (.getfield 115, 3) := by decide +kernel
theorem dX10_count_66 : decode cX10_count 66 = .ok (.ireturn, 1) := by decide +kernel
theorem dX10_count_67 : decode cX10_count 67 = .ok (.aload_n 0, 1) := by decide +kernel
theorem dX10_count_68 : decode cX10_count 68 = .ok (.getfield 32, 3) := by decide +kernel
theorem dX10_count_71 : decode cX10_count 71 = .ok (.getfield 64, 3) := by decide +kernel
theorem dX10_count_74 : decode cX10_count 74 = .ok (.getfield 99, 3) := by decide +kernel
theorem dX10_count_77 : decode cX10_count 77 = .ok (.ireturn, 1) := by decide +kernel
theorem dX10_count_78 : decode cX10_count 78 = .ok (.aload_n 0, 1) := by decide +kernel
theorem dX10_count_79 : decode cX10_count 79 = .ok (.getfield 42, 3) := by decide +kernel
theorem dX10_count_82 : decode cX10_count 82 = .ok (.getfield 95, 3) := by decide +kernel
theorem dX10_count_85 : decode cX10_count 85 = .ok (.ireturn, 1) := by decide +kernel
theorem dX10_count_86 : decode cX10_count 86 = .ok (.aload_n 0, 1) := by decide +kernel
theorem dX10_count_87 : decode cX10_count 87 = .ok (.getfield 36, 3) := by decide +kernel
theorem dX10_count_90 : decode cX10_count 90 = .ok (.getfield 64, 3) := by decide +kernel
theorem dX10_count_93 : decode cX10_count 93 = .ok (.getfield 115, 3) := by decide +kernel
theorem dX10_count_96 : decode cX10_count 96 = .ok (.ireturn, 1) := by decide +kernel
theorem dX10_count_97 : decode cX10_count 97 = .ok (.aload_n 0, 1) := by decide +kernel
theorem dX10_count_98 : decode cX10_count 98 = .ok (.getfield 32, 3) := by decide +kernel
theorem dX10_count_101 : decode cX10_count 101 = .ok (.getfield 156, 3) := by decide +kernel
theorem dX10_count_104 : decode cX10_count 104 = .ok (.getfield 170, 3) := by decide +kernel
theorem dX10_count_107 : decode cX10_count 107 = .ok (.arraylength, 1) := by decide +kernel
theorem dX10_count_108 : decode cX10_count 108 = .ok (.ireturn, 1) := by decide +kernel
theorem dX10_count_109 : decode cX10_count 109 = .ok (.aload_n 0, 1) := by decide +kernel
theorem dX10_count_110 : decode cX10_count 110 = .ok (.getfield 60, 3) := by decide +kernel
theorem dX10_count_113 : decode cX10_count 113 = .ok (.ifCond .eq 7, 3) := by decide +kernel
theorem dX10_count_116 : decode cX10_count 116 = .ok (.iconst 1, 1) := by decide +kernel
theorem dX10_count_117 : decode cX10_count 117 = .ok (.goto 4, 3) := by decide +kernel
theorem dX10_count_120 : decode cX10_count 120 = .ok (.iconst 0, 1) := by decide +kernel
theorem dX10_count_121 : decode cX10_count 121 = .ok (.ireturn, 1) := by decide +kernel
theorem dX10_count_122 : decode cX10_count 122 = .ok (.aload_n 0, 1) := by decide +kernel
theorem dX10_count_123 : decode cX10_count 123 = .ok (.getfield 32, 3) := by decide +kernel
theorem dX10_count_126 : decode cX10_count 126 = .ok (.invokevirtual 200, 3) := by decide +kernel
theorem dX10_count_129 : decode cX10_count 129 = .ok (.ireturn, 1) := by decide +kernel
theorem dX10_count_130 : decode cX10_count 130 = .ok (.iconst (-1), 1) := by decide +kernel
theorem dX10_count_131 : decode cX10_count 131 = .ok (.ireturn, 1) := by decide +kernel
theorem dX10_sideOf_0 : decode cX10_sideOf 0 = .ok (.iload_n 1, 1) := by decide +kernel
theorem dX10_sideOf_1 : decode cX10_sideOf 1 = .ok (.ifCond .ne 8, 3) := by decide +kernel
theorem dX10_sideOf_4 : decode cX10_sideOf 4 = .ok (.aload_n 0, 1) := by decide +kernel
theorem dX10_sideOf_5 : decode cX10_sideOf 5 = .ok (.getfield 32, 3) := by decide +kernel
theorem dX10_sideOf_8 : decode cX10_sideOf 8 = .ok (.areturn, 1) := by decide +kernel
theorem dX10_sideOf_9 : decode cX10_sideOf 9 = .ok (.iload_n 1, 1) := by decide +kernel
theorem dX10_sideOf_10 : decode cX10_sideOf 10 = .ok (.iconst 1, 1) := by decide +kernel
theorem dX10_sideOf_11 : decode cX10_sideOf 11 = .ok (.if_icmp .ne 10, 3) := by decide +kernel
theorem dX10_sideOf_14 : decode cX10_sideOf 14 = .ok (.aload_n 0, 1) := by decide +kernel
theorem dX10_sideOf_15 : decode cX10_sideOf 15 = .ok (.getfield 36, 3) := by decide +kernel
theorem dX10_sideOf_18 : decode cX10_sideOf 18 = .ok (.goto 4, 3) := by decide +kernel
theorem dX10_sideOf_21 : decode cX10_sideOf 21 = .ok (.aconst_null, 1) := by decide +kernel
theorem dX10_sideOf_22 : decode cX10_sideOf 22 = .ok (.areturn, 1) := by decide +kernel
theorem dX10_isFull_0 : decode cX10_isFull 0 = .ok (.aload_n 0, 1) := by decide +kernel
theorem dX10_isFull_1 : decode cX10_isFull 1 = .ok (.getfield 32, 3) := by decide +kernel
theorem dX10_isFull_4 : decode cX10_isFull 4 = .ok (.getfield 64, 3) := by decide +kernel
theorem dX10_isFull_7 : decode cX10_isFull 7 = .ok (.getfield 115, 3) := by decide +kernel
theorem dX10_isFull_10 : decode cX10_isFull 10 = .ok (.sipush 2000, 3) := by decide +kernel
theorem dX10_isFull_13 : decode cX10_isFull 13 = .ok (.if_icmp .ge 16, 3) := by decide +kernel
theorem dX10_isFull_16 : decode cX10_isFull 16 = .ok (.aload_n 0, 1) := by decide +kernel
theorem dX10_isFull_17 : decode cX10_isFull 17 = .ok (.getfield 42, 3) := by decide +kernel
theorem dX10_isFull_20 : decode cX10_isFull 20 = .ok (.getfield 95, 3) := by decide +kernel
theorem dX10_isFull_23 : decode cX10_isFull 23 = .ok (.sipush 2992, 3) := by decide +kernel
theorem dX10_isFull_26 : decode cX10_isFull 26 = .ok (.if_icmp .le 7, 3) := by decide +kernel
theorem dX10_isFull_29 : decode cX10_isFull 29 = .ok (.iconst 1, 1) := by decide +kernel
theorem dX10_isFull_30 : decode cX10_isFull 30 = .ok (.goto 4, 3) := by decide +kernel
theorem dX10_isFull_33 : decode cX10_isFull 33 = .ok (.iconst 0, 1) := by decide +kernel
theorem dX10_isFull_34 : decode cX10_isFull 34 = .ok (.ireturn, 1) := by decide +kernel
theorem dX10_writeBit_0 : decode cX10_writeBit 0 = .ok (.aload_n 0, 1) := by decide +kernel
theorem dX10_writeBit_1 : decode cX10_writeBit 1 = .ok (.getfield 49, 3) := by decide +kernel
theorem dX10_writeBit_4 : decode cX10_writeBit 4 = .ok (.iload_n 1, 1) := by decide +kernel
theorem dX10_writeBit_5 : decode cX10_writeBit 5 = .ok (.aload_n 0, 1) := by decide +kernel
theorem dX10_writeBit_6 : decode cX10_writeBit 6 = .ok (.getfield 49, 3) := by decide +kernel
theorem dX10_writeBit_9 : decode cX10_writeBit 9 = .ok (.aload_n 0, 1) := by decide +kernel
theorem dX10_writeBit_10 : decode cX10_writeBit 10 = .ok (.getfield 32, 3) := by decide +kernel
theorem dX10_writeBit_13 : decode cX10_writeBit 13 = .ok (.invokevirtual 136, 3) := by decide +kernel
theorem dX10_writeBit_16 : decode cX10_writeBit 16 = .ok (.invokevirtual 203, 3) := by decide +kernel
theorem dX10_writeBit_19 : decode cX10_writeBit 19 = .ok (.invokevirtual 207, 3) := by decide +kernel
theorem dX10_writeBit_22 : decode cX10_writeBit 22 = .ok (.iconst 0, 1) := by decide +kernel
theorem dX10_writeBit_23 : decode cX10_writeBit 23 = .ok (.istore_n 2, 1) := by decide +kernel
theorem dX10_writeBit_24 : decode cX10_writeBit 24 = .ok (.iload_n 2, 1) := by decide +kernel
theorem dX10_writeBit_25 : decode cX10_writeBit 25 = .ok (.iconst 4, 1) := by decide +kernel
theorem dX10_writeBit_26 : decode cX10_writeBit 26 = .ok (.if_icmp .ge 40, 3) := by decide +kernel
theorem dX10_writeBit_29 : decode cX10_writeBit 29 = .ok (.aload_n 0, 1) := by decide +kernel
theorem dX10_writeBit_30 : decode cX10_writeBit 30 = .ok (.getfield 49, 3) := by decide +kernel
theorem dX10_writeBit_33 : decode cX10_writeBit 33 = .ok (.invokevirtual 211, 3) := by decide +kernel
theorem dX10_writeBit_36 : decode cX10_writeBit 36 = .ok (.ifCond .eq 30, 3) := by decide +kernel
theorem dX10_writeBit_39 : decode cX10_writeBit 39 = .ok (.aload_n 0, 1) := by decide +kernel
theorem dX10_writeBit_40 : decode cX10_writeBit 40 = .ok (.getfield 42, 3) := by decide +kernel
theorem dX10_writeBit_43 : decode cX10_writeBit 43 = .ok (.aload_n 0, 1) := by decide +kernel
theorem dX10_writeBit_44 : decode cX10_writeBit 44 = .ok (.getfield 49, 3) := by decide +kernel
theorem dX10_writeBit_47 : decode cX10_writeBit 47 = .ok (.invokevirtual 102, 3) := by decide +kernel
theorem dX10_writeBit_50 : decode cX10_writeBit 50 = .ok (.invokevirtual 106, 3) := by decide +kernel
theorem dX10_writeBit_53 : decode cX10_writeBit 53 = .ok (.aload_n 0, 1) := by decide +kernel
theorem dX10_writeBit_54 : decode cX10_writeBit 54 = .ok (.getfield 49, 3) := by decide +kernel
theorem dX10_writeBit_57 : decode cX10_writeBit 57 = .ok (.invokevirtual 109, 3) := by decide +kernel
theorem dX10_writeBit_60 : decode cX10_writeBit 60 = .ok (.iinc 2 1, 3) := by decide +kernel
theorem dX10_writeBit_63 : decode cX10_writeBit 63 = .ok (.goto (-39), 3) := by decide +kernel
theorem dX10_writeBit_66 : decode cX10_writeBit 66 = .ok (.aload_n 0, 1) := by decide +kernel
theorem dX10_writeBit_67 : decode cX10_writeBit 67 = .ok (.getfield 32, 3) := by decide +kernel
theorem dX10_writeBit_70 : decode cX10_writeBit 70 = .ok (.iload_n 1, 1) := by decide +kernel
theorem dX10_writeBit_71 : decode cX10_writeBit 71 = .ok (.invokevirtual 214, 3) := by decide +kernel
theorem dX10_writeBit_74 : decode cX10_writeBit 74 = .ok (.return_, 1) := by decide +kernel
theorem dX10_readBit_0 : decode cX10_readBit 0 = .ok (.aload_n 0, 1) := by decide +kernel
theorem dX10_readBit_1 : decode cX10_readBit 1 = .ok (.getfield 53, 3) := by decide +kernel
theorem dX10_readBit_4 : decode cX10_readBit 4 = .ok (.aload_n 0, 1) := by decide +kernel
theorem dX10_readBit_5 : decode cX10_readBit 5 = .ok (.getfield 36, 3) := by decide +kernel
theorem dX10_readBit_8 : decode cX10_readBit 8 = .ok (.invokevirtual 136, 3) := by decide +kernel
theorem dX10_readBit_11 : decode cX10_readBit 11 = .ok (.invokevirtual 203, 3) := by decide +kernel
theorem dX10_readBit_14 : decode cX10_readBit 14 = .ok (.lstore_n 1, 1) := by decide +kernel
theorem dX10_readBit_15 : decode cX10_readBit 15 = .ok (.aload_n 0, 1) := by decide +kernel
theorem dX10_readBit_16 : decode cX10_readBit 16 = .ok (.getfield 217, 3) := by decide +kernel
theorem dX10_readBit_19 : decode cX10_readBit 19 = .ok (.lload_n 1, 1) := by decide +kernel
theorem dX10_readBit_20 : decode cX10_readBit 20 = .ok (.lcmp, 1) := by decide +kernel
theorem dX10_readBit_21 : decode cX10_readBit 21 = .ok (.ifCond .gt 7, 3) := by decide +kernel
theorem dX10_readBit_24 : decode cX10_readBit 24 = .ok (.iconst 1, 1) := by decide +kernel
theorem dX10_readBit_25 : decode cX10_readBit 25 = .ok (.goto 4, 3) := by decide +kernel
theorem dX10_readBit_28 : decode cX10_readBit 28 = .ok (.iconst 0, 1) := by decide +kernel
theorem dX10_readBit_29 : decode cX10_readBit 29 = .ok (.istore_n 3, 1) := by decide +kernel
theorem dX10_readBit_30 : decode cX10_readBit 30 = .ok (.aload_n 0, 1) := by decide +kernel
theorem dX10_readBit_31 : decode cX10_readBit 31 = .ok (.getfield 53, 3) := by decide +kernel
theorem dX10_readBit_34 : decode cX10_readBit 34 = .ok (.iload_n 3, 1) := by decide +kernel
theorem dX10_readBit_35 : decode cX10_readBit 35 = .ok (.lload_n 1, 1) := by decide +kernel
theorem dX10_readBit_36 : decode cX10_readBit 36 = .ok (.invokevirtual 207, 3) := by decide +kernel
theorem dX10_readBit_39 : decode cX10_readBit 39 = .ok (.iconst 0, 1) := by decide +kernel
theorem dX10_readBit_40 : decode cX10_readBit 40 = .ok (.istore 4, 2) := by decide +kernel
theorem dX10_readBit_42 : decode cX10_readBit 42 = .ok (.iload 4, 2) := by decide +kernel
theorem dX10_readBit_44 : decode cX10_readBit 44 = .ok (.iconst 4, 1) := by decide +kernel
theorem dX10_readBit_45 : decode cX10_readBit 45 = .ok (.if_icmp .ge 30, 3) := by decide +kernel
theorem dX10_readBit_48 : decode cX10_readBit 48 = .ok (.aload_n 0, 1) := by decide +kernel
theorem dX10_readBit_49 : decode cX10_readBit 49 = .ok (.getfield 53, 3) := by decide +kernel
theorem dX10_readBit_52 : decode cX10_readBit 52 = .ok (.invokevirtual 211, 3) := by decide +kernel
theorem dX10_readBit_55 : decode cX10_readBit 55 = .ok (.ifCond .eq 20, 3) := by decide +kernel
theorem dX10_readBit_58 : decode cX10_readBit 58 = .ok (.aload_n 0, 1) := by decide +kernel
theorem dX10_readBit_59 : decode cX10_readBit 59 = .ok (.getfield 53, 3) := by decide +kernel
theorem dX10_readBit_62 : decode cX10_readBit 62 = .ok (.invokevirtual 109, 3) := by decide +kernel
theorem dX10_readBit_65 : decode cX10_readBit 65 = .ok (.aload_n 0, 1) := by decide +kernel
theorem dX10_readBit_66 : decode cX10_readBit 66 = .ok (.invokevirtual 221, 3) := by decide +kernel
theorem dX10_readBit_69 : decode cX10_readBit 69 = .ok (.iinc 4 1, 3) := by decide +kernel
theorem dX10_readBit_72 : decode cX10_readBit 72 = .ok (.goto (-30), 3) := by decide +kernel
theorem dX10_readBit_75 : decode cX10_readBit 75 = .ok (.aload_n 0, 1) := by decide +kernel
theorem dX10_readBit_76 : decode cX10_readBit 76 = .ok (.getfield 36, 3) := by decide +kernel
theorem dX10_readBit_79 : decode cX10_readBit 79 = .ok (.iload_n 3, 1) := by decide +kernel
theorem dX10_readBit_80 : decode cX10_readBit 80 = .ok (.invokevirtual 214, 3) := by decide +kernel
theorem dX10_readBit_83 : decode cX10_readBit 83 = .ok (.iload_n 3, 1) := by decide +kernel
theorem dX10_readBit_84 : decode cX10_readBit 84 = .ok (.ireturn, 1) := by decide +kernel
theorem dX10_beginReading_0 : decode cX10_beginReading 0 = .ok (.aload_n 0, 1) := by decide +kernel
theorem dX10_beginReading_1 : decode cX10_beginReading 1 = .ok (.getfield 53, 3) := by decide +kernel
theorem dX10_beginReading_4 : decode cX10_beginReading 4 = .ok (.invokevirtual 122, 3) := by decide +kernel
theorem dX10_beginReading_7 : decode cX10_beginReading 7 = .ok (.aload_n 0, 1) := by decide +kernel
theorem dX10_beginReading_8 : decode cX10_beginReading 8 = .ok (.lconst 0, 1) := by decide +kernel
theorem dX10_beginReading_9 : decode cX10_beginReading 9 = .ok (.putfield 217, 3) := by decide +kernel
theorem dX10_beginReading_12 : decode cX10_beginReading 12 = .ok (.aload_n 0, 1) := by decide +kernel
theorem dX10_beginReading_13 : decode cX10_beginReading 13 = .ok (.iconst 0, 1) := by decide +kernel
theorem dX10_beginReading_14 : decode cX10_beginReading 14 = .ok (.putfield 224, 3) := by decide +kernel
theorem dX10_beginReading_17 : decode cX10_beginReading 17 = .ok (.iconst 0, 1) := by decide +kernel
theorem dX10_beginReading_18 : decode cX10_beginReading 18 = .ok (.istore_n 1, 1) := by decide +kernel
theorem dX10_beginReading_19 : decode cX10_beginReading 19 = .ok (.iload_n 1, 1) := by decide +kernel
theorem dX10_beginReading_20 : decode cX10_beginReading 20 = .ok (.iconst 4, 1) := by decide +kernel
theorem dX10_beginReading_21 : decode cX10_beginReading 21 = .ok (.if_icmp .ge 13, 3) := by decide +kernel
theorem dX10_beginReading_24 : decode cX10_beginReading 24 = .ok (.aload_n 0, 1) := by decide +kernel
theorem dX10_beginReading_25 : decode cX10_beginReading 25 = .ok (.invokevirtual 221, 3) := by decide +kernel
theorem dX10_beginReading_28 : decode cX10_beginReading 28 = .ok (.iinc 1 1, 3) := by decide +kernel
theorem dX10_beginReading_31 : decode cX10_beginReading 31 = .ok (.goto (-12), 3) := by decide +kernel
theorem dX10_beginReading_34 : decode cX10_beginReading 34 = .ok (.return_, 1) := by decide +kernel
theorem dX10_takeByte_0 : decode cX10_takeByte 0 = .ok (.aload_n 0, 1) := by decide +kernel
theorem dX10_takeByte_1 : decode cX10_takeByte 1 = .ok (.getfield 42, 3) := by decide +kernel
theorem dX10_takeByte_4 : decode cX10_takeByte 4 = .ok (.aload_n 0, 1) := by decide +kernel
theorem dX10_takeByte_5 : decode cX10_takeByte 5 = .ok (.getfield 224, 3) := by decide +kernel
theorem dX10_takeByte_8 : decode cX10_takeByte 8 = .ok (.invokevirtual 123, 3) := by decide +kernel
theorem dX10_takeByte_11 : decode cX10_takeByte 11 = .ok (.ifCond .eq 17, 3) := by decide +kernel
theorem dX10_takeByte_14 : decode cX10_takeByte 14 = .ok (.aload_n 0, 1) := by decide +kernel
theorem dX10_takeByte_15 : decode cX10_takeByte 15 = .ok (.getfield 42, 3) := by decide +kernel
theorem dX10_takeByte_18 : decode cX10_takeByte 18 = .ok (.aload_n 0, 1) := by decide +kernel
theorem dX10_takeByte_19 : decode cX10_takeByte 19 = .ok (.getfield 224, 3) := by decide +kernel
theorem dX10_takeByte_22 : decode cX10_takeByte 22 = .ok (.invokevirtual 124, 3) := by decide +kernel
theorem dX10_takeByte_25 : decode cX10_takeByte 25 = .ok (.goto 4, 3) := by decide +kernel
theorem dX10_takeByte_28 : decode cX10_takeByte 28 = .ok (.iconst 0, 1) := by decide +kernel
theorem dX10_takeByte_29 : decode cX10_takeByte 29 = .ok (.istore_n 1, 1) := by decide +kernel
theorem dX10_takeByte_30 : decode cX10_takeByte 30 = .ok (.aload_n 0, 1) := by decide +kernel
theorem dX10_takeByte_31 : decode cX10_takeByte 31 = .ok (.aload_n 0, 1) := by decide +kernel
theorem dX10_takeByte_32 : decode cX10_takeByte 32 = .ok (.getfield 217, 3) := by decide +kernel
theorem dX10_takeByte_35 : decode cX10_takeByte 35 = .ok (.bipush 8, 2) := by decide +kernel
theorem dX10_takeByte_37 : decode cX10_takeByte 37 = .ok (.lshl, 1) := by decide +kernel
theorem dX10_takeByte_38 : decode cX10_takeByte 38 = .ok (.ldc2_w 227, 3) := by decide +kernel
theorem dX10_takeByte_41 : decode cX10_takeByte 41 = .ok (.land, 1) := by decide +kernel
theorem dX10_takeByte_42 : decode cX10_takeByte 42 = .ok (.iload_n 1, 1) := by decide +kernel
theorem dX10_takeByte_43 : decode cX10_takeByte 43 = .ok (.i2l, 1) := by decide +kernel
theorem dX10_takeByte_44 : decode cX10_takeByte 44 = .ok (.lor, 1) := by decide +kernel
theorem dX10_takeByte_45 : decode cX10_takeByte 45 = .ok (.putfield 217, 3) := by decide +kernel
theorem dX10_takeByte_48 : decode cX10_takeByte 48 = .ok (.aload_n 0, 1) := by decide +kernel
theorem dX10_takeByte_49 : decode cX10_takeByte 49 = .ok (.dup, 1) := by decide +kernel
theorem dX10_takeByte_50 : decode cX10_takeByte 50 = .ok (.getfield 224, 3) := by decide +kernel
theorem dX10_takeByte_53 : decode cX10_takeByte 53 = .ok (.iconst 1, 1) := by decide +kernel
theorem dX10_takeByte_54 : decode cX10_takeByte 54 = .ok (.iadd, 1) := by decide +kernel
theorem dX10_takeByte_55 : decode cX10_takeByte 55 = .ok (.putfield 224, 3) := by decide +kernel
theorem dX10_takeByte_58 : decode cX10_takeByte 58 = .ok (.return_, 1) := by decide +kernel
theorem dJx00060_init_a7421_0 : decode cJx00060_init_a7421 0 = .ok (.aload_n 0, 1) := by decide +kernel
theorem dJx00060_init_a7421_1 : decode cJx00060_init_a7421 1 = .ok (.aload_n 1, 1) := by decide +kernel
theorem dJx00060_init_a7421_2 : decode cJx00060_init_a7421 2 = .ok (.invokespecial 7, 3) := by decide +kernel
theorem dJx00060_init_a7421_5 : decode cJx00060_init_a7421 5 = .ok (.return_, 1) := by decide +kernel
theorem dJ9_max_7cf53_0 : decode cJ9_max_7cf53 0 = .ok (.iload_n 0, 1) := by decide +kernel
theorem dJ9_max_7cf53_1 : decode cJ9_max_7cf53 1 = .ok (.iload_n 1, 1) := by decide +kernel
theorem dJ9_max_7cf53_2 : decode cJ9_max_7cf53 2 = .ok (.if_icmp .lt 7, 3) := by decide +kernel
theorem dJ9_max_7cf53_5 : decode cJ9_max_7cf53 5 = .ok (.iload_n 0, 1) := by decide +kernel
theorem dJ9_max_7cf53_6 : decode cJ9_max_7cf53 6 = .ok (.goto 4, 3) := by decide +kernel
theorem dJ9_max_7cf53_9 : decode cJ9_max_7cf53 9 = .ok (.iload_n 1, 1) := by decide +kernel
theorem dJ9_max_7cf53_10 : decode cJ9_max_7cf53 10 = .ok (.ireturn, 1) := by decide +kernel
theorem dJ9_max_f86c9_0 : decode cJ9_max_f86c9 0 = .ok (.lload_n 0, 1) := by decide +kernel
theorem dJ9_max_f86c9_1 : decode cJ9_max_f86c9 1 = .ok (.lload_n 2, 1) := by decide +kernel
theorem dJ9_max_f86c9_2 : decode cJ9_max_f86c9 2 = .ok (.lcmp, 1) := by decide +kernel
theorem dJ9_max_f86c9_3 : decode cJ9_max_f86c9 3 = .ok (.ifCond .lt 7, 3) := by decide +kernel
theorem dJ9_max_f86c9_6 : decode cJ9_max_f86c9 6 = .ok (.lload_n 0, 1) := by decide +kernel
theorem dJ9_max_f86c9_7 : decode cJ9_max_f86c9 7 = .ok (.goto 4, 3) := by decide +kernel
theorem dJ9_max_f86c9_10 : decode cJ9_max_f86c9 10 = .ok (.lload_n 2, 1) := by decide +kernel
theorem dJ9_max_f86c9_11 : decode cJ9_max_f86c9 11 = .ok (.lreturn, 1) := by decide +kernel
theorem dJ9_min_7cf53_0 : decode cJ9_min_7cf53 0 = .ok (.iload_n 0, 1) := by decide +kernel
theorem dJ9_min_7cf53_1 : decode cJ9_min_7cf53 1 = .ok (.iload_n 1, 1) := by decide +kernel
theorem dJ9_min_7cf53_2 : decode cJ9_min_7cf53 2 = .ok (.if_icmp .gt 7, 3) := by decide +kernel
theorem dJ9_min_7cf53_5 : decode cJ9_min_7cf53 5 = .ok (.iload_n 0, 1) := by decide +kernel
theorem dJ9_min_7cf53_6 : decode cJ9_min_7cf53 6 = .ok (.goto 4, 3) := by decide +kernel
theorem dJ9_min_7cf53_9 : decode cJ9_min_7cf53 9 = .ok (.iload_n 1, 1) := by decide +kernel
theorem dJ9_min_7cf53_10 : decode cJ9_min_7cf53 10 = .ok (.ireturn, 1) := by decide +kernel
theorem dJ9_min_f86c9_0 : decode cJ9_min_f86c9 0 = .ok (.lload_n 0, 1) := by decide +kernel
theorem dJ9_min_f86c9_1 : decode cJ9_min_f86c9 1 = .ok (.lload_n 2, 1) := by decide +kernel
theorem dJ9_min_f86c9_2 : decode cJ9_min_f86c9 2 = .ok (.lcmp, 1) := by decide +kernel
theorem dJ9_min_f86c9_3 : decode cJ9_min_f86c9 3 = .ok (.ifCond .gt 7, 3) := by decide +kernel
theorem dJ9_min_f86c9_6 : decode cJ9_min_f86c9 6 = .ok (.lload_n 0, 1) := by decide +kernel
theorem dJ9_min_f86c9_7 : decode cJ9_min_f86c9 7 = .ok (.goto 4, 3) := by decide +kernel
theorem dJ9_min_f86c9_10 : decode cJ9_min_f86c9 10 = .ok (.lload_n 2, 1) := by decide +kernel
theorem dJ9_min_f86c9_11 : decode cJ9_min_f86c9 11 = .ok (.lreturn, 1) := by decide +kernel
theorem dJ7_fill_53178_0 : decode cJ7_fill_53178 0 = .ok (.iconst 0, 1) := by decide +kernel
theorem dJ7_fill_53178_1 : decode cJ7_fill_53178 1 = .ok (.istore_n 2, 1) := by decide +kernel
theorem dJ7_fill_53178_2 : decode cJ7_fill_53178 2 = .ok (.aload_n 0, 1) := by decide +kernel
theorem dJ7_fill_53178_3 : decode cJ7_fill_53178 3 = .ok (.arraylength, 1) := by decide +kernel
theorem dJ7_fill_53178_4 : decode cJ7_fill_53178 4 = .ok (.istore_n 3, 1) := by decide +kernel
theorem dJ7_fill_53178_5 : decode cJ7_fill_53178 5 = .ok (.iload_n 2, 1) := by decide +kernel
theorem dJ7_fill_53178_6 : decode cJ7_fill_53178 6 = .ok (.iload_n 3, 1) := by decide +kernel
theorem dJ7_fill_53178_7 : decode cJ7_fill_53178 7 = .ok (.if_icmp .ge 13, 3) := by decide +kernel
theorem dJ7_fill_53178_10 : decode cJ7_fill_53178 10 = .ok (.aload_n 0, 1) := by decide +kernel
theorem dJ7_fill_53178_11 : decode cJ7_fill_53178 11 = .ok (.iload_n 2, 1) := by decide +kernel
theorem dJ7_fill_53178_12 : decode cJ7_fill_53178 12 = .ok (.iload_n 1, 1) := by decide +kernel
theorem dJ7_fill_53178_13 : decode cJ7_fill_53178 13 = .ok (.iastore, 1) := by decide +kernel
theorem dJ7_fill_53178_14 : decode cJ7_fill_53178 14 = .ok (.iinc 2 1, 3) := by decide +kernel
theorem dJ7_fill_53178_17 : decode cJ7_fill_53178 17 = .ok (.goto (-12), 3) := by decide +kernel
theorem dJ7_fill_53178_20 : decode cJ7_fill_53178 20 = .ok (.return_, 1) := by decide +kernel

theorem dX6_init_0 : decode cX6_init 0 = .ok (.aload_n 0, 1) := by decide +kernel
theorem dX6_init_1 : decode cX6_init 1 = .ok (.invokespecial 1, 3) := by decide +kernel
theorem dX6_init_4 : decode cX6_init 4 = .ok (.aload_n 0, 1) := by decide +kernel
theorem dX6_init_5 : decode cX6_init 5 = .ok (.bipush 120, 2) := by decide +kernel
theorem dX6_init_7 : decode cX6_init 7 = .ok (.newarray .int, 2) := by decide +kernel
theorem dX6_init_9 : decode cX6_init 9 = .ok (.putfield 7, 3) := by decide +kernel
theorem dX6_init_12 : decode cX6_init 12 = .ok (.aload_n 0, 1) := by decide +kernel
theorem dX6_init_13 : decode cX6_init 13 = .ok (.sipush 217, 3) := by decide +kernel
theorem dX6_init_16 : decode cX6_init 16 = .ok (.newarray .int, 2) := by decide +kernel
theorem dX6_init_18 : decode cX6_init 18 = .ok (.putfield 13, 3) := by decide +kernel
theorem dX6_init_21 : decode cX6_init 21 = .ok (.aload_n 0, 1) := by decide +kernel
theorem dX6_init_22 : decode cX6_init 22 = .ok (.sipush 217, 3) := by decide +kernel
theorem dX6_init_25 : decode cX6_init 25 = .ok (.newarray .int, 2) := by decide +kernel
theorem dX6_init_27 : decode cX6_init 27 = .ok (.putfield 16, 3) := by decide +kernel
theorem dX6_init_30 : decode cX6_init 30 = .ok (.aload_n 0, 1) := by decide +kernel
theorem dX6_init_31 : decode cX6_init 31 = .ok (.sipush 3038, 3) := by decide +kernel
theorem dX6_init_34 : decode cX6_init 34 = .ok (.newarray .int, 2) := by decide +kernel
theorem dX6_init_36 : decode cX6_init 36 = .ok (.putfield 19, 3) := by decide +kernel
theorem dX6_init_39 : decode cX6_init 39 = .ok (.aload_n 0, 1) := by decide +kernel
theorem dX6_init_40 : decode cX6_init 40 = .ok (.sipush 434, 3) := by decide +kernel
theorem dX6_init_43 : decode cX6_init 43 = .ok (.newarray .int, 2) := by decide +kernel
theorem dX6_init_45 : decode cX6_init 45 = .ok (.putfield 22, 3) := by decide +kernel
theorem dX6_init_48 : decode cX6_init 48 = .ok (.aload_n 0, 1) := by decide +kernel
theorem dX6_init_49 : decode cX6_init 49 = .ok (.iconst 2, 1) := by decide +kernel
theorem dX6_init_50 : decode cX6_init 50 = .ok (.newarray .boolean, 2) := by decide +kernel
theorem dX6_init_52 : decode cX6_init 52 = .ok (.putfield 25, 3) := by decide +kernel
theorem dX6_init_55 : decode cX6_init 55 = .ok (.aload_n 0, 1) := by decide +kernel
theorem dX6_init_56 : decode cX6_init 56 = .ok (.bipush 28, 2) := by decide +kernel
theorem dX6_init_58 : decode cX6_init 58 = .ok (.newarray .int, 2) := by decide +kernel
theorem dX6_init_60 : decode cX6_init 60 = .ok (.putfield 29, 3) := by decide +kernel
theorem dX6_init_63 : decode cX6_init 63 = .ok (.aload_n 0, 1) := by decide +kernel
theorem dX6_init_64 : decode cX6_init 64 = .ok (.bipush 7, 2) := by decide +kernel
theorem dX6_init_66 : decode cX6_init 66 = .ok (.newarray .int, 2) := by decide +kernel
theorem dX6_init_68 : decode cX6_init 68 = .ok (.putfield 32, 3) := by decide +kernel
theorem dX6_init_71 : decode cX6_init 71 = .ok (.aload_n 0, 1) := by decide +kernel
theorem dX6_init_72 : decode cX6_init 72 = .ok (.bipush 7, 2) := by decide +kernel
theorem dX6_init_74 : decode cX6_init 74 = .ok (.newarray .int, 2) := by decide +kernel
theorem dX6_init_76 : decode cX6_init 76 = .ok (.putfield 35, 3) := by decide +kernel
theorem dX6_init_79 : decode cX6_init 79 = .ok (.aload_n 0, 1) := by decide +kernel
theorem dX6_init_80 : decode cX6_init 80 = .ok (.getfield 13, 3) := by decide +kernel
theorem dX6_init_83 : decode cX6_init 83 = .ok (.invokestatic 38, 3) := by decide +kernel
theorem dX6_init_86 : decode cX6_init 86 = .ok (.return_, 1) := by decide +kernel
theorem dX6_thrown_0 : decode cX6_thrown 0 = .ok (.aload_n 0, 1) := by decide +kernel
theorem dX6_thrown_1 : decode cX6_thrown 1 = .ok (.getfield 42, 3) := by decide +kernel
theorem dX6_thrown_4 : decode cX6_thrown 4 = .ok (.ireturn, 1) := by decide +kernel
theorem dX6_refused_0 : decode cX6_refused 0 = .ok (.aload_n 0, 1) := by decide +kernel
theorem dX6_refused_1 : decode cX6_refused 1 = .ok (.iload_n 1, 1) := by decide +kernel
theorem dX6_refused_2 : decode cX6_refused 2 = .ok (.putfield 42, 3) := by decide +kernel
theorem dX6_refused_5 : decode cX6_refused 5 = .ok (.iload_n 1, 1) := by decide +kernel
theorem dX6_refused_6 : decode cX6_refused 6 = .ok (.ifCond .le 7, 3) := by decide +kernel
theorem dX6_refused_9 : decode cX6_refused 9 = .ok (.iconst 1, 1) := by decide +kernel
theorem dX6_refused_10 : decode cX6_refused 10 = .ok (.goto 4, 3) := by decide +kernel
theorem dX6_refused_13 : decode cX6_refused 13 = .ok (.iconst 0, 1) := by decide +kernel
theorem dX6_refused_14 : decode cX6_refused 14 = .ok (.ireturn, 1) := by decide +kernel
theorem dX6_in_0 : decode cX6_in 0 = .ok (.lload_n 0, 1) := by decide +kernel
theorem dX6_in_1 : decode cX6_in 1 = .ok (.lload_n 2, 1) := by decide +kernel
theorem dX6_in_2 : decode cX6_in 2 = .ok (.lcmp, 1) := by decide +kernel
theorem dX6_in_3 : decode cX6_in 3 = .ok (.ifCond .lt 14, 3) := by decide +kernel
theorem dX6_in_6 : decode cX6_in 6 = .ok (.lload_n 0, 1) := by decide +kernel
theorem dX6_in_7 : decode cX6_in 7 = .ok (.lload 4, 2) := by decide +kernel
theorem dX6_in_9 : decode cX6_in 9 = .ok (.lcmp, 1) := by decide +kernel
theorem dX6_in_10 : decode cX6_in 10 = .ok (.ifCond .gt 7, 3) := by decide +kernel
theorem dX6_in_13 : decode cX6_in 13 = .ok (.iconst 1, 1) := by decide +kernel
theorem dX6_in_14 : decode cX6_in 14 = .ok (.goto 4, 3) := by decide +kernel
theorem dX6_in_17 : decode cX6_in 17 = .ok (.iconst 0, 1) := by decide +kernel
theorem dX6_in_18 : decode cX6_in 18 = .ok (.ireturn, 1) := by decide +kernel
theorem dX6_copyState_0 : decode cX6_copyState 0 = .ok (.iconst 0, 1) := by decide +kernel
theorem dX6_copyState_1 : decode cX6_copyState 1 = .ok (.istore 4, 2) := by decide +kernel
theorem dX6_copyState_3 : decode cX6_copyState 3 = .ok (.iload 4, 2) := by decide +kernel
theorem dX6_copyState_5 : decode cX6_copyState 5 = .ok (.sipush 217, 3) := by decide +kernel
theorem dX6_copyState_8 : decode cX6_copyState 8 = .ok (.if_icmp .ge 21, 3) := by decide +kernel
theorem dX6_copyState_11 : decode cX6_copyState 11 = .ok (.aload_n 2, 1) := by decide +kernel
theorem dX6_copyState_12 : decode cX6_copyState 12 = .ok (.iload_n 3, 1) := by decide +kernel
theorem dX6_copyState_13 : decode cX6_copyState 13 = .ok (.iload 4, 2) := by decide +kernel
theorem dX6_copyState_15 : decode cX6_copyState 15 = .ok (.iadd, 1) := by decide +kernel
theorem dX6_copyState_16 : decode cX6_copyState 16 = .ok (.aload_n 0, 1) := by decide +kernel
theorem dX6_copyState_17 : decode cX6_copyState 17 = .ok (.iload_n 1, 1) := by decide +kernel
theorem dX6_copyState_18 : decode cX6_copyState 18 = .ok (.iload 4, 2) := by decide +kernel
theorem dX6_copyState_20 : decode cX6_copyState 20 = .ok (.iadd, 1) := by decide +kernel
theorem dX6_copyState_21 : decode cX6_copyState 21 = .ok (.iaload, 1) := by decide +kernel
theorem dX6_copyState_22 : decode cX6_copyState 22 = .ok (.iastore, 1) := by decide +kernel
theorem dX6_copyState_23 : decode cX6_copyState 23 = .ok (.iinc 4 1, 3) := by decide +kernel
theorem dX6_copyState_26 : decode cX6_copyState 26 = .ok (.goto (-23), 3) := by decide +kernel
theorem dX6_copyState_29 : decode cX6_copyState 29 = .ok (.return_, 1) := by decide +kernel
theorem dX6_clear_0 : decode cX6_clear 0 = .ok (.iconst 0, 1) := by decide +kernel
theorem dX6_clear_1 : decode cX6_clear 1 = .ok (.istore_n 1, 1) := by decide +kernel
theorem dX6_clear_2 : decode cX6_clear 2 = .ok (.iload_n 1, 1) := by decide +kernel
theorem dX6_clear_3 : decode cX6_clear 3 = .ok (.sipush 217, 3) := by decide +kernel
theorem dX6_clear_6 : decode cX6_clear 6 = .ok (.if_icmp .ge 13, 3) := by decide +kernel
theorem dX6_clear_9 : decode cX6_clear 9 = .ok (.aload_n 0, 1) := by decide +kernel
theorem dX6_clear_10 : decode cX6_clear 10 = .ok (.iload_n 1, 1) := by decide +kernel
theorem dX6_clear_11 : decode cX6_clear 11 = .ok (.iconst 0, 1) := by decide +kernel
theorem dX6_clear_12 : decode cX6_clear 12 = .ok (.iastore, 1) := by decide +kernel
theorem dX6_clear_13 : decode cX6_clear 13 = .ok (.iinc 1 1, 3) := by decide +kernel
theorem dX6_clear_16 : decode cX6_clear 16 = .ok (.goto (-14), 3) := by decide +kernel
theorem dX6_clear_19 : decode cX6_clear 19 = .ok (.aload_n 0, 1) := by decide +kernel
theorem dX6_clear_20 : decode cX6_clear 20 = .ok (.bipush 6, 2) := by decide +kernel
theorem dX6_clear_22 : decode cX6_clear 22 = .ok (.iconst (-1), 1) := by decide +kernel
theorem dX6_clear_23 : decode cX6_clear 23 = .ok (.iastore, 1) := by decide +kernel
theorem dX6_clear_24 : decode cX6_clear 24 = .ok (.iconst 0, 1) := by decide +kernel
theorem dX6_clear_25 : decode cX6_clear 25 = .ok (.istore_n 1, 1) := by decide +kernel
theorem dX6_clear_26 : decode cX6_clear 26 = .ok (.iload_n 1, 1) := by decide +kernel
theorem dX6_clear_27 : decode cX6_clear 27 = .ok (.bipush 28, 2) := by decide +kernel
theorem dX6_clear_29 : decode cX6_clear 29 = .ok (.if_icmp .ge 16, 3) := by decide +kernel
theorem dX6_clear_32 : decode cX6_clear 32 = .ok (.aload_n 0, 1) := by decide +kernel
theorem dX6_clear_33 : decode cX6_clear 33 = .ok (.bipush 21, 2) := by decide +kernel
theorem dX6_clear_35 : decode cX6_clear 35 = .ok (.iload_n 1, 1) := by decide +kernel
theorem dX6_clear_36 : decode cX6_clear 36 = .ok (.iadd, 1) := by decide +kernel
theorem dX6_clear_37 : decode cX6_clear 37 = .ok (.iconst (-1), 1) := by decide +kernel
theorem dX6_clear_38 : decode cX6_clear 38 = .ok (.iastore, 1) := by decide +kernel
theorem dX6_clear_39 : decode cX6_clear 39 = .ok (.iinc 1 1, 3) := by decide +kernel
theorem dX6_clear_42 : decode cX6_clear 42 = .ok (.goto (-16), 3) := by decide +kernel
theorem dX6_clear_45 : decode cX6_clear 45 = .ok (.return_, 1) := by decide +kernel
theorem dX6_lesser_0 : decode cX6_lesser 0 = .ok (.iconst 0, 1) := by decide +kernel
theorem dX6_lesser_1 : decode cX6_lesser 1 = .ok (.istore_n 1, 1) := by decide +kernel
theorem dX6_lesser_2 : decode cX6_lesser 2 = .ok (.iload_n 0, 1) := by decide +kernel
theorem dX6_lesser_3 : decode cX6_lesser 3 = .ok (.istore_n 2, 1) := by decide +kernel
theorem dX6_lesser_4 : decode cX6_lesser 4 = .ok (.iload_n 2, 1) := by decide +kernel
theorem dX6_lesser_5 : decode cX6_lesser 5 = .ok (.bipush 7, 2) := by decide +kernel
theorem dX6_lesser_7 : decode cX6_lesser 7 = .ok (.iload_n 1, 1) := by decide +kernel
theorem dX6_lesser_8 : decode cX6_lesser 8 = .ok (.isub, 1) := by decide +kernel
theorem dX6_lesser_9 : decode cX6_lesser 9 = .ok (.if_icmp .lt 16, 3) := by decide +kernel
theorem dX6_lesser_12 : decode cX6_lesser 12 = .ok (.iload_n 2, 1) := by decide +kernel
theorem dX6_lesser_13 : decode cX6_lesser 13 = .ok (.bipush 7, 2) := by decide +kernel
theorem dX6_lesser_15 : decode cX6_lesser 15 = .ok (.iload_n 1, 1) := by decide +kernel
theorem dX6_lesser_16 : decode cX6_lesser 16 = .ok (.isub, 1) := by decide +kernel
theorem dX6_lesser_17 : decode cX6_lesser 17 = .ok (.isub, 1) := by decide +kernel
theorem dX6_lesser_18 : decode cX6_lesser 18 = .ok (.istore_n 2, 1) := by decide +kernel
theorem dX6_lesser_19 : decode cX6_lesser 19 = .ok (.iinc 1 1, 3) := by decide +kernel
theorem dX6_lesser_22 : decode cX6_lesser 22 = .ok (.goto (-18), 3) := by decide +kernel
theorem dX6_lesser_25 : decode cX6_lesser 25 = .ok (.iload_n 1, 1) := by decide +kernel
theorem dX6_lesser_26 : decode cX6_lesser 26 = .ok (.ireturn, 1) := by decide +kernel
theorem dX6_greater_0 : decode cX6_greater 0 = .ok (.iload_n 0, 1) := by decide +kernel
theorem dX6_greater_1 : decode cX6_greater 1 = .ok (.invokestatic 46, 3) := by decide +kernel
theorem dX6_greater_4 : decode cX6_greater 4 = .ok (.istore_n 1, 1) := by decide +kernel
theorem dX6_greater_5 : decode cX6_greater 5 = .ok (.bipush 7, 2) := by decide +kernel
theorem dX6_greater_7 : decode cX6_greater 7 = .ok (.iload_n 1, 1) := by decide +kernel
theorem dX6_greater_8 : decode cX6_greater 8 = .ok (.imul, 1) := by decide +kernel
theorem dX6_greater_9 : decode cX6_greater 9 = .ok (.iload_n 1, 1) := by decide +kernel
theorem dX6_greater_10 : decode cX6_greater 10 = .ok (.iload_n 1, 1) := by decide +kernel
theorem dX6_greater_11 : decode cX6_greater 11 = .ok (.iconst 1, 1) := by decide +kernel
theorem dX6_greater_12 : decode cX6_greater 12 = .ok (.isub, 1) := by decide +kernel
theorem dX6_greater_13 : decode cX6_greater 13 = .ok (.imul, 1) := by decide +kernel
theorem dX6_greater_14 : decode cX6_greater 14 = .ok (.iconst 2, 1) := by decide +kernel
theorem dX6_greater_15 : decode cX6_greater 15 = .ok (.idiv, 1) := by decide +kernel
theorem dX6_greater_16 : decode cX6_greater 16 = .ok (.isub, 1) := by decide +kernel
theorem dX6_greater_17 : decode cX6_greater 17 = .ok (.istore_n 2, 1) := by decide +kernel
theorem dX6_greater_18 : decode cX6_greater 18 = .ok (.iload_n 1, 1) := by decide +kernel
theorem dX6_greater_19 : decode cX6_greater 19 = .ok (.iload_n 0, 1) := by decide +kernel
theorem dX6_greater_20 : decode cX6_greater 20 = .ok (.iadd, 1) := by decide +kernel
theorem dX6_greater_21 : decode cX6_greater 21 = .ok (.iload_n 2, 1) := by decide +kernel
theorem dX6_greater_22 : decode cX6_greater 22 = .ok (.isub, 1) := by decide +kernel
theorem dX6_greater_23 : decode cX6_greater 23 = .ok (.ireturn, 1) := by decide +kernel
theorem dX6_pips_0 : decode cX6_pips 0 = .ok (.iload_n 0, 1) := by decide +kernel
theorem dX6_pips_1 : decode cX6_pips 1 = .ok (.invokestatic 46, 3) := by decide +kernel
theorem dX6_pips_4 : decode cX6_pips 4 = .ok (.iload_n 0, 1) := by decide +kernel
theorem dX6_pips_5 : decode cX6_pips 5 = .ok (.invokestatic 50, 3) := by decide +kernel
theorem dX6_pips_8 : decode cX6_pips 8 = .ok (.iadd, 1) := by decide +kernel
theorem dX6_pips_9 : decode cX6_pips 9 = .ok (.ireturn, 1) := by decide +kernel
theorem dX6_isTile_0 : decode cX6_isTile 0 = .ok (.iload_n 0, 1) := by decide +kernel
theorem dX6_isTile_1 : decode cX6_isTile 1 = .ok (.i2l, 1) := by decide +kernel
theorem dX6_isTile_2 : decode cX6_isTile 2 = .ok (.lconst 0, 1) := by decide +kernel
theorem dX6_isTile_3 : decode cX6_isTile 3 = .ok (.ldc2_w 53, 3) := by decide +kernel
theorem dX6_isTile_6 : decode cX6_isTile 6 = .ok (.invokestatic 55, 3) := by decide +kernel
theorem dX6_isTile_9 : decode cX6_isTile 9 = .ok (.ireturn, 1) := by decide +kernel
theorem dX6_handMany_0 : decode cX6_handMany 0 = .ok (.iconst 0, 1) := by decide +kernel
theorem dX6_handMany_1 : decode cX6_handMany 1 = .ok (.istore_n 2, 1) := by decide +kernel
theorem dX6_handMany_2 : decode cX6_handMany 2 = .ok (.iconst 0, 1) := by decide +kernel
theorem dX6_handMany_3 : decode cX6_handMany 3 = .ok (.istore_n 3, 1) := by decide +kernel
theorem dX6_handMany_4 : decode cX6_handMany 4 = .ok (.iload_n 3, 1) := by decide +kernel
theorem dX6_handMany_5 : decode cX6_handMany 5 = .ok (.bipush 28, 2) := by decide +kernel
theorem dX6_handMany_7 : decode cX6_handMany 7 = .ok (.if_icmp .ge 27, 3) := by decide +kernel
theorem dX6_handMany_10 : decode cX6_handMany 10 = .ok (.iload_n 2, 1) := by decide +kernel
theorem dX6_handMany_11 : decode cX6_handMany 11 = .ok (.aload_n 0, 1) := by decide +kernel
theorem dX6_handMany_12 : decode cX6_handMany 12 = .ok (.bipush 21, 2) := by decide +kernel
theorem dX6_handMany_14 : decode cX6_handMany 14 = .ok (.iload_n 3, 1) := by decide +kernel
theorem dX6_handMany_15 : decode cX6_handMany 15 = .ok (.iadd, 1) := by decide +kernel
theorem dX6_handMany_16 : decode cX6_handMany 16 = .ok (.iaload, 1) := by decide +kernel
theorem dX6_handMany_17 : decode cX6_handMany 17 = .ok (.iload_n 1, 1) := by decide +kernel
theorem dX6_handMany_18 : decode cX6_handMany 18 = .ok (.if_icmp .ne 7, 3) := by decide +kernel
theorem dX6_handMany_21 : decode cX6_handMany 21 = .ok (.iconst 1, 1) := by decide +kernel
theorem dX6_handMany_22 : decode cX6_handMany 22 = .ok (.goto 4, 3) := by decide +kernel
theorem dX6_handMany_25 : decode cX6_handMany 25 = .ok (.iconst 0, 1) := by decide +kernel
theorem dX6_handMany_26 : decode cX6_handMany 26 = .ok (.iadd, 1) := by decide +kernel
theorem dX6_handMany_27 : decode cX6_handMany 27 = .ok (.istore_n 2, 1) := by decide +kernel
theorem dX6_handMany_28 : decode cX6_handMany 28 = .ok (.iinc 3 1, 3) := by decide +kernel
theorem dX6_handMany_31 : decode cX6_handMany 31 = .ok (.goto (-27), 3) := by decide +kernel
theorem dX6_handMany_34 : decode cX6_handMany 34 = .ok (.iload_n 2, 1) := by decide +kernel
theorem dX6_handMany_35 : decode cX6_handMany 35 = .ok (.ireturn, 1) := by decide +kernel
theorem dX6_handPips_0 : decode cX6_handPips 0 = .ok (.iconst 0, 1) := by decide +kernel
theorem dX6_handPips_1 : decode cX6_handPips 1 = .ok (.istore_n 2, 1) := by decide +kernel
theorem dX6_handPips_2 : decode cX6_handPips 2 = .ok (.iconst 0, 1) := by decide +kernel
theorem dX6_handPips_3 : decode cX6_handPips 3 = .ok (.istore_n 3, 1) := by decide +kernel
theorem dX6_handPips_4 : decode cX6_handPips 4 = .ok (.iload_n 3, 1) := by decide +kernel
theorem dX6_handPips_5 : decode cX6_handPips 5 = .ok (.bipush 28, 2) := by decide +kernel
theorem dX6_handPips_7 : decode cX6_handPips 7 = .ok (.if_icmp .ge 30, 3) := by decide +kernel
theorem dX6_handPips_10 : decode cX6_handPips 10 = .ok (.iload_n 2, 1) := by decide +kernel
theorem dX6_handPips_11 : decode cX6_handPips 11 = .ok (.aload_n 0, 1) := by decide +kernel
theorem dX6_handPips_12 : decode cX6_handPips 12 = .ok (.bipush 21, 2) := by decide +kernel
theorem dX6_handPips_14 : decode cX6_handPips 14 = .ok (.iload_n 3, 1) := by decide +kernel
theorem dX6_handPips_15 : decode cX6_handPips 15 = .ok (.iadd, 1) := by decide +kernel
theorem dX6_handPips_16 : decode cX6_handPips 16 = .ok (.iaload, 1) := by decide +kernel
theorem dX6_handPips_17 : decode cX6_handPips 17 = .ok (.iload_n 1, 1) := by decide +kernel
theorem dX6_handPips_18 : decode cX6_handPips 18 = .ok (.if_icmp .ne 10, 3) := by decide +kernel
theorem dX6_handPips_21 : decode cX6_handPips 21 = .ok (.iload_n 3, 1) := by decide +kernel
theorem dX6_handPips_22 : decode cX6_handPips 22 = .ok (.invokestatic 59, 3) := by decide +kernel
theorem dX6_handPips_25 : decode cX6_handPips 25 = .ok (.goto 4, 3) := by decide +kernel
theorem dX6_handPips_28 : decode cX6_handPips 28 = .ok (.iconst 0, 1) := by decide +kernel
theorem dX6_handPips_29 : decode cX6_handPips 29 = .ok (.iadd, 1) := by decide +kernel
theorem dX6_handPips_30 : decode cX6_handPips 30 = .ok (.istore_n 2, 1) := by decide +kernel
theorem dX6_handPips_31 : decode cX6_handPips 31 = .ok (.iinc 3 1, 3) := by decide +kernel
theorem dX6_handPips_34 : decode cX6_handPips 34 = .ok (.goto (-30), 3) := by decide +kernel
theorem dX6_handPips_37 : decode cX6_handPips 37 = .ok (.iload_n 2, 1) := by decide +kernel
theorem dX6_handPips_38 : decode cX6_handPips 38 = .ok (.ireturn, 1) := by decide +kernel
theorem dX6_dx_0 : decode cX6_dx 0 = .ok (.iload_n 0, 1) := by decide +kernel
theorem dX6_dx_1 : decode cX6_dx 1 = .ok (.ifCond .ne 7, 3) := by decide +kernel
theorem dX6_dx_4 : decode cX6_dx 4 = .ok (.iconst 1, 1) := by decide +kernel
theorem dX6_dx_5 : decode cX6_dx 5 = .ok (.goto 13, 3) := by decide +kernel
theorem dX6_dx_8 : decode cX6_dx 8 = .ok (.iload_n 0, 1) := by decide +kernel
theorem dX6_dx_9 : decode cX6_dx 9 = .ok (.iconst 2, 1) := by decide +kernel
theorem dX6_dx_10 : decode cX6_dx 10 = .ok (.if_icmp .ne 7, 3) := by decide +kernel
theorem dX6_dx_13 : decode cX6_dx 13 = .ok (.iconst (-1), 1) := by decide +kernel
theorem dX6_dx_14 : decode cX6_dx 14 = .ok (.goto 4, 3) := by decide +kernel
theorem dX6_dx_17 : decode cX6_dx 17 = .ok (.iconst 0, 1) := by decide +kernel
theorem dX6_dx_18 : decode cX6_dx 18 = .ok (.ireturn, 1) := by decide +kernel
theorem dX6_dy_0 : decode cX6_dy 0 = .ok (.iload_n 0, 1) := by decide +kernel
theorem dX6_dy_1 : decode cX6_dy 1 = .ok (.iconst 1, 1) := by decide +kernel
theorem dX6_dy_2 : decode cX6_dy 2 = .ok (.if_icmp .ne 7, 3) := by decide +kernel
theorem dX6_dy_5 : decode cX6_dy 5 = .ok (.iconst 1, 1) := by decide +kernel
theorem dX6_dy_6 : decode cX6_dy 6 = .ok (.goto 13, 3) := by decide +kernel
theorem dX6_dy_9 : decode cX6_dy 9 = .ok (.iload_n 0, 1) := by decide +kernel
theorem dX6_dy_10 : decode cX6_dy 10 = .ok (.iconst 3, 1) := by decide +kernel
theorem dX6_dy_11 : decode cX6_dy 11 = .ok (.if_icmp .ne 7, 3) := by decide +kernel
theorem dX6_dy_14 : decode cX6_dy 14 = .ok (.iconst (-1), 1) := by decide +kernel
theorem dX6_dy_15 : decode cX6_dy 15 = .ok (.goto 4, 3) := by decide +kernel
theorem dX6_dy_18 : decode cX6_dy 18 = .ok (.iconst 0, 1) := by decide +kernel
theorem dX6_dy_19 : decode cX6_dy 19 = .ok (.ireturn, 1) := by decide +kernel
theorem dX6_onTable_0 : decode cX6_onTable 0 = .ok (.aload_n 0, 1) := by decide +kernel
theorem dX6_onTable_1 : decode cX6_onTable 1 = .ok (.bipush 77, 2) := by decide +kernel
theorem dX6_onTable_3 : decode cX6_onTable 3 = .ok (.iconst 5, 1) := by decide +kernel
theorem dX6_onTable_4 : decode cX6_onTable 4 = .ok (.iload_n 1, 1) := by decide +kernel
theorem dX6_onTable_5 : decode cX6_onTable 5 = .ok (.imul, 1) := by decide +kernel
theorem dX6_onTable_6 : decode cX6_onTable 6 = .ok (.iadd, 1) := by decide +kernel
theorem dX6_onTable_7 : decode cX6_onTable 7 = .ok (.iload_n 2, 1) := by decide +kernel
theorem dX6_onTable_8 : decode cX6_onTable 8 = .ok (.iadd, 1) := by decide +kernel
theorem dX6_onTable_9 : decode cX6_onTable 9 = .ok (.iaload, 1) := by decide +kernel
theorem dX6_onTable_10 : decode cX6_onTable 10 = .ok (.ireturn, 1) := by decide +kernel
theorem dX6_otherPips_0 : decode cX6_otherPips 0 = .ok (.aload_n 0, 1) := by decide +kernel
theorem dX6_otherPips_1 : decode cX6_otherPips 1 = .ok (.iload_n 1, 1) := by decide +kernel
theorem dX6_otherPips_2 : decode cX6_otherPips 2 = .ok (.iconst 0, 1) := by decide +kernel
theorem dX6_otherPips_3 : decode cX6_otherPips 3 = .ok (.invokestatic 62, 3) := by decide +kernel
theorem dX6_otherPips_6 : decode cX6_otherPips 6 = .ok (.invokestatic 59, 3) := by decide +kernel
theorem dX6_otherPips_9 : decode cX6_otherPips 9 = .ok (.aload_n 0, 1) := by decide +kernel
theorem dX6_otherPips_10 : decode cX6_otherPips 10 = .ok (.iload_n 1, 1) := by decide +kernel
theorem dX6_otherPips_11 : decode cX6_otherPips 11 = .ok (.iconst 4, 1) := by decide +kernel
theorem dX6_otherPips_12 : decode cX6_otherPips 12 = .ok (.invokestatic 62, 3) := by decide +kernel
theorem dX6_otherPips_15 : decode cX6_otherPips 15 = .ok (.isub, 1) := by decide +kernel
theorem dX6_otherPips_16 : decode cX6_otherPips 16 = .ok (.ireturn, 1) := by decide +kernel
theorem dX6_xOf_0 : decode cX6_xOf 0 = .ok (.aload_n 0, 1) := by decide +kernel
theorem dX6_xOf_1 : decode cX6_xOf 1 = .ok (.iload_n 1, 1) := by decide +kernel
theorem dX6_xOf_2 : decode cX6_xOf 2 = .ok (.iconst 1, 1) := by decide +kernel
theorem dX6_xOf_3 : decode cX6_xOf 3 = .ok (.invokestatic 62, 3) := by decide +kernel
theorem dX6_xOf_6 : decode cX6_xOf 6 = .ok (.iload_n 2, 1) := by decide +kernel
theorem dX6_xOf_7 : decode cX6_xOf 7 = .ok (.aload_n 0, 1) := by decide +kernel
theorem dX6_xOf_8 : decode cX6_xOf 8 = .ok (.iload_n 1, 1) := by decide +kernel
theorem dX6_xOf_9 : decode cX6_xOf 9 = .ok (.iconst 3, 1) := by decide +kernel
theorem dX6_xOf_10 : decode cX6_xOf 10 = .ok (.invokestatic 62, 3) := by decide +kernel
theorem dX6_xOf_13 : decode cX6_xOf 13 = .ok (.invokestatic 66, 3) := by decide +kernel
theorem dX6_xOf_16 : decode cX6_xOf 16 = .ok (.imul, 1) := by decide +kernel
theorem dX6_xOf_17 : decode cX6_xOf 17 = .ok (.iadd, 1) := by decide +kernel
theorem dX6_xOf_18 : decode cX6_xOf 18 = .ok (.ireturn, 1) := by decide +kernel
theorem dX6_yOf_0 : decode cX6_yOf 0 = .ok (.aload_n 0, 1) := by decide +kernel
theorem dX6_yOf_1 : decode cX6_yOf 1 = .ok (.iload_n 1, 1) := by decide +kernel
theorem dX6_yOf_2 : decode cX6_yOf 2 = .ok (.iconst 2, 1) := by decide +kernel
theorem dX6_yOf_3 : decode cX6_yOf 3 = .ok (.invokestatic 62, 3) := by decide +kernel
theorem dX6_yOf_6 : decode cX6_yOf 6 = .ok (.iload_n 2, 1) := by decide +kernel
theorem dX6_yOf_7 : decode cX6_yOf 7 = .ok (.aload_n 0, 1) := by decide +kernel
theorem dX6_yOf_8 : decode cX6_yOf 8 = .ok (.iload_n 1, 1) := by decide +kernel
theorem dX6_yOf_9 : decode cX6_yOf 9 = .ok (.iconst 3, 1) := by decide +kernel
theorem dX6_yOf_10 : decode cX6_yOf 10 = .ok (.invokestatic 62, 3) := by decide +kernel
theorem dX6_yOf_13 : decode cX6_yOf 13 = .ok (.invokestatic 69, 3) := by decide +kernel
theorem dX6_yOf_16 : decode cX6_yOf 16 = .ok (.imul, 1) := by decide +kernel
theorem dX6_yOf_17 : decode cX6_yOf 17 = .ok (.iadd, 1) := by decide +kernel
theorem dX6_yOf_18 : decode cX6_yOf 18 = .ok (.ireturn, 1) := by decide +kernel
theorem dX6_cellAt_0 : decode cX6_cellAt 0 = .ok (.iconst 0, 1) := by decide +kernel
theorem dX6_cellAt_1 : decode cX6_cellAt 1 = .ok (.istore_n 3, 1) := by decide +kernel
theorem dX6_cellAt_2 : decode cX6_cellAt 2 = .ok (.iload_n 3, 1) := by decide +kernel
theorem dX6_cellAt_3 : decode cX6_cellAt 3 = .ok (.aload_n 0, 1) := by decide +kernel
theorem dX6_cellAt_4 : decode cX6_cellAt 4 = .ok (.iconst 5, 1) := by decide +kernel
theorem dX6_cellAt_5 : decode cX6_cellAt 5 = .ok (.iaload, 1) := by decide +kernel
theorem dX6_cellAt_6 : decode cX6_cellAt 6 = .ok (.if_icmp .ge 62, 3) := by decide +kernel
theorem dX6_cellAt_9 : decode cX6_cellAt 9 = .ok (.aload_n 0, 1) := by decide +kernel
theorem dX6_cellAt_10 : decode cX6_cellAt 10 = .ok (.iload_n 3, 1) := by decide +kernel
theorem dX6_cellAt_11 : decode cX6_cellAt 11 = .ok (.iconst 0, 1) := by decide +kernel
theorem dX6_cellAt_12 : decode cX6_cellAt 12 = .ok (.invokestatic 72, 3) := by decide +kernel
theorem dX6_cellAt_15 : decode cX6_cellAt 15 = .ok (.iload_n 1, 1) := by decide +kernel
theorem dX6_cellAt_16 : decode cX6_cellAt 16 = .ok (.if_icmp .ne 20, 3) := by decide +kernel
theorem dX6_cellAt_19 : decode cX6_cellAt 19 = .ok (.aload_n 0, 1) := by decide +kernel
theorem dX6_cellAt_20 : decode cX6_cellAt 20 = .ok (.iload_n 3, 1) := by decide +kernel
theorem dX6_cellAt_21 : decode cX6_cellAt 21 = .ok (.iconst 0, 1) := by decide +kernel
theorem dX6_cellAt_22 : decode cX6_cellAt 22 = .ok (.invokestatic 75, 3) := by decide +kernel
theorem dX6_cellAt_25 : decode cX6_cellAt 25 = .ok (.iload_n 2, 1) := by decide +kernel
theorem dX6_cellAt_26 : decode cX6_cellAt 26 = .ok (.if_icmp .ne 10, 3) := by decide +kernel
theorem dX6_cellAt_29 : decode cX6_cellAt 29 = .ok (.aload_n 0, 1) := by decide +kernel
theorem dX6_cellAt_30 : decode cX6_cellAt 30 = .ok (.iload_n 3, 1) := by decide +kernel
theorem dX6_cellAt_31 : decode cX6_cellAt 31 = .ok (.iconst 4, 1) := by decide +kernel
theorem dX6_cellAt_32 : decode cX6_cellAt 32 = .ok (.invokestatic 62, 3) := by decide +kernel
theorem dX6_cellAt_35 : decode cX6_cellAt 35 = .ok (.ireturn, 1) := by decide +kernel
theorem dX6_cellAt_36 : decode cX6_cellAt 36 = .ok (.aload_n 0, 1) := by decide +kernel
theorem dX6_cellAt_37 : decode cX6_cellAt 37 = .ok (.iload_n 3, 1) := by decide +kernel
theorem dX6_cellAt_38 : decode cX6_cellAt 38 = .ok (.iconst 1, 1) := by decide +kernel
theorem dX6_cellAt_39 : decode cX6_cellAt 39 = .ok (.invokestatic 72, 3) := by decide +kernel
theorem dX6_cellAt_42 : decode cX6_cellAt 42 = .ok (.iload_n 1, 1) := by decide +kernel
theorem dX6_cellAt_43 : decode cX6_cellAt 43 = .ok (.if_icmp .ne 19, 3) := by decide +kernel
theorem dX6_cellAt_46 : decode cX6_cellAt 46 = .ok (.aload_n 0, 1) := by decide +kernel
theorem dX6_cellAt_47 : decode cX6_cellAt 47 = .ok (.iload_n 3, 1) := by decide +kernel
theorem dX6_cellAt_48 : decode cX6_cellAt 48 = .ok (.iconst 1, 1) := by decide +kernel
theorem dX6_cellAt_49 : decode cX6_cellAt 49 = .ok (.invokestatic 75, 3) := by decide +kernel
theorem dX6_cellAt_52 : decode cX6_cellAt 52 = .ok (.iload_n 2, 1) := by decide +kernel
theorem dX6_cellAt_53 : decode cX6_cellAt 53 = .ok (.if_icmp .ne 9, 3) := by decide +kernel
theorem dX6_cellAt_56 : decode cX6_cellAt 56 = .ok (.aload_n 0, 1) := by decide +kernel
theorem dX6_cellAt_57 : decode cX6_cellAt 57 = .ok (.iload_n 3, 1) := by decide +kernel
theorem dX6_cellAt_58 : decode cX6_cellAt 58 = .ok (.invokestatic 78, 3) := by decide +kernel
theorem dX6_cellAt_61 : decode cX6_cellAt 61 = .ok (.ireturn, 1) := by decide +kernel
theorem dX6_cellAt_62 : decode cX6_cellAt 62 = .ok (.iinc 3 1, 3) := by decide +kernel
theorem dX6_cellAt_65 : decode cX6_cellAt 65 = .ok (.goto (-63), 3) := by decide +kernel
theorem dX6_cellAt_68 : decode cX6_cellAt 68 = .ok (.iconst (-1), 1) := by decide +kernel
theorem dX6_cellAt_69 : decode cX6_cellAt 69 = .ok (.ireturn, 1) := by decide +kernel
theorem dX6_isFree_0 : decode cX6_isFree 0 = .ok (.iload_n 1, 1) := by decide +kernel
theorem dX6_isFree_1 : decode cX6_isFree 1 = .ok (.i2l, 1) := by decide +kernel
theorem dX6_isFree_2 : decode cX6_isFree 2 = .ok (.lconst 0, 1) := by decide +kernel
theorem dX6_isFree_3 : decode cX6_isFree 3 = .ok (.ldc2_w 82, 3) := by decide +kernel
theorem dX6_isFree_6 : decode cX6_isFree 6 = .ok (.invokestatic 55, 3) := by decide +kernel
theorem dX6_isFree_9 : decode cX6_isFree 9 = .ok (.ifCond .eq 29, 3) := by decide +kernel
theorem dX6_isFree_12 : decode cX6_isFree 12 = .ok (.iload_n 2, 1) := by decide +kernel
theorem dX6_isFree_13 : decode cX6_isFree 13 = .ok (.i2l, 1) := by decide +kernel
theorem dX6_isFree_14 : decode cX6_isFree 14 = .ok (.lconst 0, 1) := by decide +kernel
theorem dX6_isFree_15 : decode cX6_isFree 15 = .ok (.ldc2_w 82, 3) := by decide +kernel
theorem dX6_isFree_18 : decode cX6_isFree 18 = .ok (.invokestatic 55, 3) := by decide +kernel
theorem dX6_isFree_21 : decode cX6_isFree 21 = .ok (.ifCond .eq 17, 3) := by decide +kernel
theorem dX6_isFree_24 : decode cX6_isFree 24 = .ok (.aload_n 0, 1) := by decide +kernel
theorem dX6_isFree_25 : decode cX6_isFree 25 = .ok (.iload_n 1, 1) := by decide +kernel
theorem dX6_isFree_26 : decode cX6_isFree 26 = .ok (.iload_n 2, 1) := by decide +kernel
theorem dX6_isFree_27 : decode cX6_isFree 27 = .ok (.invokestatic 84, 3) := by decide +kernel
theorem dX6_isFree_30 : decode cX6_isFree 30 = .ok (.iconst (-1), 1) := by decide +kernel
theorem dX6_isFree_31 : decode cX6_isFree 31 = .ok (.if_icmp .ne 7, 3) := by decide +kernel
theorem dX6_isFree_34 : decode cX6_isFree 34 = .ok (.iconst 1, 1) := by decide +kernel
theorem dX6_isFree_35 : decode cX6_isFree 35 = .ok (.goto 4, 3) := by decide +kernel
theorem dX6_isFree_38 : decode cX6_isFree 38 = .ok (.iconst 0, 1) := by decide +kernel
theorem dX6_isFree_39 : decode cX6_isFree 39 = .ok (.ireturn, 1) := by decide +kernel
theorem dX6_nextX_0 : decode cX6_nextX 0 = .ok (.aload_n 0, 1) := by decide +kernel
theorem dX6_nextX_1 : decode cX6_nextX 1 = .ok (.iconst 5, 1) := by decide +kernel
theorem dX6_nextX_2 : decode cX6_nextX 2 = .ok (.iaload, 1) := by decide +kernel
theorem dX6_nextX_3 : decode cX6_nextX 3 = .ok (.ifCond .ne 8, 3) := by decide +kernel
theorem dX6_nextX_6 : decode cX6_nextX 6 = .ok (.bipush 12, 2) := by decide +kernel
theorem dX6_nextX_8 : decode cX6_nextX 8 = .ok (.goto 21, 3) := by decide +kernel
theorem dX6_nextX_11 : decode cX6_nextX 11 = .ok (.aload_n 0, 1) := by decide +kernel
theorem dX6_nextX_12 : decode cX6_nextX 12 = .ok (.aload_n 0, 1) := by decide +kernel
theorem dX6_nextX_13 : decode cX6_nextX 13 = .ok (.iconst 5, 1) := by decide +kernel
theorem dX6_nextX_14 : decode cX6_nextX 14 = .ok (.iaload, 1) := by decide +kernel
theorem dX6_nextX_15 : decode cX6_nextX 15 = .ok (.iconst 1, 1) := by decide +kernel
theorem dX6_nextX_16 : decode cX6_nextX 16 = .ok (.isub, 1) := by decide +kernel
theorem dX6_nextX_17 : decode cX6_nextX 17 = .ok (.iconst 1, 1) := by decide +kernel
theorem dX6_nextX_18 : decode cX6_nextX 18 = .ok (.invokestatic 72, 3) := by decide +kernel
theorem dX6_nextX_21 : decode cX6_nextX 21 = .ok (.aload_n 0, 1) := by decide +kernel
theorem dX6_nextX_22 : decode cX6_nextX 22 = .ok (.bipush 7, 2) := by decide +kernel
theorem dX6_nextX_24 : decode cX6_nextX 24 = .ok (.iaload, 1) := by decide +kernel
theorem dX6_nextX_25 : decode cX6_nextX 25 = .ok (.invokestatic 66, 3) := by decide +kernel
theorem dX6_nextX_28 : decode cX6_nextX 28 = .ok (.iadd, 1) := by decide +kernel
theorem dX6_nextX_29 : decode cX6_nextX 29 = .ok (.ireturn, 1) := by decide +kernel
theorem dX6_nextY_0 : decode cX6_nextY 0 = .ok (.aload_n 0, 1) := by decide +kernel
theorem dX6_nextY_1 : decode cX6_nextY 1 = .ok (.iconst 5, 1) := by decide +kernel
theorem dX6_nextY_2 : decode cX6_nextY 2 = .ok (.iaload, 1) := by decide +kernel
theorem dX6_nextY_3 : decode cX6_nextY 3 = .ok (.ifCond .ne 8, 3) := by decide +kernel
theorem dX6_nextY_6 : decode cX6_nextY 6 = .ok (.bipush 12, 2) := by decide +kernel
theorem dX6_nextY_8 : decode cX6_nextY 8 = .ok (.goto 21, 3) := by decide +kernel
theorem dX6_nextY_11 : decode cX6_nextY 11 = .ok (.aload_n 0, 1) := by decide +kernel
theorem dX6_nextY_12 : decode cX6_nextY 12 = .ok (.aload_n 0, 1) := by decide +kernel
theorem dX6_nextY_13 : decode cX6_nextY 13 = .ok (.iconst 5, 1) := by decide +kernel
theorem dX6_nextY_14 : decode cX6_nextY 14 = .ok (.iaload, 1) := by decide +kernel
theorem dX6_nextY_15 : decode cX6_nextY 15 = .ok (.iconst 1, 1) := by decide +kernel
theorem dX6_nextY_16 : decode cX6_nextY 16 = .ok (.isub, 1) := by decide +kernel
theorem dX6_nextY_17 : decode cX6_nextY 17 = .ok (.iconst 1, 1) := by decide +kernel
theorem dX6_nextY_18 : decode cX6_nextY 18 = .ok (.invokestatic 75, 3) := by decide +kernel
theorem dX6_nextY_21 : decode cX6_nextY 21 = .ok (.aload_n 0, 1) := by decide +kernel
theorem dX6_nextY_22 : decode cX6_nextY 22 = .ok (.bipush 7, 2) := by decide +kernel
theorem dX6_nextY_24 : decode cX6_nextY 24 = .ok (.iaload, 1) := by decide +kernel
theorem dX6_nextY_25 : decode cX6_nextY 25 = .ok (.invokestatic 69, 3) := by decide +kernel
theorem dX6_nextY_28 : decode cX6_nextY 28 = .ok (.iadd, 1) := by decide +kernel
theorem dX6_nextY_29 : decode cX6_nextY 29 = .ok (.ireturn, 1) := by decide +kernel
theorem dX6_fitsTo_0 : decode cX6_fitsTo 0 = .ok (.iload_n 1, 1) := by decide +kernel
theorem dX6_fitsTo_1 : decode cX6_fitsTo 1 = .ok (.iconst (-1), 1) := by decide +kernel
theorem dX6_fitsTo_2 : decode cX6_fitsTo 2 = .ok (.if_icmp .eq 19, 3) := by decide +kernel
theorem dX6_fitsTo_5 : decode cX6_fitsTo 5 = .ok (.iload_n 0, 1) := by decide +kernel
theorem dX6_fitsTo_6 : decode cX6_fitsTo 6 = .ok (.invokestatic 46, 3) := by decide +kernel
theorem dX6_fitsTo_9 : decode cX6_fitsTo 9 = .ok (.iload_n 1, 1) := by decide +kernel
theorem dX6_fitsTo_10 : decode cX6_fitsTo 10 = .ok (.if_icmp .eq 11, 3) := by decide +kernel
theorem dX6_fitsTo_13 : decode cX6_fitsTo 13 = .ok (.iload_n 0, 1) := by decide +kernel
theorem dX6_fitsTo_14 : decode cX6_fitsTo 14 = .ok (.invokestatic 50, 3) := by decide +kernel
theorem dX6_fitsTo_17 : decode cX6_fitsTo 17 = .ok (.iload_n 1, 1) := by decide +kernel
theorem dX6_fitsTo_18 : decode cX6_fitsTo 18 = .ok (.if_icmp .ne 7, 3) := by decide +kernel
theorem dX6_fitsTo_21 : decode cX6_fitsTo 21 = .ok (.iconst 1, 1) := by decide +kernel
theorem dX6_fitsTo_22 : decode cX6_fitsTo 22 = .ok (.goto 4, 3) := by decide +kernel
theorem dX6_fitsTo_25 : decode cX6_fitsTo 25 = .ok (.iconst 0, 1) := by decide +kernel
theorem dX6_fitsTo_26 : decode cX6_fitsTo 26 = .ok (.ireturn, 1) := by decide +kernel
theorem dX6_endBehind_0 : decode cX6_endBehind 0 = .ok (.iload_n 1, 1) := by decide +kernel
theorem dX6_endBehind_1 : decode cX6_endBehind 1 = .ok (.iconst (-1), 1) := by decide +kernel
theorem dX6_endBehind_2 : decode cX6_endBehind 2 = .ok (.if_icmp .ne 10, 3) := by decide +kernel
theorem dX6_endBehind_5 : decode cX6_endBehind 5 = .ok (.iload_n 0, 1) := by decide +kernel
theorem dX6_endBehind_6 : decode cX6_endBehind 6 = .ok (.invokestatic 50, 3) := by decide +kernel
theorem dX6_endBehind_9 : decode cX6_endBehind 9 = .ok (.goto 9, 3) := by decide +kernel
theorem dX6_endBehind_12 : decode cX6_endBehind 12 = .ok (.iload_n 0, 1) := by decide +kernel
theorem dX6_endBehind_13 : decode cX6_endBehind 13 = .ok (.invokestatic 59, 3) := by decide +kernel
theorem dX6_endBehind_16 : decode cX6_endBehind 16 = .ok (.iload_n 1, 1) := by decide +kernel
theorem dX6_endBehind_17 : decode cX6_endBehind 17 = .ok (.isub, 1) := by decide +kernel
theorem dX6_endBehind_18 : decode cX6_endBehind 18 = .ok (.ireturn, 1) := by decide +kernel
theorem dX6_reason_0 : decode cX6_reason 0 = .ok (.aload_n 0, 1) := by decide +kernel
theorem dX6_reason_1 : decode cX6_reason 1 = .ok (.bipush 21, 2) := by decide +kernel
theorem dX6_reason_3 : decode cX6_reason 3 = .ok (.iload_n 1, 1) := by decide +kernel
theorem dX6_reason_4 : decode cX6_reason 4 = .ok (.iadd, 1) := by decide +kernel
theorem dX6_reason_5 : decode cX6_reason 5 = .ok (.iaload, 1) := by decide +kernel
theorem dX6_reason_6 : decode cX6_reason 6 = .ok (.aload_n 0, 1) := by decide +kernel
theorem dX6_reason_7 : decode cX6_reason 7 = .ok (.iconst 3, 1) := by decide +kernel
theorem dX6_reason_8 : decode cX6_reason 8 = .ok (.iaload, 1) := by decide +kernel
theorem dX6_reason_9 : decode cX6_reason 9 = .ok (.if_icmp .eq 5, 3) := by decide +kernel
theorem dX6_reason_12 : decode cX6_reason 12 = .ok (.iconst 1, 1) := by decide +kernel
theorem dX6_reason_13 : decode cX6_reason 13 = .ok (.ireturn, 1) := by decide +kernel
theorem dX6_reason_14 : decode cX6_reason 14 = .ok (.iload_n 1, 1) := by decide +kernel
theorem dX6_reason_15 : decode cX6_reason 15 = .ok (.aload_n 0, 1) := by decide +kernel
theorem dX6_reason_16 : decode cX6_reason 16 = .ok (.bipush 6, 2) := by decide +kernel
theorem dX6_reason_18 : decode cX6_reason 18 = .ok (.iaload, 1) := by decide +kernel
theorem dX6_reason_19 : decode cX6_reason 19 = .ok (.invokestatic 87, 3) := by decide +kernel
theorem dX6_reason_22 : decode cX6_reason 22 = .ok (.ifCond .ne 5, 3) := by decide +kernel
theorem dX6_reason_25 : decode cX6_reason 25 = .ok (.iconst 2, 1) := by decide +kernel
theorem dX6_reason_26 : decode cX6_reason 26 = .ok (.ireturn, 1) := by decide +kernel
theorem dX6_reason_27 : decode cX6_reason 27 = .ok (.aload_n 0, 1) := by decide +kernel
theorem dX6_reason_28 : decode cX6_reason 28 = .ok (.invokestatic 91, 3) := by decide +kernel
theorem dX6_reason_31 : decode cX6_reason 31 = .ok (.istore_n 2, 1) := by decide +kernel
theorem dX6_reason_32 : decode cX6_reason 32 = .ok (.aload_n 0, 1) := by decide +kernel
theorem dX6_reason_33 : decode cX6_reason 33 = .ok (.invokestatic 95, 3) := by decide +kernel
theorem dX6_reason_36 : decode cX6_reason 36 = .ok (.istore_n 3, 1) := by decide +kernel
theorem dX6_reason_37 : decode cX6_reason 37 = .ok (.aload_n 0, 1) := by decide +kernel
theorem dX6_reason_38 : decode cX6_reason 38 = .ok (.iload_n 2, 1) := by decide +kernel
theorem dX6_reason_39 : decode cX6_reason 39 = .ok (.iload_n 3, 1) := by decide +kernel
theorem dX6_reason_40 : decode cX6_reason 40 = .ok (.invokestatic 98, 3) := by decide +kernel
theorem dX6_reason_43 : decode cX6_reason 43 = .ok (.ifCond .eq 32, 3) := by decide +kernel
theorem dX6_reason_46 : decode cX6_reason 46 = .ok (.aload_n 0, 1) := by decide +kernel
theorem dX6_reason_47 : decode cX6_reason 47 = .ok (.iload_n 2, 1) := by decide +kernel
theorem dX6_reason_48 : decode cX6_reason 48 = .ok (.aload_n 0, 1) := by decide +kernel
theorem dX6_reason_49 : decode cX6_reason 49 = .ok (.bipush 7, 2) := by decide +kernel
theorem dX6_reason_51 : decode cX6_reason 51 = .ok (.iaload, 1) := by decide +kernel
theorem dX6_reason_52 : decode cX6_reason 52 = .ok (.invokestatic 66, 3) := by decide +kernel
theorem dX6_reason_55 : decode cX6_reason 55 = .ok (.iadd, 1) := by decide +kernel
theorem dX6_reason_56 : decode cX6_reason 56 = .ok (.iload_n 3, 1) := by decide +kernel
theorem dX6_reason_57 : decode cX6_reason 57 = .ok (.aload_n 0, 1) := by decide +kernel
theorem dX6_reason_58 : decode cX6_reason 58 = .ok (.bipush 7, 2) := by decide +kernel
theorem dX6_reason_60 : decode cX6_reason 60 = .ok (.iaload, 1) := by decide +kernel
theorem dX6_reason_61 : decode cX6_reason 61 = .ok (.invokestatic 69, 3) := by decide +kernel
theorem dX6_reason_64 : decode cX6_reason 64 = .ok (.iadd, 1) := by decide +kernel
theorem dX6_reason_65 : decode cX6_reason 65 = .ok (.invokestatic 98, 3) := by decide +kernel
theorem dX6_reason_68 : decode cX6_reason 68 = .ok (.ifCond .eq 7, 3) := by decide +kernel
theorem dX6_reason_71 : decode cX6_reason 71 = .ok (.iconst 0, 1) := by decide +kernel
theorem dX6_reason_72 : decode cX6_reason 72 = .ok (.goto 4, 3) := by decide +kernel
theorem dX6_reason_75 : decode cX6_reason 75 = .ok (.iconst 3, 1) := by decide +kernel
theorem dX6_reason_76 : decode cX6_reason 76 = .ok (.ireturn, 1) := by decide +kernel
theorem dX6_legalMany_0 : decode cX6_legalMany 0 = .ok (.iconst 0, 1) := by decide +kernel
theorem dX6_legalMany_1 : decode cX6_legalMany 1 = .ok (.istore_n 1, 1) := by decide +kernel
theorem dX6_legalMany_2 : decode cX6_legalMany 2 = .ok (.iconst 0, 1) := by decide +kernel
theorem dX6_legalMany_3 : decode cX6_legalMany 3 = .ok (.istore_n 2, 1) := by decide +kernel
theorem dX6_legalMany_4 : decode cX6_legalMany 4 = .ok (.iload_n 2, 1) := by decide +kernel
theorem dX6_legalMany_5 : decode cX6_legalMany 5 = .ok (.bipush 28, 2) := by decide +kernel
theorem dX6_legalMany_7 : decode cX6_legalMany 7 = .ok (.if_icmp .ge 25, 3) := by decide +kernel
theorem dX6_legalMany_10 : decode cX6_legalMany 10 = .ok (.iload_n 1, 1) := by decide +kernel
theorem dX6_legalMany_11 : decode cX6_legalMany 11 = .ok (.aload_n 0, 1) := by decide +kernel
theorem dX6_legalMany_12 : decode cX6_legalMany 12 = .ok (.iload_n 2, 1) := by decide +kernel
theorem dX6_legalMany_13 : decode cX6_legalMany 13 = .ok (.invokestatic 102, 3) := by decide +kernel
theorem dX6_legalMany_16 : decode cX6_legalMany 16 = .ok (.ifCond .ne 7, 3) := by decide +kernel
theorem dX6_legalMany_19 : decode cX6_legalMany 19 = .ok (.iconst 1, 1) := by decide +kernel
theorem dX6_legalMany_20 : decode cX6_legalMany 20 = .ok (.goto 4, 3) := by decide +kernel
theorem dX6_legalMany_23 : decode cX6_legalMany 23 = .ok (.iconst 0, 1) := by decide +kernel
theorem dX6_legalMany_24 : decode cX6_legalMany 24 = .ok (.iadd, 1) := by decide +kernel
theorem dX6_legalMany_25 : decode cX6_legalMany 25 = .ok (.istore_n 1, 1) := by decide +kernel
theorem dX6_legalMany_26 : decode cX6_legalMany 26 = .ok (.iinc 2 1, 3) := by decide +kernel
theorem dX6_legalMany_29 : decode cX6_legalMany 29 = .ok (.goto (-25), 3) := by decide +kernel
theorem dX6_legalMany_32 : decode cX6_legalMany 32 = .ok (.iload_n 1, 1) := by decide +kernel
theorem dX6_legalMany_33 : decode cX6_legalMany 33 = .ok (.ireturn, 1) := by decide +kernel
theorem dX6_legalAt_0 : decode cX6_legalAt 0 = .ok (.iload_n 1, 1) := by decide +kernel
theorem dX6_legalAt_1 : decode cX6_legalAt 1 = .ok (.istore_n 2, 1) := by decide +kernel
theorem dX6_legalAt_2 : decode cX6_legalAt 2 = .ok (.iconst 0, 1) := by decide +kernel
theorem dX6_legalAt_3 : decode cX6_legalAt 3 = .ok (.istore_n 3, 1) := by decide +kernel
theorem dX6_legalAt_4 : decode cX6_legalAt 4 = .ok (.iload_n 3, 1) := by decide +kernel
theorem dX6_legalAt_5 : decode cX6_legalAt 5 = .ok (.bipush 28, 2) := by decide +kernel
theorem dX6_legalAt_7 : decode cX6_legalAt 7 = .ok (.if_icmp .ge 26, 3) := by decide +kernel
theorem dX6_legalAt_10 : decode cX6_legalAt 10 = .ok (.aload_n 0, 1) := by decide +kernel
theorem dX6_legalAt_11 : decode cX6_legalAt 11 = .ok (.iload_n 3, 1) := by decide +kernel
theorem dX6_legalAt_12 : decode cX6_legalAt 12 = .ok (.invokestatic 102, 3) := by decide +kernel
theorem dX6_legalAt_15 : decode cX6_legalAt 15 = .ok (.ifCond .ne 12, 3) := by decide +kernel
theorem dX6_legalAt_18 : decode cX6_legalAt 18 = .ok (.iload_n 2, 1) := by decide +kernel
theorem dX6_legalAt_19 : decode cX6_legalAt 19 = .ok (.ifCond .ne 5, 3) := by decide +kernel
theorem dX6_legalAt_22 : decode cX6_legalAt 22 = .ok (.iload_n 3, 1) := by decide +kernel
theorem dX6_legalAt_23 : decode cX6_legalAt 23 = .ok (.ireturn, 1) := by decide +kernel
theorem dX6_legalAt_24 : decode cX6_legalAt 24 = .ok (.iinc 2 (-1), 3) := by decide +kernel
theorem dX6_legalAt_27 : decode cX6_legalAt 27 = .ok (.iinc 3 1, 3) := by decide +kernel
theorem dX6_legalAt_30 : decode cX6_legalAt 30 = .ok (.goto (-26), 3) := by decide +kernel
theorem dX6_legalAt_33 : decode cX6_legalAt 33 = .ok (.iconst (-1), 1) := by decide +kernel
theorem dX6_legalAt_34 : decode cX6_legalAt 34 = .ok (.ireturn, 1) := by decide +kernel
theorem dX6_bestOf_0 : decode cX6_bestOf 0 = .ok (.iconst (-1), 1) := by decide +kernel
theorem dX6_bestOf_1 : decode cX6_bestOf 1 = .ok (.istore_n 1, 1) := by decide +kernel
theorem dX6_bestOf_2 : decode cX6_bestOf 2 = .ok (.iconst 0, 1) := by decide +kernel
theorem dX6_bestOf_3 : decode cX6_bestOf 3 = .ok (.istore_n 2, 1) := by decide +kernel
theorem dX6_bestOf_4 : decode cX6_bestOf 4 = .ok (.iload_n 2, 1) := by decide +kernel
theorem dX6_bestOf_5 : decode cX6_bestOf 5 = .ok (.bipush 28, 2) := by decide +kernel
theorem dX6_bestOf_7 : decode cX6_bestOf 7 = .ok (.if_icmp .ge 46, 3) := by decide +kernel
theorem dX6_bestOf_10 : decode cX6_bestOf 10 = .ok (.aload_n 0, 1) := by decide +kernel
theorem dX6_bestOf_11 : decode cX6_bestOf 11 = .ok (.iconst 1, 1) := by decide +kernel
theorem dX6_bestOf_12 : decode cX6_bestOf 12 = .ok (.iaload, 1) := by decide +kernel
theorem dX6_bestOf_13 : decode cX6_bestOf 13 = .ok (.iconst 1, 1) := by decide +kernel
theorem dX6_bestOf_14 : decode cX6_bestOf 14 = .ok (.if_icmp .ne 39, 3) := by decide +kernel
theorem dX6_bestOf_17 : decode cX6_bestOf 17 = .ok (.aload_n 0, 1) := by decide +kernel
theorem dX6_bestOf_18 : decode cX6_bestOf 18 = .ok (.iload_n 2, 1) := by decide +kernel
theorem dX6_bestOf_19 : decode cX6_bestOf 19 = .ok (.invokestatic 102, 3) := by decide +kernel
theorem dX6_bestOf_22 : decode cX6_bestOf 22 = .ok (.ifCond .ne 23, 3) := by decide +kernel
theorem dX6_bestOf_25 : decode cX6_bestOf 25 = .ok (.iload_n 1, 1) := by decide +kernel
theorem dX6_bestOf_26 : decode cX6_bestOf 26 = .ok (.iconst (-1), 1) := by decide +kernel
theorem dX6_bestOf_27 : decode cX6_bestOf 27 = .ok (.if_icmp .eq 14, 3) := by decide +kernel
theorem dX6_bestOf_30 : decode cX6_bestOf 30 = .ok (.iload_n 2, 1) := by decide +kernel
theorem dX6_bestOf_31 : decode cX6_bestOf 31 = .ok (.invokestatic 59, 3) := by decide +kernel
theorem dX6_bestOf_34 : decode cX6_bestOf 34 = .ok (.iload_n 1, 1) := by decide +kernel
theorem dX6_bestOf_35 : decode cX6_bestOf 35 = .ok (.invokestatic 59, 3) := by decide +kernel
theorem dX6_bestOf_38 : decode cX6_bestOf 38 = .ok (.if_icmp .le 7, 3) := by decide +kernel
theorem dX6_bestOf_41 : decode cX6_bestOf 41 = .ok (.iload_n 2, 1) := by decide +kernel
theorem dX6_bestOf_42 : decode cX6_bestOf 42 = .ok (.goto 4, 3) := by decide +kernel
theorem dX6_bestOf_45 : decode cX6_bestOf 45 = .ok (.iload_n 1, 1) := by decide +kernel
theorem dX6_bestOf_46 : decode cX6_bestOf 46 = .ok (.istore_n 1, 1) := by decide +kernel
theorem dX6_bestOf_47 : decode cX6_bestOf 47 = .ok (.iinc 2 1, 3) := by decide +kernel
theorem dX6_bestOf_50 : decode cX6_bestOf 50 = .ok (.goto (-46), 3) := by decide +kernel
theorem dX6_bestOf_53 : decode cX6_bestOf 53 = .ok (.iload_n 1, 1) := by decide +kernel
theorem dX6_bestOf_54 : decode cX6_bestOf 54 = .ok (.ireturn, 1) := by decide +kernel
theorem dX6_dealOn_0 : decode cX6_dealOn 0 = .ok (.iconst 0, 1) := by decide +kernel
theorem dX6_dealOn_1 : decode cX6_dealOn 1 = .ok (.istore 5, 2) := by decide +kernel
theorem dX6_dealOn_3 : decode cX6_dealOn 3 = .ok (.iload 5, 2) := by decide +kernel
theorem dX6_dealOn_5 : decode cX6_dealOn 5 = .ok (.bipush 28, 2) := by decide +kernel
theorem dX6_dealOn_7 : decode cX6_dealOn 7 = .ok (.if_icmp .ge 18, 3) := by decide +kernel
theorem dX6_dealOn_10 : decode cX6_dealOn 10 = .ok (.aload_n 0, 1) := by decide +kernel
theorem dX6_dealOn_11 : decode cX6_dealOn 11 = .ok (.getfield 29, 3) := by decide +kernel
theorem dX6_dealOn_14 : decode cX6_dealOn 14 = .ok (.iload 5, 2) := by decide +kernel
theorem dX6_dealOn_16 : decode cX6_dealOn 16 = .ok (.iload 5, 2) := by decide +kernel
theorem dX6_dealOn_18 : decode cX6_dealOn 18 = .ok (.iastore, 1) := by decide +kernel
theorem dX6_dealOn_19 : decode cX6_dealOn 19 = .ok (.iinc 5 1, 3) := by decide +kernel
theorem dX6_dealOn_22 : decode cX6_dealOn 22 = .ok (.goto (-19), 3) := by decide +kernel
theorem dX6_dealOn_25 : decode cX6_dealOn 25 = .ok (.lload_n 3, 1) := by decide +kernel
theorem dX6_dealOn_26 : decode cX6_dealOn 26 = .ok (.lstore 5, 2) := by decide +kernel
theorem dX6_dealOn_28 : decode cX6_dealOn 28 = .ok (.bipush 27, 2) := by decide +kernel
theorem dX6_dealOn_30 : decode cX6_dealOn 30 = .ok (.istore 7, 2) := by decide +kernel
theorem dX6_dealOn_32 : decode cX6_dealOn 32 = .ok (.iload 7, 2) := by decide +kernel
theorem dX6_dealOn_34 : decode cX6_dealOn 34 = .ok (.ifCond .le 66, 3) := by decide +kernel
theorem dX6_dealOn_37 : decode cX6_dealOn 37 = .ok (.lload 5, 2) := by decide +kernel
theorem dX6_dealOn_39 : decode cX6_dealOn 39 = .ok (.ldc2_w 105, 3) := by decide +kernel
theorem dX6_dealOn_42 : decode cX6_dealOn 42 = .ok (.lmul, 1) := by decide +kernel
theorem dX6_dealOn_43 : decode cX6_dealOn 43 = .ok (.ldc2_w 107, 3) := by decide +kernel
theorem dX6_dealOn_46 : decode cX6_dealOn 46 = .ok (.ladd, 1) := by decide +kernel
theorem dX6_dealOn_47 : decode cX6_dealOn 47 = .ok (.lstore 5, 2) := by decide +kernel
theorem dX6_dealOn_49 : decode cX6_dealOn 49 = .ok (.lload 5, 2) := by decide +kernel
theorem dX6_dealOn_51 : decode cX6_dealOn 51 = .ok (.bipush 33, 2) := by decide +kernel
theorem dX6_dealOn_53 : decode cX6_dealOn 53 = .ok (.lushr, 1) := by decide +kernel
theorem dX6_dealOn_54 : decode cX6_dealOn 54 = .ok (.l2i, 1) := by decide +kernel
theorem dX6_dealOn_55 : decode cX6_dealOn 55 = .ok (.iload 7, 2) := by decide +kernel
theorem dX6_dealOn_57 : decode cX6_dealOn 57 = .ok (.iconst 1, 1) := by decide +kernel
theorem dX6_dealOn_58 : decode cX6_dealOn 58 = .ok (.iadd, 1) := by decide +kernel
theorem dX6_dealOn_59 : decode cX6_dealOn 59 = .ok (.irem, 1) := by decide +kernel
theorem dX6_dealOn_60 : decode cX6_dealOn 60 = .ok (.istore 8, 2) := by decide +kernel
theorem dX6_dealOn_62 : decode cX6_dealOn 62 = .ok (.aload_n 0, 1) := by decide +kernel
theorem dX6_dealOn_63 : decode cX6_dealOn 63 = .ok (.getfield 29, 3) := by decide +kernel
theorem dX6_dealOn_66 : decode cX6_dealOn 66 = .ok (.iload 7, 2) := by decide +kernel
theorem dX6_dealOn_68 : decode cX6_dealOn 68 = .ok (.iaload, 1) := by decide +kernel
theorem dX6_dealOn_69 : decode cX6_dealOn 69 = .ok (.istore 9, 2) := by decide +kernel
theorem dX6_dealOn_71 : decode cX6_dealOn 71 = .ok (.aload_n 0, 1) := by decide +kernel
theorem dX6_dealOn_72 : decode cX6_dealOn 72 = .ok (.getfield 29, 3) := by decide +kernel
theorem dX6_dealOn_75 : decode cX6_dealOn 75 = .ok (.iload 7, 2) := by decide +kernel
theorem dX6_dealOn_77 : decode cX6_dealOn 77 = .ok (.aload_n 0, 1) := by decide +kernel
theorem dX6_dealOn_78 : decode cX6_dealOn 78 = .ok (.getfield 29, 3) := by decide +kernel
theorem dX6_dealOn_81 : decode cX6_dealOn 81 = .ok (.iload 8, 2) := by decide +kernel
theorem dX6_dealOn_83 : decode cX6_dealOn 83 = .ok (.iaload, 1) := by decide +kernel
theorem dX6_dealOn_84 : decode cX6_dealOn 84 = .ok (.iastore, 1) := by decide +kernel
theorem dX6_dealOn_85 : decode cX6_dealOn 85 = .ok (.aload_n 0, 1) := by decide +kernel
theorem dX6_dealOn_86 : decode cX6_dealOn 86 = .ok (.getfield 29, 3) := by decide +kernel
theorem dX6_dealOn_89 : decode cX6_dealOn 89 = .ok (.iload 8, 2) := by decide +kernel
theorem dX6_dealOn_91 : decode cX6_dealOn 91 = .ok (.iload 9, 2) := by decide +kernel
theorem dX6_dealOn_93 : decode cX6_dealOn 93 = .ok (.iastore, 1) := by decide +kernel
theorem dX6_dealOn_94 : decode cX6_dealOn 94 = .ok (.iinc 7 (-1), 3) := by decide +kernel
theorem dX6_dealOn_97 : decode cX6_dealOn 97 = .ok (.goto (-65), 3) := by decide +kernel
theorem dX6_dealOn_100 : decode cX6_dealOn 100 = .ok (.aload_n 1, 1) := by decide +kernel
theorem dX6_dealOn_101 : decode cX6_dealOn 101 = .ok (.iconst 4, 1) := by decide +kernel
theorem dX6_dealOn_102 : decode cX6_dealOn 102 = .ok (.bipush 28, 2) := by decide +kernel
theorem dX6_dealOn_104 : decode cX6_dealOn 104 = .ok (.iconst 5, 1) := by decide +kernel
theorem dX6_dealOn_105 : decode cX6_dealOn 105 = .ok (.iload_n 2, 1) := by decide +kernel
theorem dX6_dealOn_106 : decode cX6_dealOn 106 = .ok (.imul, 1) := by decide +kernel
theorem dX6_dealOn_107 : decode cX6_dealOn 107 = .ok (.isub, 1) := by decide +kernel
theorem dX6_dealOn_108 : decode cX6_dealOn 108 = .ok (.iastore, 1) := by decide +kernel
theorem dX6_dealOn_109 : decode cX6_dealOn 109 = .ok (.iconst 0, 1) := by decide +kernel
theorem dX6_dealOn_110 : decode cX6_dealOn 110 = .ok (.istore 7, 2) := by decide +kernel
theorem dX6_dealOn_112 : decode cX6_dealOn 112 = .ok (.iload 7, 2) := by decide +kernel
theorem dX6_dealOn_114 : decode cX6_dealOn 114 = .ok (.bipush 28, 2) := by decide +kernel
theorem dX6_dealOn_116 : decode cX6_dealOn 116 = .ok (.if_icmp .ge 47, 3) := by decide +kernel
theorem dX6_dealOn_119 : decode cX6_dealOn 119 = .ok (.iload 7, 2) := by decide +kernel
theorem dX6_dealOn_121 : decode cX6_dealOn 121 = .ok (.iconst 5, 1) := by decide +kernel
theorem dX6_dealOn_122 : decode cX6_dealOn 122 = .ok (.idiv, 1) := by decide +kernel
theorem dX6_dealOn_123 : decode cX6_dealOn 123 = .ok (.istore 8, 2) := by decide +kernel
theorem dX6_dealOn_125 : decode cX6_dealOn 125 = .ok (.aload_n 1, 1) := by decide +kernel
theorem dX6_dealOn_126 : decode cX6_dealOn 126 = .ok (.bipush 21, 2) := by decide +kernel
theorem dX6_dealOn_128 : decode cX6_dealOn 128 = .ok (.aload_n 0, 1) := by decide +kernel
theorem dX6_dealOn_129 : decode cX6_dealOn 129 = .ok (.getfield 29, 3) := by decide +kernel
theorem dX6_dealOn_132 : decode cX6_dealOn 132 = .ok (.iload 7, 2) := by decide +kernel
theorem dX6_dealOn_134 : decode cX6_dealOn 134 = .ok (.iaload, 1) := by decide +kernel
theorem dX6_dealOn_135 : decode cX6_dealOn 135 = .ok (.iadd, 1) := by decide +kernel
theorem dX6_dealOn_136 : decode cX6_dealOn 136 = .ok (.iload 8, 2) := by decide +kernel
theorem dX6_dealOn_138 : decode cX6_dealOn 138 = .ok (.iload_n 2, 1) := by decide +kernel
theorem dX6_dealOn_139 : decode cX6_dealOn 139 = .ok (.if_icmp .ge 8, 3) := by decide +kernel
theorem dX6_dealOn_142 : decode cX6_dealOn 142 = .ok (.iload 8, 2) := by decide +kernel
theorem dX6_dealOn_144 : decode cX6_dealOn 144 = .ok (.goto 4, 3) := by decide +kernel
theorem dX6_dealOn_147 : decode cX6_dealOn 147 = .ok (.iconst (-1), 1) := by decide +kernel
theorem dX6_dealOn_148 : decode cX6_dealOn 148 = .ok (.iastore, 1) := by decide +kernel
theorem dX6_dealOn_149 : decode cX6_dealOn 149 = .ok (.aload_n 1, 1) := by decide +kernel
theorem dX6_dealOn_150 : decode cX6_dealOn 150 = .ok (.bipush 49, 2) := by decide +kernel
theorem dX6_dealOn_152 : decode cX6_dealOn 152 = .ok (.iload 7, 2) := by decide +kernel
theorem dX6_dealOn_154 : decode cX6_dealOn 154 = .ok (.iadd, 1) := by decide +kernel
theorem dX6_dealOn_155 : decode cX6_dealOn 155 = .ok (.iconst 0, 1) := by decide +kernel
theorem dX6_dealOn_156 : decode cX6_dealOn 156 = .ok (.iastore, 1) := by decide +kernel
theorem dX6_dealOn_157 : decode cX6_dealOn 157 = .ok (.iinc 7 1, 3) := by decide +kernel
theorem dX6_dealOn_160 : decode cX6_dealOn 160 = .ok (.goto (-48), 3) := by decide +kernel
theorem dX6_dealOn_163 : decode cX6_dealOn 163 = .ok (.iconst 0, 1) := by decide +kernel
theorem dX6_dealOn_164 : decode cX6_dealOn 164 = .ok (.istore 7, 2) := by decide +kernel
theorem dX6_dealOn_166 : decode cX6_dealOn 166 = .ok (.iload 7, 2) := by decide +kernel
theorem dX6_dealOn_168 : decode cX6_dealOn 168 = .ok (.aload_n 1, 1) := by decide +kernel
theorem dX6_dealOn_169 : decode cX6_dealOn 169 = .ok (.iconst 4, 1) := by decide +kernel
theorem dX6_dealOn_170 : decode cX6_dealOn 170 = .ok (.iaload, 1) := by decide +kernel
theorem dX6_dealOn_171 : decode cX6_dealOn 171 = .ok (.if_icmp .ge 27, 3) := by decide +kernel
theorem dX6_dealOn_174 : decode cX6_dealOn 174 = .ok (.aload_n 1, 1) := by decide +kernel
theorem dX6_dealOn_175 : decode cX6_dealOn 175 = .ok (.bipush 49, 2) := by decide +kernel
theorem dX6_dealOn_177 : decode cX6_dealOn 177 = .ok (.iload 7, 2) := by decide +kernel
theorem dX6_dealOn_179 : decode cX6_dealOn 179 = .ok (.iadd, 1) := by decide +kernel
theorem dX6_dealOn_180 : decode cX6_dealOn 180 = .ok (.aload_n 0, 1) := by decide +kernel
theorem dX6_dealOn_181 : decode cX6_dealOn 181 = .ok (.getfield 29, 3) := by decide +kernel
theorem dX6_dealOn_184 : decode cX6_dealOn 184 = .ok (.iconst 5, 1) := by decide +kernel
theorem dX6_dealOn_185 : decode cX6_dealOn 185 = .ok (.iload_n 2, 1) := by decide +kernel
theorem dX6_dealOn_186 : decode cX6_dealOn 186 = .ok (.imul, 1) := by decide +kernel
theorem dX6_dealOn_187 : decode cX6_dealOn 187 = .ok (.iload 7, 2) := by decide +kernel
theorem dX6_dealOn_189 : decode cX6_dealOn 189 = .ok (.iadd, 1) := by decide +kernel
theorem dX6_dealOn_190 : decode cX6_dealOn 190 = .ok (.iaload, 1) := by decide +kernel
theorem dX6_dealOn_191 : decode cX6_dealOn 191 = .ok (.iastore, 1) := by decide +kernel
theorem dX6_dealOn_192 : decode cX6_dealOn 192 = .ok (.iinc 7 1, 3) := by decide +kernel
theorem dX6_dealOn_195 : decode cX6_dealOn 195 = .ok (.goto (-29), 3) := by decide +kernel
theorem dX6_dealOn_198 : decode cX6_dealOn 198 = .ok (.aload_n 1, 1) := by decide +kernel
theorem dX6_dealOn_199 : decode cX6_dealOn 199 = .ok (.iconst 1, 1) := by decide +kernel
theorem dX6_dealOn_200 : decode cX6_dealOn 200 = .ok (.iconst 1, 1) := by decide +kernel
theorem dX6_dealOn_201 : decode cX6_dealOn 201 = .ok (.iastore, 1) := by decide +kernel
theorem dX6_dealOn_202 : decode cX6_dealOn 202 = .ok (.aload_n 1, 1) := by decide +kernel
theorem dX6_dealOn_203 : decode cX6_dealOn 203 = .ok (.iconst 2, 1) := by decide +kernel
theorem dX6_dealOn_204 : decode cX6_dealOn 204 = .ok (.iload_n 2, 1) := by decide +kernel
theorem dX6_dealOn_205 : decode cX6_dealOn 205 = .ok (.iastore, 1) := by decide +kernel
theorem dX6_dealOn_206 : decode cX6_dealOn 206 = .ok (.aload_n 1, 1) := by decide +kernel
theorem dX6_dealOn_207 : decode cX6_dealOn 207 = .ok (.iconst 3, 1) := by decide +kernel
theorem dX6_dealOn_208 : decode cX6_dealOn 208 = .ok (.aload_n 1, 1) := by decide +kernel
theorem dX6_dealOn_209 : decode cX6_dealOn 209 = .ok (.iconst 0, 1) := by decide +kernel
theorem dX6_dealOn_210 : decode cX6_dealOn 210 = .ok (.iaload, 1) := by decide +kernel
theorem dX6_dealOn_211 : decode cX6_dealOn 211 = .ok (.iload_n 2, 1) := by decide +kernel
theorem dX6_dealOn_212 : decode cX6_dealOn 212 = .ok (.irem, 1) := by decide +kernel
theorem dX6_dealOn_213 : decode cX6_dealOn 213 = .ok (.iastore, 1) := by decide +kernel
theorem dX6_dealOn_214 : decode cX6_dealOn 214 = .ok (.aload_n 1, 1) := by decide +kernel
theorem dX6_dealOn_215 : decode cX6_dealOn 215 = .ok (.iconst 0, 1) := by decide +kernel
theorem dX6_dealOn_216 : decode cX6_dealOn 216 = .ok (.dup2, 1) := by decide +kernel
theorem dX6_dealOn_217 : decode cX6_dealOn 217 = .ok (.iaload, 1) := by decide +kernel
theorem dX6_dealOn_218 : decode cX6_dealOn 218 = .ok (.iconst 1, 1) := by decide +kernel
theorem dX6_dealOn_219 : decode cX6_dealOn 219 = .ok (.iadd, 1) := by decide +kernel
theorem dX6_dealOn_220 : decode cX6_dealOn 220 = .ok (.iastore, 1) := by decide +kernel
theorem dX6_dealOn_221 : decode cX6_dealOn 221 = .ok (.aload_n 1, 1) := by decide +kernel
theorem dX6_dealOn_222 : decode cX6_dealOn 222 = .ok (.iconst 5, 1) := by decide +kernel
theorem dX6_dealOn_223 : decode cX6_dealOn 223 = .ok (.iconst 0, 1) := by decide +kernel
theorem dX6_dealOn_224 : decode cX6_dealOn 224 = .ok (.iastore, 1) := by decide +kernel
theorem dX6_dealOn_225 : decode cX6_dealOn 225 = .ok (.aload_n 1, 1) := by decide +kernel
theorem dX6_dealOn_226 : decode cX6_dealOn 226 = .ok (.bipush 6, 2) := by decide +kernel
theorem dX6_dealOn_228 : decode cX6_dealOn 228 = .ok (.iconst (-1), 1) := by decide +kernel
theorem dX6_dealOn_229 : decode cX6_dealOn 229 = .ok (.iastore, 1) := by decide +kernel
theorem dX6_dealOn_230 : decode cX6_dealOn 230 = .ok (.aload_n 1, 1) := by decide +kernel
theorem dX6_dealOn_231 : decode cX6_dealOn 231 = .ok (.bipush 7, 2) := by decide +kernel
theorem dX6_dealOn_233 : decode cX6_dealOn 233 = .ok (.iconst 0, 1) := by decide +kernel
theorem dX6_dealOn_234 : decode cX6_dealOn 234 = .ok (.iastore, 1) := by decide +kernel
theorem dX6_dealOn_235 : decode cX6_dealOn 235 = .ok (.aload_n 1, 1) := by decide +kernel
theorem dX6_dealOn_236 : decode cX6_dealOn 236 = .ok (.bipush 8, 2) := by decide +kernel
theorem dX6_dealOn_238 : decode cX6_dealOn 238 = .ok (.iconst 0, 1) := by decide +kernel
theorem dX6_dealOn_239 : decode cX6_dealOn 239 = .ok (.iastore, 1) := by decide +kernel
theorem dX6_dealOn_240 : decode cX6_dealOn 240 = .ok (.aload_n 1, 1) := by decide +kernel
theorem dX6_dealOn_241 : decode cX6_dealOn 241 = .ok (.bipush 11, 2) := by decide +kernel
theorem dX6_dealOn_243 : decode cX6_dealOn 243 = .ok (.iconst 0, 1) := by decide +kernel
theorem dX6_dealOn_244 : decode cX6_dealOn 244 = .ok (.iastore, 1) := by decide +kernel
theorem dX6_dealOn_245 : decode cX6_dealOn 245 = .ok (.aload_n 1, 1) := by decide +kernel
theorem dX6_dealOn_246 : decode cX6_dealOn 246 = .ok (.bipush 12, 2) := by decide +kernel
theorem dX6_dealOn_248 : decode cX6_dealOn 248 = .ok (.iconst 0, 1) := by decide +kernel
theorem dX6_dealOn_249 : decode cX6_dealOn 249 = .ok (.iastore, 1) := by decide +kernel
theorem dX6_dealOn_250 : decode cX6_dealOn 250 = .ok (.aload_n 1, 1) := by decide +kernel
theorem dX6_dealOn_251 : decode cX6_dealOn 251 = .ok (.iconst 0, 1) := by decide +kernel
theorem dX6_dealOn_252 : decode cX6_dealOn 252 = .ok (.iaload, 1) := by decide +kernel
theorem dX6_dealOn_253 : decode cX6_dealOn 253 = .ok (.ireturn, 1) := by decide +kernel
theorem dX6_allPips_0 : decode cX6_allPips 0 = .ok (.iconst 0, 1) := by decide +kernel
theorem dX6_allPips_1 : decode cX6_allPips 1 = .ok (.istore_n 1, 1) := by decide +kernel
theorem dX6_allPips_2 : decode cX6_allPips 2 = .ok (.iconst 0, 1) := by decide +kernel
theorem dX6_allPips_3 : decode cX6_allPips 3 = .ok (.istore_n 2, 1) := by decide +kernel
theorem dX6_allPips_4 : decode cX6_allPips 4 = .ok (.iload_n 2, 1) := by decide +kernel
theorem dX6_allPips_5 : decode cX6_allPips 5 = .ok (.aload_n 0, 1) := by decide +kernel
theorem dX6_allPips_6 : decode cX6_allPips 6 = .ok (.iconst 2, 1) := by decide +kernel
theorem dX6_allPips_7 : decode cX6_allPips 7 = .ok (.iaload, 1) := by decide +kernel
theorem dX6_allPips_8 : decode cX6_allPips 8 = .ok (.if_icmp .ge 17, 3) := by decide +kernel
theorem dX6_allPips_11 : decode cX6_allPips 11 = .ok (.iload_n 1, 1) := by decide +kernel
theorem dX6_allPips_12 : decode cX6_allPips 12 = .ok (.aload_n 0, 1) := by decide +kernel
theorem dX6_allPips_13 : decode cX6_allPips 13 = .ok (.iload_n 2, 1) := by decide +kernel
theorem dX6_allPips_14 : decode cX6_allPips 14 = .ok (.invokestatic 109, 3) := by decide +kernel
theorem dX6_allPips_17 : decode cX6_allPips 17 = .ok (.iadd, 1) := by decide +kernel
theorem dX6_allPips_18 : decode cX6_allPips 18 = .ok (.istore_n 1, 1) := by decide +kernel
theorem dX6_allPips_19 : decode cX6_allPips 19 = .ok (.iinc 2 1, 3) := by decide +kernel
theorem dX6_allPips_22 : decode cX6_allPips 22 = .ok (.goto (-18), 3) := by decide +kernel
theorem dX6_allPips_25 : decode cX6_allPips 25 = .ok (.iload_n 1, 1) := by decide +kernel
theorem dX6_allPips_26 : decode cX6_allPips 26 = .ok (.ireturn, 1) := by decide +kernel
theorem dX6_wins_0 : decode cX6_wins 0 = .ok (.aload_n 0, 1) := by decide +kernel
theorem dX6_wins_1 : decode cX6_wins 1 = .ok (.bipush 13, 2) := by decide +kernel
theorem dX6_wins_3 : decode cX6_wins 3 = .ok (.iload_n 1, 1) := by decide +kernel
theorem dX6_wins_4 : decode cX6_wins 4 = .ok (.iadd, 1) := by decide +kernel
theorem dX6_wins_5 : decode cX6_wins 5 = .ok (.dup2, 1) := by decide +kernel
theorem dX6_wins_6 : decode cX6_wins 6 = .ok (.iaload, 1) := by decide +kernel
theorem dX6_wins_7 : decode cX6_wins 7 = .ok (.aload_n 0, 1) := by decide +kernel
theorem dX6_wins_8 : decode cX6_wins 8 = .ok (.invokestatic 112, 3) := by decide +kernel
theorem dX6_wins_11 : decode cX6_wins 11 = .ok (.iconst 2, 1) := by decide +kernel
theorem dX6_wins_12 : decode cX6_wins 12 = .ok (.aload_n 0, 1) := by decide +kernel
theorem dX6_wins_13 : decode cX6_wins 13 = .ok (.iload_n 1, 1) := by decide +kernel
theorem dX6_wins_14 : decode cX6_wins 14 = .ok (.invokestatic 109, 3) := by decide +kernel
theorem dX6_wins_17 : decode cX6_wins 17 = .ok (.imul, 1) := by decide +kernel
theorem dX6_wins_18 : decode cX6_wins 18 = .ok (.isub, 1) := by decide +kernel
theorem dX6_wins_19 : decode cX6_wins 19 = .ok (.iadd, 1) := by decide +kernel
theorem dX6_wins_20 : decode cX6_wins 20 = .ok (.iastore, 1) := by decide +kernel
theorem dX6_wins_21 : decode cX6_wins 21 = .ok (.aload_n 0, 1) := by decide +kernel
theorem dX6_wins_22 : decode cX6_wins 22 = .ok (.bipush 17, 2) := by decide +kernel
theorem dX6_wins_24 : decode cX6_wins 24 = .ok (.iload_n 1, 1) := by decide +kernel
theorem dX6_wins_25 : decode cX6_wins 25 = .ok (.iadd, 1) := by decide +kernel
theorem dX6_wins_26 : decode cX6_wins 26 = .ok (.dup2, 1) := by decide +kernel
theorem dX6_wins_27 : decode cX6_wins 27 = .ok (.iaload, 1) := by decide +kernel
theorem dX6_wins_28 : decode cX6_wins 28 = .ok (.iconst 1, 1) := by decide +kernel
theorem dX6_wins_29 : decode cX6_wins 29 = .ok (.iadd, 1) := by decide +kernel
theorem dX6_wins_30 : decode cX6_wins 30 = .ok (.iastore, 1) := by decide +kernel
theorem dX6_wins_31 : decode cX6_wins 31 = .ok (.aload_n 0, 1) := by decide +kernel
theorem dX6_wins_32 : decode cX6_wins 32 = .ok (.iconst 1, 1) := by decide +kernel
theorem dX6_wins_33 : decode cX6_wins 33 = .ok (.iconst 2, 1) := by decide +kernel
theorem dX6_wins_34 : decode cX6_wins 34 = .ok (.iastore, 1) := by decide +kernel
theorem dX6_wins_35 : decode cX6_wins 35 = .ok (.return_, 1) := by decide +kernel
theorem dX6_nextTurn_0 : decode cX6_nextTurn 0 = .ok (.aload_n 0, 1) := by decide +kernel
theorem dX6_nextTurn_1 : decode cX6_nextTurn 1 = .ok (.iconst 3, 1) := by decide +kernel
theorem dX6_nextTurn_2 : decode cX6_nextTurn 2 = .ok (.aload_n 0, 1) := by decide +kernel
theorem dX6_nextTurn_3 : decode cX6_nextTurn 3 = .ok (.iconst 3, 1) := by decide +kernel
theorem dX6_nextTurn_4 : decode cX6_nextTurn 4 = .ok (.iaload, 1) := by decide +kernel
theorem dX6_nextTurn_5 : decode cX6_nextTurn 5 = .ok (.iconst 1, 1) := by decide +kernel
theorem dX6_nextTurn_6 : decode cX6_nextTurn 6 = .ok (.iadd, 1) := by decide +kernel
theorem dX6_nextTurn_7 : decode cX6_nextTurn 7 = .ok (.aload_n 0, 1) := by decide +kernel
theorem dX6_nextTurn_8 : decode cX6_nextTurn 8 = .ok (.iconst 2, 1) := by decide +kernel
theorem dX6_nextTurn_9 : decode cX6_nextTurn 9 = .ok (.iaload, 1) := by decide +kernel
theorem dX6_nextTurn_10 : decode cX6_nextTurn 10 = .ok (.irem, 1) := by decide +kernel
theorem dX6_nextTurn_11 : decode cX6_nextTurn 11 = .ok (.iastore, 1) := by decide +kernel
theorem dX6_nextTurn_12 : decode cX6_nextTurn 12 = .ok (.return_, 1) := by decide +kernel
theorem dX6_put_0 : decode cX6_put 0 = .ok (.aload_n 0, 1) := by decide +kernel
theorem dX6_put_1 : decode cX6_put 1 = .ok (.iconst 3, 1) := by decide +kernel
theorem dX6_put_2 : decode cX6_put 2 = .ok (.iaload, 1) := by decide +kernel
theorem dX6_put_3 : decode cX6_put 3 = .ok (.istore_n 3, 1) := by decide +kernel
theorem dX6_put_4 : decode cX6_put 4 = .ok (.bipush 77, 2) := by decide +kernel
theorem dX6_put_6 : decode cX6_put 6 = .ok (.iconst 5, 1) := by decide +kernel
theorem dX6_put_7 : decode cX6_put 7 = .ok (.aload_n 0, 1) := by decide +kernel
theorem dX6_put_8 : decode cX6_put 8 = .ok (.iconst 5, 1) := by decide +kernel
theorem dX6_put_9 : decode cX6_put 9 = .ok (.iaload, 1) := by decide +kernel
theorem dX6_put_10 : decode cX6_put 10 = .ok (.imul, 1) := by decide +kernel
theorem dX6_put_11 : decode cX6_put 11 = .ok (.iadd, 1) := by decide +kernel
theorem dX6_put_12 : decode cX6_put 12 = .ok (.istore 4, 2) := by decide +kernel
theorem dX6_put_14 : decode cX6_put 14 = .ok (.aload_n 0, 1) := by decide +kernel
theorem dX6_put_15 : decode cX6_put 15 = .ok (.invokestatic 91, 3) := by decide +kernel
theorem dX6_put_18 : decode cX6_put 18 = .ok (.istore 5, 2) := by decide +kernel
theorem dX6_put_20 : decode cX6_put 20 = .ok (.aload_n 0, 1) := by decide +kernel
theorem dX6_put_21 : decode cX6_put 21 = .ok (.invokestatic 95, 3) := by decide +kernel
theorem dX6_put_24 : decode cX6_put 24 = .ok (.istore 6, 2) := by decide +kernel
theorem dX6_put_26 : decode cX6_put 26 = .ok (.aload_n 0, 1) := by decide +kernel
theorem dX6_put_27 : decode cX6_put 27 = .ok (.iload 4, 2) := by decide +kernel
theorem dX6_put_29 : decode cX6_put 29 = .ok (.iload_n 1, 1) := by decide +kernel
theorem dX6_put_30 : decode cX6_put 30 = .ok (.iastore, 1) := by decide +kernel
theorem dX6_put_31 : decode cX6_put 31 = .ok (.aload_n 0, 1) := by decide +kernel
theorem dX6_put_32 : decode cX6_put 32 = .ok (.iload 4, 2) := by decide +kernel
theorem dX6_put_34 : decode cX6_put 34 = .ok (.iconst 1, 1) := by decide +kernel
theorem dX6_put_35 : decode cX6_put 35 = .ok (.iadd, 1) := by decide +kernel
theorem dX6_put_36 : decode cX6_put 36 = .ok (.iload 5, 2) := by decide +kernel
theorem dX6_put_38 : decode cX6_put 38 = .ok (.iastore, 1) := by decide +kernel
theorem dX6_put_39 : decode cX6_put 39 = .ok (.aload_n 0, 1) := by decide +kernel
theorem dX6_put_40 : decode cX6_put 40 = .ok (.iload 4, 2) := by decide +kernel
theorem dX6_put_42 : decode cX6_put 42 = .ok (.iconst 2, 1) := by decide +kernel
theorem dX6_put_43 : decode cX6_put 43 = .ok (.iadd, 1) := by decide +kernel
theorem dX6_put_44 : decode cX6_put 44 = .ok (.iload 6, 2) := by decide +kernel
theorem dX6_put_46 : decode cX6_put 46 = .ok (.iastore, 1) := by decide +kernel
theorem dX6_put_47 : decode cX6_put 47 = .ok (.aload_n 0, 1) := by decide +kernel
theorem dX6_put_48 : decode cX6_put 48 = .ok (.iload 4, 2) := by decide +kernel
theorem dX6_put_50 : decode cX6_put 50 = .ok (.iconst 3, 1) := by decide +kernel
theorem dX6_put_51 : decode cX6_put 51 = .ok (.iadd, 1) := by decide +kernel
theorem dX6_put_52 : decode cX6_put 52 = .ok (.aload_n 0, 1) := by decide +kernel
theorem dX6_put_53 : decode cX6_put 53 = .ok (.bipush 7, 2) := by decide +kernel
theorem dX6_put_55 : decode cX6_put 55 = .ok (.iaload, 1) := by decide +kernel
theorem dX6_put_56 : decode cX6_put 56 = .ok (.iastore, 1) := by decide +kernel
theorem dX6_put_57 : decode cX6_put 57 = .ok (.aload_n 0, 1) := by decide +kernel
theorem dX6_put_58 : decode cX6_put 58 = .ok (.iload 4, 2) := by decide +kernel
theorem dX6_put_60 : decode cX6_put 60 = .ok (.iconst 4, 1) := by decide +kernel
theorem dX6_put_61 : decode cX6_put 61 = .ok (.iadd, 1) := by decide +kernel
theorem dX6_put_62 : decode cX6_put 62 = .ok (.aload_n 0, 1) := by decide +kernel
theorem dX6_put_63 : decode cX6_put 63 = .ok (.bipush 6, 2) := by decide +kernel
theorem dX6_put_65 : decode cX6_put 65 = .ok (.iaload, 1) := by decide +kernel
theorem dX6_put_66 : decode cX6_put 66 = .ok (.iconst (-1), 1) := by decide +kernel
theorem dX6_put_67 : decode cX6_put 67 = .ok (.if_icmp .ne 10, 3) := by decide +kernel
theorem dX6_put_70 : decode cX6_put 70 = .ok (.iload_n 1, 1) := by decide +kernel
theorem dX6_put_71 : decode cX6_put 71 = .ok (.invokestatic 46, 3) := by decide +kernel
theorem dX6_put_74 : decode cX6_put 74 = .ok (.goto 7, 3) := by decide +kernel
theorem dX6_put_77 : decode cX6_put 77 = .ok (.aload_n 0, 1) := by decide +kernel
theorem dX6_put_78 : decode cX6_put 78 = .ok (.bipush 6, 2) := by decide +kernel
theorem dX6_put_80 : decode cX6_put 80 = .ok (.iaload, 1) := by decide +kernel
theorem dX6_put_81 : decode cX6_put 81 = .ok (.iastore, 1) := by decide +kernel
theorem dX6_put_82 : decode cX6_put 82 = .ok (.aload_n 0, 1) := by decide +kernel
theorem dX6_put_83 : decode cX6_put 83 = .ok (.iconst 5, 1) := by decide +kernel
theorem dX6_put_84 : decode cX6_put 84 = .ok (.dup2, 1) := by decide +kernel
theorem dX6_put_85 : decode cX6_put 85 = .ok (.iaload, 1) := by decide +kernel
theorem dX6_put_86 : decode cX6_put 86 = .ok (.iconst 1, 1) := by decide +kernel
theorem dX6_put_87 : decode cX6_put 87 = .ok (.iadd, 1) := by decide +kernel
theorem dX6_put_88 : decode cX6_put 88 = .ok (.iastore, 1) := by decide +kernel
theorem dX6_put_89 : decode cX6_put 89 = .ok (.aload_n 0, 1) := by decide +kernel
theorem dX6_put_90 : decode cX6_put 90 = .ok (.bipush 10, 2) := by decide +kernel
theorem dX6_put_92 : decode cX6_put 92 = .ok (.dup2, 1) := by decide +kernel
theorem dX6_put_93 : decode cX6_put 93 = .ok (.iaload, 1) := by decide +kernel
theorem dX6_put_94 : decode cX6_put 94 = .ok (.iconst 1, 1) := by decide +kernel
theorem dX6_put_95 : decode cX6_put 95 = .ok (.iadd, 1) := by decide +kernel
theorem dX6_put_96 : decode cX6_put 96 = .ok (.iastore, 1) := by decide +kernel
theorem dX6_put_97 : decode cX6_put 97 = .ok (.aload_n 0, 1) := by decide +kernel
theorem dX6_put_98 : decode cX6_put 98 = .ok (.bipush 6, 2) := by decide +kernel
theorem dX6_put_100 : decode cX6_put 100 = .ok (.iload_n 1, 1) := by decide +kernel
theorem dX6_put_101 : decode cX6_put 101 = .ok (.aload_n 0, 1) := by decide +kernel
theorem dX6_put_102 : decode cX6_put 102 = .ok (.bipush 6, 2) := by decide +kernel
theorem dX6_put_104 : decode cX6_put 104 = .ok (.iaload, 1) := by decide +kernel
theorem dX6_put_105 : decode cX6_put 105 = .ok (.invokestatic 115, 3) := by decide +kernel
theorem dX6_put_108 : decode cX6_put 108 = .ok (.iastore, 1) := by decide +kernel
theorem dX6_put_109 : decode cX6_put 109 = .ok (.aload_n 0, 1) := by decide +kernel
theorem dX6_put_110 : decode cX6_put 110 = .ok (.bipush 21, 2) := by decide +kernel
theorem dX6_put_112 : decode cX6_put 112 = .ok (.iload_n 1, 1) := by decide +kernel
theorem dX6_put_113 : decode cX6_put 113 = .ok (.iadd, 1) := by decide +kernel
theorem dX6_put_114 : decode cX6_put 114 = .ok (.iconst (-1), 1) := by decide +kernel
theorem dX6_put_115 : decode cX6_put 115 = .ok (.iastore, 1) := by decide +kernel
theorem dX6_put_116 : decode cX6_put 116 = .ok (.aload_n 0, 1) := by decide +kernel
theorem dX6_put_117 : decode cX6_put 117 = .ok (.bipush 8, 2) := by decide +kernel
theorem dX6_put_119 : decode cX6_put 119 = .ok (.iconst 0, 1) := by decide +kernel
theorem dX6_put_120 : decode cX6_put 120 = .ok (.iastore, 1) := by decide +kernel
theorem dX6_put_121 : decode cX6_put 121 = .ok (.iload_n 1, 1) := by decide +kernel
theorem dX6_put_122 : decode cX6_put 122 = .ok (.invokestatic 46, 3) := by decide +kernel
theorem dX6_put_125 : decode cX6_put 125 = .ok (.iload_n 1, 1) := by decide +kernel
theorem dX6_put_126 : decode cX6_put 126 = .ok (.invokestatic 50, 3) := by decide +kernel
theorem dX6_put_129 : decode cX6_put 129 = .ok (.if_icmp .ne 40, 3) := by decide +kernel
theorem dX6_put_132 : decode cX6_put 132 = .ok (.aload_n 0, 1) := by decide +kernel
theorem dX6_put_133 : decode cX6_put 133 = .ok (.bipush 7, 2) := by decide +kernel
theorem dX6_put_135 : decode cX6_put 135 = .ok (.aload_n 0, 1) := by decide +kernel
theorem dX6_put_136 : decode cX6_put 136 = .ok (.bipush 7, 2) := by decide +kernel
theorem dX6_put_138 : decode cX6_put 138 = .ok (.iaload, 1) := by decide +kernel
theorem dX6_put_139 : decode cX6_put 139 = .ok (.iload_n 2, 1) := by decide +kernel
theorem dX6_put_140 : decode cX6_put 140 = .ok (.ifCond .eq 7, 3) := by decide +kernel
theorem dX6_put_143 : decode cX6_put 143 = .ok (.iconst 3, 1) := by decide +kernel
theorem dX6_put_144 : decode cX6_put 144 = .ok (.goto 4, 3) := by decide +kernel
theorem dX6_put_147 : decode cX6_put 147 = .ok (.iconst 1, 1) := by decide +kernel
theorem dX6_put_148 : decode cX6_put 148 = .ok (.iadd, 1) := by decide +kernel
theorem dX6_put_149 : decode cX6_put 149 = .ok (.iconst 4, 1) := by decide +kernel
theorem dX6_put_150 : decode cX6_put 150 = .ok (.irem, 1) := by decide +kernel
theorem dX6_put_151 : decode cX6_put 151 = .ok (.iastore, 1) := by decide +kernel
theorem dX6_put_152 : decode cX6_put 152 = .ok (.aload_n 0, 1) := by decide +kernel
theorem dX6_put_153 : decode cX6_put 153 = .ok (.iload_n 2, 1) := by decide +kernel
theorem dX6_put_154 : decode cX6_put 154 = .ok (.ifCond .eq 8, 3) := by decide +kernel
theorem dX6_put_157 : decode cX6_put 157 = .ok (.bipush 12, 2) := by decide +kernel
theorem dX6_put_159 : decode cX6_put 159 = .ok (.goto 5, 3) := by decide +kernel
theorem dX6_put_162 : decode cX6_put 162 = .ok (.bipush 11, 2) := by decide +kernel
theorem dX6_put_164 : decode cX6_put 164 = .ok (.dup2, 1) := by decide +kernel
theorem dX6_put_165 : decode cX6_put 165 = .ok (.iaload, 1) := by decide +kernel
theorem dX6_put_166 : decode cX6_put 166 = .ok (.iconst 1, 1) := by decide +kernel
theorem dX6_put_167 : decode cX6_put 167 = .ok (.iadd, 1) := by decide +kernel
theorem dX6_put_168 : decode cX6_put 168 = .ok (.iastore, 1) := by decide +kernel
theorem dX6_put_169 : decode cX6_put 169 = .ok (.aload_n 0, 1) := by decide +kernel
theorem dX6_put_170 : decode cX6_put 170 = .ok (.iload_n 3, 1) := by decide +kernel
theorem dX6_put_171 : decode cX6_put 171 = .ok (.invokestatic 119, 3) := by decide +kernel
theorem dX6_put_174 : decode cX6_put 174 = .ok (.ifCond .ne 11, 3) := by decide +kernel
theorem dX6_put_177 : decode cX6_put 177 = .ok (.aload_n 0, 1) := by decide +kernel
theorem dX6_put_178 : decode cX6_put 178 = .ok (.iload_n 3, 1) := by decide +kernel
theorem dX6_put_179 : decode cX6_put 179 = .ok (.invokestatic 122, 3) := by decide +kernel
theorem dX6_put_182 : decode cX6_put 182 = .ok (.goto 7, 3) := by decide +kernel
theorem dX6_put_185 : decode cX6_put 185 = .ok (.aload_n 0, 1) := by decide +kernel
theorem dX6_put_186 : decode cX6_put 186 = .ok (.invokestatic 126, 3) := by decide +kernel
theorem dX6_put_189 : decode cX6_put 189 = .ok (.return_, 1) := by decide +kernel
theorem dX6_playOn_0 : decode cX6_playOn 0 = .ok (.aload_n 0, 1) := by decide +kernel
theorem dX6_playOn_1 : decode cX6_playOn 1 = .ok (.iload_n 1, 1) := by decide +kernel
theorem dX6_playOn_2 : decode cX6_playOn 2 = .ok (.invokestatic 102, 3) := by decide +kernel
theorem dX6_playOn_5 : decode cX6_playOn 5 = .ok (.istore_n 3, 1) := by decide +kernel
theorem dX6_playOn_6 : decode cX6_playOn 6 = .ok (.iload_n 3, 1) := by decide +kernel
theorem dX6_playOn_7 : decode cX6_playOn 7 = .ok (.ifCond .ne 12, 3) := by decide +kernel
theorem dX6_playOn_10 : decode cX6_playOn 10 = .ok (.aload_n 0, 1) := by decide +kernel
theorem dX6_playOn_11 : decode cX6_playOn 11 = .ok (.iload_n 1, 1) := by decide +kernel
theorem dX6_playOn_12 : decode cX6_playOn 12 = .ok (.iload_n 2, 1) := by decide +kernel
theorem dX6_playOn_13 : decode cX6_playOn 13 = .ok (.invokestatic 129, 3) := by decide +kernel
theorem dX6_playOn_16 : decode cX6_playOn 16 = .ok (.goto 11, 3) := by decide +kernel
theorem dX6_playOn_19 : decode cX6_playOn 19 = .ok (.aload_n 0, 1) := by decide +kernel
theorem dX6_playOn_20 : decode cX6_playOn 20 = .ok (.bipush 9, 2) := by decide +kernel
theorem dX6_playOn_22 : decode cX6_playOn 22 = .ok (.dup2, 1) := by decide +kernel
theorem dX6_playOn_23 : decode cX6_playOn 23 = .ok (.iaload, 1) := by decide +kernel
theorem dX6_playOn_24 : decode cX6_playOn 24 = .ok (.iconst 1, 1) := by decide +kernel
theorem dX6_playOn_25 : decode cX6_playOn 25 = .ok (.iadd, 1) := by decide +kernel
theorem dX6_playOn_26 : decode cX6_playOn 26 = .ok (.iastore, 1) := by decide +kernel
theorem dX6_playOn_27 : decode cX6_playOn 27 = .ok (.iload_n 3, 1) := by decide +kernel
theorem dX6_playOn_28 : decode cX6_playOn 28 = .ok (.ireturn, 1) := by decide +kernel
theorem dX6_canDraw_0 : decode cX6_canDraw 0 = .ok (.aload_n 0, 1) := by decide +kernel
theorem dX6_canDraw_1 : decode cX6_canDraw 1 = .ok (.iconst 1, 1) := by decide +kernel
theorem dX6_canDraw_2 : decode cX6_canDraw 2 = .ok (.iaload, 1) := by decide +kernel
theorem dX6_canDraw_3 : decode cX6_canDraw 3 = .ok (.iconst 1, 1) := by decide +kernel
theorem dX6_canDraw_4 : decode cX6_canDraw 4 = .ok (.if_icmp .ne 13, 3) := by decide +kernel
theorem dX6_canDraw_7 : decode cX6_canDraw 7 = .ok (.aload_n 0, 1) := by decide +kernel
theorem dX6_canDraw_8 : decode cX6_canDraw 8 = .ok (.iconst 4, 1) := by decide +kernel
theorem dX6_canDraw_9 : decode cX6_canDraw 9 = .ok (.iaload, 1) := by decide +kernel
theorem dX6_canDraw_10 : decode cX6_canDraw 10 = .ok (.ifCond .le 7, 3) := by decide +kernel
theorem dX6_canDraw_13 : decode cX6_canDraw 13 = .ok (.iconst 1, 1) := by decide +kernel
theorem dX6_canDraw_14 : decode cX6_canDraw 14 = .ok (.goto 4, 3) := by decide +kernel
theorem dX6_canDraw_17 : decode cX6_canDraw 17 = .ok (.iconst 0, 1) := by decide +kernel
theorem dX6_canDraw_18 : decode cX6_canDraw 18 = .ok (.ireturn, 1) := by decide +kernel
theorem dX6_canPass_0 : decode cX6_canPass 0 = .ok (.aload_n 0, 1) := by decide +kernel
theorem dX6_canPass_1 : decode cX6_canPass 1 = .ok (.iconst 1, 1) := by decide +kernel
theorem dX6_canPass_2 : decode cX6_canPass 2 = .ok (.iaload, 1) := by decide +kernel
theorem dX6_canPass_3 : decode cX6_canPass 3 = .ok (.iconst 1, 1) := by decide +kernel
theorem dX6_canPass_4 : decode cX6_canPass 4 = .ok (.if_icmp .ne 13, 3) := by decide +kernel
theorem dX6_canPass_7 : decode cX6_canPass 7 = .ok (.aload_n 0, 1) := by decide +kernel
theorem dX6_canPass_8 : decode cX6_canPass 8 = .ok (.iconst 4, 1) := by decide +kernel
theorem dX6_canPass_9 : decode cX6_canPass 9 = .ok (.iaload, 1) := by decide +kernel
theorem dX6_canPass_10 : decode cX6_canPass 10 = .ok (.ifCond .ne 7, 3) := by decide +kernel
theorem dX6_canPass_13 : decode cX6_canPass 13 = .ok (.iconst 1, 1) := by decide +kernel
theorem dX6_canPass_14 : decode cX6_canPass 14 = .ok (.goto 4, 3) := by decide +kernel
theorem dX6_canPass_17 : decode cX6_canPass 17 = .ok (.iconst 0, 1) := by decide +kernel
theorem dX6_canPass_18 : decode cX6_canPass 18 = .ok (.ireturn, 1) := by decide +kernel
theorem dX6_drawOn_0 : decode cX6_drawOn 0 = .ok (.aload_n 0, 1) := by decide +kernel
theorem dX6_drawOn_1 : decode cX6_drawOn 1 = .ok (.bipush 49, 2) := by decide +kernel
theorem dX6_drawOn_3 : decode cX6_drawOn 3 = .ok (.iaload, 1) := by decide +kernel
theorem dX6_drawOn_4 : decode cX6_drawOn 4 = .ok (.istore_n 1, 1) := by decide +kernel
theorem dX6_drawOn_5 : decode cX6_drawOn 5 = .ok (.iconst 0, 1) := by decide +kernel
theorem dX6_drawOn_6 : decode cX6_drawOn 6 = .ok (.istore_n 2, 1) := by decide +kernel
theorem dX6_drawOn_7 : decode cX6_drawOn 7 = .ok (.iload_n 2, 1) := by decide +kernel
theorem dX6_drawOn_8 : decode cX6_drawOn 8 = .ok (.aload_n 0, 1) := by decide +kernel
theorem dX6_drawOn_9 : decode cX6_drawOn 9 = .ok (.iconst 4, 1) := by decide +kernel
theorem dX6_drawOn_10 : decode cX6_drawOn 10 = .ok (.iaload, 1) := by decide +kernel
theorem dX6_drawOn_11 : decode cX6_drawOn 11 = .ok (.iconst 1, 1) := by decide +kernel
theorem dX6_drawOn_12 : decode cX6_drawOn 12 = .ok (.isub, 1) := by decide +kernel
theorem dX6_drawOn_13 : decode cX6_drawOn 13 = .ok (.if_icmp .ge 23, 3) := by decide +kernel
theorem dX6_drawOn_16 : decode cX6_drawOn 16 = .ok (.aload_n 0, 1) := by decide +kernel
theorem dX6_drawOn_17 : decode cX6_drawOn 17 = .ok (.bipush 49, 2) := by decide +kernel
theorem dX6_drawOn_19 : decode cX6_drawOn 19 = .ok (.iload_n 2, 1) := by decide +kernel
theorem dX6_drawOn_20 : decode cX6_drawOn 20 = .ok (.iadd, 1) := by decide +kernel
theorem dX6_drawOn_21 : decode cX6_drawOn 21 = .ok (.aload_n 0, 1) := by decide +kernel
theorem dX6_drawOn_22 : decode cX6_drawOn 22 = .ok (.bipush 49, 2) := by decide +kernel
theorem dX6_drawOn_24 : decode cX6_drawOn 24 = .ok (.iload_n 2, 1) := by decide +kernel
theorem dX6_drawOn_25 : decode cX6_drawOn 25 = .ok (.iadd, 1) := by decide +kernel
theorem dX6_drawOn_26 : decode cX6_drawOn 26 = .ok (.iconst 1, 1) := by decide +kernel
theorem dX6_drawOn_27 : decode cX6_drawOn 27 = .ok (.iadd, 1) := by decide +kernel
theorem dX6_drawOn_28 : decode cX6_drawOn 28 = .ok (.iaload, 1) := by decide +kernel
theorem dX6_drawOn_29 : decode cX6_drawOn 29 = .ok (.iastore, 1) := by decide +kernel
theorem dX6_drawOn_30 : decode cX6_drawOn 30 = .ok (.iinc 2 1, 3) := by decide +kernel
theorem dX6_drawOn_33 : decode cX6_drawOn 33 = .ok (.goto (-26), 3) := by decide +kernel
theorem dX6_drawOn_36 : decode cX6_drawOn 36 = .ok (.aload_n 0, 1) := by decide +kernel
theorem dX6_drawOn_37 : decode cX6_drawOn 37 = .ok (.iconst 4, 1) := by decide +kernel
theorem dX6_drawOn_38 : decode cX6_drawOn 38 = .ok (.dup2, 1) := by decide +kernel
theorem dX6_drawOn_39 : decode cX6_drawOn 39 = .ok (.iaload, 1) := by decide +kernel
theorem dX6_drawOn_40 : decode cX6_drawOn 40 = .ok (.iconst 1, 1) := by decide +kernel
theorem dX6_drawOn_41 : decode cX6_drawOn 41 = .ok (.isub, 1) := by decide +kernel
theorem dX6_drawOn_42 : decode cX6_drawOn 42 = .ok (.iastore, 1) := by decide +kernel
theorem dX6_drawOn_43 : decode cX6_drawOn 43 = .ok (.aload_n 0, 1) := by decide +kernel
theorem dX6_drawOn_44 : decode cX6_drawOn 44 = .ok (.bipush 21, 2) := by decide +kernel
theorem dX6_drawOn_46 : decode cX6_drawOn 46 = .ok (.iload_n 1, 1) := by decide +kernel
theorem dX6_drawOn_47 : decode cX6_drawOn 47 = .ok (.iadd, 1) := by decide +kernel
theorem dX6_drawOn_48 : decode cX6_drawOn 48 = .ok (.aload_n 0, 1) := by decide +kernel
theorem dX6_drawOn_49 : decode cX6_drawOn 49 = .ok (.iconst 3, 1) := by decide +kernel
theorem dX6_drawOn_50 : decode cX6_drawOn 50 = .ok (.iaload, 1) := by decide +kernel
theorem dX6_drawOn_51 : decode cX6_drawOn 51 = .ok (.iastore, 1) := by decide +kernel
theorem dX6_drawOn_52 : decode cX6_drawOn 52 = .ok (.aload_n 0, 1) := by decide +kernel
theorem dX6_drawOn_53 : decode cX6_drawOn 53 = .ok (.bipush 8, 2) := by decide +kernel
theorem dX6_drawOn_55 : decode cX6_drawOn 55 = .ok (.iconst 0, 1) := by decide +kernel
theorem dX6_drawOn_56 : decode cX6_drawOn 56 = .ok (.iastore, 1) := by decide +kernel
theorem dX6_drawOn_57 : decode cX6_drawOn 57 = .ok (.iload_n 1, 1) := by decide +kernel
theorem dX6_drawOn_58 : decode cX6_drawOn 58 = .ok (.ireturn, 1) := by decide +kernel
theorem dX6_passOn_0 : decode cX6_passOn 0 = .ok (.aload_n 0, 1) := by decide +kernel
theorem dX6_passOn_1 : decode cX6_passOn 1 = .ok (.bipush 8, 2) := by decide +kernel
theorem dX6_passOn_3 : decode cX6_passOn 3 = .ok (.dup2, 1) := by decide +kernel
theorem dX6_passOn_4 : decode cX6_passOn 4 = .ok (.iaload, 1) := by decide +kernel
theorem dX6_passOn_5 : decode cX6_passOn 5 = .ok (.iconst 1, 1) := by decide +kernel
theorem dX6_passOn_6 : decode cX6_passOn 6 = .ok (.iadd, 1) := by decide +kernel
theorem dX6_passOn_7 : decode cX6_passOn 7 = .ok (.iastore, 1) := by decide +kernel
theorem dX6_passOn_8 : decode cX6_passOn 8 = .ok (.aload_n 0, 1) := by decide +kernel
theorem dX6_passOn_9 : decode cX6_passOn 9 = .ok (.bipush 8, 2) := by decide +kernel
theorem dX6_passOn_11 : decode cX6_passOn 11 = .ok (.iaload, 1) := by decide +kernel
theorem dX6_passOn_12 : decode cX6_passOn 12 = .ok (.aload_n 0, 1) := by decide +kernel
theorem dX6_passOn_13 : decode cX6_passOn 13 = .ok (.iconst 2, 1) := by decide +kernel
theorem dX6_passOn_14 : decode cX6_passOn 14 = .ok (.iaload, 1) := by decide +kernel
theorem dX6_passOn_15 : decode cX6_passOn 15 = .ok (.if_icmp .ne 47, 3) := by decide +kernel
theorem dX6_passOn_18 : decode cX6_passOn 18 = .ok (.iconst 0, 1) := by decide +kernel
theorem dX6_passOn_19 : decode cX6_passOn 19 = .ok (.istore_n 1, 1) := by decide +kernel
theorem dX6_passOn_20 : decode cX6_passOn 20 = .ok (.iconst 1, 1) := by decide +kernel
theorem dX6_passOn_21 : decode cX6_passOn 21 = .ok (.istore_n 2, 1) := by decide +kernel
theorem dX6_passOn_22 : decode cX6_passOn 22 = .ok (.iload_n 2, 1) := by decide +kernel
theorem dX6_passOn_23 : decode cX6_passOn 23 = .ok (.aload_n 0, 1) := by decide +kernel
theorem dX6_passOn_24 : decode cX6_passOn 24 = .ok (.iconst 2, 1) := by decide +kernel
theorem dX6_passOn_25 : decode cX6_passOn 25 = .ok (.iaload, 1) := by decide +kernel
theorem dX6_passOn_26 : decode cX6_passOn 26 = .ok (.if_icmp .ge 28, 3) := by decide +kernel
theorem dX6_passOn_29 : decode cX6_passOn 29 = .ok (.aload_n 0, 1) := by decide +kernel
theorem dX6_passOn_30 : decode cX6_passOn 30 = .ok (.iload_n 2, 1) := by decide +kernel
theorem dX6_passOn_31 : decode cX6_passOn 31 = .ok (.invokestatic 109, 3) := by decide +kernel
theorem dX6_passOn_34 : decode cX6_passOn 34 = .ok (.aload_n 0, 1) := by decide +kernel
theorem dX6_passOn_35 : decode cX6_passOn 35 = .ok (.iload_n 1, 1) := by decide +kernel
theorem dX6_passOn_36 : decode cX6_passOn 36 = .ok (.invokestatic 109, 3) := by decide +kernel
theorem dX6_passOn_39 : decode cX6_passOn 39 = .ok (.if_icmp .ge 7, 3) := by decide +kernel
theorem dX6_passOn_42 : decode cX6_passOn 42 = .ok (.iload_n 2, 1) := by decide +kernel
theorem dX6_passOn_43 : decode cX6_passOn 43 = .ok (.goto 4, 3) := by decide +kernel
theorem dX6_passOn_46 : decode cX6_passOn 46 = .ok (.iload_n 1, 1) := by decide +kernel
theorem dX6_passOn_47 : decode cX6_passOn 47 = .ok (.istore_n 1, 1) := by decide +kernel
theorem dX6_passOn_48 : decode cX6_passOn 48 = .ok (.iinc 2 1, 3) := by decide +kernel
theorem dX6_passOn_51 : decode cX6_passOn 51 = .ok (.goto (-29), 3) := by decide +kernel
theorem dX6_passOn_54 : decode cX6_passOn 54 = .ok (.aload_n 0, 1) := by decide +kernel
theorem dX6_passOn_55 : decode cX6_passOn 55 = .ok (.iload_n 1, 1) := by decide +kernel
theorem dX6_passOn_56 : decode cX6_passOn 56 = .ok (.invokestatic 122, 3) := by decide +kernel
theorem dX6_passOn_59 : decode cX6_passOn 59 = .ok (.goto 7, 3) := by decide +kernel
theorem dX6_passOn_62 : decode cX6_passOn 62 = .ok (.aload_n 0, 1) := by decide +kernel
theorem dX6_passOn_63 : decode cX6_passOn 63 = .ok (.invokestatic 126, 3) := by decide +kernel
theorem dX6_passOn_66 : decode cX6_passOn 66 = .ok (.aload_n 0, 1) := by decide +kernel
theorem dX6_passOn_67 : decode cX6_passOn 67 = .ok (.iconst 1, 1) := by decide +kernel
theorem dX6_passOn_68 : decode cX6_passOn 68 = .ok (.iaload, 1) := by decide +kernel
theorem dX6_passOn_69 : decode cX6_passOn 69 = .ok (.ireturn, 1) := by decide +kernel
theorem dX6_playBest_0 : decode cX6_playBest 0 = .ok (.aload_n 0, 1) := by decide +kernel
theorem dX6_playBest_1 : decode cX6_playBest 1 = .ok (.invokestatic 133, 3) := by decide +kernel
theorem dX6_playBest_4 : decode cX6_playBest 4 = .ok (.istore_n 1, 1) := by decide +kernel
theorem dX6_playBest_5 : decode cX6_playBest 5 = .ok (.iload_n 1, 1) := by decide +kernel
theorem dX6_playBest_6 : decode cX6_playBest 6 = .ok (.iconst (-1), 1) := by decide +kernel
theorem dX6_playBest_7 : decode cX6_playBest 7 = .ok (.if_icmp .eq 9, 3) := by decide +kernel
theorem dX6_playBest_10 : decode cX6_playBest 10 = .ok (.aload_n 0, 1) := by decide +kernel
theorem dX6_playBest_11 : decode cX6_playBest 11 = .ok (.iload_n 1, 1) := by decide +kernel
theorem dX6_playBest_12 : decode cX6_playBest 12 = .ok (.iconst 0, 1) := by decide +kernel
theorem dX6_playBest_13 : decode cX6_playBest 13 = .ok (.invokestatic 129, 3) := by decide +kernel
theorem dX6_playBest_16 : decode cX6_playBest 16 = .ok (.iload_n 1, 1) := by decide +kernel
theorem dX6_playBest_17 : decode cX6_playBest 17 = .ok (.iconst (-1), 1) := by decide +kernel
theorem dX6_playBest_18 : decode cX6_playBest 18 = .ok (.if_icmp .eq 7, 3) := by decide +kernel
theorem dX6_playBest_21 : decode cX6_playBest 21 = .ok (.iconst 1, 1) := by decide +kernel
theorem dX6_playBest_22 : decode cX6_playBest 22 = .ok (.goto 4, 3) := by decide +kernel
theorem dX6_playBest_25 : decode cX6_playBest 25 = .ok (.iconst 0, 1) := by decide +kernel
theorem dX6_playBest_26 : decode cX6_playBest 26 = .ok (.ireturn, 1) := by decide +kernel
theorem dX6_append_0 : decode cX6_append 0 = .ok (.aload_n 0, 1) := by decide +kernel
theorem dX6_append_1 : decode cX6_append 1 = .ok (.iload_n 1, 1) := by decide +kernel
theorem dX6_append_2 : decode cX6_append 2 = .ok (.i2l, 1) := by decide +kernel
theorem dX6_append_3 : decode cX6_append 3 = .ok (.lconst 0, 1) := by decide +kernel
theorem dX6_append_4 : decode cX6_append 4 = .ok (.ldc2_w 136, 3) := by decide +kernel
theorem dX6_append_7 : decode cX6_append 7 = .ok (.invokestatic 55, 3) := by decide +kernel
theorem dX6_append_10 : decode cX6_append 10 = .ok (.ifCond .ne 7, 3) := by decide +kernel
theorem dX6_append_13 : decode cX6_append 13 = .ok (.iconst 1, 1) := by decide +kernel
theorem dX6_append_14 : decode cX6_append 14 = .ok (.goto 17, 3) := by decide +kernel
theorem dX6_append_17 : decode cX6_append 17 = .ok (.aload_n 0, 1) := by decide +kernel
theorem dX6_append_18 : decode cX6_append 18 = .ok (.getfield 138, 3) := by decide +kernel
theorem dX6_append_21 : decode cX6_append 21 = .ok (.bipush 120, 2) := by decide +kernel
theorem dX6_append_23 : decode cX6_append 23 = .ok (.if_icmp .ne 7, 3) := by decide +kernel
theorem dX6_append_26 : decode cX6_append 26 = .ok (.iconst 2, 1) := by decide +kernel
theorem dX6_append_27 : decode cX6_append 27 = .ok (.goto 4, 3) := by decide +kernel
theorem dX6_append_30 : decode cX6_append 30 = .ok (.iconst 0, 1) := by decide +kernel
theorem dX6_append_31 : decode cX6_append 31 = .ok (.invokevirtual 141, 3) := by decide +kernel
theorem dX6_append_34 : decode cX6_append 34 = .ok (.ifCond .eq 5, 3) := by decide +kernel
theorem dX6_append_37 : decode cX6_append 37 = .ok (.iconst 0, 1) := by decide +kernel
theorem dX6_append_38 : decode cX6_append 38 = .ok (.ireturn, 1) := by decide +kernel
theorem dX6_append_39 : decode cX6_append 39 = .ok (.aload_n 0, 1) := by decide +kernel
theorem dX6_append_40 : decode cX6_append 40 = .ok (.getfield 7, 3) := by decide +kernel
theorem dX6_append_43 : decode cX6_append 43 = .ok (.aload_n 0, 1) := by decide +kernel
theorem dX6_append_44 : decode cX6_append 44 = .ok (.getfield 138, 3) := by decide +kernel
theorem dX6_append_47 : decode cX6_append 47 = .ok (.iload_n 1, 1) := by decide +kernel
theorem dX6_append_48 : decode cX6_append 48 = .ok (.iastore, 1) := by decide +kernel
theorem dX6_append_49 : decode cX6_append 49 = .ok (.aload_n 0, 1) := by decide +kernel
theorem dX6_append_50 : decode cX6_append 50 = .ok (.dup, 1) := by decide +kernel
theorem dX6_append_51 : decode cX6_append 51 = .ok (.getfield 138, 3) := by decide +kernel
theorem dX6_append_54 : decode cX6_append 54 = .ok (.iconst 1, 1) := by decide +kernel
theorem dX6_append_55 : decode cX6_append 55 = .ok (.iadd, 1) := by decide +kernel
theorem dX6_append_56 : decode cX6_append 56 = .ok (.putfield 138, 3) := by decide +kernel
theorem dX6_append_59 : decode cX6_append 59 = .ok (.aload_n 0, 1) := by decide +kernel
theorem dX6_append_60 : decode cX6_append 60 = .ok (.getfield 138, 3) := by decide +kernel
theorem dX6_append_63 : decode cX6_append 63 = .ok (.ireturn, 1) := by decide +kernel
theorem dX6_clearText_0 : decode cX6_clearText 0 = .ok (.aload_n 0, 1) := by decide +kernel
theorem dX6_clearText_1 : decode cX6_clearText 1 = .ok (.iconst 0, 1) := by decide +kernel
theorem dX6_clearText_2 : decode cX6_clearText 2 = .ok (.putfield 42, 3) := by decide +kernel
theorem dX6_clearText_5 : decode cX6_clearText 5 = .ok (.aload_n 0, 1) := by decide +kernel
theorem dX6_clearText_6 : decode cX6_clearText 6 = .ok (.getfield 138, 3) := by decide +kernel
theorem dX6_clearText_9 : decode cX6_clearText 9 = .ok (.istore_n 1, 1) := by decide +kernel
theorem dX6_clearText_10 : decode cX6_clearText 10 = .ok (.aload_n 0, 1) := by decide +kernel
theorem dX6_clearText_11 : decode cX6_clearText 11 = .ok (.iconst 0, 1) := by decide +kernel
theorem dX6_clearText_12 : decode cX6_clearText 12 = .ok (.putfield 138, 3) := by decide +kernel
theorem dX6_clearText_15 : decode cX6_clearText 15 = .ok (.iload_n 1, 1) := by decide +kernel
theorem dX6_clearText_16 : decode cX6_clearText 16 = .ok (.ireturn, 1) := by decide +kernel
theorem dX6_figures_0 : decode cX6_figures 0 = .ok (.iconst 0, 1) := by decide +kernel
theorem dX6_figures_1 : decode cX6_figures 1 = .ok (.istore 5, 2) := by decide +kernel
theorem dX6_figures_3 : decode cX6_figures 3 = .ok (.iload_n 2, 1) := by decide +kernel
theorem dX6_figures_4 : decode cX6_figures 4 = .ok (.iconst 2, 1) := by decide +kernel
theorem dX6_figures_5 : decode cX6_figures 5 = .ok (.if_icmp .ne 8, 3) := by decide +kernel
theorem dX6_figures_8 : decode cX6_figures 8 = .ok (.bipush 10, 2) := by decide +kernel
theorem dX6_figures_10 : decode cX6_figures 10 = .ok (.goto 4, 3) := by decide +kernel
theorem dX6_figures_13 : decode cX6_figures 13 = .ok (.iconst 1, 1) := by decide +kernel
theorem dX6_figures_14 : decode cX6_figures 14 = .ok (.istore 6, 2) := by decide +kernel
theorem dX6_figures_16 : decode cX6_figures 16 = .ok (.iload 6, 2) := by decide +kernel
theorem dX6_figures_18 : decode cX6_figures 18 = .ok (.ifCond .le 104, 3) := by decide +kernel
theorem dX6_figures_21 : decode cX6_figures 21 = .ok (.iload_n 1, 1) := by decide +kernel
theorem dX6_figures_22 : decode cX6_figures 22 = .ok (.iconst (-1), 1) := by decide +kernel
theorem dX6_figures_23 : decode cX6_figures 23 = .ok (.if_icmp .eq 99, 3) := by decide +kernel
theorem dX6_figures_26 : decode cX6_figures 26 = .ok (.aload_n 0, 1) := by decide +kernel
theorem dX6_figures_27 : decode cX6_figures 27 = .ok (.getfield 145, 3) := by decide +kernel
theorem dX6_figures_30 : decode cX6_figures 30 = .ok (.aload_n 0, 1) := by decide +kernel
theorem dX6_figures_31 : decode cX6_figures 31 = .ok (.getfield 138, 3) := by decide +kernel
theorem dX6_figures_34 : decode cX6_figures 34 = .ok (.if_icmp .ge 18, 3) := by decide +kernel
theorem dX6_figures_37 : decode cX6_figures 37 = .ok (.aload_n 0, 1) := by decide +kernel
theorem dX6_figures_38 : decode cX6_figures 38 = .ok (.getfield 7, 3) := by decide +kernel
theorem dX6_figures_41 : decode cX6_figures 41 = .ok (.aload_n 0, 1) := by decide +kernel
theorem dX6_figures_42 : decode cX6_figures 42 = .ok (.getfield 145, 3) := by decide +kernel
theorem dX6_figures_45 : decode cX6_figures 45 = .ok (.iaload, 1) := by decide +kernel
theorem dX6_figures_46 : decode cX6_figures 46 = .ok (.bipush 48, 2) := by decide +kernel
theorem dX6_figures_48 : decode cX6_figures 48 = .ok (.isub, 1) := by decide +kernel
theorem dX6_figures_49 : decode cX6_figures 49 = .ok (.goto 4, 3) := by decide +kernel
theorem dX6_figures_52 : decode cX6_figures 52 = .ok (.iconst (-1), 1) := by decide +kernel
theorem dX6_figures_53 : decode cX6_figures 53 = .ok (.istore 7, 2) := by decide +kernel
theorem dX6_figures_55 : decode cX6_figures 55 = .ok (.iload 5, 2) := by decide +kernel
theorem dX6_figures_57 : decode cX6_figures 57 = .ok (.iload 7, 2) := by decide +kernel
theorem dX6_figures_59 : decode cX6_figures 59 = .ok (.iload 6, 2) := by decide +kernel
theorem dX6_figures_61 : decode cX6_figures 61 = .ok (.imul, 1) := by decide +kernel
theorem dX6_figures_62 : decode cX6_figures 62 = .ok (.iadd, 1) := by decide +kernel
theorem dX6_figures_63 : decode cX6_figures 63 = .ok (.istore 8, 2) := by decide +kernel
theorem dX6_figures_65 : decode cX6_figures 65 = .ok (.iload 7, 2) := by decide +kernel
theorem dX6_figures_67 : decode cX6_figures 67 = .ok (.i2l, 1) := by decide +kernel
theorem dX6_figures_68 : decode cX6_figures 68 = .ok (.lconst 0, 1) := by decide +kernel
theorem dX6_figures_69 : decode cX6_figures 69 = .ok (.ldc2_w 148, 3) := by decide +kernel
theorem dX6_figures_72 : decode cX6_figures 72 = .ok (.invokestatic 55, 3) := by decide +kernel
theorem dX6_figures_75 : decode cX6_figures 75 = .ok (.ifCond .eq 21, 3) := by decide +kernel
theorem dX6_figures_78 : decode cX6_figures 78 = .ok (.iload 8, 2) := by decide +kernel
theorem dX6_figures_80 : decode cX6_figures 80 = .ok (.iload 4, 2) := by decide +kernel
theorem dX6_figures_82 : decode cX6_figures 82 = .ok (.if_icmp .gt 14, 3) := by decide +kernel
theorem dX6_figures_85 : decode cX6_figures 85 = .ok (.iload 8, 2) := by decide +kernel
theorem dX6_figures_87 : decode cX6_figures 87 = .ok (.iload 6, 2) := by decide +kernel
theorem dX6_figures_89 : decode cX6_figures 89 = .ok (.iadd, 1) := by decide +kernel
theorem dX6_figures_90 : decode cX6_figures 90 = .ok (.iconst 1, 1) := by decide +kernel
theorem dX6_figures_91 : decode cX6_figures 91 = .ok (.isub, 1) := by decide +kernel
theorem dX6_figures_92 : decode cX6_figures 92 = .ok (.iload_n 3, 1) := by decide +kernel
theorem dX6_figures_93 : decode cX6_figures 93 = .ok (.if_icmp .ge 5, 3) := by decide +kernel
theorem dX6_figures_96 : decode cX6_figures 96 = .ok (.iconst (-1), 1) := by decide +kernel
theorem dX6_figures_97 : decode cX6_figures 97 = .ok (.ireturn, 1) := by decide +kernel
theorem dX6_figures_98 : decode cX6_figures 98 = .ok (.iload 8, 2) := by decide +kernel
theorem dX6_figures_100 : decode cX6_figures 100 = .ok (.istore 5, 2) := by decide +kernel
theorem dX6_figures_102 : decode cX6_figures 102 = .ok (.aload_n 0, 1) := by decide +kernel
theorem dX6_figures_103 : decode cX6_figures 103 = .ok (.dup, 1) := by decide +kernel
theorem dX6_figures_104 : decode cX6_figures 104 = .ok (.getfield 145, 3) := by decide +kernel
theorem dX6_figures_107 : decode cX6_figures 107 = .ok (.iconst 1, 1) := by decide +kernel
theorem dX6_figures_108 : decode cX6_figures 108 = .ok (.iadd, 1) := by decide +kernel
theorem dX6_figures_109 : decode cX6_figures 109 = .ok (.putfield 145, 3) := by decide +kernel
theorem dX6_figures_112 : decode cX6_figures 112 = .ok (.iload 6, 2) := by decide +kernel
theorem dX6_figures_114 : decode cX6_figures 114 = .ok (.bipush 10, 2) := by decide +kernel
theorem dX6_figures_116 : decode cX6_figures 116 = .ok (.idiv, 1) := by decide +kernel
theorem dX6_figures_117 : decode cX6_figures 117 = .ok (.istore 6, 2) := by decide +kernel
theorem dX6_figures_119 : decode cX6_figures 119 = .ok (.goto (-103), 3) := by decide +kernel
theorem dX6_figures_122 : decode cX6_figures 122 = .ok (.iload_n 1, 1) := by decide +kernel
theorem dX6_figures_123 : decode cX6_figures 123 = .ok (.iconst (-1), 1) := by decide +kernel
theorem dX6_figures_124 : decode cX6_figures 124 = .ok (.if_icmp .ne 7, 3) := by decide +kernel
theorem dX6_figures_127 : decode cX6_figures 127 = .ok (.iconst (-1), 1) := by decide +kernel
theorem dX6_figures_128 : decode cX6_figures 128 = .ok (.goto 5, 3) := by decide +kernel
theorem dX6_figures_131 : decode cX6_figures 131 = .ok (.iload 5, 2) := by decide +kernel
theorem dX6_figures_133 : decode cX6_figures 133 = .ok (.ireturn, 1) := by decide +kernel
theorem dX6_done_0 : decode cX6_done 0 = .ok (.aload_n 0, 1) := by decide +kernel
theorem dX6_done_1 : decode cX6_done 1 = .ok (.dup, 1) := by decide +kernel
theorem dX6_done_2 : decode cX6_done 2 = .ok (.getfield 150, 3) := by decide +kernel
theorem dX6_done_5 : decode cX6_done 5 = .ok (.iload_n 1, 1) := by decide +kernel
theorem dX6_done_6 : decode cX6_done 6 = .ok (.ifCond .eq 7, 3) := by decide +kernel
theorem dX6_done_9 : decode cX6_done 9 = .ok (.iconst 0, 1) := by decide +kernel
theorem dX6_done_10 : decode cX6_done 10 = .ok (.goto 4, 3) := by decide +kernel
theorem dX6_done_13 : decode cX6_done 13 = .ok (.iconst 1, 1) := by decide +kernel
theorem dX6_done_14 : decode cX6_done 14 = .ok (.iadd, 1) := by decide +kernel
theorem dX6_done_15 : decode cX6_done 15 = .ok (.putfield 150, 3) := by decide +kernel
theorem dX6_done_18 : decode cX6_done 18 = .ok (.iconst 1, 1) := by decide +kernel
theorem dX6_done_19 : decode cX6_done 19 = .ok (.ireturn, 1) := by decide +kernel
theorem dX6_readTile_0 : decode cX6_readTile 0 = .ok (.aload_n 0, 1) := by decide +kernel
theorem dX6_readTile_1 : decode cX6_readTile 1 = .ok (.iconst 0, 1) := by decide +kernel
theorem dX6_readTile_2 : decode cX6_readTile 2 = .ok (.iconst 2, 1) := by decide +kernel
theorem dX6_readTile_3 : decode cX6_readTile 3 = .ok (.iconst 0, 1) := by decide +kernel
theorem dX6_readTile_4 : decode cX6_readTile 4 = .ok (.bipush 27, 2) := by decide +kernel
theorem dX6_readTile_6 : decode cX6_readTile 6 = .ok (.invokevirtual 153, 3) := by decide +kernel
theorem dX6_readTile_9 : decode cX6_readTile 9 = .ok (.istore_n 2, 1) := by decide +kernel
theorem dX6_readTile_10 : decode cX6_readTile 10 = .ok (.iload_n 2, 1) := by decide +kernel
theorem dX6_readTile_11 : decode cX6_readTile 11 = .ok (.iconst (-1), 1) := by decide +kernel
theorem dX6_readTile_12 : decode cX6_readTile 12 = .ok (.if_icmp .eq 42, 3) := by decide +kernel
theorem dX6_readTile_15 : decode cX6_readTile 15 = .ok (.aload_n 0, 1) := by decide +kernel
theorem dX6_readTile_16 : decode cX6_readTile 16 = .ok (.getfield 145, 3) := by decide +kernel
theorem dX6_readTile_19 : decode cX6_readTile 19 = .ok (.aload_n 0, 1) := by decide +kernel
theorem dX6_readTile_20 : decode cX6_readTile 20 = .ok (.getfield 138, 3) := by decide +kernel
theorem dX6_readTile_23 : decode cX6_readTile 23 = .ok (.if_icmp .eq 31, 3) := by decide +kernel
theorem dX6_readTile_26 : decode cX6_readTile 26 = .ok (.aload_n 0, 1) := by decide +kernel
theorem dX6_readTile_27 : decode cX6_readTile 27 = .ok (.getfield 7, 3) := by decide +kernel
theorem dX6_readTile_30 : decode cX6_readTile 30 = .ok (.aload_n 0, 1) := by decide +kernel
theorem dX6_readTile_31 : decode cX6_readTile 31 = .ok (.getfield 145, 3) := by decide +kernel
theorem dX6_readTile_34 : decode cX6_readTile 34 = .ok (.iaload, 1) := by decide +kernel
theorem dX6_readTile_35 : decode cX6_readTile 35 = .ok (.bipush 114, 2) := by decide +kernel
theorem dX6_readTile_37 : decode cX6_readTile 37 = .ok (.if_icmp .eq 19, 3) := by decide +kernel
theorem dX6_readTile_40 : decode cX6_readTile 40 = .ok (.aload_n 0, 1) := by decide +kernel
theorem dX6_readTile_41 : decode cX6_readTile 41 = .ok (.getfield 7, 3) := by decide +kernel
theorem dX6_readTile_44 : decode cX6_readTile 44 = .ok (.aload_n 0, 1) := by decide +kernel
theorem dX6_readTile_45 : decode cX6_readTile 45 = .ok (.getfield 145, 3) := by decide +kernel
theorem dX6_readTile_48 : decode cX6_readTile 48 = .ok (.iaload, 1) := by decide +kernel
theorem dX6_readTile_49 : decode cX6_readTile 49 = .ok (.bipush 108, 2) := by decide +kernel
theorem dX6_readTile_51 : decode cX6_readTile 51 = .ok (.if_icmp .eq 5, 3) := by decide +kernel
theorem dX6_readTile_54 : decode cX6_readTile 54 = .ok (.iconst 0, 1) := by decide +kernel
theorem dX6_readTile_55 : decode cX6_readTile 55 = .ok (.ireturn, 1) := by decide +kernel
theorem dX6_readTile_56 : decode cX6_readTile 56 = .ok (.aload_n 0, 1) := by decide +kernel
theorem dX6_readTile_57 : decode cX6_readTile 57 = .ok (.getfield 7, 3) := by decide +kernel
theorem dX6_readTile_60 : decode cX6_readTile 60 = .ok (.aload_n 0, 1) := by decide +kernel
theorem dX6_readTile_61 : decode cX6_readTile 61 = .ok (.getfield 145, 3) := by decide +kernel
theorem dX6_readTile_64 : decode cX6_readTile 64 = .ok (.iaload, 1) := by decide +kernel
theorem dX6_readTile_65 : decode cX6_readTile 65 = .ok (.bipush 108, 2) := by decide +kernel
theorem dX6_readTile_67 : decode cX6_readTile 67 = .ok (.if_icmp .ne 7, 3) := by decide +kernel
theorem dX6_readTile_70 : decode cX6_readTile 70 = .ok (.iconst 1, 1) := by decide +kernel
theorem dX6_readTile_71 : decode cX6_readTile 71 = .ok (.goto 4, 3) := by decide +kernel
theorem dX6_readTile_74 : decode cX6_readTile 74 = .ok (.iconst 0, 1) := by decide +kernel
theorem dX6_readTile_75 : decode cX6_readTile 75 = .ok (.istore_n 3, 1) := by decide +kernel
theorem dX6_readTile_76 : decode cX6_readTile 76 = .ok (.aload_n 0, 1) := by decide +kernel
theorem dX6_readTile_77 : decode cX6_readTile 77 = .ok (.dup, 1) := by decide +kernel
theorem dX6_readTile_78 : decode cX6_readTile 78 = .ok (.getfield 145, 3) := by decide +kernel
theorem dX6_readTile_81 : decode cX6_readTile 81 = .ok (.iconst 1, 1) := by decide +kernel
theorem dX6_readTile_82 : decode cX6_readTile 82 = .ok (.iadd, 1) := by decide +kernel
theorem dX6_readTile_83 : decode cX6_readTile 83 = .ok (.putfield 145, 3) := by decide +kernel
theorem dX6_readTile_86 : decode cX6_readTile 86 = .ok (.aload_n 0, 1) := by decide +kernel
theorem dX6_readTile_87 : decode cX6_readTile 87 = .ok (.aload_n 1, 1) := by decide +kernel
theorem dX6_readTile_88 : decode cX6_readTile 88 = .ok (.iconst 1, 1) := by decide +kernel
theorem dX6_readTile_89 : decode cX6_readTile 89 = .ok (.iaload, 1) := by decide +kernel
theorem dX6_readTile_90 : decode cX6_readTile 90 = .ok (.iconst 1, 1) := by decide +kernel
theorem dX6_readTile_91 : decode cX6_readTile 91 = .ok (.if_icmp .ne 24, 3) := by decide +kernel
theorem dX6_readTile_94 : decode cX6_readTile 94 = .ok (.aload_n 1, 1) := by decide +kernel
theorem dX6_readTile_95 : decode cX6_readTile 95 = .ok (.iload_n 2, 1) := by decide +kernel
theorem dX6_readTile_96 : decode cX6_readTile 96 = .ok (.invokestatic 102, 3) := by decide +kernel
theorem dX6_readTile_99 : decode cX6_readTile 99 = .ok (.ifCond .ne 16, 3) := by decide +kernel
theorem dX6_readTile_102 : decode cX6_readTile 102 = .ok (.aload_n 1, 1) := by decide +kernel
theorem dX6_readTile_103 : decode cX6_readTile 103 = .ok (.iload_n 2, 1) := by decide +kernel
theorem dX6_readTile_104 : decode cX6_readTile 104 = .ok (.iload_n 3, 1) := by decide +kernel
theorem dX6_readTile_105 : decode cX6_readTile 105 = .ok (.invokestatic 157, 3) := by decide +kernel
theorem dX6_readTile_108 : decode cX6_readTile 108 = .ok (.ifCond .ne 7, 3) := by decide +kernel
theorem dX6_readTile_111 : decode cX6_readTile 111 = .ok (.iconst 1, 1) := by decide +kernel
theorem dX6_readTile_112 : decode cX6_readTile 112 = .ok (.goto 4, 3) := by decide +kernel
theorem dX6_readTile_115 : decode cX6_readTile 115 = .ok (.iconst 0, 1) := by decide +kernel
theorem dX6_readTile_116 : decode cX6_readTile 116 = .ok (.invokevirtual 161, 3) := by decide +kernel
theorem dX6_readTile_119 : decode cX6_readTile 119 = .ok (.ireturn, 1) := by decide +kernel
theorem dX6_readCommand_0 : decode cX6_readCommand 0 = .ok (.aload_n 0, 1) := by decide +kernel
theorem dX6_readCommand_1 : decode cX6_readCommand 1 = .ok (.getfield 7, 3) := by decide +kernel
theorem dX6_readCommand_4 : decode cX6_readCommand 4 = .ok (.aload_n 0, 1) := by decide +kernel
theorem dX6_readCommand_5 : decode cX6_readCommand 5 = .ok (.getfield 145, 3) := by decide +kernel
theorem dX6_readCommand_8 : decode cX6_readCommand 8 = .ok (.iaload, 1) := by decide +kernel
theorem dX6_readCommand_9 : decode cX6_readCommand 9 = .ok (.istore_n 2, 1) := by decide +kernel
theorem dX6_readCommand_10 : decode cX6_readCommand 10 = .ok (.aload_n 0, 1) := by decide +kernel
theorem dX6_readCommand_11 : decode cX6_readCommand 11 = .ok (.dup, 1) := by decide +kernel
theorem dX6_readCommand_12 : decode cX6_readCommand 12 = .ok (.getfield 145, 3) := by decide +kernel
theorem dX6_readCommand_15 : decode cX6_readCommand 15 = .ok (.iconst 1, 1) := by decide +kernel
theorem dX6_readCommand_16 : decode cX6_readCommand 16 = .ok (.iadd, 1) := by decide +kernel
theorem dX6_readCommand_17 : decode cX6_readCommand 17 = .ok (.putfield 145, 3) := by decide +kernel
theorem dX6_readCommand_20 : decode cX6_readCommand 20 = .ok (.iload_n 2, 1) := by decide +kernel
theorem dX6_readCommand_21 : decode cX6_readCommand 21 = .ok (.lookupswitch 168 #[(98, 161), (100, 51), (112, 107), (115, 137), (119, 113)], 51) := by decide +kernel
theorem dX6_readCommand_72 : decode cX6_readCommand 72 = .ok (.aload_n 0, 1) := by decide +kernel
theorem dX6_readCommand_73 : decode cX6_readCommand 73 = .ok (.iconst 0, 1) := by decide +kernel
theorem dX6_readCommand_74 : decode cX6_readCommand 74 = .ok (.iconst 1, 1) := by decide +kernel
theorem dX6_readCommand_75 : decode cX6_readCommand 75 = .ok (.iconst 2, 1) := by decide +kernel
theorem dX6_readCommand_76 : decode cX6_readCommand 76 = .ok (.iconst 4, 1) := by decide +kernel
theorem dX6_readCommand_77 : decode cX6_readCommand 77 = .ok (.invokevirtual 153, 3) := by decide +kernel
theorem dX6_readCommand_80 : decode cX6_readCommand 80 = .ok (.istore_n 3, 1) := by decide +kernel
theorem dX6_readCommand_81 : decode cX6_readCommand 81 = .ok (.aload_n 0, 1) := by decide +kernel
theorem dX6_readCommand_82 : decode cX6_readCommand 82 = .ok (.iload_n 3, 1) := by decide +kernel
theorem dX6_readCommand_83 : decode cX6_readCommand 83 = .ok (.iconst 2, 1) := by decide +kernel
theorem dX6_readCommand_84 : decode cX6_readCommand 84 = .ok (.iconst 0, 1) := by decide +kernel
theorem dX6_readCommand_85 : decode cX6_readCommand 85 = .ok (.bipush 99, 2) := by decide +kernel
theorem dX6_readCommand_87 : decode cX6_readCommand 87 = .ok (.invokevirtual 153, 3) := by decide +kernel
theorem dX6_readCommand_90 : decode cX6_readCommand 90 = .ok (.istore 4, 2) := by decide +kernel
theorem dX6_readCommand_92 : decode cX6_readCommand 92 = .ok (.iload 4, 2) := by decide +kernel
theorem dX6_readCommand_94 : decode cX6_readCommand 94 = .ok (.iconst (-1), 1) := by decide +kernel
theorem dX6_readCommand_95 : decode cX6_readCommand 95 = .ok (.if_icmp .eq 31, 3) := by decide +kernel
theorem dX6_readCommand_98 : decode cX6_readCommand 98 = .ok (.aload_n 0, 1) := by decide +kernel
theorem dX6_readCommand_99 : decode cX6_readCommand 99 = .ok (.aload_n 0, 1) := by decide +kernel
theorem dX6_readCommand_100 : decode cX6_readCommand 100 = .ok (.aload_n 1, 1) := by decide +kernel
theorem dX6_readCommand_101 : decode cX6_readCommand 101 = .ok (.iload_n 3, 1) := by decide +kernel
theorem dX6_readCommand_102 : decode cX6_readCommand 102 = .ok (.iload 4, 2) := by decide +kernel
theorem dX6_readCommand_104 : decode cX6_readCommand 104 = .ok (.i2l, 1) := by decide +kernel
theorem dX6_readCommand_105 : decode cX6_readCommand 105 = .ok (.invokevirtual 165, 3) := by decide +kernel
theorem dX6_readCommand_108 : decode cX6_readCommand 108 = .ok (.ifCond .le 7, 3) := by decide +kernel
theorem dX6_readCommand_111 : decode cX6_readCommand 111 = .ok (.iconst 1, 1) := by decide +kernel
theorem dX6_readCommand_112 : decode cX6_readCommand 112 = .ok (.goto 4, 3) := by decide +kernel
theorem dX6_readCommand_115 : decode cX6_readCommand 115 = .ok (.iconst 0, 1) := by decide +kernel
theorem dX6_readCommand_116 : decode cX6_readCommand 116 = .ok (.invokevirtual 161, 3) := by decide +kernel
theorem dX6_readCommand_119 : decode cX6_readCommand 119 = .ok (.ifCond .eq 7, 3) := by decide +kernel
theorem dX6_readCommand_122 : decode cX6_readCommand 122 = .ok (.iconst 1, 1) := by decide +kernel
theorem dX6_readCommand_123 : decode cX6_readCommand 123 = .ok (.goto 4, 3) := by decide +kernel
theorem dX6_readCommand_126 : decode cX6_readCommand 126 = .ok (.iconst 0, 1) := by decide +kernel
theorem dX6_readCommand_127 : decode cX6_readCommand 127 = .ok (.ireturn, 1) := by decide +kernel
theorem dX6_readCommand_128 : decode cX6_readCommand 128 = .ok (.aload_n 0, 1) := by decide +kernel
theorem dX6_readCommand_129 : decode cX6_readCommand 129 = .ok (.aload_n 1, 1) := by decide +kernel
theorem dX6_readCommand_130 : decode cX6_readCommand 130 = .ok (.invokevirtual 169, 3) := by decide +kernel
theorem dX6_readCommand_133 : decode cX6_readCommand 133 = .ok (.ireturn, 1) := by decide +kernel
theorem dX6_readCommand_134 : decode cX6_readCommand 134 = .ok (.aload_n 0, 1) := by decide +kernel
theorem dX6_readCommand_135 : decode cX6_readCommand 135 = .ok (.aload_n 1, 1) := by decide +kernel
theorem dX6_readCommand_136 : decode cX6_readCommand 136 = .ok (.invokestatic 173, 3) := by decide +kernel
theorem dX6_readCommand_139 : decode cX6_readCommand 139 = .ok (.ifCond .eq 14, 3) := by decide +kernel
theorem dX6_readCommand_142 : decode cX6_readCommand 142 = .ok (.aload_n 1, 1) := by decide +kernel
theorem dX6_readCommand_143 : decode cX6_readCommand 143 = .ok (.invokestatic 176, 3) := by decide +kernel
theorem dX6_readCommand_146 : decode cX6_readCommand 146 = .ok (.ifCond .lt 7, 3) := by decide +kernel
theorem dX6_readCommand_149 : decode cX6_readCommand 149 = .ok (.iconst 1, 1) := by decide +kernel
theorem dX6_readCommand_150 : decode cX6_readCommand 150 = .ok (.goto 4, 3) := by decide +kernel
theorem dX6_readCommand_153 : decode cX6_readCommand 153 = .ok (.iconst 0, 1) := by decide +kernel
theorem dX6_readCommand_154 : decode cX6_readCommand 154 = .ok (.invokevirtual 161, 3) := by decide +kernel
theorem dX6_readCommand_157 : decode cX6_readCommand 157 = .ok (.ireturn, 1) := by decide +kernel
theorem dX6_readCommand_158 : decode cX6_readCommand 158 = .ok (.aload_n 0, 1) := by decide +kernel
theorem dX6_readCommand_159 : decode cX6_readCommand 159 = .ok (.aload_n 1, 1) := by decide +kernel
theorem dX6_readCommand_160 : decode cX6_readCommand 160 = .ok (.invokestatic 179, 3) := by decide +kernel
theorem dX6_readCommand_163 : decode cX6_readCommand 163 = .ok (.ifCond .eq 14, 3) := by decide +kernel
theorem dX6_readCommand_166 : decode cX6_readCommand 166 = .ok (.aload_n 1, 1) := by decide +kernel
theorem dX6_readCommand_167 : decode cX6_readCommand 167 = .ok (.invokestatic 182, 3) := by decide +kernel
theorem dX6_readCommand_170 : decode cX6_readCommand 170 = .ok (.ifCond .le 7, 3) := by decide +kernel
theorem dX6_readCommand_173 : decode cX6_readCommand 173 = .ok (.iconst 1, 1) := by decide +kernel
theorem dX6_readCommand_174 : decode cX6_readCommand 174 = .ok (.goto 4, 3) := by decide +kernel
theorem dX6_readCommand_177 : decode cX6_readCommand 177 = .ok (.iconst 0, 1) := by decide +kernel
theorem dX6_readCommand_178 : decode cX6_readCommand 178 = .ok (.invokevirtual 161, 3) := by decide +kernel
theorem dX6_readCommand_181 : decode cX6_readCommand 181 = .ok (.ireturn, 1) := by decide +kernel
theorem dX6_readCommand_182 : decode cX6_readCommand 182 = .ok (.aload_n 1, 1) := by decide +kernel
theorem dX6_readCommand_183 : decode cX6_readCommand 183 = .ok (.invokestatic 185, 3) := by decide +kernel
theorem dX6_readCommand_186 : decode cX6_readCommand 186 = .ok (.pop, 1) := by decide +kernel
theorem dX6_readCommand_187 : decode cX6_readCommand 187 = .ok (.iconst 1, 1) := by decide +kernel
theorem dX6_readCommand_188 : decode cX6_readCommand 188 = .ok (.ireturn, 1) := by decide +kernel
theorem dX6_readCommand_189 : decode cX6_readCommand 189 = .ok (.aload_n 0, 1) := by decide +kernel
theorem dX6_readCommand_190 : decode cX6_readCommand 190 = .ok (.dup, 1) := by decide +kernel
theorem dX6_readCommand_191 : decode cX6_readCommand 191 = .ok (.getfield 145, 3) := by decide +kernel
theorem dX6_readCommand_194 : decode cX6_readCommand 194 = .ok (.iconst 1, 1) := by decide +kernel
theorem dX6_readCommand_195 : decode cX6_readCommand 195 = .ok (.isub, 1) := by decide +kernel
theorem dX6_readCommand_196 : decode cX6_readCommand 196 = .ok (.putfield 145, 3) := by decide +kernel
theorem dX6_readCommand_199 : decode cX6_readCommand 199 = .ok (.iconst 0, 1) := by decide +kernel
theorem dX6_readCommand_200 : decode cX6_readCommand 200 = .ok (.ireturn, 1) := by decide +kernel
theorem dX6_readText_0 : decode cX6_readText 0 = .ok (.aload_n 1, 1) := by decide +kernel
theorem dX6_readText_1 : decode cX6_readText 1 = .ok (.invokestatic 38, 3) := by decide +kernel
theorem dX6_readText_4 : decode cX6_readText 4 = .ok (.aload_n 0, 1) := by decide +kernel
theorem dX6_readText_5 : decode cX6_readText 5 = .ok (.iconst 0, 1) := by decide +kernel
theorem dX6_readText_6 : decode cX6_readText 6 = .ok (.putfield 150, 3) := by decide +kernel
theorem dX6_readText_9 : decode cX6_readText 9 = .ok (.aload_n 0, 1) := by decide +kernel
theorem dX6_readText_10 : decode cX6_readText 10 = .ok (.iconst 0, 1) := by decide +kernel
theorem dX6_readText_11 : decode cX6_readText 11 = .ok (.putfield 145, 3) := by decide +kernel
theorem dX6_readText_14 : decode cX6_readText 14 = .ok (.aload_n 0, 1) := by decide +kernel
theorem dX6_readText_15 : decode cX6_readText 15 = .ok (.getfield 138, 3) := by decide +kernel
theorem dX6_readText_18 : decode cX6_readText 18 = .ok (.ifCond .eq 14, 3) := by decide +kernel
theorem dX6_readText_21 : decode cX6_readText 21 = .ok (.aload_n 0, 1) := by decide +kernel
theorem dX6_readText_22 : decode cX6_readText 22 = .ok (.getfield 7, 3) := by decide +kernel
theorem dX6_readText_25 : decode cX6_readText 25 = .ok (.iconst 0, 1) := by decide +kernel
theorem dX6_readText_26 : decode cX6_readText 26 = .ok (.iaload, 1) := by decide +kernel
theorem dX6_readText_27 : decode cX6_readText 27 = .ok (.bipush 78, 2) := by decide +kernel
theorem dX6_readText_29 : decode cX6_readText 29 = .ok (.if_icmp .eq 5, 3) := by decide +kernel
theorem dX6_readText_32 : decode cX6_readText 32 = .ok (.iconst 0, 1) := by decide +kernel
theorem dX6_readText_33 : decode cX6_readText 33 = .ok (.ireturn, 1) := by decide +kernel
theorem dX6_readText_34 : decode cX6_readText 34 = .ok (.aload_n 0, 1) := by decide +kernel
theorem dX6_readText_35 : decode cX6_readText 35 = .ok (.iconst 1, 1) := by decide +kernel
theorem dX6_readText_36 : decode cX6_readText 36 = .ok (.putfield 145, 3) := by decide +kernel
theorem dX6_readText_39 : decode cX6_readText 39 = .ok (.aload_n 0, 1) := by decide +kernel
theorem dX6_readText_40 : decode cX6_readText 40 = .ok (.getfield 145, 3) := by decide +kernel
theorem dX6_readText_43 : decode cX6_readText 43 = .ok (.aload_n 0, 1) := by decide +kernel
theorem dX6_readText_44 : decode cX6_readText 44 = .ok (.getfield 138, 3) := by decide +kernel
theorem dX6_readText_47 : decode cX6_readText 47 = .ok (.if_icmp .ge 16, 3) := by decide +kernel
theorem dX6_readText_50 : decode cX6_readText 50 = .ok (.aload_n 0, 1) := by decide +kernel
theorem dX6_readText_51 : decode cX6_readText 51 = .ok (.aload_n 1, 1) := by decide +kernel
theorem dX6_readText_52 : decode cX6_readText 52 = .ok (.invokevirtual 188, 3) := by decide +kernel
theorem dX6_readText_55 : decode cX6_readText 55 = .ok (.ifCond .ne (-16), 3) := by decide +kernel
theorem dX6_readText_58 : decode cX6_readText 58 = .ok (.aload_n 0, 1) := by decide +kernel
theorem dX6_readText_59 : decode cX6_readText 59 = .ok (.getfield 145, 3) := by decide +kernel
theorem dX6_readText_62 : decode cX6_readText 62 = .ok (.ireturn, 1) := by decide +kernel
theorem dX6_readText_63 : decode cX6_readText 63 = .ok (.iconst (-1), 1) := by decide +kernel
theorem dX6_readText_64 : decode cX6_readText 64 = .ok (.ireturn, 1) := by decide +kernel
theorem dX6_errorPosition_0 : decode cX6_errorPosition 0 = .ok (.aload_n 0, 1) := by decide +kernel
theorem dX6_errorPosition_1 : decode cX6_errorPosition 1 = .ok (.iconst 0, 1) := by decide +kernel
theorem dX6_errorPosition_2 : decode cX6_errorPosition 2 = .ok (.putfield 42, 3) := by decide +kernel
theorem dX6_errorPosition_5 : decode cX6_errorPosition 5 = .ok (.aload_n 0, 1) := by decide +kernel
theorem dX6_errorPosition_6 : decode cX6_errorPosition 6 = .ok (.aload_n 0, 1) := by decide +kernel
theorem dX6_errorPosition_7 : decode cX6_errorPosition 7 = .ok (.getfield 16, 3) := by decide +kernel
theorem dX6_errorPosition_10 : decode cX6_errorPosition 10 = .ok (.invokevirtual 191, 3) := by decide +kernel
theorem dX6_errorPosition_13 : decode cX6_errorPosition 13 = .ok (.ireturn, 1) := by decide +kernel
theorem dX6_load_0 : decode cX6_load 0 = .ok (.aload_n 0, 1) := by decide +kernel
theorem dX6_load_1 : decode cX6_load 1 = .ok (.aload_n 0, 1) := by decide +kernel
theorem dX6_load_2 : decode cX6_load 2 = .ok (.aload_n 0, 1) := by decide +kernel
theorem dX6_load_3 : decode cX6_load 3 = .ok (.getfield 16, 3) := by decide +kernel
theorem dX6_load_6 : decode cX6_load 6 = .ok (.invokevirtual 191, 3) := by decide +kernel
theorem dX6_load_9 : decode cX6_load 9 = .ok (.iconst (-1), 1) := by decide +kernel
theorem dX6_load_10 : decode cX6_load 10 = .ok (.if_icmp .ne 7, 3) := by decide +kernel
theorem dX6_load_13 : decode cX6_load 13 = .ok (.iconst 0, 1) := by decide +kernel
theorem dX6_load_14 : decode cX6_load 14 = .ok (.goto 4, 3) := by decide +kernel
theorem dX6_load_17 : decode cX6_load 17 = .ok (.iconst 1, 1) := by decide +kernel
theorem dX6_load_18 : decode cX6_load 18 = .ok (.invokevirtual 141, 3) := by decide +kernel
theorem dX6_load_21 : decode cX6_load 21 = .ok (.ifCond .eq 5, 3) := by decide +kernel
theorem dX6_load_24 : decode cX6_load 24 = .ok (.iconst 0, 1) := by decide +kernel
theorem dX6_load_25 : decode cX6_load 25 = .ok (.ireturn, 1) := by decide +kernel
theorem dX6_load_26 : decode cX6_load 26 = .ok (.aload_n 0, 1) := by decide +kernel
theorem dX6_load_27 : decode cX6_load 27 = .ok (.getfield 16, 3) := by decide +kernel
theorem dX6_load_30 : decode cX6_load 30 = .ok (.iconst 0, 1) := by decide +kernel
theorem dX6_load_31 : decode cX6_load 31 = .ok (.aload_n 0, 1) := by decide +kernel
theorem dX6_load_32 : decode cX6_load 32 = .ok (.getfield 13, 3) := by decide +kernel
theorem dX6_load_35 : decode cX6_load 35 = .ok (.iconst 0, 1) := by decide +kernel
theorem dX6_load_36 : decode cX6_load 36 = .ok (.invokestatic 194, 3) := by decide +kernel
theorem dX6_load_39 : decode cX6_load 39 = .ok (.aload_n 0, 1) := by decide +kernel
theorem dX6_load_40 : decode cX6_load 40 = .ok (.iconst 0, 1) := by decide +kernel
theorem dX6_load_41 : decode cX6_load 41 = .ok (.putfield 198, 3) := by decide +kernel
theorem dX6_load_44 : decode cX6_load 44 = .ok (.aload_n 0, 1) := by decide +kernel
theorem dX6_load_45 : decode cX6_load 45 = .ok (.getfield 25, 3) := by decide +kernel
theorem dX6_load_48 : decode cX6_load 48 = .ok (.iconst 0, 1) := by decide +kernel
theorem dX6_load_49 : decode cX6_load 49 = .ok (.iconst 0, 1) := by decide +kernel
theorem dX6_load_50 : decode cX6_load 50 = .ok (.bastore, 1) := by decide +kernel
theorem dX6_load_51 : decode cX6_load 51 = .ok (.aload_n 0, 1) := by decide +kernel
theorem dX6_load_52 : decode cX6_load 52 = .ok (.getfield 25, 3) := by decide +kernel
theorem dX6_load_55 : decode cX6_load 55 = .ok (.iconst 1, 1) := by decide +kernel
theorem dX6_load_56 : decode cX6_load 56 = .ok (.iconst 0, 1) := by decide +kernel
theorem dX6_load_57 : decode cX6_load 57 = .ok (.bastore, 1) := by decide +kernel
theorem dX6_load_58 : decode cX6_load 58 = .ok (.aload_n 0, 1) := by decide +kernel
theorem dX6_load_59 : decode cX6_load 59 = .ok (.getfield 150, 3) := by decide +kernel
theorem dX6_load_62 : decode cX6_load 62 = .ok (.ireturn, 1) := by decide +kernel
theorem dX6_tablePips_0 : decode cX6_tablePips 0 = .ok (.iconst 0, 1) := by decide +kernel
theorem dX6_tablePips_1 : decode cX6_tablePips 1 = .ok (.istore_n 1, 1) := by decide +kernel
theorem dX6_tablePips_2 : decode cX6_tablePips 2 = .ok (.iconst 0, 1) := by decide +kernel
theorem dX6_tablePips_3 : decode cX6_tablePips 3 = .ok (.istore_n 2, 1) := by decide +kernel
theorem dX6_tablePips_4 : decode cX6_tablePips 4 = .ok (.iload_n 2, 1) := by decide +kernel
theorem dX6_tablePips_5 : decode cX6_tablePips 5 = .ok (.aload_n 0, 1) := by decide +kernel
theorem dX6_tablePips_6 : decode cX6_tablePips 6 = .ok (.iconst 5, 1) := by decide +kernel
theorem dX6_tablePips_7 : decode cX6_tablePips 7 = .ok (.iaload, 1) := by decide +kernel
theorem dX6_tablePips_8 : decode cX6_tablePips 8 = .ok (.if_icmp .ge 21, 3) := by decide +kernel
theorem dX6_tablePips_11 : decode cX6_tablePips 11 = .ok (.iload_n 1, 1) := by decide +kernel
theorem dX6_tablePips_12 : decode cX6_tablePips 12 = .ok (.aload_n 0, 1) := by decide +kernel
theorem dX6_tablePips_13 : decode cX6_tablePips 13 = .ok (.iload_n 2, 1) := by decide +kernel
theorem dX6_tablePips_14 : decode cX6_tablePips 14 = .ok (.iconst 0, 1) := by decide +kernel
theorem dX6_tablePips_15 : decode cX6_tablePips 15 = .ok (.invokestatic 62, 3) := by decide +kernel
theorem dX6_tablePips_18 : decode cX6_tablePips 18 = .ok (.invokestatic 59, 3) := by decide +kernel
theorem dX6_tablePips_21 : decode cX6_tablePips 21 = .ok (.iadd, 1) := by decide +kernel
theorem dX6_tablePips_22 : decode cX6_tablePips 22 = .ok (.istore_n 1, 1) := by decide +kernel
theorem dX6_tablePips_23 : decode cX6_tablePips 23 = .ok (.iinc 2 1, 3) := by decide +kernel
theorem dX6_tablePips_26 : decode cX6_tablePips 26 = .ok (.goto (-22), 3) := by decide +kernel
theorem dX6_tablePips_29 : decode cX6_tablePips 29 = .ok (.iload_n 1, 1) := by decide +kernel
theorem dX6_tablePips_30 : decode cX6_tablePips 30 = .ok (.ireturn, 1) := by decide +kernel
theorem dX6_about_0 : decode cX6_about 0 = .ok (.aload_n 0, 1) := by decide +kernel
theorem dX6_about_1 : decode cX6_about 1 = .ok (.iload_n 1, 1) := by decide +kernel
theorem dX6_about_2 : decode cX6_about 2 = .ok (.i2l, 1) := by decide +kernel
theorem dX6_about_3 : decode cX6_about 3 = .ok (.lconst 0, 1) := by decide +kernel
theorem dX6_about_4 : decode cX6_about 4 = .ok (.ldc2_w 201, 3) := by decide +kernel
theorem dX6_about_7 : decode cX6_about 7 = .ok (.invokestatic 55, 3) := by decide +kernel
theorem dX6_about_10 : decode cX6_about 10 = .ok (.ifCond .eq 7, 3) := by decide +kernel
theorem dX6_about_13 : decode cX6_about 13 = .ok (.iconst 0, 1) := by decide +kernel
theorem dX6_about_14 : decode cX6_about 14 = .ok (.goto 4, 3) := by decide +kernel
theorem dX6_about_17 : decode cX6_about 17 = .ok (.iconst 1, 1) := by decide +kernel
theorem dX6_about_18 : decode cX6_about 18 = .ok (.invokevirtual 141, 3) := by decide +kernel
theorem dX6_about_21 : decode cX6_about 21 = .ok (.ifCond .eq 5, 3) := by decide +kernel
theorem dX6_about_24 : decode cX6_about 24 = .ok (.iconst 0, 1) := by decide +kernel
theorem dX6_about_25 : decode cX6_about 25 = .ok (.ireturn, 1) := by decide +kernel
theorem dX6_about_26 : decode cX6_about 26 = .ok (.iload_n 1, 1) := by decide +kernel
theorem dX6_about_27 : decode cX6_about 27 = .ok (.tableswitch 87 3 11 #[49, 87, 87, 87, 87, 87, 70, 78, 78], 49) := by decide +kernel
theorem dX6_about_76 : decode cX6_about 76 = .ok (.aload_n 0, 1) := by decide +kernel
theorem dX6_about_77 : decode cX6_about 77 = .ok (.getfield 13, 3) := by decide +kernel
theorem dX6_about_80 : decode cX6_about 80 = .ok (.iconst 1, 1) := by decide +kernel
theorem dX6_about_81 : decode cX6_about 81 = .ok (.iaload, 1) := by decide +kernel
theorem dX6_about_82 : decode cX6_about 82 = .ok (.iconst 1, 1) := by decide +kernel
theorem dX6_about_83 : decode cX6_about 83 = .ok (.if_icmp .ne 12, 3) := by decide +kernel
theorem dX6_about_86 : decode cX6_about 86 = .ok (.aload_n 0, 1) := by decide +kernel
theorem dX6_about_87 : decode cX6_about 87 = .ok (.getfield 13, 3) := by decide +kernel
theorem dX6_about_90 : decode cX6_about 90 = .ok (.iconst 3, 1) := by decide +kernel
theorem dX6_about_91 : decode cX6_about 91 = .ok (.iaload, 1) := by decide +kernel
theorem dX6_about_92 : decode cX6_about 92 = .ok (.goto 4, 3) := by decide +kernel
theorem dX6_about_95 : decode cX6_about 95 = .ok (.iconst (-1), 1) := by decide +kernel
theorem dX6_about_96 : decode cX6_about 96 = .ok (.ireturn, 1) := by decide +kernel
theorem dX6_about_97 : decode cX6_about 97 = .ok (.aload_n 0, 1) := by decide +kernel
theorem dX6_about_98 : decode cX6_about 98 = .ok (.getfield 13, 3) := by decide +kernel
theorem dX6_about_101 : decode cX6_about 101 = .ok (.invokestatic 203, 3) := by decide +kernel
theorem dX6_about_104 : decode cX6_about 104 = .ok (.ireturn, 1) := by decide +kernel
theorem dX6_about_105 : decode cX6_about 105 = .ok (.aload_n 0, 1) := by decide +kernel
theorem dX6_about_106 : decode cX6_about 106 = .ok (.getfield 13, 3) := by decide +kernel
theorem dX6_about_109 : decode cX6_about 109 = .ok (.iload_n 1, 1) := by decide +kernel
theorem dX6_about_110 : decode cX6_about 110 = .ok (.iconst 1, 1) := by decide +kernel
theorem dX6_about_111 : decode cX6_about 111 = .ok (.isub, 1) := by decide +kernel
theorem dX6_about_112 : decode cX6_about 112 = .ok (.iaload, 1) := by decide +kernel
theorem dX6_about_113 : decode cX6_about 113 = .ok (.ireturn, 1) := by decide +kernel
theorem dX6_about_114 : decode cX6_about 114 = .ok (.aload_n 0, 1) := by decide +kernel
theorem dX6_about_115 : decode cX6_about 115 = .ok (.getfield 13, 3) := by decide +kernel
theorem dX6_about_118 : decode cX6_about 118 = .ok (.iload_n 1, 1) := by decide +kernel
theorem dX6_about_119 : decode cX6_about 119 = .ok (.iaload, 1) := by decide +kernel
theorem dX6_about_120 : decode cX6_about 120 = .ok (.ireturn, 1) := by decide +kernel
theorem dX6_placeOf_0 : decode cX6_placeOf 0 = .ok (.iconst 0, 1) := by decide +kernel
theorem dX6_placeOf_1 : decode cX6_placeOf 1 = .ok (.istore_n 2, 1) := by decide +kernel
theorem dX6_placeOf_2 : decode cX6_placeOf 2 = .ok (.iload_n 2, 1) := by decide +kernel
theorem dX6_placeOf_3 : decode cX6_placeOf 3 = .ok (.aload_n 0, 1) := by decide +kernel
theorem dX6_placeOf_4 : decode cX6_placeOf 4 = .ok (.iconst 5, 1) := by decide +kernel
theorem dX6_placeOf_5 : decode cX6_placeOf 5 = .ok (.iaload, 1) := by decide +kernel
theorem dX6_placeOf_6 : decode cX6_placeOf 6 = .ok (.if_icmp .ge 21, 3) := by decide +kernel
theorem dX6_placeOf_9 : decode cX6_placeOf 9 = .ok (.aload_n 0, 1) := by decide +kernel
theorem dX6_placeOf_10 : decode cX6_placeOf 10 = .ok (.iload_n 2, 1) := by decide +kernel
theorem dX6_placeOf_11 : decode cX6_placeOf 11 = .ok (.iconst 0, 1) := by decide +kernel
theorem dX6_placeOf_12 : decode cX6_placeOf 12 = .ok (.invokestatic 62, 3) := by decide +kernel
theorem dX6_placeOf_15 : decode cX6_placeOf 15 = .ok (.iload_n 1, 1) := by decide +kernel
theorem dX6_placeOf_16 : decode cX6_placeOf 16 = .ok (.if_icmp .ne 5, 3) := by decide +kernel
theorem dX6_placeOf_19 : decode cX6_placeOf 19 = .ok (.iload_n 2, 1) := by decide +kernel
theorem dX6_placeOf_20 : decode cX6_placeOf 20 = .ok (.ireturn, 1) := by decide +kernel
theorem dX6_placeOf_21 : decode cX6_placeOf 21 = .ok (.iinc 2 1, 3) := by decide +kernel
theorem dX6_placeOf_24 : decode cX6_placeOf 24 = .ok (.goto (-22), 3) := by decide +kernel
theorem dX6_placeOf_27 : decode cX6_placeOf 27 = .ok (.iconst (-1), 1) := by decide +kernel
theorem dX6_placeOf_28 : decode cX6_placeOf 28 = .ok (.ireturn, 1) := by decide +kernel
theorem dX6_inHeap_0 : decode cX6_inHeap 0 = .ok (.iconst 0, 1) := by decide +kernel
theorem dX6_inHeap_1 : decode cX6_inHeap 1 = .ok (.istore_n 2, 1) := by decide +kernel
theorem dX6_inHeap_2 : decode cX6_inHeap 2 = .ok (.iload_n 2, 1) := by decide +kernel
theorem dX6_inHeap_3 : decode cX6_inHeap 3 = .ok (.aload_n 0, 1) := by decide +kernel
theorem dX6_inHeap_4 : decode cX6_inHeap 4 = .ok (.iconst 4, 1) := by decide +kernel
theorem dX6_inHeap_5 : decode cX6_inHeap 5 = .ok (.iaload, 1) := by decide +kernel
theorem dX6_inHeap_6 : decode cX6_inHeap 6 = .ok (.if_icmp .ge 21, 3) := by decide +kernel
theorem dX6_inHeap_9 : decode cX6_inHeap 9 = .ok (.aload_n 0, 1) := by decide +kernel
theorem dX6_inHeap_10 : decode cX6_inHeap 10 = .ok (.bipush 49, 2) := by decide +kernel
theorem dX6_inHeap_12 : decode cX6_inHeap 12 = .ok (.iload_n 2, 1) := by decide +kernel
theorem dX6_inHeap_13 : decode cX6_inHeap 13 = .ok (.iadd, 1) := by decide +kernel
theorem dX6_inHeap_14 : decode cX6_inHeap 14 = .ok (.iaload, 1) := by decide +kernel
theorem dX6_inHeap_15 : decode cX6_inHeap 15 = .ok (.iload_n 1, 1) := by decide +kernel
theorem dX6_inHeap_16 : decode cX6_inHeap 16 = .ok (.if_icmp .ne 5, 3) := by decide +kernel
theorem dX6_inHeap_19 : decode cX6_inHeap 19 = .ok (.iload_n 2, 1) := by decide +kernel
theorem dX6_inHeap_20 : decode cX6_inHeap 20 = .ok (.ireturn, 1) := by decide +kernel
theorem dX6_inHeap_21 : decode cX6_inHeap 21 = .ok (.iinc 2 1, 3) := by decide +kernel
theorem dX6_inHeap_24 : decode cX6_inHeap 24 = .ok (.goto (-22), 3) := by decide +kernel
theorem dX6_inHeap_27 : decode cX6_inHeap 27 = .ok (.iconst (-1), 1) := by decide +kernel
theorem dX6_inHeap_28 : decode cX6_inHeap 28 = .ok (.ireturn, 1) := by decide +kernel
theorem dX6_tileOf_0 : decode cX6_tileOf 0 = .ok (.aload_n 0, 1) := by decide +kernel
theorem dX6_tileOf_1 : decode cX6_tileOf 1 = .ok (.iload_n 1, 1) := by decide +kernel
theorem dX6_tileOf_2 : decode cX6_tileOf 2 = .ok (.invokestatic 206, 3) := by decide +kernel
theorem dX6_tileOf_5 : decode cX6_tileOf 5 = .ok (.ifCond .ne 7, 3) := by decide +kernel
theorem dX6_tileOf_8 : decode cX6_tileOf 8 = .ok (.iconst 1, 1) := by decide +kernel
theorem dX6_tileOf_9 : decode cX6_tileOf 9 = .ok (.goto 20, 3) := by decide +kernel
theorem dX6_tileOf_12 : decode cX6_tileOf 12 = .ok (.iload_n 2, 1) := by decide +kernel
theorem dX6_tileOf_13 : decode cX6_tileOf 13 = .ok (.i2l, 1) := by decide +kernel
theorem dX6_tileOf_14 : decode cX6_tileOf 14 = .ok (.lconst 0, 1) := by decide +kernel
theorem dX6_tileOf_15 : decode cX6_tileOf 15 = .ok (.ldc2_w 209, 3) := by decide +kernel
theorem dX6_tileOf_18 : decode cX6_tileOf 18 = .ok (.invokestatic 55, 3) := by decide +kernel
theorem dX6_tileOf_21 : decode cX6_tileOf 21 = .ok (.ifCond .eq 7, 3) := by decide +kernel
theorem dX6_tileOf_24 : decode cX6_tileOf 24 = .ok (.iconst 0, 1) := by decide +kernel
theorem dX6_tileOf_25 : decode cX6_tileOf 25 = .ok (.goto 4, 3) := by decide +kernel
theorem dX6_tileOf_28 : decode cX6_tileOf 28 = .ok (.iconst 2, 1) := by decide +kernel
theorem dX6_tileOf_29 : decode cX6_tileOf 29 = .ok (.invokevirtual 141, 3) := by decide +kernel
theorem dX6_tileOf_32 : decode cX6_tileOf 32 = .ok (.ifCond .eq 5, 3) := by decide +kernel
theorem dX6_tileOf_35 : decode cX6_tileOf 35 = .ok (.iconst 0, 1) := by decide +kernel
theorem dX6_tileOf_36 : decode cX6_tileOf 36 = .ok (.ireturn, 1) := by decide +kernel
theorem dX6_tileOf_37 : decode cX6_tileOf 37 = .ok (.iload_n 2, 1) := by decide +kernel
theorem dX6_tileOf_38 : decode cX6_tileOf 38 = .ok (.ifCond .ne 10, 3) := by decide +kernel
theorem dX6_tileOf_41 : decode cX6_tileOf 41 = .ok (.iload_n 1, 1) := by decide +kernel
theorem dX6_tileOf_42 : decode cX6_tileOf 42 = .ok (.invokestatic 46, 3) := by decide +kernel
theorem dX6_tileOf_45 : decode cX6_tileOf 45 = .ok (.goto 56, 3) := by decide +kernel
theorem dX6_tileOf_48 : decode cX6_tileOf 48 = .ok (.iload_n 2, 1) := by decide +kernel
theorem dX6_tileOf_49 : decode cX6_tileOf 49 = .ok (.iconst 1, 1) := by decide +kernel
theorem dX6_tileOf_50 : decode cX6_tileOf 50 = .ok (.if_icmp .ne 10, 3) := by decide +kernel
theorem dX6_tileOf_53 : decode cX6_tileOf 53 = .ok (.iload_n 1, 1) := by decide +kernel
theorem dX6_tileOf_54 : decode cX6_tileOf 54 = .ok (.invokestatic 50, 3) := by decide +kernel
theorem dX6_tileOf_57 : decode cX6_tileOf 57 = .ok (.goto 44, 3) := by decide +kernel
theorem dX6_tileOf_60 : decode cX6_tileOf 60 = .ok (.iload_n 2, 1) := by decide +kernel
theorem dX6_tileOf_61 : decode cX6_tileOf 61 = .ok (.iconst 2, 1) := by decide +kernel
theorem dX6_tileOf_62 : decode cX6_tileOf 62 = .ok (.if_icmp .ne 15, 3) := by decide +kernel
theorem dX6_tileOf_65 : decode cX6_tileOf 65 = .ok (.aload_n 0, 1) := by decide +kernel
theorem dX6_tileOf_66 : decode cX6_tileOf 66 = .ok (.getfield 13, 3) := by decide +kernel
theorem dX6_tileOf_69 : decode cX6_tileOf 69 = .ok (.bipush 21, 2) := by decide +kernel
theorem dX6_tileOf_71 : decode cX6_tileOf 71 = .ok (.iload_n 1, 1) := by decide +kernel
theorem dX6_tileOf_72 : decode cX6_tileOf 72 = .ok (.iadd, 1) := by decide +kernel
theorem dX6_tileOf_73 : decode cX6_tileOf 73 = .ok (.iaload, 1) := by decide +kernel
theorem dX6_tileOf_74 : decode cX6_tileOf 74 = .ok (.goto 27, 3) := by decide +kernel
theorem dX6_tileOf_77 : decode cX6_tileOf 77 = .ok (.iload_n 2, 1) := by decide +kernel
theorem dX6_tileOf_78 : decode cX6_tileOf 78 = .ok (.iconst 3, 1) := by decide +kernel
theorem dX6_tileOf_79 : decode cX6_tileOf 79 = .ok (.if_icmp .ne 14, 3) := by decide +kernel
theorem dX6_tileOf_82 : decode cX6_tileOf 82 = .ok (.aload_n 0, 1) := by decide +kernel
theorem dX6_tileOf_83 : decode cX6_tileOf 83 = .ok (.getfield 13, 3) := by decide +kernel
theorem dX6_tileOf_86 : decode cX6_tileOf 86 = .ok (.iload_n 1, 1) := by decide +kernel
theorem dX6_tileOf_87 : decode cX6_tileOf 87 = .ok (.invokestatic 211, 3) := by decide +kernel
theorem dX6_tileOf_90 : decode cX6_tileOf 90 = .ok (.goto 11, 3) := by decide +kernel
theorem dX6_tileOf_93 : decode cX6_tileOf 93 = .ok (.aload_n 0, 1) := by decide +kernel
theorem dX6_tileOf_94 : decode cX6_tileOf 94 = .ok (.getfield 13, 3) := by decide +kernel
theorem dX6_tileOf_97 : decode cX6_tileOf 97 = .ok (.iload_n 1, 1) := by decide +kernel
theorem dX6_tileOf_98 : decode cX6_tileOf 98 = .ok (.invokestatic 214, 3) := by decide +kernel
theorem dX6_tileOf_101 : decode cX6_tileOf 101 = .ok (.ireturn, 1) := by decide +kernel
theorem dX6_laid_0 : decode cX6_laid 0 = .ok (.aload_n 0, 1) := by decide +kernel
theorem dX6_laid_1 : decode cX6_laid 1 = .ok (.iload_n 1, 1) := by decide +kernel
theorem dX6_laid_2 : decode cX6_laid 2 = .ok (.i2l, 1) := by decide +kernel
theorem dX6_laid_3 : decode cX6_laid 3 = .ok (.lconst 0, 1) := by decide +kernel
theorem dX6_laid_4 : decode cX6_laid 4 = .ok (.aload_n 0, 1) := by decide +kernel
theorem dX6_laid_5 : decode cX6_laid 5 = .ok (.getfield 13, 3) := by decide +kernel
theorem dX6_laid_8 : decode cX6_laid 8 = .ok (.iconst 5, 1) := by decide +kernel
theorem dX6_laid_9 : decode cX6_laid 9 = .ok (.iaload, 1) := by decide +kernel
theorem dX6_laid_10 : decode cX6_laid 10 = .ok (.iconst 1, 1) := by decide +kernel
theorem dX6_laid_11 : decode cX6_laid 11 = .ok (.isub, 1) := by decide +kernel
theorem dX6_laid_12 : decode cX6_laid 12 = .ok (.i2l, 1) := by decide +kernel
theorem dX6_laid_13 : decode cX6_laid 13 = .ok (.invokestatic 55, 3) := by decide +kernel
theorem dX6_laid_16 : decode cX6_laid 16 = .ok (.ifCond .ne 7, 3) := by decide +kernel
theorem dX6_laid_19 : decode cX6_laid 19 = .ok (.iconst 1, 1) := by decide +kernel
theorem dX6_laid_20 : decode cX6_laid 20 = .ok (.goto 20, 3) := by decide +kernel
theorem dX6_laid_23 : decode cX6_laid 23 = .ok (.iload_n 2, 1) := by decide +kernel
theorem dX6_laid_24 : decode cX6_laid 24 = .ok (.i2l, 1) := by decide +kernel
theorem dX6_laid_25 : decode cX6_laid 25 = .ok (.lconst 0, 1) := by decide +kernel
theorem dX6_laid_26 : decode cX6_laid 26 = .ok (.ldc2_w 217, 3) := by decide +kernel
theorem dX6_laid_29 : decode cX6_laid 29 = .ok (.invokestatic 55, 3) := by decide +kernel
theorem dX6_laid_32 : decode cX6_laid 32 = .ok (.ifCond .eq 7, 3) := by decide +kernel
theorem dX6_laid_35 : decode cX6_laid 35 = .ok (.iconst 0, 1) := by decide +kernel
theorem dX6_laid_36 : decode cX6_laid 36 = .ok (.goto 4, 3) := by decide +kernel
theorem dX6_laid_39 : decode cX6_laid 39 = .ok (.iconst 2, 1) := by decide +kernel
theorem dX6_laid_40 : decode cX6_laid 40 = .ok (.invokevirtual 141, 3) := by decide +kernel
theorem dX6_laid_43 : decode cX6_laid 43 = .ok (.ifCond .eq 5, 3) := by decide +kernel
theorem dX6_laid_46 : decode cX6_laid 46 = .ok (.iconst 0, 1) := by decide +kernel
theorem dX6_laid_47 : decode cX6_laid 47 = .ok (.ireturn, 1) := by decide +kernel
theorem dX6_laid_48 : decode cX6_laid 48 = .ok (.iload_n 2, 1) := by decide +kernel
theorem dX6_laid_49 : decode cX6_laid 49 = .ok (.iconst 5, 1) := by decide +kernel
theorem dX6_laid_50 : decode cX6_laid 50 = .ok (.if_icmp .ge 15, 3) := by decide +kernel
theorem dX6_laid_53 : decode cX6_laid 53 = .ok (.aload_n 0, 1) := by decide +kernel
theorem dX6_laid_54 : decode cX6_laid 54 = .ok (.getfield 13, 3) := by decide +kernel
theorem dX6_laid_57 : decode cX6_laid 57 = .ok (.iload_n 1, 1) := by decide +kernel
theorem dX6_laid_58 : decode cX6_laid 58 = .ok (.iload_n 2, 1) := by decide +kernel
theorem dX6_laid_59 : decode cX6_laid 59 = .ok (.invokestatic 62, 3) := by decide +kernel
theorem dX6_laid_62 : decode cX6_laid 62 = .ok (.goto 11, 3) := by decide +kernel
theorem dX6_laid_65 : decode cX6_laid 65 = .ok (.aload_n 0, 1) := by decide +kernel
theorem dX6_laid_66 : decode cX6_laid 66 = .ok (.getfield 13, 3) := by decide +kernel
theorem dX6_laid_69 : decode cX6_laid 69 = .ok (.iload_n 1, 1) := by decide +kernel
theorem dX6_laid_70 : decode cX6_laid 70 = .ok (.invokestatic 78, 3) := by decide +kernel
theorem dX6_laid_73 : decode cX6_laid 73 = .ok (.ireturn, 1) := by decide +kernel
theorem dX6_playerOf_0 : decode cX6_playerOf 0 = .ok (.aload_n 0, 1) := by decide +kernel
theorem dX6_playerOf_1 : decode cX6_playerOf 1 = .ok (.iload_n 1, 1) := by decide +kernel
theorem dX6_playerOf_2 : decode cX6_playerOf 2 = .ok (.i2l, 1) := by decide +kernel
theorem dX6_playerOf_3 : decode cX6_playerOf 3 = .ok (.lconst 0, 1) := by decide +kernel
theorem dX6_playerOf_4 : decode cX6_playerOf 4 = .ok (.ldc2_w 219, 3) := by decide +kernel
theorem dX6_playerOf_7 : decode cX6_playerOf 7 = .ok (.invokestatic 55, 3) := by decide +kernel
theorem dX6_playerOf_10 : decode cX6_playerOf 10 = .ok (.ifCond .ne 7, 3) := by decide +kernel
theorem dX6_playerOf_13 : decode cX6_playerOf 13 = .ok (.iconst 1, 1) := by decide +kernel
theorem dX6_playerOf_14 : decode cX6_playerOf 14 = .ok (.goto 20, 3) := by decide +kernel
theorem dX6_playerOf_17 : decode cX6_playerOf 17 = .ok (.iload_n 2, 1) := by decide +kernel
theorem dX6_playerOf_18 : decode cX6_playerOf 18 = .ok (.i2l, 1) := by decide +kernel
theorem dX6_playerOf_19 : decode cX6_playerOf 19 = .ok (.lconst 0, 1) := by decide +kernel
theorem dX6_playerOf_20 : decode cX6_playerOf 20 = .ok (.ldc2_w 219, 3) := by decide +kernel
theorem dX6_playerOf_23 : decode cX6_playerOf 23 = .ok (.invokestatic 55, 3) := by decide +kernel
theorem dX6_playerOf_26 : decode cX6_playerOf 26 = .ok (.ifCond .eq 7, 3) := by decide +kernel
theorem dX6_playerOf_29 : decode cX6_playerOf 29 = .ok (.iconst 0, 1) := by decide +kernel
theorem dX6_playerOf_30 : decode cX6_playerOf 30 = .ok (.goto 4, 3) := by decide +kernel
theorem dX6_playerOf_33 : decode cX6_playerOf 33 = .ok (.iconst 2, 1) := by decide +kernel
theorem dX6_playerOf_34 : decode cX6_playerOf 34 = .ok (.invokevirtual 141, 3) := by decide +kernel
theorem dX6_playerOf_37 : decode cX6_playerOf 37 = .ok (.ifCond .eq 5, 3) := by decide +kernel
theorem dX6_playerOf_40 : decode cX6_playerOf 40 = .ok (.iconst 0, 1) := by decide +kernel
theorem dX6_playerOf_41 : decode cX6_playerOf 41 = .ok (.ireturn, 1) := by decide +kernel
theorem dX6_playerOf_42 : decode cX6_playerOf 42 = .ok (.iload_n 2, 1) := by decide +kernel
theorem dX6_playerOf_43 : decode cX6_playerOf 43 = .ok (.ifCond .ne 14, 3) := by decide +kernel
theorem dX6_playerOf_46 : decode cX6_playerOf 46 = .ok (.aload_n 0, 1) := by decide +kernel
theorem dX6_playerOf_47 : decode cX6_playerOf 47 = .ok (.getfield 13, 3) := by decide +kernel
theorem dX6_playerOf_50 : decode cX6_playerOf 50 = .ok (.iload_n 1, 1) := by decide +kernel
theorem dX6_playerOf_51 : decode cX6_playerOf 51 = .ok (.invokestatic 119, 3) := by decide +kernel
theorem dX6_playerOf_54 : decode cX6_playerOf 54 = .ok (.goto 45, 3) := by decide +kernel
theorem dX6_playerOf_57 : decode cX6_playerOf 57 = .ok (.iload_n 2, 1) := by decide +kernel
theorem dX6_playerOf_58 : decode cX6_playerOf 58 = .ok (.iconst 1, 1) := by decide +kernel
theorem dX6_playerOf_59 : decode cX6_playerOf 59 = .ok (.if_icmp .ne 14, 3) := by decide +kernel
theorem dX6_playerOf_62 : decode cX6_playerOf 62 = .ok (.aload_n 0, 1) := by decide +kernel
theorem dX6_playerOf_63 : decode cX6_playerOf 63 = .ok (.getfield 13, 3) := by decide +kernel
theorem dX6_playerOf_66 : decode cX6_playerOf 66 = .ok (.iload_n 1, 1) := by decide +kernel
theorem dX6_playerOf_67 : decode cX6_playerOf 67 = .ok (.invokestatic 109, 3) := by decide +kernel
theorem dX6_playerOf_70 : decode cX6_playerOf 70 = .ok (.goto 29, 3) := by decide +kernel
theorem dX6_playerOf_73 : decode cX6_playerOf 73 = .ok (.iload_n 2, 1) := by decide +kernel
theorem dX6_playerOf_74 : decode cX6_playerOf 74 = .ok (.iconst 2, 1) := by decide +kernel
theorem dX6_playerOf_75 : decode cX6_playerOf 75 = .ok (.if_icmp .ne 15, 3) := by decide +kernel
theorem dX6_playerOf_78 : decode cX6_playerOf 78 = .ok (.aload_n 0, 1) := by decide +kernel
theorem dX6_playerOf_79 : decode cX6_playerOf 79 = .ok (.getfield 13, 3) := by decide +kernel
theorem dX6_playerOf_82 : decode cX6_playerOf 82 = .ok (.bipush 13, 2) := by decide +kernel
theorem dX6_playerOf_84 : decode cX6_playerOf 84 = .ok (.iload_n 1, 1) := by decide +kernel
theorem dX6_playerOf_85 : decode cX6_playerOf 85 = .ok (.iadd, 1) := by decide +kernel
theorem dX6_playerOf_86 : decode cX6_playerOf 86 = .ok (.iaload, 1) := by decide +kernel
theorem dX6_playerOf_87 : decode cX6_playerOf 87 = .ok (.goto 12, 3) := by decide +kernel
theorem dX6_playerOf_90 : decode cX6_playerOf 90 = .ok (.aload_n 0, 1) := by decide +kernel
theorem dX6_playerOf_91 : decode cX6_playerOf 91 = .ok (.getfield 13, 3) := by decide +kernel
theorem dX6_playerOf_94 : decode cX6_playerOf 94 = .ok (.bipush 17, 2) := by decide +kernel
theorem dX6_playerOf_96 : decode cX6_playerOf 96 = .ok (.iload_n 1, 1) := by decide +kernel
theorem dX6_playerOf_97 : decode cX6_playerOf 97 = .ok (.iadd, 1) := by decide +kernel
theorem dX6_playerOf_98 : decode cX6_playerOf 98 = .ok (.iaload, 1) := by decide +kernel
theorem dX6_playerOf_99 : decode cX6_playerOf 99 = .ok (.ireturn, 1) := by decide +kernel
theorem dX6_at_0 : decode cX6_at 0 = .ok (.aload_n 0, 1) := by decide +kernel
theorem dX6_at_1 : decode cX6_at 1 = .ok (.iload_n 1, 1) := by decide +kernel
theorem dX6_at_2 : decode cX6_at 2 = .ok (.i2l, 1) := by decide +kernel
theorem dX6_at_3 : decode cX6_at 3 = .ok (.lconst 0, 1) := by decide +kernel
theorem dX6_at_4 : decode cX6_at 4 = .ok (.ldc2_w 82, 3) := by decide +kernel
theorem dX6_at_7 : decode cX6_at 7 = .ok (.invokestatic 55, 3) := by decide +kernel
theorem dX6_at_10 : decode cX6_at 10 = .ok (.ifCond .eq 19, 3) := by decide +kernel
theorem dX6_at_13 : decode cX6_at 13 = .ok (.iload_n 2, 1) := by decide +kernel
theorem dX6_at_14 : decode cX6_at 14 = .ok (.i2l, 1) := by decide +kernel
theorem dX6_at_15 : decode cX6_at 15 = .ok (.lconst 0, 1) := by decide +kernel
theorem dX6_at_16 : decode cX6_at 16 = .ok (.ldc2_w 82, 3) := by decide +kernel
theorem dX6_at_19 : decode cX6_at 19 = .ok (.invokestatic 55, 3) := by decide +kernel
theorem dX6_at_22 : decode cX6_at 22 = .ok (.ifCond .eq 7, 3) := by decide +kernel
theorem dX6_at_25 : decode cX6_at 25 = .ok (.iconst 0, 1) := by decide +kernel
theorem dX6_at_26 : decode cX6_at 26 = .ok (.goto 4, 3) := by decide +kernel
theorem dX6_at_29 : decode cX6_at 29 = .ok (.iconst 1, 1) := by decide +kernel
theorem dX6_at_30 : decode cX6_at 30 = .ok (.invokevirtual 141, 3) := by decide +kernel
theorem dX6_at_33 : decode cX6_at 33 = .ok (.ifCond .eq 5, 3) := by decide +kernel
theorem dX6_at_36 : decode cX6_at 36 = .ok (.iconst 0, 1) := by decide +kernel
theorem dX6_at_37 : decode cX6_at 37 = .ok (.ireturn, 1) := by decide +kernel
theorem dX6_at_38 : decode cX6_at 38 = .ok (.aload_n 0, 1) := by decide +kernel
theorem dX6_at_39 : decode cX6_at 39 = .ok (.getfield 13, 3) := by decide +kernel
theorem dX6_at_42 : decode cX6_at 42 = .ok (.iload_n 1, 1) := by decide +kernel
theorem dX6_at_43 : decode cX6_at 43 = .ok (.iload_n 2, 1) := by decide +kernel
theorem dX6_at_44 : decode cX6_at 44 = .ok (.invokestatic 84, 3) := by decide +kernel
theorem dX6_at_47 : decode cX6_at 47 = .ok (.ireturn, 1) := by decide +kernel
theorem dX6_free_0 : decode cX6_free 0 = .ok (.aload_n 0, 1) := by decide +kernel
theorem dX6_free_1 : decode cX6_free 1 = .ok (.iload_n 1, 1) := by decide +kernel
theorem dX6_free_2 : decode cX6_free 2 = .ok (.i2l, 1) := by decide +kernel
theorem dX6_free_3 : decode cX6_free 3 = .ok (.lconst 0, 1) := by decide +kernel
theorem dX6_free_4 : decode cX6_free 4 = .ok (.lconst 1, 1) := by decide +kernel
theorem dX6_free_5 : decode cX6_free 5 = .ok (.invokestatic 55, 3) := by decide +kernel
theorem dX6_free_8 : decode cX6_free 8 = .ok (.ifCond .eq 7, 3) := by decide +kernel
theorem dX6_free_11 : decode cX6_free 11 = .ok (.iconst 0, 1) := by decide +kernel
theorem dX6_free_12 : decode cX6_free 12 = .ok (.goto 4, 3) := by decide +kernel
theorem dX6_free_15 : decode cX6_free 15 = .ok (.iconst 1, 1) := by decide +kernel
theorem dX6_free_16 : decode cX6_free 16 = .ok (.invokevirtual 141, 3) := by decide +kernel
theorem dX6_free_19 : decode cX6_free 19 = .ok (.ifCond .eq 5, 3) := by decide +kernel
theorem dX6_free_22 : decode cX6_free 22 = .ok (.iconst 0, 1) := by decide +kernel
theorem dX6_free_23 : decode cX6_free 23 = .ok (.ireturn, 1) := by decide +kernel
theorem dX6_free_24 : decode cX6_free 24 = .ok (.sipush 625, 3) := by decide +kernel
theorem dX6_free_27 : decode cX6_free 27 = .ok (.iconst 2, 1) := by decide +kernel
theorem dX6_free_28 : decode cX6_free 28 = .ok (.aload_n 0, 1) := by decide +kernel
theorem dX6_free_29 : decode cX6_free 29 = .ok (.getfield 13, 3) := by decide +kernel
theorem dX6_free_32 : decode cX6_free 32 = .ok (.iconst 5, 1) := by decide +kernel
theorem dX6_free_33 : decode cX6_free 33 = .ok (.iaload, 1) := by decide +kernel
theorem dX6_free_34 : decode cX6_free 34 = .ok (.imul, 1) := by decide +kernel
theorem dX6_free_35 : decode cX6_free 35 = .ok (.isub, 1) := by decide +kernel
theorem dX6_free_36 : decode cX6_free 36 = .ok (.ireturn, 1) := by decide +kernel
theorem dX6_remember_0 : decode cX6_remember 0 = .ok (.aload_n 0, 1) := by decide +kernel
theorem dX6_remember_1 : decode cX6_remember 1 = .ok (.getfield 198, 3) := by decide +kernel
theorem dX6_remember_4 : decode cX6_remember 4 = .ok (.bipush 14, 2) := by decide +kernel
theorem dX6_remember_6 : decode cX6_remember 6 = .ok (.if_icmp .ne 44, 3) := by decide +kernel
theorem dX6_remember_9 : decode cX6_remember 9 = .ok (.iconst 0, 1) := by decide +kernel
theorem dX6_remember_10 : decode cX6_remember 10 = .ok (.istore_n 1, 1) := by decide +kernel
theorem dX6_remember_11 : decode cX6_remember 11 = .ok (.iload_n 1, 1) := by decide +kernel
theorem dX6_remember_12 : decode cX6_remember 12 = .ok (.sipush 2821, 3) := by decide +kernel
theorem dX6_remember_15 : decode cX6_remember 15 = .ok (.if_icmp .ge 25, 3) := by decide +kernel
theorem dX6_remember_18 : decode cX6_remember 18 = .ok (.aload_n 0, 1) := by decide +kernel
theorem dX6_remember_19 : decode cX6_remember 19 = .ok (.getfield 19, 3) := by decide +kernel
theorem dX6_remember_22 : decode cX6_remember 22 = .ok (.iload_n 1, 1) := by decide +kernel
theorem dX6_remember_23 : decode cX6_remember 23 = .ok (.aload_n 0, 1) := by decide +kernel
theorem dX6_remember_24 : decode cX6_remember 24 = .ok (.getfield 19, 3) := by decide +kernel
theorem dX6_remember_27 : decode cX6_remember 27 = .ok (.iload_n 1, 1) := by decide +kernel
theorem dX6_remember_28 : decode cX6_remember 28 = .ok (.sipush 217, 3) := by decide +kernel
theorem dX6_remember_31 : decode cX6_remember 31 = .ok (.iadd, 1) := by decide +kernel
theorem dX6_remember_32 : decode cX6_remember 32 = .ok (.iaload, 1) := by decide +kernel
theorem dX6_remember_33 : decode cX6_remember 33 = .ok (.iastore, 1) := by decide +kernel
theorem dX6_remember_34 : decode cX6_remember 34 = .ok (.iinc 1 1, 3) := by decide +kernel
theorem dX6_remember_37 : decode cX6_remember 37 = .ok (.goto (-26), 3) := by decide +kernel
theorem dX6_remember_40 : decode cX6_remember 40 = .ok (.aload_n 0, 1) := by decide +kernel
theorem dX6_remember_41 : decode cX6_remember 41 = .ok (.dup, 1) := by decide +kernel
theorem dX6_remember_42 : decode cX6_remember 42 = .ok (.getfield 198, 3) := by decide +kernel
theorem dX6_remember_45 : decode cX6_remember 45 = .ok (.iconst 1, 1) := by decide +kernel
theorem dX6_remember_46 : decode cX6_remember 46 = .ok (.isub, 1) := by decide +kernel
theorem dX6_remember_47 : decode cX6_remember 47 = .ok (.putfield 198, 3) := by decide +kernel
theorem dX6_remember_50 : decode cX6_remember 50 = .ok (.aload_n 0, 1) := by decide +kernel
theorem dX6_remember_51 : decode cX6_remember 51 = .ok (.getfield 13, 3) := by decide +kernel
theorem dX6_remember_54 : decode cX6_remember 54 = .ok (.iconst 0, 1) := by decide +kernel
theorem dX6_remember_55 : decode cX6_remember 55 = .ok (.aload_n 0, 1) := by decide +kernel
theorem dX6_remember_56 : decode cX6_remember 56 = .ok (.getfield 19, 3) := by decide +kernel
theorem dX6_remember_59 : decode cX6_remember 59 = .ok (.sipush 217, 3) := by decide +kernel
theorem dX6_remember_62 : decode cX6_remember 62 = .ok (.aload_n 0, 1) := by decide +kernel
theorem dX6_remember_63 : decode cX6_remember 63 = .ok (.getfield 198, 3) := by decide +kernel
theorem dX6_remember_66 : decode cX6_remember 66 = .ok (.imul, 1) := by decide +kernel
theorem dX6_remember_67 : decode cX6_remember 67 = .ok (.invokestatic 194, 3) := by decide +kernel
theorem dX6_remember_70 : decode cX6_remember 70 = .ok (.aload_n 0, 1) := by decide +kernel
theorem dX6_remember_71 : decode cX6_remember 71 = .ok (.dup, 1) := by decide +kernel
theorem dX6_remember_72 : decode cX6_remember 72 = .ok (.getfield 198, 3) := by decide +kernel
theorem dX6_remember_75 : decode cX6_remember 75 = .ok (.iconst 1, 1) := by decide +kernel
theorem dX6_remember_76 : decode cX6_remember 76 = .ok (.iadd, 1) := by decide +kernel
theorem dX6_remember_77 : decode cX6_remember 77 = .ok (.putfield 198, 3) := by decide +kernel
theorem dX6_remember_80 : decode cX6_remember 80 = .ok (.return_, 1) := by decide +kernel
theorem dX6_deal_0 : decode cX6_deal 0 = .ok (.aload_n 0, 1) := by decide +kernel
theorem dX6_deal_1 : decode cX6_deal 1 = .ok (.iload_n 1, 1) := by decide +kernel
theorem dX6_deal_2 : decode cX6_deal 2 = .ok (.i2l, 1) := by decide +kernel
theorem dX6_deal_3 : decode cX6_deal 3 = .ok (.ldc2_w 221, 3) := by decide +kernel
theorem dX6_deal_6 : decode cX6_deal 6 = .ok (.ldc2_w 209, 3) := by decide +kernel
theorem dX6_deal_9 : decode cX6_deal 9 = .ok (.invokestatic 55, 3) := by decide +kernel
theorem dX6_deal_12 : decode cX6_deal 12 = .ok (.ifCond .eq 7, 3) := by decide +kernel
theorem dX6_deal_15 : decode cX6_deal 15 = .ok (.iconst 0, 1) := by decide +kernel
theorem dX6_deal_16 : decode cX6_deal 16 = .ok (.goto 4, 3) := by decide +kernel
theorem dX6_deal_19 : decode cX6_deal 19 = .ok (.iconst 1, 1) := by decide +kernel
theorem dX6_deal_20 : decode cX6_deal 20 = .ok (.invokevirtual 141, 3) := by decide +kernel
theorem dX6_deal_23 : decode cX6_deal 23 = .ok (.ifCond .eq 5, 3) := by decide +kernel
theorem dX6_deal_26 : decode cX6_deal 26 = .ok (.iconst 0, 1) := by decide +kernel
theorem dX6_deal_27 : decode cX6_deal 27 = .ok (.ireturn, 1) := by decide +kernel
theorem dX6_deal_28 : decode cX6_deal 28 = .ok (.aload_n 0, 1) := by decide +kernel
theorem dX6_deal_29 : decode cX6_deal 29 = .ok (.invokevirtual 223, 3) := by decide +kernel
theorem dX6_deal_32 : decode cX6_deal 32 = .ok (.aload_n 0, 1) := by decide +kernel
theorem dX6_deal_33 : decode cX6_deal 33 = .ok (.aload_n 0, 1) := by decide +kernel
theorem dX6_deal_34 : decode cX6_deal 34 = .ok (.getfield 13, 3) := by decide +kernel
theorem dX6_deal_37 : decode cX6_deal 37 = .ok (.iload_n 1, 1) := by decide +kernel
theorem dX6_deal_38 : decode cX6_deal 38 = .ok (.lload_n 2, 1) := by decide +kernel
theorem dX6_deal_39 : decode cX6_deal 39 = .ok (.invokevirtual 165, 3) := by decide +kernel
theorem dX6_deal_42 : decode cX6_deal 42 = .ok (.ireturn, 1) := by decide +kernel
theorem dX6_play_0 : decode cX6_play 0 = .ok (.aload_n 0, 1) := by decide +kernel
theorem dX6_play_1 : decode cX6_play 1 = .ok (.iload_n 1, 1) := by decide +kernel
theorem dX6_play_2 : decode cX6_play 2 = .ok (.invokestatic 206, 3) := by decide +kernel
theorem dX6_play_5 : decode cX6_play 5 = .ok (.ifCond .ne 7, 3) := by decide +kernel
theorem dX6_play_8 : decode cX6_play 8 = .ok (.iconst 1, 1) := by decide +kernel
theorem dX6_play_9 : decode cX6_play 9 = .ok (.goto 18, 3) := by decide +kernel
theorem dX6_play_12 : decode cX6_play 12 = .ok (.aload_n 0, 1) := by decide +kernel
theorem dX6_play_13 : decode cX6_play 13 = .ok (.getfield 13, 3) := by decide +kernel
theorem dX6_play_16 : decode cX6_play 16 = .ok (.iconst 1, 1) := by decide +kernel
theorem dX6_play_17 : decode cX6_play 17 = .ok (.iaload, 1) := by decide +kernel
theorem dX6_play_18 : decode cX6_play 18 = .ok (.iconst 1, 1) := by decide +kernel
theorem dX6_play_19 : decode cX6_play 19 = .ok (.if_icmp .ne 7, 3) := by decide +kernel
theorem dX6_play_22 : decode cX6_play 22 = .ok (.iconst 0, 1) := by decide +kernel
theorem dX6_play_23 : decode cX6_play 23 = .ok (.goto 4, 3) := by decide +kernel
theorem dX6_play_26 : decode cX6_play 26 = .ok (.iconst 2, 1) := by decide +kernel
theorem dX6_play_27 : decode cX6_play 27 = .ok (.invokevirtual 141, 3) := by decide +kernel
theorem dX6_play_30 : decode cX6_play 30 = .ok (.ifCond .eq 5, 3) := by decide +kernel
theorem dX6_play_33 : decode cX6_play 33 = .ok (.iconst 0, 1) := by decide +kernel
theorem dX6_play_34 : decode cX6_play 34 = .ok (.ireturn, 1) := by decide +kernel
theorem dX6_play_35 : decode cX6_play 35 = .ok (.aload_n 0, 1) := by decide +kernel
theorem dX6_play_36 : decode cX6_play 36 = .ok (.invokevirtual 223, 3) := by decide +kernel
theorem dX6_play_39 : decode cX6_play 39 = .ok (.aload_n 0, 1) := by decide +kernel
theorem dX6_play_40 : decode cX6_play 40 = .ok (.getfield 13, 3) := by decide +kernel
theorem dX6_play_43 : decode cX6_play 43 = .ok (.iload_n 1, 1) := by decide +kernel
theorem dX6_play_44 : decode cX6_play 44 = .ok (.iload_n 2, 1) := by decide +kernel
theorem dX6_play_45 : decode cX6_play 45 = .ok (.invokestatic 157, 3) := by decide +kernel
theorem dX6_play_48 : decode cX6_play 48 = .ok (.ireturn, 1) := by decide +kernel
theorem dX6_draw_0 : decode cX6_draw 0 = .ok (.aload_n 0, 1) := by decide +kernel
theorem dX6_draw_1 : decode cX6_draw 1 = .ok (.aload_n 0, 1) := by decide +kernel
theorem dX6_draw_2 : decode cX6_draw 2 = .ok (.getfield 13, 3) := by decide +kernel
theorem dX6_draw_5 : decode cX6_draw 5 = .ok (.invokestatic 173, 3) := by decide +kernel
theorem dX6_draw_8 : decode cX6_draw 8 = .ok (.ifCond .eq 7, 3) := by decide +kernel
theorem dX6_draw_11 : decode cX6_draw 11 = .ok (.iconst 0, 1) := by decide +kernel
theorem dX6_draw_12 : decode cX6_draw 12 = .ok (.goto 4, 3) := by decide +kernel
theorem dX6_draw_15 : decode cX6_draw 15 = .ok (.iconst 1, 1) := by decide +kernel
theorem dX6_draw_16 : decode cX6_draw 16 = .ok (.invokevirtual 141, 3) := by decide +kernel
theorem dX6_draw_19 : decode cX6_draw 19 = .ok (.ifCond .eq 5, 3) := by decide +kernel
theorem dX6_draw_22 : decode cX6_draw 22 = .ok (.iconst 0, 1) := by decide +kernel
theorem dX6_draw_23 : decode cX6_draw 23 = .ok (.ireturn, 1) := by decide +kernel
theorem dX6_draw_24 : decode cX6_draw 24 = .ok (.aload_n 0, 1) := by decide +kernel
theorem dX6_draw_25 : decode cX6_draw 25 = .ok (.invokevirtual 223, 3) := by decide +kernel
theorem dX6_draw_28 : decode cX6_draw 28 = .ok (.aload_n 0, 1) := by decide +kernel
theorem dX6_draw_29 : decode cX6_draw 29 = .ok (.getfield 13, 3) := by decide +kernel
theorem dX6_draw_32 : decode cX6_draw 32 = .ok (.invokestatic 176, 3) := by decide +kernel
theorem dX6_draw_35 : decode cX6_draw 35 = .ok (.ireturn, 1) := by decide +kernel
theorem dX6_pass_0 : decode cX6_pass 0 = .ok (.aload_n 0, 1) := by decide +kernel
theorem dX6_pass_1 : decode cX6_pass 1 = .ok (.aload_n 0, 1) := by decide +kernel
theorem dX6_pass_2 : decode cX6_pass 2 = .ok (.getfield 13, 3) := by decide +kernel
theorem dX6_pass_5 : decode cX6_pass 5 = .ok (.invokestatic 179, 3) := by decide +kernel
theorem dX6_pass_8 : decode cX6_pass 8 = .ok (.ifCond .eq 7, 3) := by decide +kernel
theorem dX6_pass_11 : decode cX6_pass 11 = .ok (.iconst 0, 1) := by decide +kernel
theorem dX6_pass_12 : decode cX6_pass 12 = .ok (.goto 4, 3) := by decide +kernel
theorem dX6_pass_15 : decode cX6_pass 15 = .ok (.iconst 1, 1) := by decide +kernel
theorem dX6_pass_16 : decode cX6_pass 16 = .ok (.invokevirtual 141, 3) := by decide +kernel
theorem dX6_pass_19 : decode cX6_pass 19 = .ok (.ifCond .eq 5, 3) := by decide +kernel
theorem dX6_pass_22 : decode cX6_pass 22 = .ok (.iconst 0, 1) := by decide +kernel
theorem dX6_pass_23 : decode cX6_pass 23 = .ok (.ireturn, 1) := by decide +kernel
theorem dX6_pass_24 : decode cX6_pass 24 = .ok (.aload_n 0, 1) := by decide +kernel
theorem dX6_pass_25 : decode cX6_pass 25 = .ok (.invokevirtual 223, 3) := by decide +kernel
theorem dX6_pass_28 : decode cX6_pass 28 = .ok (.aload_n 0, 1) := by decide +kernel
theorem dX6_pass_29 : decode cX6_pass 29 = .ok (.getfield 13, 3) := by decide +kernel
theorem dX6_pass_32 : decode cX6_pass 32 = .ok (.invokestatic 182, 3) := by decide +kernel
theorem dX6_pass_35 : decode cX6_pass 35 = .ok (.ireturn, 1) := by decide +kernel
theorem dX6_undo_0 : decode cX6_undo 0 = .ok (.aload_n 0, 1) := by decide +kernel
theorem dX6_undo_1 : decode cX6_undo 1 = .ok (.aload_n 0, 1) := by decide +kernel
theorem dX6_undo_2 : decode cX6_undo 2 = .ok (.getfield 198, 3) := by decide +kernel
theorem dX6_undo_5 : decode cX6_undo 5 = .ok (.ifCond .ne 7, 3) := by decide +kernel
theorem dX6_undo_8 : decode cX6_undo 8 = .ok (.iconst 1, 1) := by decide +kernel
theorem dX6_undo_9 : decode cX6_undo 9 = .ok (.goto 4, 3) := by decide +kernel
theorem dX6_undo_12 : decode cX6_undo 12 = .ok (.iconst 0, 1) := by decide +kernel
theorem dX6_undo_13 : decode cX6_undo 13 = .ok (.invokevirtual 141, 3) := by decide +kernel
theorem dX6_undo_16 : decode cX6_undo 16 = .ok (.ifCond .eq 5, 3) := by decide +kernel
theorem dX6_undo_19 : decode cX6_undo 19 = .ok (.iconst 0, 1) := by decide +kernel
theorem dX6_undo_20 : decode cX6_undo 20 = .ok (.ireturn, 1) := by decide +kernel
theorem dX6_undo_21 : decode cX6_undo 21 = .ok (.aload_n 0, 1) := by decide +kernel
theorem dX6_undo_22 : decode cX6_undo 22 = .ok (.dup, 1) := by decide +kernel
theorem dX6_undo_23 : decode cX6_undo 23 = .ok (.getfield 198, 3) := by decide +kernel
theorem dX6_undo_26 : decode cX6_undo 26 = .ok (.iconst 1, 1) := by decide +kernel
theorem dX6_undo_27 : decode cX6_undo 27 = .ok (.isub, 1) := by decide +kernel
theorem dX6_undo_28 : decode cX6_undo 28 = .ok (.putfield 198, 3) := by decide +kernel
theorem dX6_undo_31 : decode cX6_undo 31 = .ok (.aload_n 0, 1) := by decide +kernel
theorem dX6_undo_32 : decode cX6_undo 32 = .ok (.getfield 19, 3) := by decide +kernel
theorem dX6_undo_35 : decode cX6_undo 35 = .ok (.sipush 217, 3) := by decide +kernel
theorem dX6_undo_38 : decode cX6_undo 38 = .ok (.aload_n 0, 1) := by decide +kernel
theorem dX6_undo_39 : decode cX6_undo 39 = .ok (.getfield 198, 3) := by decide +kernel
theorem dX6_undo_42 : decode cX6_undo 42 = .ok (.imul, 1) := by decide +kernel
theorem dX6_undo_43 : decode cX6_undo 43 = .ok (.aload_n 0, 1) := by decide +kernel
theorem dX6_undo_44 : decode cX6_undo 44 = .ok (.getfield 13, 3) := by decide +kernel
theorem dX6_undo_47 : decode cX6_undo 47 = .ok (.iconst 0, 1) := by decide +kernel
theorem dX6_undo_48 : decode cX6_undo 48 = .ok (.invokestatic 194, 3) := by decide +kernel
theorem dX6_undo_51 : decode cX6_undo 51 = .ok (.aload_n 0, 1) := by decide +kernel
theorem dX6_undo_52 : decode cX6_undo 52 = .ok (.getfield 198, 3) := by decide +kernel
theorem dX6_undo_55 : decode cX6_undo 55 = .ok (.ireturn, 1) := by decide +kernel
theorem dX6_why_0 : decode cX6_why 0 = .ok (.aload_n 0, 1) := by decide +kernel
theorem dX6_why_1 : decode cX6_why 1 = .ok (.iload_n 1, 1) := by decide +kernel
theorem dX6_why_2 : decode cX6_why 2 = .ok (.invokestatic 206, 3) := by decide +kernel
theorem dX6_why_5 : decode cX6_why 5 = .ok (.ifCond .eq 7, 3) := by decide +kernel
theorem dX6_why_8 : decode cX6_why 8 = .ok (.iconst 0, 1) := by decide +kernel
theorem dX6_why_9 : decode cX6_why 9 = .ok (.goto 4, 3) := by decide +kernel
theorem dX6_why_12 : decode cX6_why 12 = .ok (.iconst 1, 1) := by decide +kernel
theorem dX6_why_13 : decode cX6_why 13 = .ok (.invokevirtual 141, 3) := by decide +kernel
theorem dX6_why_16 : decode cX6_why 16 = .ok (.ifCond .eq 5, 3) := by decide +kernel
theorem dX6_why_19 : decode cX6_why 19 = .ok (.iconst 0, 1) := by decide +kernel
theorem dX6_why_20 : decode cX6_why 20 = .ok (.ireturn, 1) := by decide +kernel
theorem dX6_why_21 : decode cX6_why 21 = .ok (.aload_n 0, 1) := by decide +kernel
theorem dX6_why_22 : decode cX6_why 22 = .ok (.getfield 13, 3) := by decide +kernel
theorem dX6_why_25 : decode cX6_why 25 = .ok (.iconst 1, 1) := by decide +kernel
theorem dX6_why_26 : decode cX6_why 26 = .ok (.iaload, 1) := by decide +kernel
theorem dX6_why_27 : decode cX6_why 27 = .ok (.iconst 1, 1) := by decide +kernel
theorem dX6_why_28 : decode cX6_why 28 = .ok (.if_icmp .ne 14, 3) := by decide +kernel
theorem dX6_why_31 : decode cX6_why 31 = .ok (.aload_n 0, 1) := by decide +kernel
theorem dX6_why_32 : decode cX6_why 32 = .ok (.getfield 13, 3) := by decide +kernel
theorem dX6_why_35 : decode cX6_why 35 = .ok (.iload_n 1, 1) := by decide +kernel
theorem dX6_why_36 : decode cX6_why 36 = .ok (.invokestatic 102, 3) := by decide +kernel
theorem dX6_why_39 : decode cX6_why 39 = .ok (.goto 4, 3) := by decide +kernel
theorem dX6_why_42 : decode cX6_why 42 = .ok (.iconst (-1), 1) := by decide +kernel
theorem dX6_why_43 : decode cX6_why 43 = .ok (.ireturn, 1) := by decide +kernel
theorem dX6_legal_0 : decode cX6_legal 0 = .ok (.aload_n 0, 1) := by decide +kernel
theorem dX6_legal_1 : decode cX6_legal 1 = .ok (.iconst 0, 1) := by decide +kernel
theorem dX6_legal_2 : decode cX6_legal 2 = .ok (.putfield 42, 3) := by decide +kernel
theorem dX6_legal_5 : decode cX6_legal 5 = .ok (.iconst 0, 1) := by decide +kernel
theorem dX6_legal_6 : decode cX6_legal 6 = .ok (.istore_n 1, 1) := by decide +kernel
theorem dX6_legal_7 : decode cX6_legal 7 = .ok (.iconst 0, 1) := by decide +kernel
theorem dX6_legal_8 : decode cX6_legal 8 = .ok (.istore_n 2, 1) := by decide +kernel
theorem dX6_legal_9 : decode cX6_legal 9 = .ok (.iload_n 2, 1) := by decide +kernel
theorem dX6_legal_10 : decode cX6_legal 10 = .ok (.bipush 28, 2) := by decide +kernel
theorem dX6_legal_12 : decode cX6_legal 12 = .ok (.if_icmp .ge 40, 3) := by decide +kernel
theorem dX6_legal_15 : decode cX6_legal 15 = .ok (.aload_n 0, 1) := by decide +kernel
theorem dX6_legal_16 : decode cX6_legal 16 = .ok (.getfield 13, 3) := by decide +kernel
theorem dX6_legal_19 : decode cX6_legal 19 = .ok (.iconst 1, 1) := by decide +kernel
theorem dX6_legal_20 : decode cX6_legal 20 = .ok (.iaload, 1) := by decide +kernel
theorem dX6_legal_21 : decode cX6_legal 21 = .ok (.iconst 1, 1) := by decide +kernel
theorem dX6_legal_22 : decode cX6_legal 22 = .ok (.if_icmp .ne 30, 3) := by decide +kernel
theorem dX6_legal_25 : decode cX6_legal 25 = .ok (.iload_n 1, 1) := by decide +kernel
theorem dX6_legal_26 : decode cX6_legal 26 = .ok (.aload_n 0, 1) := by decide +kernel
theorem dX6_legal_27 : decode cX6_legal 27 = .ok (.getfield 13, 3) := by decide +kernel
theorem dX6_legal_30 : decode cX6_legal 30 = .ok (.iload_n 2, 1) := by decide +kernel
theorem dX6_legal_31 : decode cX6_legal 31 = .ok (.invokestatic 102, 3) := by decide +kernel
theorem dX6_legal_34 : decode cX6_legal 34 = .ok (.ifCond .ne 9, 3) := by decide +kernel
theorem dX6_legal_37 : decode cX6_legal 37 = .ok (.iconst 1, 1) := by decide +kernel
theorem dX6_legal_38 : decode cX6_legal 38 = .ok (.iload_n 2, 1) := by decide +kernel
theorem dX6_legal_39 : decode cX6_legal 39 = .ok (.ishl, 1) := by decide +kernel
theorem dX6_legal_40 : decode cX6_legal 40 = .ok (.goto 4, 3) := by decide +kernel
theorem dX6_legal_43 : decode cX6_legal 43 = .ok (.iconst 0, 1) := by decide +kernel
theorem dX6_legal_44 : decode cX6_legal 44 = .ok (.ior, 1) := by decide +kernel
theorem dX6_legal_45 : decode cX6_legal 45 = .ok (.istore_n 1, 1) := by decide +kernel
theorem dX6_legal_46 : decode cX6_legal 46 = .ok (.iinc 2 1, 3) := by decide +kernel
theorem dX6_legal_49 : decode cX6_legal 49 = .ok (.goto (-40), 3) := by decide +kernel
theorem dX6_legal_52 : decode cX6_legal 52 = .ok (.iload_n 1, 1) := by decide +kernel
theorem dX6_legal_53 : decode cX6_legal 53 = .ok (.ireturn, 1) := by decide +kernel
theorem dX6_best_0 : decode cX6_best 0 = .ok (.aload_n 0, 1) := by decide +kernel
theorem dX6_best_1 : decode cX6_best 1 = .ok (.iconst 0, 1) := by decide +kernel
theorem dX6_best_2 : decode cX6_best 2 = .ok (.putfield 42, 3) := by decide +kernel
theorem dX6_best_5 : decode cX6_best 5 = .ok (.aload_n 0, 1) := by decide +kernel
theorem dX6_best_6 : decode cX6_best 6 = .ok (.getfield 13, 3) := by decide +kernel
theorem dX6_best_9 : decode cX6_best 9 = .ok (.invokestatic 133, 3) := by decide +kernel
theorem dX6_best_12 : decode cX6_best 12 = .ok (.ireturn, 1) := by decide +kernel
theorem dX6_isTried_0 : decode cX6_isTried 0 = .ok (.iconst 0, 1) := by decide +kernel
theorem dX6_isTried_1 : decode cX6_isTried 1 = .ok (.istore_n 3, 1) := by decide +kernel
theorem dX6_isTried_2 : decode cX6_isTried 2 = .ok (.iconst 0, 1) := by decide +kernel
theorem dX6_isTried_3 : decode cX6_isTried 3 = .ok (.istore 4, 2) := by decide +kernel
theorem dX6_isTried_5 : decode cX6_isTried 5 = .ok (.iload 4, 2) := by decide +kernel
theorem dX6_isTried_7 : decode cX6_isTried 7 = .ok (.iload_n 2, 1) := by decide +kernel
theorem dX6_isTried_8 : decode cX6_isTried 8 = .ok (.if_icmp .ge 30, 3) := by decide +kernel
theorem dX6_isTried_11 : decode cX6_isTried 11 = .ok (.iload_n 3, 1) := by decide +kernel
theorem dX6_isTried_12 : decode cX6_isTried 12 = .ok (.ifCond .ne 14, 3) := by decide +kernel
theorem dX6_isTried_15 : decode cX6_isTried 15 = .ok (.aload_n 0, 1) := by decide +kernel
theorem dX6_isTried_16 : decode cX6_isTried 16 = .ok (.getfield 32, 3) := by decide +kernel
theorem dX6_isTried_19 : decode cX6_isTried 19 = .ok (.iload 4, 2) := by decide +kernel
theorem dX6_isTried_21 : decode cX6_isTried 21 = .ok (.iaload, 1) := by decide +kernel
theorem dX6_isTried_22 : decode cX6_isTried 22 = .ok (.iload_n 1, 1) := by decide +kernel
theorem dX6_isTried_23 : decode cX6_isTried 23 = .ok (.if_icmp .ne 7, 3) := by decide +kernel
theorem dX6_isTried_26 : decode cX6_isTried 26 = .ok (.iconst 1, 1) := by decide +kernel
theorem dX6_isTried_27 : decode cX6_isTried 27 = .ok (.goto 4, 3) := by decide +kernel
theorem dX6_isTried_30 : decode cX6_isTried 30 = .ok (.iconst 0, 1) := by decide +kernel
theorem dX6_isTried_31 : decode cX6_isTried 31 = .ok (.istore_n 3, 1) := by decide +kernel
theorem dX6_isTried_32 : decode cX6_isTried 32 = .ok (.iinc 4 1, 3) := by decide +kernel
theorem dX6_isTried_35 : decode cX6_isTried 35 = .ok (.goto (-30), 3) := by decide +kernel
theorem dX6_isTried_38 : decode cX6_isTried 38 = .ok (.iload_n 3, 1) := by decide +kernel
theorem dX6_isTried_39 : decode cX6_isTried 39 = .ok (.ireturn, 1) := by decide +kernel
theorem dX6_nextTried_0 : decode cX6_nextTried 0 = .ok (.iload_n 3, 1) := by decide +kernel
theorem dX6_nextTried_1 : decode cX6_nextTried 1 = .ok (.istore 5, 2) := by decide +kernel
theorem dX6_nextTried_3 : decode cX6_nextTried 3 = .ok (.iload 5, 2) := by decide +kernel
theorem dX6_nextTried_5 : decode cX6_nextTried 5 = .ok (.bipush 28, 2) := by decide +kernel
theorem dX6_nextTried_7 : decode cX6_nextTried 7 = .ok (.if_icmp .ge 46, 3) := by decide +kernel
theorem dX6_nextTried_10 : decode cX6_nextTried 10 = .ok (.aload_n 1, 1) := by decide +kernel
theorem dX6_nextTried_11 : decode cX6_nextTried 11 = .ok (.bipush 21, 2) := by decide +kernel
theorem dX6_nextTried_13 : decode cX6_nextTried 13 = .ok (.iload 5, 2) := by decide +kernel
theorem dX6_nextTried_15 : decode cX6_nextTried 15 = .ok (.iadd, 1) := by decide +kernel
theorem dX6_nextTried_16 : decode cX6_nextTried 16 = .ok (.iaload, 1) := by decide +kernel
theorem dX6_nextTried_17 : decode cX6_nextTried 17 = .ok (.iload_n 2, 1) := by decide +kernel
theorem dX6_nextTried_18 : decode cX6_nextTried 18 = .ok (.if_icmp .ne 29, 3) := by decide +kernel
theorem dX6_nextTried_21 : decode cX6_nextTried 21 = .ok (.aload_n 0, 1) := by decide +kernel
theorem dX6_nextTried_22 : decode cX6_nextTried 22 = .ok (.iload 5, 2) := by decide +kernel
theorem dX6_nextTried_24 : decode cX6_nextTried 24 = .ok (.iload 4, 2) := by decide +kernel
theorem dX6_nextTried_26 : decode cX6_nextTried 26 = .ok (.invokevirtual 226, 3) := by decide +kernel
theorem dX6_nextTried_29 : decode cX6_nextTried 29 = .ok (.ifCond .ne 18, 3) := by decide +kernel
theorem dX6_nextTried_32 : decode cX6_nextTried 32 = .ok (.iload 5, 2) := by decide +kernel
theorem dX6_nextTried_34 : decode cX6_nextTried 34 = .ok (.aload_n 0, 1) := by decide +kernel
theorem dX6_nextTried_35 : decode cX6_nextTried 35 = .ok (.getfield 35, 3) := by decide +kernel
theorem dX6_nextTried_38 : decode cX6_nextTried 38 = .ok (.iload 4, 2) := by decide +kernel
theorem dX6_nextTried_40 : decode cX6_nextTried 40 = .ok (.iaload, 1) := by decide +kernel
theorem dX6_nextTried_41 : decode cX6_nextTried 41 = .ok (.invokestatic 87, 3) := by decide +kernel
theorem dX6_nextTried_44 : decode cX6_nextTried 44 = .ok (.ifCond .ne 9, 3) := by decide +kernel
theorem dX6_nextTried_47 : decode cX6_nextTried 47 = .ok (.iinc 5 1, 3) := by decide +kernel
theorem dX6_nextTried_50 : decode cX6_nextTried 50 = .ok (.goto (-47), 3) := by decide +kernel
theorem dX6_nextTried_53 : decode cX6_nextTried 53 = .ok (.iload 5, 2) := by decide +kernel
theorem dX6_nextTried_55 : decode cX6_nextTried 55 = .ok (.ireturn, 1) := by decide +kernel
theorem dX6_longest_0 : decode cX6_longest 0 = .ok (.iconst 0, 1) := by decide +kernel
theorem dX6_longest_1 : decode cX6_longest 1 = .ok (.istore 4, 2) := by decide +kernel
theorem dX6_longest_3 : decode cX6_longest 3 = .ok (.iconst 0, 1) := by decide +kernel
theorem dX6_longest_4 : decode cX6_longest 4 = .ok (.istore 5, 2) := by decide +kernel
theorem dX6_longest_6 : decode cX6_longest 6 = .ok (.aload_n 0, 1) := by decide +kernel
theorem dX6_longest_7 : decode cX6_longest 7 = .ok (.getfield 35, 3) := by decide +kernel
theorem dX6_longest_10 : decode cX6_longest 10 = .ok (.iconst 0, 1) := by decide +kernel
theorem dX6_longest_11 : decode cX6_longest 11 = .ok (.aload_n 1, 1) := by decide +kernel
theorem dX6_longest_12 : decode cX6_longest 12 = .ok (.bipush 6, 2) := by decide +kernel
theorem dX6_longest_14 : decode cX6_longest 14 = .ok (.iaload, 1) := by decide +kernel
theorem dX6_longest_15 : decode cX6_longest 15 = .ok (.iastore, 1) := by decide +kernel
theorem dX6_longest_16 : decode cX6_longest 16 = .ok (.aload_n 0, 1) := by decide +kernel
theorem dX6_longest_17 : decode cX6_longest 17 = .ok (.getfield 32, 3) := by decide +kernel
theorem dX6_longest_20 : decode cX6_longest 20 = .ok (.iconst 0, 1) := by decide +kernel
theorem dX6_longest_21 : decode cX6_longest 21 = .ok (.iconst (-1), 1) := by decide +kernel
theorem dX6_longest_22 : decode cX6_longest 22 = .ok (.iastore, 1) := by decide +kernel
theorem dX6_longest_23 : decode cX6_longest 23 = .ok (.iload 5, 2) := by decide +kernel
theorem dX6_longest_25 : decode cX6_longest 25 = .ok (.ifCond .lt 108, 3) := by decide +kernel
theorem dX6_longest_28 : decode cX6_longest 28 = .ok (.iload 4, 2) := by decide +kernel
theorem dX6_longest_30 : decode cX6_longest 30 = .ok (.iload_n 3, 1) := by decide +kernel
theorem dX6_longest_31 : decode cX6_longest 31 = .ok (.if_icmp .ge 102, 3) := by decide +kernel
theorem dX6_longest_34 : decode cX6_longest 34 = .ok (.aload_n 0, 1) := by decide +kernel
theorem dX6_longest_35 : decode cX6_longest 35 = .ok (.aload_n 1, 1) := by decide +kernel
theorem dX6_longest_36 : decode cX6_longest 36 = .ok (.iload_n 2, 1) := by decide +kernel
theorem dX6_longest_37 : decode cX6_longest 37 = .ok (.aload_n 0, 1) := by decide +kernel
theorem dX6_longest_38 : decode cX6_longest 38 = .ok (.getfield 32, 3) := by decide +kernel
theorem dX6_longest_41 : decode cX6_longest 41 = .ok (.iload 5, 2) := by decide +kernel
theorem dX6_longest_43 : decode cX6_longest 43 = .ok (.iaload, 1) := by decide +kernel
theorem dX6_longest_44 : decode cX6_longest 44 = .ok (.iconst 1, 1) := by decide +kernel
theorem dX6_longest_45 : decode cX6_longest 45 = .ok (.iadd, 1) := by decide +kernel
theorem dX6_longest_46 : decode cX6_longest 46 = .ok (.iload 5, 2) := by decide +kernel
theorem dX6_longest_48 : decode cX6_longest 48 = .ok (.invokevirtual 229, 3) := by decide +kernel
theorem dX6_longest_51 : decode cX6_longest 51 = .ok (.istore 6, 2) := by decide +kernel
theorem dX6_longest_53 : decode cX6_longest 53 = .ok (.aload_n 0, 1) := by decide +kernel
theorem dX6_longest_54 : decode cX6_longest 54 = .ok (.getfield 32, 3) := by decide +kernel
theorem dX6_longest_57 : decode cX6_longest 57 = .ok (.iload 5, 2) := by decide +kernel
theorem dX6_longest_59 : decode cX6_longest 59 = .ok (.iload 6, 2) := by decide +kernel
theorem dX6_longest_61 : decode cX6_longest 61 = .ok (.iastore, 1) := by decide +kernel
theorem dX6_longest_62 : decode cX6_longest 62 = .ok (.iload 6, 2) := by decide +kernel
theorem dX6_longest_64 : decode cX6_longest 64 = .ok (.bipush 28, 2) := by decide +kernel
theorem dX6_longest_66 : decode cX6_longest 66 = .ok (.if_icmp .ne 9, 3) := by decide +kernel
theorem dX6_longest_69 : decode cX6_longest 69 = .ok (.iinc 5 (-1), 3) := by decide +kernel
theorem dX6_longest_72 : decode cX6_longest 72 = .ok (.goto 58, 3) := by decide +kernel
theorem dX6_longest_75 : decode cX6_longest 75 = .ok (.aload_n 0, 1) := by decide +kernel
theorem dX6_longest_76 : decode cX6_longest 76 = .ok (.getfield 35, 3) := by decide +kernel
theorem dX6_longest_79 : decode cX6_longest 79 = .ok (.iload 5, 2) := by decide +kernel
theorem dX6_longest_81 : decode cX6_longest 81 = .ok (.iconst 1, 1) := by decide +kernel
theorem dX6_longest_82 : decode cX6_longest 82 = .ok (.iadd, 1) := by decide +kernel
theorem dX6_longest_83 : decode cX6_longest 83 = .ok (.iload 6, 2) := by decide +kernel
theorem dX6_longest_85 : decode cX6_longest 85 = .ok (.aload_n 0, 1) := by decide +kernel
theorem dX6_longest_86 : decode cX6_longest 86 = .ok (.getfield 35, 3) := by decide +kernel
theorem dX6_longest_89 : decode cX6_longest 89 = .ok (.iload 5, 2) := by decide +kernel
theorem dX6_longest_91 : decode cX6_longest 91 = .ok (.iaload, 1) := by decide +kernel
theorem dX6_longest_92 : decode cX6_longest 92 = .ok (.invokestatic 115, 3) := by decide +kernel
theorem dX6_longest_95 : decode cX6_longest 95 = .ok (.iastore, 1) := by decide +kernel
theorem dX6_longest_96 : decode cX6_longest 96 = .ok (.iinc 5 1, 3) := by decide +kernel
theorem dX6_longest_99 : decode cX6_longest 99 = .ok (.iload 5, 2) := by decide +kernel
theorem dX6_longest_101 : decode cX6_longest 101 = .ok (.iload 4, 2) := by decide +kernel
theorem dX6_longest_103 : decode cX6_longest 103 = .ok (.if_icmp .le 8, 3) := by decide +kernel
theorem dX6_longest_106 : decode cX6_longest 106 = .ok (.iload 5, 2) := by decide +kernel
theorem dX6_longest_108 : decode cX6_longest 108 = .ok (.goto 5, 3) := by decide +kernel
theorem dX6_longest_111 : decode cX6_longest 111 = .ok (.iload 4, 2) := by decide +kernel
theorem dX6_longest_113 : decode cX6_longest 113 = .ok (.istore 4, 2) := by decide +kernel
theorem dX6_longest_115 : decode cX6_longest 115 = .ok (.iload 5, 2) := by decide +kernel
theorem dX6_longest_117 : decode cX6_longest 117 = .ok (.bipush 6, 2) := by decide +kernel
theorem dX6_longest_119 : decode cX6_longest 119 = .ok (.if_icmp .ge 11, 3) := by decide +kernel
theorem dX6_longest_122 : decode cX6_longest 122 = .ok (.aload_n 0, 1) := by decide +kernel
theorem dX6_longest_123 : decode cX6_longest 123 = .ok (.getfield 32, 3) := by decide +kernel
theorem dX6_longest_126 : decode cX6_longest 126 = .ok (.iload 5, 2) := by decide +kernel
theorem dX6_longest_128 : decode cX6_longest 128 = .ok (.iconst (-1), 1) := by decide +kernel
theorem dX6_longest_129 : decode cX6_longest 129 = .ok (.iastore, 1) := by decide +kernel
theorem dX6_longest_130 : decode cX6_longest 130 = .ok (.goto (-107), 3) := by decide +kernel
theorem dX6_longest_133 : decode cX6_longest 133 = .ok (.iload 4, 2) := by decide +kernel
theorem dX6_longest_135 : decode cX6_longest 135 = .ok (.ireturn, 1) := by decide +kernel
theorem dX6_chain_0 : decode cX6_chain 0 = .ok (.aload_n 0, 1) := by decide +kernel
theorem dX6_chain_1 : decode cX6_chain 1 = .ok (.iload_n 1, 1) := by decide +kernel
theorem dX6_chain_2 : decode cX6_chain 2 = .ok (.i2l, 1) := by decide +kernel
theorem dX6_chain_3 : decode cX6_chain 3 = .ok (.lconst 0, 1) := by decide +kernel
theorem dX6_chain_4 : decode cX6_chain 4 = .ok (.ldc2_w 219, 3) := by decide +kernel
theorem dX6_chain_7 : decode cX6_chain 7 = .ok (.invokestatic 55, 3) := by decide +kernel
theorem dX6_chain_10 : decode cX6_chain 10 = .ok (.ifCond .ne 7, 3) := by decide +kernel
theorem dX6_chain_13 : decode cX6_chain 13 = .ok (.iconst 1, 1) := by decide +kernel
theorem dX6_chain_14 : decode cX6_chain 14 = .ok (.goto 20, 3) := by decide +kernel
theorem dX6_chain_17 : decode cX6_chain 17 = .ok (.iload_n 2, 1) := by decide +kernel
theorem dX6_chain_18 : decode cX6_chain 18 = .ok (.i2l, 1) := by decide +kernel
theorem dX6_chain_19 : decode cX6_chain 19 = .ok (.lconst 1, 1) := by decide +kernel
theorem dX6_chain_20 : decode cX6_chain 20 = .ok (.ldc2_w 233, 3) := by decide +kernel
theorem dX6_chain_23 : decode cX6_chain 23 = .ok (.invokestatic 55, 3) := by decide +kernel
theorem dX6_chain_26 : decode cX6_chain 26 = .ok (.ifCond .eq 7, 3) := by decide +kernel
theorem dX6_chain_29 : decode cX6_chain 29 = .ok (.iconst 0, 1) := by decide +kernel
theorem dX6_chain_30 : decode cX6_chain 30 = .ok (.goto 4, 3) := by decide +kernel
theorem dX6_chain_33 : decode cX6_chain 33 = .ok (.iconst 2, 1) := by decide +kernel
theorem dX6_chain_34 : decode cX6_chain 34 = .ok (.invokevirtual 141, 3) := by decide +kernel
theorem dX6_chain_37 : decode cX6_chain 37 = .ok (.ifCond .eq 5, 3) := by decide +kernel
theorem dX6_chain_40 : decode cX6_chain 40 = .ok (.iconst 0, 1) := by decide +kernel
theorem dX6_chain_41 : decode cX6_chain 41 = .ok (.ireturn, 1) := by decide +kernel
theorem dX6_chain_42 : decode cX6_chain 42 = .ok (.aload_n 0, 1) := by decide +kernel
theorem dX6_chain_43 : decode cX6_chain 43 = .ok (.getfield 13, 3) := by decide +kernel
theorem dX6_chain_46 : decode cX6_chain 46 = .ok (.iconst 1, 1) := by decide +kernel
theorem dX6_chain_47 : decode cX6_chain 47 = .ok (.iaload, 1) := by decide +kernel
theorem dX6_chain_48 : decode cX6_chain 48 = .ok (.iconst 1, 1) := by decide +kernel
theorem dX6_chain_49 : decode cX6_chain 49 = .ok (.if_icmp .ne 16, 3) := by decide +kernel
theorem dX6_chain_52 : decode cX6_chain 52 = .ok (.aload_n 0, 1) := by decide +kernel
theorem dX6_chain_53 : decode cX6_chain 53 = .ok (.aload_n 0, 1) := by decide +kernel
theorem dX6_chain_54 : decode cX6_chain 54 = .ok (.getfield 13, 3) := by decide +kernel
theorem dX6_chain_57 : decode cX6_chain 57 = .ok (.iload_n 1, 1) := by decide +kernel
theorem dX6_chain_58 : decode cX6_chain 58 = .ok (.iload_n 2, 1) := by decide +kernel
theorem dX6_chain_59 : decode cX6_chain 59 = .ok (.invokevirtual 235, 3) := by decide +kernel
theorem dX6_chain_62 : decode cX6_chain 62 = .ok (.goto 4, 3) := by decide +kernel
theorem dX6_chain_65 : decode cX6_chain 65 = .ok (.iconst 0, 1) := by decide +kernel
theorem dX6_chain_66 : decode cX6_chain 66 = .ok (.ireturn, 1) := by decide +kernel
theorem dX6_reached_0 : decode cX6_reached 0 = .ok (.iload_n 1, 1) := by decide +kernel
theorem dX6_reached_1 : decode cX6_reached 1 = .ok (.iconst 2, 1) := by decide +kernel
theorem dX6_reached_2 : decode cX6_reached 2 = .ok (.if_icmp .ge 12, 3) := by decide +kernel
theorem dX6_reached_5 : decode cX6_reached 5 = .ok (.aload_n 0, 1) := by decide +kernel
theorem dX6_reached_6 : decode cX6_reached 6 = .ok (.iconst 0, 1) := by decide +kernel
theorem dX6_reached_7 : decode cX6_reached 7 = .ok (.iconst 0, 1) := by decide +kernel
theorem dX6_reached_8 : decode cX6_reached 8 = .ok (.invokestatic 72, 3) := by decide +kernel
theorem dX6_reached_11 : decode cX6_reached 11 = .ok (.goto 9, 3) := by decide +kernel
theorem dX6_reached_14 : decode cX6_reached 14 = .ok (.aload_n 0, 1) := by decide +kernel
theorem dX6_reached_15 : decode cX6_reached 15 = .ok (.iconst 0, 1) := by decide +kernel
theorem dX6_reached_16 : decode cX6_reached 16 = .ok (.iconst 0, 1) := by decide +kernel
theorem dX6_reached_17 : decode cX6_reached 17 = .ok (.invokestatic 75, 3) := by decide +kernel
theorem dX6_reached_20 : decode cX6_reached 20 = .ok (.istore_n 2, 1) := by decide +kernel
theorem dX6_reached_21 : decode cX6_reached 21 = .ok (.iconst 0, 1) := by decide +kernel
theorem dX6_reached_22 : decode cX6_reached 22 = .ok (.istore_n 3, 1) := by decide +kernel
theorem dX6_reached_23 : decode cX6_reached 23 = .ok (.iload_n 3, 1) := by decide +kernel
theorem dX6_reached_24 : decode cX6_reached 24 = .ok (.iconst 2, 1) := by decide +kernel
theorem dX6_reached_25 : decode cX6_reached 25 = .ok (.aload_n 0, 1) := by decide +kernel
theorem dX6_reached_26 : decode cX6_reached 26 = .ok (.iconst 5, 1) := by decide +kernel
theorem dX6_reached_27 : decode cX6_reached 27 = .ok (.iaload, 1) := by decide +kernel
theorem dX6_reached_28 : decode cX6_reached 28 = .ok (.imul, 1) := by decide +kernel
theorem dX6_reached_29 : decode cX6_reached 29 = .ok (.if_icmp .ge 73, 3) := by decide +kernel
theorem dX6_reached_32 : decode cX6_reached 32 = .ok (.iload_n 1, 1) := by decide +kernel
theorem dX6_reached_33 : decode cX6_reached 33 = .ok (.iconst 2, 1) := by decide +kernel
theorem dX6_reached_34 : decode cX6_reached 34 = .ok (.if_icmp .ge 16, 3) := by decide +kernel
theorem dX6_reached_37 : decode cX6_reached 37 = .ok (.aload_n 0, 1) := by decide +kernel
theorem dX6_reached_38 : decode cX6_reached 38 = .ok (.iload_n 3, 1) := by decide +kernel
theorem dX6_reached_39 : decode cX6_reached 39 = .ok (.iconst 2, 1) := by decide +kernel
theorem dX6_reached_40 : decode cX6_reached 40 = .ok (.idiv, 1) := by decide +kernel
theorem dX6_reached_41 : decode cX6_reached 41 = .ok (.iload_n 3, 1) := by decide +kernel
theorem dX6_reached_42 : decode cX6_reached 42 = .ok (.iconst 2, 1) := by decide +kernel
theorem dX6_reached_43 : decode cX6_reached 43 = .ok (.irem, 1) := by decide +kernel
theorem dX6_reached_44 : decode cX6_reached 44 = .ok (.invokestatic 72, 3) := by decide +kernel
theorem dX6_reached_47 : decode cX6_reached 47 = .ok (.goto 13, 3) := by decide +kernel
theorem dX6_reached_50 : decode cX6_reached 50 = .ok (.aload_n 0, 1) := by decide +kernel
theorem dX6_reached_51 : decode cX6_reached 51 = .ok (.iload_n 3, 1) := by decide +kernel
theorem dX6_reached_52 : decode cX6_reached 52 = .ok (.iconst 2, 1) := by decide +kernel
theorem dX6_reached_53 : decode cX6_reached 53 = .ok (.idiv, 1) := by decide +kernel
theorem dX6_reached_54 : decode cX6_reached 54 = .ok (.iload_n 3, 1) := by decide +kernel
theorem dX6_reached_55 : decode cX6_reached 55 = .ok (.iconst 2, 1) := by decide +kernel
theorem dX6_reached_56 : decode cX6_reached 56 = .ok (.irem, 1) := by decide +kernel
theorem dX6_reached_57 : decode cX6_reached 57 = .ok (.invokestatic 75, 3) := by decide +kernel
theorem dX6_reached_60 : decode cX6_reached 60 = .ok (.istore 4, 2) := by decide +kernel
theorem dX6_reached_62 : decode cX6_reached 62 = .ok (.iload_n 1, 1) := by decide +kernel
theorem dX6_reached_63 : decode cX6_reached 63 = .ok (.iconst 2, 1) := by decide +kernel
theorem dX6_reached_64 : decode cX6_reached 64 = .ok (.irem, 1) := by decide +kernel
theorem dX6_reached_65 : decode cX6_reached 65 = .ok (.ifCond .ne 18, 3) := by decide +kernel
theorem dX6_reached_68 : decode cX6_reached 68 = .ok (.iload 4, 2) := by decide +kernel
theorem dX6_reached_70 : decode cX6_reached 70 = .ok (.iload_n 2, 1) := by decide +kernel
theorem dX6_reached_71 : decode cX6_reached 71 = .ok (.if_icmp .ge 8, 3) := by decide +kernel
theorem dX6_reached_74 : decode cX6_reached 74 = .ok (.iload 4, 2) := by decide +kernel
theorem dX6_reached_76 : decode cX6_reached 76 = .ok (.goto 19, 3) := by decide +kernel
theorem dX6_reached_79 : decode cX6_reached 79 = .ok (.iload_n 2, 1) := by decide +kernel
theorem dX6_reached_80 : decode cX6_reached 80 = .ok (.goto 15, 3) := by decide +kernel
theorem dX6_reached_83 : decode cX6_reached 83 = .ok (.iload 4, 2) := by decide +kernel
theorem dX6_reached_85 : decode cX6_reached 85 = .ok (.iload_n 2, 1) := by decide +kernel
theorem dX6_reached_86 : decode cX6_reached 86 = .ok (.if_icmp .le 8, 3) := by decide +kernel
theorem dX6_reached_89 : decode cX6_reached 89 = .ok (.iload 4, 2) := by decide +kernel
theorem dX6_reached_91 : decode cX6_reached 91 = .ok (.goto 4, 3) := by decide +kernel
theorem dX6_reached_94 : decode cX6_reached 94 = .ok (.iload_n 2, 1) := by decide +kernel
theorem dX6_reached_95 : decode cX6_reached 95 = .ok (.istore_n 2, 1) := by decide +kernel
theorem dX6_reached_96 : decode cX6_reached 96 = .ok (.iinc 3 1, 3) := by decide +kernel
theorem dX6_reached_99 : decode cX6_reached 99 = .ok (.goto (-76), 3) := by decide +kernel
theorem dX6_reached_102 : decode cX6_reached 102 = .ok (.iload_n 2, 1) := by decide +kernel
theorem dX6_reached_103 : decode cX6_reached 103 = .ok (.ireturn, 1) := by decide +kernel
theorem dX6_reach_0 : decode cX6_reach 0 = .ok (.aload_n 0, 1) := by decide +kernel
theorem dX6_reach_1 : decode cX6_reach 1 = .ok (.iload_n 1, 1) := by decide +kernel
theorem dX6_reach_2 : decode cX6_reach 2 = .ok (.i2l, 1) := by decide +kernel
theorem dX6_reach_3 : decode cX6_reach 3 = .ok (.lconst 0, 1) := by decide +kernel
theorem dX6_reach_4 : decode cX6_reach 4 = .ok (.ldc2_w 217, 3) := by decide +kernel
theorem dX6_reach_7 : decode cX6_reach 7 = .ok (.invokestatic 55, 3) := by decide +kernel
theorem dX6_reach_10 : decode cX6_reach 10 = .ok (.ifCond .eq 7, 3) := by decide +kernel
theorem dX6_reach_13 : decode cX6_reach 13 = .ok (.iconst 0, 1) := by decide +kernel
theorem dX6_reach_14 : decode cX6_reach 14 = .ok (.goto 4, 3) := by decide +kernel
theorem dX6_reach_17 : decode cX6_reach 17 = .ok (.iconst 1, 1) := by decide +kernel
theorem dX6_reach_18 : decode cX6_reach 18 = .ok (.invokevirtual 141, 3) := by decide +kernel
theorem dX6_reach_21 : decode cX6_reach 21 = .ok (.ifCond .eq 5, 3) := by decide +kernel
theorem dX6_reach_24 : decode cX6_reach 24 = .ok (.iconst 0, 1) := by decide +kernel
theorem dX6_reach_25 : decode cX6_reach 25 = .ok (.ireturn, 1) := by decide +kernel
theorem dX6_reach_26 : decode cX6_reach 26 = .ok (.iload_n 1, 1) := by decide +kernel
theorem dX6_reach_27 : decode cX6_reach 27 = .ok (.iconst 3, 1) := by decide +kernel
theorem dX6_reach_28 : decode cX6_reach 28 = .ok (.if_icmp .le 17, 3) := by decide +kernel
theorem dX6_reach_31 : decode cX6_reach 31 = .ok (.aload_n 0, 1) := by decide +kernel
theorem dX6_reach_32 : decode cX6_reach 32 = .ok (.getfield 13, 3) := by decide +kernel
theorem dX6_reach_35 : decode cX6_reach 35 = .ok (.bipush 11, 2) := by decide +kernel
theorem dX6_reach_37 : decode cX6_reach 37 = .ok (.iload_n 1, 1) := by decide +kernel
theorem dX6_reach_38 : decode cX6_reach 38 = .ok (.iadd, 1) := by decide +kernel
theorem dX6_reach_39 : decode cX6_reach 39 = .ok (.iconst 4, 1) := by decide +kernel
theorem dX6_reach_40 : decode cX6_reach 40 = .ok (.isub, 1) := by decide +kernel
theorem dX6_reach_41 : decode cX6_reach 41 = .ok (.iaload, 1) := by decide +kernel
theorem dX6_reach_42 : decode cX6_reach 42 = .ok (.goto 24, 3) := by decide +kernel
theorem dX6_reach_45 : decode cX6_reach 45 = .ok (.aload_n 0, 1) := by decide +kernel
theorem dX6_reach_46 : decode cX6_reach 46 = .ok (.getfield 13, 3) := by decide +kernel
theorem dX6_reach_49 : decode cX6_reach 49 = .ok (.iconst 5, 1) := by decide +kernel
theorem dX6_reach_50 : decode cX6_reach 50 = .ok (.iaload, 1) := by decide +kernel
theorem dX6_reach_51 : decode cX6_reach 51 = .ok (.ifCond .ne 7, 3) := by decide +kernel
theorem dX6_reach_54 : decode cX6_reach 54 = .ok (.iconst (-1), 1) := by decide +kernel
theorem dX6_reach_55 : decode cX6_reach 55 = .ok (.goto 11, 3) := by decide +kernel
theorem dX6_reach_58 : decode cX6_reach 58 = .ok (.aload_n 0, 1) := by decide +kernel
theorem dX6_reach_59 : decode cX6_reach 59 = .ok (.getfield 13, 3) := by decide +kernel
theorem dX6_reach_62 : decode cX6_reach 62 = .ok (.iload_n 1, 1) := by decide +kernel
theorem dX6_reach_63 : decode cX6_reach 63 = .ok (.invokestatic 238, 3) := by decide +kernel
theorem dX6_reach_66 : decode cX6_reach 66 = .ok (.ireturn, 1) := by decide +kernel
theorem dX6_playsBest_0 : decode cX6_playsBest 0 = .ok (.iconst 1, 1) := by decide +kernel
theorem dX6_playsBest_1 : decode cX6_playsBest 1 = .ok (.istore_n 2, 1) := by decide +kernel
theorem dX6_playsBest_2 : decode cX6_playsBest 2 = .ok (.iconst 0, 1) := by decide +kernel
theorem dX6_playsBest_3 : decode cX6_playsBest 3 = .ok (.istore_n 3, 1) := by decide +kernel
theorem dX6_playsBest_4 : decode cX6_playsBest 4 = .ok (.iload_n 3, 1) := by decide +kernel
theorem dX6_playsBest_5 : decode cX6_playsBest 5 = .ok (.iload_n 1, 1) := by decide +kernel
theorem dX6_playsBest_6 : decode cX6_playsBest 6 = .ok (.if_icmp .ge 21, 3) := by decide +kernel
theorem dX6_playsBest_9 : decode cX6_playsBest 9 = .ok (.iload_n 2, 1) := by decide +kernel
theorem dX6_playsBest_10 : decode cX6_playsBest 10 = .ok (.ifCond .eq 17, 3) := by decide +kernel
theorem dX6_playsBest_13 : decode cX6_playsBest 13 = .ok (.aload_n 0, 1) := by decide +kernel
theorem dX6_playsBest_14 : decode cX6_playsBest 14 = .ok (.getfield 16, 3) := by decide +kernel
theorem dX6_playsBest_17 : decode cX6_playsBest 17 = .ok (.invokestatic 185, 3) := by decide +kernel
theorem dX6_playsBest_20 : decode cX6_playsBest 20 = .ok (.istore_n 2, 1) := by decide +kernel
theorem dX6_playsBest_21 : decode cX6_playsBest 21 = .ok (.iinc 3 1, 3) := by decide +kernel
theorem dX6_playsBest_24 : decode cX6_playsBest 24 = .ok (.goto (-20), 3) := by decide +kernel
theorem dX6_playsBest_27 : decode cX6_playsBest 27 = .ok (.iload_n 2, 1) := by decide +kernel
theorem dX6_playsBest_28 : decode cX6_playsBest 28 = .ok (.ireturn, 1) := by decide +kernel
theorem dX6_command_0 : decode cX6_command 0 = .ok (.iload_n 2, 1) := by decide +kernel
theorem dX6_command_1 : decode cX6_command 1 = .ok (.bipush 100, 2) := by decide +kernel
theorem dX6_command_3 : decode cX6_command 3 = .ok (.idiv, 1) := by decide +kernel
theorem dX6_command_4 : decode cX6_command 4 = .ok (.istore_n 3, 1) := by decide +kernel
theorem dX6_command_5 : decode cX6_command 5 = .ok (.iload_n 2, 1) := by decide +kernel
theorem dX6_command_6 : decode cX6_command 6 = .ok (.bipush 100, 2) := by decide +kernel
theorem dX6_command_8 : decode cX6_command 8 = .ok (.irem, 1) := by decide +kernel
theorem dX6_command_9 : decode cX6_command 9 = .ok (.istore 4, 2) := by decide +kernel
theorem dX6_command_11 : decode cX6_command 11 = .ok (.iload_n 2, 1) := by decide +kernel
theorem dX6_command_12 : decode cX6_command 12 = .ok (.bipush 10, 2) := by decide +kernel
theorem dX6_command_14 : decode cX6_command 14 = .ok (.irem, 1) := by decide +kernel
theorem dX6_command_15 : decode cX6_command 15 = .ok (.istore 5, 2) := by decide +kernel
theorem dX6_command_17 : decode cX6_command 17 = .ok (.iload_n 1, 1) := by decide +kernel
theorem dX6_command_18 : decode cX6_command 18 = .ok (.tableswitch 317 1 9 #[50, 85, 135, 165, 195, 216, 248, 272, 296], 50) := by decide +kernel
theorem dX6_command_68 : decode cX6_command 68 = .ok (.iload_n 3, 1) := by decide +kernel
theorem dX6_command_69 : decode cX6_command 69 = .ok (.i2l, 1) := by decide +kernel
theorem dX6_command_70 : decode cX6_command 70 = .ok (.ldc2_w 221, 3) := by decide +kernel
theorem dX6_command_73 : decode cX6_command 73 = .ok (.ldc2_w 209, 3) := by decide +kernel
theorem dX6_command_76 : decode cX6_command 76 = .ok (.invokestatic 55, 3) := by decide +kernel
theorem dX6_command_79 : decode cX6_command 79 = .ok (.ifCond .eq 22, 3) := by decide +kernel
theorem dX6_command_82 : decode cX6_command 82 = .ok (.aload_n 0, 1) := by decide +kernel
theorem dX6_command_83 : decode cX6_command 83 = .ok (.aload_n 0, 1) := by decide +kernel
theorem dX6_command_84 : decode cX6_command 84 = .ok (.getfield 16, 3) := by decide +kernel
theorem dX6_command_87 : decode cX6_command 87 = .ok (.iload_n 3, 1) := by decide +kernel
theorem dX6_command_88 : decode cX6_command 88 = .ok (.iload 4, 2) := by decide +kernel
theorem dX6_command_90 : decode cX6_command 90 = .ok (.i2l, 1) := by decide +kernel
theorem dX6_command_91 : decode cX6_command 91 = .ok (.invokevirtual 165, 3) := by decide +kernel
theorem dX6_command_94 : decode cX6_command 94 = .ok (.ifCond .le 7, 3) := by decide +kernel
theorem dX6_command_97 : decode cX6_command 97 = .ok (.iconst 1, 1) := by decide +kernel
theorem dX6_command_98 : decode cX6_command 98 = .ok (.goto 4, 3) := by decide +kernel
theorem dX6_command_101 : decode cX6_command 101 = .ok (.iconst 0, 1) := by decide +kernel
theorem dX6_command_102 : decode cX6_command 102 = .ok (.ireturn, 1) := by decide +kernel
theorem dX6_command_103 : decode cX6_command 103 = .ok (.iload_n 3, 1) := by decide +kernel
theorem dX6_command_104 : decode cX6_command 104 = .ok (.iconst 2, 1) := by decide +kernel
theorem dX6_command_105 : decode cX6_command 105 = .ok (.if_icmp .ge 46, 3) := by decide +kernel
theorem dX6_command_108 : decode cX6_command 108 = .ok (.iload 4, 2) := by decide +kernel
theorem dX6_command_110 : decode cX6_command 110 = .ok (.bipush 28, 2) := by decide +kernel
theorem dX6_command_112 : decode cX6_command 112 = .ok (.if_icmp .ge 39, 3) := by decide +kernel
theorem dX6_command_115 : decode cX6_command 115 = .ok (.aload_n 0, 1) := by decide +kernel
theorem dX6_command_116 : decode cX6_command 116 = .ok (.getfield 16, 3) := by decide +kernel
theorem dX6_command_119 : decode cX6_command 119 = .ok (.iconst 1, 1) := by decide +kernel
theorem dX6_command_120 : decode cX6_command 120 = .ok (.iaload, 1) := by decide +kernel
theorem dX6_command_121 : decode cX6_command 121 = .ok (.iconst 1, 1) := by decide +kernel
theorem dX6_command_122 : decode cX6_command 122 = .ok (.if_icmp .ne 29, 3) := by decide +kernel
theorem dX6_command_125 : decode cX6_command 125 = .ok (.aload_n 0, 1) := by decide +kernel
theorem dX6_command_126 : decode cX6_command 126 = .ok (.getfield 16, 3) := by decide +kernel
theorem dX6_command_129 : decode cX6_command 129 = .ok (.iload 4, 2) := by decide +kernel
theorem dX6_command_131 : decode cX6_command 131 = .ok (.iload_n 3, 1) := by decide +kernel
theorem dX6_command_132 : decode cX6_command 132 = .ok (.iconst 1, 1) := by decide +kernel
theorem dX6_command_133 : decode cX6_command 133 = .ok (.if_icmp .ne 7, 3) := by decide +kernel
theorem dX6_command_136 : decode cX6_command 136 = .ok (.iconst 1, 1) := by decide +kernel
theorem dX6_command_137 : decode cX6_command 137 = .ok (.goto 4, 3) := by decide +kernel
theorem dX6_command_140 : decode cX6_command 140 = .ok (.iconst 0, 1) := by decide +kernel
theorem dX6_command_141 : decode cX6_command 141 = .ok (.invokestatic 157, 3) := by decide +kernel
theorem dX6_command_144 : decode cX6_command 144 = .ok (.ifCond .ne 7, 3) := by decide +kernel
theorem dX6_command_147 : decode cX6_command 147 = .ok (.iconst 1, 1) := by decide +kernel
theorem dX6_command_148 : decode cX6_command 148 = .ok (.goto 4, 3) := by decide +kernel
theorem dX6_command_151 : decode cX6_command 151 = .ok (.iconst 0, 1) := by decide +kernel
theorem dX6_command_152 : decode cX6_command 152 = .ok (.ireturn, 1) := by decide +kernel
theorem dX6_command_153 : decode cX6_command 153 = .ok (.iload_n 2, 1) := by decide +kernel
theorem dX6_command_154 : decode cX6_command 154 = .ok (.ifCond .ne 27, 3) := by decide +kernel
theorem dX6_command_157 : decode cX6_command 157 = .ok (.aload_n 0, 1) := by decide +kernel
theorem dX6_command_158 : decode cX6_command 158 = .ok (.getfield 16, 3) := by decide +kernel
theorem dX6_command_161 : decode cX6_command 161 = .ok (.invokestatic 173, 3) := by decide +kernel
theorem dX6_command_164 : decode cX6_command 164 = .ok (.ifCond .eq 17, 3) := by decide +kernel
theorem dX6_command_167 : decode cX6_command 167 = .ok (.aload_n 0, 1) := by decide +kernel
theorem dX6_command_168 : decode cX6_command 168 = .ok (.getfield 16, 3) := by decide +kernel
theorem dX6_command_171 : decode cX6_command 171 = .ok (.invokestatic 176, 3) := by decide +kernel
theorem dX6_command_174 : decode cX6_command 174 = .ok (.ifCond .lt 7, 3) := by decide +kernel
theorem dX6_command_177 : decode cX6_command 177 = .ok (.iconst 1, 1) := by decide +kernel
theorem dX6_command_178 : decode cX6_command 178 = .ok (.goto 4, 3) := by decide +kernel
theorem dX6_command_181 : decode cX6_command 181 = .ok (.iconst 0, 1) := by decide +kernel
theorem dX6_command_182 : decode cX6_command 182 = .ok (.ireturn, 1) := by decide +kernel
theorem dX6_command_183 : decode cX6_command 183 = .ok (.iload_n 2, 1) := by decide +kernel
theorem dX6_command_184 : decode cX6_command 184 = .ok (.ifCond .ne 27, 3) := by decide +kernel
theorem dX6_command_187 : decode cX6_command 187 = .ok (.aload_n 0, 1) := by decide +kernel
theorem dX6_command_188 : decode cX6_command 188 = .ok (.getfield 16, 3) := by decide +kernel
theorem dX6_command_191 : decode cX6_command 191 = .ok (.invokestatic 179, 3) := by decide +kernel
theorem dX6_command_194 : decode cX6_command 194 = .ok (.ifCond .eq 17, 3) := by decide +kernel
theorem dX6_command_197 : decode cX6_command 197 = .ok (.aload_n 0, 1) := by decide +kernel
theorem dX6_command_198 : decode cX6_command 198 = .ok (.getfield 16, 3) := by decide +kernel
theorem dX6_command_201 : decode cX6_command 201 = .ok (.invokestatic 182, 3) := by decide +kernel
theorem dX6_command_204 : decode cX6_command 204 = .ok (.ifCond .le 7, 3) := by decide +kernel
theorem dX6_command_207 : decode cX6_command 207 = .ok (.iconst 1, 1) := by decide +kernel
theorem dX6_command_208 : decode cX6_command 208 = .ok (.goto 4, 3) := by decide +kernel
theorem dX6_command_211 : decode cX6_command 211 = .ok (.iconst 0, 1) := by decide +kernel
theorem dX6_command_212 : decode cX6_command 212 = .ok (.ireturn, 1) := by decide +kernel
theorem dX6_command_213 : decode cX6_command 213 = .ok (.iload_n 2, 1) := by decide +kernel
theorem dX6_command_214 : decode cX6_command 214 = .ok (.bipush 10, 2) := by decide +kernel
theorem dX6_command_216 : decode cX6_command 216 = .ok (.if_icmp .ge 16, 3) := by decide +kernel
theorem dX6_command_219 : decode cX6_command 219 = .ok (.aload_n 0, 1) := by decide +kernel
theorem dX6_command_220 : decode cX6_command 220 = .ok (.iload 5, 2) := by decide +kernel
theorem dX6_command_222 : decode cX6_command 222 = .ok (.invokevirtual 241, 3) := by decide +kernel
theorem dX6_command_225 : decode cX6_command 225 = .ok (.ifCond .eq 7, 3) := by decide +kernel
theorem dX6_command_228 : decode cX6_command 228 = .ok (.iconst 1, 1) := by decide +kernel
theorem dX6_command_229 : decode cX6_command 229 = .ok (.goto 4, 3) := by decide +kernel
theorem dX6_command_232 : decode cX6_command 232 = .ok (.iconst 0, 1) := by decide +kernel
theorem dX6_command_233 : decode cX6_command 233 = .ok (.ireturn, 1) := by decide +kernel
theorem dX6_command_234 : decode cX6_command 234 = .ok (.iload_n 2, 1) := by decide +kernel
theorem dX6_command_235 : decode cX6_command 235 = .ok (.iconst 4, 1) := by decide +kernel
theorem dX6_command_236 : decode cX6_command 236 = .ok (.if_icmp .ge 28, 3) := by decide +kernel
theorem dX6_command_239 : decode cX6_command 239 = .ok (.aload_n 0, 1) := by decide +kernel
theorem dX6_command_240 : decode cX6_command 240 = .ok (.getfield 16, 3) := by decide +kernel
theorem dX6_command_243 : decode cX6_command 243 = .ok (.iconst 1, 1) := by decide +kernel
theorem dX6_command_244 : decode cX6_command 244 = .ok (.iaload, 1) := by decide +kernel
theorem dX6_command_245 : decode cX6_command 245 = .ok (.iconst 1, 1) := by decide +kernel
theorem dX6_command_246 : decode cX6_command 246 = .ok (.if_icmp .ne 18, 3) := by decide +kernel
theorem dX6_command_249 : decode cX6_command 249 = .ok (.aload_n 0, 1) := by decide +kernel
theorem dX6_command_250 : decode cX6_command 250 = .ok (.getfield 16, 3) := by decide +kernel
theorem dX6_command_253 : decode cX6_command 253 = .ok (.iconst 3, 1) := by decide +kernel
theorem dX6_command_254 : decode cX6_command 254 = .ok (.iaload, 1) := by decide +kernel
theorem dX6_command_255 : decode cX6_command 255 = .ok (.iload 5, 2) := by decide +kernel
theorem dX6_command_257 : decode cX6_command 257 = .ok (.if_icmp .ne 7, 3) := by decide +kernel
theorem dX6_command_260 : decode cX6_command 260 = .ok (.iconst 1, 1) := by decide +kernel
theorem dX6_command_261 : decode cX6_command 261 = .ok (.goto 4, 3) := by decide +kernel
theorem dX6_command_264 : decode cX6_command 264 = .ok (.iconst 0, 1) := by decide +kernel
theorem dX6_command_265 : decode cX6_command 265 = .ok (.ireturn, 1) := by decide +kernel
theorem dX6_command_266 : decode cX6_command 266 = .ok (.iload_n 3, 1) := by decide +kernel
theorem dX6_command_267 : decode cX6_command 267 = .ok (.iconst 4, 1) := by decide +kernel
theorem dX6_command_268 : decode cX6_command 268 = .ok (.if_icmp .ge 20, 3) := by decide +kernel
theorem dX6_command_271 : decode cX6_command 271 = .ok (.aload_n 0, 1) := by decide +kernel
theorem dX6_command_272 : decode cX6_command 272 = .ok (.getfield 16, 3) := by decide +kernel
theorem dX6_command_275 : decode cX6_command 275 = .ok (.iload_n 3, 1) := by decide +kernel
theorem dX6_command_276 : decode cX6_command 276 = .ok (.invokestatic 119, 3) := by decide +kernel
theorem dX6_command_279 : decode cX6_command 279 = .ok (.iload 4, 2) := by decide +kernel
theorem dX6_command_281 : decode cX6_command 281 = .ok (.if_icmp .gt 7, 3) := by decide +kernel
theorem dX6_command_284 : decode cX6_command 284 = .ok (.iconst 1, 1) := by decide +kernel
theorem dX6_command_285 : decode cX6_command 285 = .ok (.goto 4, 3) := by decide +kernel
theorem dX6_command_288 : decode cX6_command 288 = .ok (.iconst 0, 1) := by decide +kernel
theorem dX6_command_289 : decode cX6_command 289 = .ok (.ireturn, 1) := by decide +kernel
theorem dX6_command_290 : decode cX6_command 290 = .ok (.iload_n 2, 1) := by decide +kernel
theorem dX6_command_291 : decode cX6_command 291 = .ok (.bipush 10, 2) := by decide +kernel
theorem dX6_command_293 : decode cX6_command 293 = .ok (.if_icmp .ge 19, 3) := by decide +kernel
theorem dX6_command_296 : decode cX6_command 296 = .ok (.aload_n 0, 1) := by decide +kernel
theorem dX6_command_297 : decode cX6_command 297 = .ok (.getfield 16, 3) := by decide +kernel
theorem dX6_command_300 : decode cX6_command 300 = .ok (.bipush 6, 2) := by decide +kernel
theorem dX6_command_302 : decode cX6_command 302 = .ok (.iaload, 1) := by decide +kernel
theorem dX6_command_303 : decode cX6_command 303 = .ok (.iload 5, 2) := by decide +kernel
theorem dX6_command_305 : decode cX6_command 305 = .ok (.if_icmp .ne 7, 3) := by decide +kernel
theorem dX6_command_308 : decode cX6_command 308 = .ok (.iconst 1, 1) := by decide +kernel
theorem dX6_command_309 : decode cX6_command 309 = .ok (.goto 4, 3) := by decide +kernel
theorem dX6_command_312 : decode cX6_command 312 = .ok (.iconst 0, 1) := by decide +kernel
theorem dX6_command_313 : decode cX6_command 313 = .ok (.ireturn, 1) := by decide +kernel
theorem dX6_command_314 : decode cX6_command 314 = .ok (.iload_n 3, 1) := by decide +kernel
theorem dX6_command_315 : decode cX6_command 315 = .ok (.ifCond .ne 18, 3) := by decide +kernel
theorem dX6_command_318 : decode cX6_command 318 = .ok (.aload_n 0, 1) := by decide +kernel
theorem dX6_command_319 : decode cX6_command 319 = .ok (.getfield 16, 3) := by decide +kernel
theorem dX6_command_322 : decode cX6_command 322 = .ok (.iconst 5, 1) := by decide +kernel
theorem dX6_command_323 : decode cX6_command 323 = .ok (.iaload, 1) := by decide +kernel
theorem dX6_command_324 : decode cX6_command 324 = .ok (.iload 4, 2) := by decide +kernel
theorem dX6_command_326 : decode cX6_command 326 = .ok (.if_icmp .lt 7, 3) := by decide +kernel
theorem dX6_command_329 : decode cX6_command 329 = .ok (.iconst 1, 1) := by decide +kernel
theorem dX6_command_330 : decode cX6_command 330 = .ok (.goto 4, 3) := by decide +kernel
theorem dX6_command_333 : decode cX6_command 333 = .ok (.iconst 0, 1) := by decide +kernel
theorem dX6_command_334 : decode cX6_command 334 = .ok (.ireturn, 1) := by decide +kernel
theorem dX6_command_335 : decode cX6_command 335 = .ok (.iconst 0, 1) := by decide +kernel
theorem dX6_command_336 : decode cX6_command 336 = .ok (.ireturn, 1) := by decide +kernel
theorem dX6_runScript_0 : decode cX6_runScript 0 = .ok (.lconst 1, 1) := by decide +kernel
theorem dX6_runScript_1 : decode cX6_runScript 1 = .ok (.lstore 4, 2) := by decide +kernel
theorem dX6_runScript_3 : decode cX6_runScript 3 = .ok (.iconst 0, 1) := by decide +kernel
theorem dX6_runScript_4 : decode cX6_runScript 4 = .ok (.istore 6, 2) := by decide +kernel
theorem dX6_runScript_6 : decode cX6_runScript 6 = .ok (.iload 6, 2) := by decide +kernel
theorem dX6_runScript_8 : decode cX6_runScript 8 = .ok (.iload_n 1, 1) := by decide +kernel
theorem dX6_runScript_9 : decode cX6_runScript 9 = .ok (.if_icmp .ge 23, 3) := by decide +kernel
theorem dX6_runScript_12 : decode cX6_runScript 12 = .ok (.iload 6, 2) := by decide +kernel
theorem dX6_runScript_14 : decode cX6_runScript 14 = .ok (.iconst 4, 1) := by decide +kernel
theorem dX6_runScript_15 : decode cX6_runScript 15 = .ok (.if_icmp .ge 17, 3) := by decide +kernel
theorem dX6_runScript_18 : decode cX6_runScript 18 = .ok (.lload 4, 2) := by decide +kernel
theorem dX6_runScript_20 : decode cX6_runScript 20 = .ok (.ldc2_w 244, 3) := by decide +kernel
theorem dX6_runScript_23 : decode cX6_runScript 23 = .ok (.lmul, 1) := by decide +kernel
theorem dX6_runScript_24 : decode cX6_runScript 24 = .ok (.lstore 4, 2) := by decide +kernel
theorem dX6_runScript_26 : decode cX6_runScript 26 = .ok (.iinc 6 1, 3) := by decide +kernel
theorem dX6_runScript_29 : decode cX6_runScript 29 = .ok (.goto (-23), 3) := by decide +kernel
theorem dX6_runScript_32 : decode cX6_runScript 32 = .ok (.aload_n 0, 1) := by decide +kernel
theorem dX6_runScript_33 : decode cX6_runScript 33 = .ok (.iload_n 1, 1) := by decide +kernel
theorem dX6_runScript_34 : decode cX6_runScript 34 = .ok (.i2l, 1) := by decide +kernel
theorem dX6_runScript_35 : decode cX6_runScript 35 = .ok (.lconst 1, 1) := by decide +kernel
theorem dX6_runScript_36 : decode cX6_runScript 36 = .ok (.ldc2_w 209, 3) := by decide +kernel
theorem dX6_runScript_39 : decode cX6_runScript 39 = .ok (.invokestatic 55, 3) := by decide +kernel
theorem dX6_runScript_42 : decode cX6_runScript 42 = .ok (.ifCond .eq 19, 3) := by decide +kernel
theorem dX6_runScript_45 : decode cX6_runScript 45 = .ok (.lload_n 2, 1) := by decide +kernel
theorem dX6_runScript_46 : decode cX6_runScript 46 = .ok (.lconst 0, 1) := by decide +kernel
theorem dX6_runScript_47 : decode cX6_runScript 47 = .ok (.lload 4, 2) := by decide +kernel
theorem dX6_runScript_49 : decode cX6_runScript 49 = .ok (.lconst 1, 1) := by decide +kernel
theorem dX6_runScript_50 : decode cX6_runScript 50 = .ok (.lsub, 1) := by decide +kernel
theorem dX6_runScript_51 : decode cX6_runScript 51 = .ok (.invokestatic 55, 3) := by decide +kernel
theorem dX6_runScript_54 : decode cX6_runScript 54 = .ok (.ifCond .eq 7, 3) := by decide +kernel
theorem dX6_runScript_57 : decode cX6_runScript 57 = .ok (.iconst 0, 1) := by decide +kernel
theorem dX6_runScript_58 : decode cX6_runScript 58 = .ok (.goto 4, 3) := by decide +kernel
theorem dX6_runScript_61 : decode cX6_runScript 61 = .ok (.iconst 1, 1) := by decide +kernel
theorem dX6_runScript_62 : decode cX6_runScript 62 = .ok (.invokevirtual 141, 3) := by decide +kernel
theorem dX6_runScript_65 : decode cX6_runScript 65 = .ok (.ifCond .eq 5, 3) := by decide +kernel
theorem dX6_runScript_68 : decode cX6_runScript 68 = .ok (.iconst 0, 1) := by decide +kernel
theorem dX6_runScript_69 : decode cX6_runScript 69 = .ok (.ireturn, 1) := by decide +kernel
theorem dX6_runScript_70 : decode cX6_runScript 70 = .ok (.aload_n 0, 1) := by decide +kernel
theorem dX6_runScript_71 : decode cX6_runScript 71 = .ok (.getfield 13, 3) := by decide +kernel
theorem dX6_runScript_74 : decode cX6_runScript 74 = .ok (.iconst 0, 1) := by decide +kernel
theorem dX6_runScript_75 : decode cX6_runScript 75 = .ok (.aload_n 0, 1) := by decide +kernel
theorem dX6_runScript_76 : decode cX6_runScript 76 = .ok (.getfield 16, 3) := by decide +kernel
theorem dX6_runScript_79 : decode cX6_runScript 79 = .ok (.iconst 0, 1) := by decide +kernel
theorem dX6_runScript_80 : decode cX6_runScript 80 = .ok (.invokestatic 194, 3) := by decide +kernel
theorem dX6_runScript_83 : decode cX6_runScript 83 = .ok (.iconst 0, 1) := by decide +kernel
theorem dX6_runScript_84 : decode cX6_runScript 84 = .ok (.istore 6, 2) := by decide +kernel
theorem dX6_runScript_86 : decode cX6_runScript 86 = .ok (.iload 6, 2) := by decide +kernel
theorem dX6_runScript_88 : decode cX6_runScript 88 = .ok (.iload_n 1, 1) := by decide +kernel
theorem dX6_runScript_89 : decode cX6_runScript 89 = .ok (.if_icmp .ge 50, 3) := by decide +kernel
theorem dX6_runScript_92 : decode cX6_runScript 92 = .ok (.lload 4, 2) := by decide +kernel
theorem dX6_runScript_94 : decode cX6_runScript 94 = .ok (.ldc2_w 244, 3) := by decide +kernel
theorem dX6_runScript_97 : decode cX6_runScript 97 = .ok (.ldiv, 1) := by decide +kernel
theorem dX6_runScript_98 : decode cX6_runScript 98 = .ok (.lstore 4, 2) := by decide +kernel
theorem dX6_runScript_100 : decode cX6_runScript 100 = .ok (.lload_n 2, 1) := by decide +kernel
theorem dX6_runScript_101 : decode cX6_runScript 101 = .ok (.lload 4, 2) := by decide +kernel
theorem dX6_runScript_103 : decode cX6_runScript 103 = .ok (.ldiv, 1) := by decide +kernel
theorem dX6_runScript_104 : decode cX6_runScript 104 = .ok (.ldc2_w 244, 3) := by decide +kernel
theorem dX6_runScript_107 : decode cX6_runScript 107 = .ok (.lrem, 1) := by decide +kernel
theorem dX6_runScript_108 : decode cX6_runScript 108 = .ok (.l2i, 1) := by decide +kernel
theorem dX6_runScript_109 : decode cX6_runScript 109 = .ok (.istore 7, 2) := by decide +kernel
theorem dX6_runScript_111 : decode cX6_runScript 111 = .ok (.aload_n 0, 1) := by decide +kernel
theorem dX6_runScript_112 : decode cX6_runScript 112 = .ok (.iload 7, 2) := by decide +kernel
theorem dX6_runScript_114 : decode cX6_runScript 114 = .ok (.sipush 1000, 3) := by decide +kernel
theorem dX6_runScript_117 : decode cX6_runScript 117 = .ok (.idiv, 1) := by decide +kernel
theorem dX6_runScript_118 : decode cX6_runScript 118 = .ok (.iload 7, 2) := by decide +kernel
theorem dX6_runScript_120 : decode cX6_runScript 120 = .ok (.sipush 1000, 3) := by decide +kernel
theorem dX6_runScript_123 : decode cX6_runScript 123 = .ok (.irem, 1) := by decide +kernel
theorem dX6_runScript_124 : decode cX6_runScript 124 = .ok (.invokevirtual 246, 3) := by decide +kernel
theorem dX6_runScript_127 : decode cX6_runScript 127 = .ok (.ifCond .ne 6, 3) := by decide +kernel
theorem dX6_runScript_130 : decode cX6_runScript 130 = .ok (.iload 6, 2) := by decide +kernel
theorem dX6_runScript_132 : decode cX6_runScript 132 = .ok (.ireturn, 1) := by decide +kernel
theorem dX6_runScript_133 : decode cX6_runScript 133 = .ok (.iinc 6 1, 3) := by decide +kernel
theorem dX6_runScript_136 : decode cX6_runScript 136 = .ok (.goto (-50), 3) := by decide +kernel
theorem dX6_runScript_139 : decode cX6_runScript 139 = .ok (.iconst (-1), 1) := by decide +kernel
theorem dX6_runScript_140 : decode cX6_runScript 140 = .ok (.ireturn, 1) := by decide +kernel
theorem dX6_turnOf_0 : decode cX6_turnOf 0 = .ok (.iload_n 2, 1) := by decide +kernel
theorem dX6_turnOf_1 : decode cX6_turnOf 1 = .ok (.bipush 16, 2) := by decide +kernel
theorem dX6_turnOf_3 : decode cX6_turnOf 3 = .ok (.idiv, 1) := by decide +kernel
theorem dX6_turnOf_4 : decode cX6_turnOf 4 = .ok (.istore_n 3, 1) := by decide +kernel
theorem dX6_turnOf_5 : decode cX6_turnOf 5 = .ok (.aload_n 1, 1) := by decide +kernel
theorem dX6_turnOf_6 : decode cX6_turnOf 6 = .ok (.iconst 1, 1) := by decide +kernel
theorem dX6_turnOf_7 : decode cX6_turnOf 7 = .ok (.iaload, 1) := by decide +kernel
theorem dX6_turnOf_8 : decode cX6_turnOf 8 = .ok (.iconst 1, 1) := by decide +kernel
theorem dX6_turnOf_9 : decode cX6_turnOf 9 = .ok (.if_icmp .eq 19, 3) := by decide +kernel
theorem dX6_turnOf_12 : decode cX6_turnOf 12 = .ok (.aload_n 0, 1) := by decide +kernel
theorem dX6_turnOf_13 : decode cX6_turnOf 13 = .ok (.aload_n 1, 1) := by decide +kernel
theorem dX6_turnOf_14 : decode cX6_turnOf 14 = .ok (.iconst 2, 1) := by decide +kernel
theorem dX6_turnOf_15 : decode cX6_turnOf 15 = .ok (.iload_n 3, 1) := by decide +kernel
theorem dX6_turnOf_16 : decode cX6_turnOf 16 = .ok (.iconst 3, 1) := by decide +kernel
theorem dX6_turnOf_17 : decode cX6_turnOf 17 = .ok (.irem, 1) := by decide +kernel
theorem dX6_turnOf_18 : decode cX6_turnOf 18 = .ok (.iadd, 1) := by decide +kernel
theorem dX6_turnOf_19 : decode cX6_turnOf 19 = .ok (.iload_n 3, 1) := by decide +kernel
theorem dX6_turnOf_20 : decode cX6_turnOf 20 = .ok (.i2l, 1) := by decide +kernel
theorem dX6_turnOf_21 : decode cX6_turnOf 21 = .ok (.invokevirtual 165, 3) := by decide +kernel
theorem dX6_turnOf_24 : decode cX6_turnOf 24 = .ok (.pop, 1) := by decide +kernel
theorem dX6_turnOf_25 : decode cX6_turnOf 25 = .ok (.goto 64, 3) := by decide +kernel
theorem dX6_turnOf_28 : decode cX6_turnOf 28 = .ok (.aload_n 1, 1) := by decide +kernel
theorem dX6_turnOf_29 : decode cX6_turnOf 29 = .ok (.invokestatic 249, 3) := by decide +kernel
theorem dX6_turnOf_32 : decode cX6_turnOf 32 = .ok (.istore 4, 2) := by decide +kernel
theorem dX6_turnOf_34 : decode cX6_turnOf 34 = .ok (.iload 4, 2) := by decide +kernel
theorem dX6_turnOf_36 : decode cX6_turnOf 36 = .ok (.ifCond .le 33, 3) := by decide +kernel
theorem dX6_turnOf_39 : decode cX6_turnOf 39 = .ok (.aload_n 1, 1) := by decide +kernel
theorem dX6_turnOf_40 : decode cX6_turnOf 40 = .ok (.aload_n 1, 1) := by decide +kernel
theorem dX6_turnOf_41 : decode cX6_turnOf 41 = .ok (.iload_n 2, 1) := by decide +kernel
theorem dX6_turnOf_42 : decode cX6_turnOf 42 = .ok (.bipush 16, 2) := by decide +kernel
theorem dX6_turnOf_44 : decode cX6_turnOf 44 = .ok (.irem, 1) := by decide +kernel
theorem dX6_turnOf_45 : decode cX6_turnOf 45 = .ok (.iload 4, 2) := by decide +kernel
theorem dX6_turnOf_47 : decode cX6_turnOf 47 = .ok (.irem, 1) := by decide +kernel
theorem dX6_turnOf_48 : decode cX6_turnOf 48 = .ok (.invokestatic 252, 3) := by decide +kernel
theorem dX6_turnOf_51 : decode cX6_turnOf 51 = .ok (.iload_n 3, 1) := by decide +kernel
theorem dX6_turnOf_52 : decode cX6_turnOf 52 = .ok (.iconst 2, 1) := by decide +kernel
theorem dX6_turnOf_53 : decode cX6_turnOf 53 = .ok (.irem, 1) := by decide +kernel
theorem dX6_turnOf_54 : decode cX6_turnOf 54 = .ok (.iconst 1, 1) := by decide +kernel
theorem dX6_turnOf_55 : decode cX6_turnOf 55 = .ok (.if_icmp .ne 7, 3) := by decide +kernel
theorem dX6_turnOf_58 : decode cX6_turnOf 58 = .ok (.iconst 1, 1) := by decide +kernel
theorem dX6_turnOf_59 : decode cX6_turnOf 59 = .ok (.goto 4, 3) := by decide +kernel
theorem dX6_turnOf_62 : decode cX6_turnOf 62 = .ok (.iconst 0, 1) := by decide +kernel
theorem dX6_turnOf_63 : decode cX6_turnOf 63 = .ok (.invokestatic 129, 3) := by decide +kernel
theorem dX6_turnOf_66 : decode cX6_turnOf 66 = .ok (.goto 23, 3) := by decide +kernel
theorem dX6_turnOf_69 : decode cX6_turnOf 69 = .ok (.aload_n 1, 1) := by decide +kernel
theorem dX6_turnOf_70 : decode cX6_turnOf 70 = .ok (.invokestatic 173, 3) := by decide +kernel
theorem dX6_turnOf_73 : decode cX6_turnOf 73 = .ok (.ifCond .eq 11, 3) := by decide +kernel
theorem dX6_turnOf_76 : decode cX6_turnOf 76 = .ok (.aload_n 1, 1) := by decide +kernel
theorem dX6_turnOf_77 : decode cX6_turnOf 77 = .ok (.invokestatic 176, 3) := by decide +kernel
theorem dX6_turnOf_80 : decode cX6_turnOf 80 = .ok (.pop, 1) := by decide +kernel
theorem dX6_turnOf_81 : decode cX6_turnOf 81 = .ok (.goto 8, 3) := by decide +kernel
theorem dX6_turnOf_84 : decode cX6_turnOf 84 = .ok (.aload_n 1, 1) := by decide +kernel
theorem dX6_turnOf_85 : decode cX6_turnOf 85 = .ok (.invokestatic 182, 3) := by decide +kernel
theorem dX6_turnOf_88 : decode cX6_turnOf 88 = .ok (.pop, 1) := by decide +kernel
theorem dX6_turnOf_89 : decode cX6_turnOf 89 = .ok (.return_, 1) := by decide +kernel
theorem dX6_simulate_0 : decode cX6_simulate 0 = .ok (.aload_n 0, 1) := by decide +kernel
theorem dX6_simulate_1 : decode cX6_simulate 1 = .ok (.iload_n 3, 1) := by decide +kernel
theorem dX6_simulate_2 : decode cX6_simulate 2 = .ok (.i2l, 1) := by decide +kernel
theorem dX6_simulate_3 : decode cX6_simulate 3 = .ok (.lconst 1, 1) := by decide +kernel
theorem dX6_simulate_4 : decode cX6_simulate 4 = .ok (.ldc2_w 255, 3) := by decide +kernel
theorem dX6_simulate_7 : decode cX6_simulate 7 = .ok (.invokestatic 55, 3) := by decide +kernel
theorem dX6_simulate_10 : decode cX6_simulate 10 = .ok (.ifCond .eq 7, 3) := by decide +kernel
theorem dX6_simulate_13 : decode cX6_simulate 13 = .ok (.iconst 0, 1) := by decide +kernel
theorem dX6_simulate_14 : decode cX6_simulate 14 = .ok (.goto 4, 3) := by decide +kernel
theorem dX6_simulate_17 : decode cX6_simulate 17 = .ok (.iconst 1, 1) := by decide +kernel
theorem dX6_simulate_18 : decode cX6_simulate 18 = .ok (.invokevirtual 141, 3) := by decide +kernel
theorem dX6_simulate_21 : decode cX6_simulate 21 = .ok (.ifCond .eq 5, 3) := by decide +kernel
theorem dX6_simulate_24 : decode cX6_simulate 24 = .ok (.iconst 0, 1) := by decide +kernel
theorem dX6_simulate_25 : decode cX6_simulate 25 = .ok (.ireturn, 1) := by decide +kernel
theorem dX6_simulate_26 : decode cX6_simulate 26 = .ok (.aload_n 0, 1) := by decide +kernel
theorem dX6_simulate_27 : decode cX6_simulate 27 = .ok (.getfield 13, 3) := by decide +kernel
theorem dX6_simulate_30 : decode cX6_simulate 30 = .ok (.iconst 0, 1) := by decide +kernel
theorem dX6_simulate_31 : decode cX6_simulate 31 = .ok (.aload_n 0, 1) := by decide +kernel
theorem dX6_simulate_32 : decode cX6_simulate 32 = .ok (.getfield 16, 3) := by decide +kernel
theorem dX6_simulate_35 : decode cX6_simulate 35 = .ok (.iconst 0, 1) := by decide +kernel
theorem dX6_simulate_36 : decode cX6_simulate 36 = .ok (.invokestatic 194, 3) := by decide +kernel
theorem dX6_simulate_39 : decode cX6_simulate 39 = .ok (.lload_n 1, 1) := by decide +kernel
theorem dX6_simulate_40 : decode cX6_simulate 40 = .ok (.lstore 4, 2) := by decide +kernel
theorem dX6_simulate_42 : decode cX6_simulate 42 = .ok (.iconst 0, 1) := by decide +kernel
theorem dX6_simulate_43 : decode cX6_simulate 43 = .ok (.istore 6, 2) := by decide +kernel
theorem dX6_simulate_45 : decode cX6_simulate 45 = .ok (.iload 6, 2) := by decide +kernel
theorem dX6_simulate_47 : decode cX6_simulate 47 = .ok (.iload_n 3, 1) := by decide +kernel
theorem dX6_simulate_48 : decode cX6_simulate 48 = .ok (.if_icmp .ge 35, 3) := by decide +kernel
theorem dX6_simulate_51 : decode cX6_simulate 51 = .ok (.lload 4, 2) := by decide +kernel
theorem dX6_simulate_53 : decode cX6_simulate 53 = .ok (.ldc2_w 105, 3) := by decide +kernel
theorem dX6_simulate_56 : decode cX6_simulate 56 = .ok (.lmul, 1) := by decide +kernel
theorem dX6_simulate_57 : decode cX6_simulate 57 = .ok (.ldc2_w 107, 3) := by decide +kernel
theorem dX6_simulate_60 : decode cX6_simulate 60 = .ok (.ladd, 1) := by decide +kernel
theorem dX6_simulate_61 : decode cX6_simulate 61 = .ok (.lstore 4, 2) := by decide +kernel
theorem dX6_simulate_63 : decode cX6_simulate 63 = .ok (.aload_n 0, 1) := by decide +kernel
theorem dX6_simulate_64 : decode cX6_simulate 64 = .ok (.aload_n 0, 1) := by decide +kernel
theorem dX6_simulate_65 : decode cX6_simulate 65 = .ok (.getfield 16, 3) := by decide +kernel
theorem dX6_simulate_68 : decode cX6_simulate 68 = .ok (.lload 4, 2) := by decide +kernel
theorem dX6_simulate_70 : decode cX6_simulate 70 = .ok (.bipush 33, 2) := by decide +kernel
theorem dX6_simulate_72 : decode cX6_simulate 72 = .ok (.lushr, 1) := by decide +kernel
theorem dX6_simulate_73 : decode cX6_simulate 73 = .ok (.l2i, 1) := by decide +kernel
theorem dX6_simulate_74 : decode cX6_simulate 74 = .ok (.invokevirtual 257, 3) := by decide +kernel
theorem dX6_simulate_77 : decode cX6_simulate 77 = .ok (.iinc 6 1, 3) := by decide +kernel
theorem dX6_simulate_80 : decode cX6_simulate 80 = .ok (.goto (-35), 3) := by decide +kernel
theorem dX6_simulate_83 : decode cX6_simulate 83 = .ok (.sipush 10000, 3) := by decide +kernel
theorem dX6_simulate_86 : decode cX6_simulate 86 = .ok (.aload_n 0, 1) := by decide +kernel
theorem dX6_simulate_87 : decode cX6_simulate 87 = .ok (.getfield 16, 3) := by decide +kernel
theorem dX6_simulate_90 : decode cX6_simulate 90 = .ok (.iconst 0, 1) := by decide +kernel
theorem dX6_simulate_91 : decode cX6_simulate 91 = .ok (.iaload, 1) := by decide +kernel
theorem dX6_simulate_92 : decode cX6_simulate 92 = .ok (.aload_n 0, 1) := by decide +kernel
theorem dX6_simulate_93 : decode cX6_simulate 93 = .ok (.getfield 13, 3) := by decide +kernel
theorem dX6_simulate_96 : decode cX6_simulate 96 = .ok (.iconst 0, 1) := by decide +kernel
theorem dX6_simulate_97 : decode cX6_simulate 97 = .ok (.iaload, 1) := by decide +kernel
theorem dX6_simulate_98 : decode cX6_simulate 98 = .ok (.isub, 1) := by decide +kernel
theorem dX6_simulate_99 : decode cX6_simulate 99 = .ok (.imul, 1) := by decide +kernel
theorem dX6_simulate_100 : decode cX6_simulate 100 = .ok (.bipush 100, 2) := by decide +kernel
theorem dX6_simulate_102 : decode cX6_simulate 102 = .ok (.aload_n 0, 1) := by decide +kernel
theorem dX6_simulate_103 : decode cX6_simulate 103 = .ok (.getfield 16, 3) := by decide +kernel
theorem dX6_simulate_106 : decode cX6_simulate 106 = .ok (.iconst 5, 1) := by decide +kernel
theorem dX6_simulate_107 : decode cX6_simulate 107 = .ok (.iaload, 1) := by decide +kernel
theorem dX6_simulate_108 : decode cX6_simulate 108 = .ok (.imul, 1) := by decide +kernel
theorem dX6_simulate_109 : decode cX6_simulate 109 = .ok (.iadd, 1) := by decide +kernel
theorem dX6_simulate_110 : decode cX6_simulate 110 = .ok (.aload_n 0, 1) := by decide +kernel
theorem dX6_simulate_111 : decode cX6_simulate 111 = .ok (.getfield 16, 3) := by decide +kernel
theorem dX6_simulate_114 : decode cX6_simulate 114 = .ok (.iconst 4, 1) := by decide +kernel
theorem dX6_simulate_115 : decode cX6_simulate 115 = .ok (.iaload, 1) := by decide +kernel
theorem dX6_simulate_116 : decode cX6_simulate 116 = .ok (.iadd, 1) := by decide +kernel
theorem dX6_simulate_117 : decode cX6_simulate 117 = .ok (.ireturn, 1) := by decide +kernel
theorem dX6_save_0 : decode cX6_save 0 = .ok (.aload_n 0, 1) := by decide +kernel
theorem dX6_save_1 : decode cX6_save 1 = .ok (.iload_n 1, 1) := by decide +kernel
theorem dX6_save_2 : decode cX6_save 2 = .ok (.i2l, 1) := by decide +kernel
theorem dX6_save_3 : decode cX6_save 3 = .ok (.lconst 0, 1) := by decide +kernel
theorem dX6_save_4 : decode cX6_save 4 = .ok (.lconst 1, 1) := by decide +kernel
theorem dX6_save_5 : decode cX6_save 5 = .ok (.invokestatic 55, 3) := by decide +kernel
theorem dX6_save_8 : decode cX6_save 8 = .ok (.ifCond .eq 7, 3) := by decide +kernel
theorem dX6_save_11 : decode cX6_save 11 = .ok (.iconst 0, 1) := by decide +kernel
theorem dX6_save_12 : decode cX6_save 12 = .ok (.goto 4, 3) := by decide +kernel
theorem dX6_save_15 : decode cX6_save 15 = .ok (.iconst 1, 1) := by decide +kernel
theorem dX6_save_16 : decode cX6_save 16 = .ok (.invokevirtual 141, 3) := by decide +kernel
theorem dX6_save_19 : decode cX6_save 19 = .ok (.ifCond .eq 5, 3) := by decide +kernel
theorem dX6_save_22 : decode cX6_save 22 = .ok (.iconst 0, 1) := by decide +kernel
theorem dX6_save_23 : decode cX6_save 23 = .ok (.ireturn, 1) := by decide +kernel
theorem dX6_save_24 : decode cX6_save 24 = .ok (.aload_n 0, 1) := by decide +kernel
theorem dX6_save_25 : decode cX6_save 25 = .ok (.getfield 13, 3) := by decide +kernel
theorem dX6_save_28 : decode cX6_save 28 = .ok (.iconst 0, 1) := by decide +kernel
theorem dX6_save_29 : decode cX6_save 29 = .ok (.aload_n 0, 1) := by decide +kernel
theorem dX6_save_30 : decode cX6_save 30 = .ok (.getfield 22, 3) := by decide +kernel
theorem dX6_save_33 : decode cX6_save 33 = .ok (.sipush 217, 3) := by decide +kernel
theorem dX6_save_36 : decode cX6_save 36 = .ok (.iload_n 1, 1) := by decide +kernel
theorem dX6_save_37 : decode cX6_save 37 = .ok (.imul, 1) := by decide +kernel
theorem dX6_save_38 : decode cX6_save 38 = .ok (.invokestatic 194, 3) := by decide +kernel
theorem dX6_save_41 : decode cX6_save 41 = .ok (.aload_n 0, 1) := by decide +kernel
theorem dX6_save_42 : decode cX6_save 42 = .ok (.getfield 25, 3) := by decide +kernel
theorem dX6_save_45 : decode cX6_save 45 = .ok (.iload_n 1, 1) := by decide +kernel
theorem dX6_save_46 : decode cX6_save 46 = .ok (.iconst 1, 1) := by decide +kernel
theorem dX6_save_47 : decode cX6_save 47 = .ok (.bastore, 1) := by decide +kernel
theorem dX6_save_48 : decode cX6_save 48 = .ok (.aload_n 0, 1) := by decide +kernel
theorem dX6_save_49 : decode cX6_save 49 = .ok (.getfield 13, 3) := by decide +kernel
theorem dX6_save_52 : decode cX6_save 52 = .ok (.iconst 0, 1) := by decide +kernel
theorem dX6_save_53 : decode cX6_save 53 = .ok (.iaload, 1) := by decide +kernel
theorem dX6_save_54 : decode cX6_save 54 = .ok (.ireturn, 1) := by decide +kernel
theorem dX6_restore_0 : decode cX6_restore 0 = .ok (.aload_n 0, 1) := by decide +kernel
theorem dX6_restore_1 : decode cX6_restore 1 = .ok (.iload_n 1, 1) := by decide +kernel
theorem dX6_restore_2 : decode cX6_restore 2 = .ok (.i2l, 1) := by decide +kernel
theorem dX6_restore_3 : decode cX6_restore 3 = .ok (.lconst 0, 1) := by decide +kernel
theorem dX6_restore_4 : decode cX6_restore 4 = .ok (.lconst 1, 1) := by decide +kernel
theorem dX6_restore_5 : decode cX6_restore 5 = .ok (.invokestatic 55, 3) := by decide +kernel
theorem dX6_restore_8 : decode cX6_restore 8 = .ok (.ifCond .ne 7, 3) := by decide +kernel
theorem dX6_restore_11 : decode cX6_restore 11 = .ok (.iconst 1, 1) := by decide +kernel
theorem dX6_restore_12 : decode cX6_restore 12 = .ok (.goto 17, 3) := by decide +kernel
theorem dX6_restore_15 : decode cX6_restore 15 = .ok (.aload_n 0, 1) := by decide +kernel
theorem dX6_restore_16 : decode cX6_restore 16 = .ok (.getfield 25, 3) := by decide +kernel
theorem dX6_restore_19 : decode cX6_restore 19 = .ok (.iload_n 1, 1) := by decide +kernel
theorem dX6_restore_20 : decode cX6_restore 20 = .ok (.baload, 1) := by decide +kernel
theorem dX6_restore_21 : decode cX6_restore 21 = .ok (.ifCond .ne 7, 3) := by decide +kernel
theorem dX6_restore_24 : decode cX6_restore 24 = .ok (.iconst 2, 1) := by decide +kernel
theorem dX6_restore_25 : decode cX6_restore 25 = .ok (.goto 4, 3) := by decide +kernel
theorem dX6_restore_28 : decode cX6_restore 28 = .ok (.iconst 0, 1) := by decide +kernel
theorem dX6_restore_29 : decode cX6_restore 29 = .ok (.invokevirtual 141, 3) := by decide +kernel
theorem dX6_restore_32 : decode cX6_restore 32 = .ok (.ifCond .eq 5, 3) := by decide +kernel
theorem dX6_restore_35 : decode cX6_restore 35 = .ok (.iconst 0, 1) := by decide +kernel
theorem dX6_restore_36 : decode cX6_restore 36 = .ok (.ireturn, 1) := by decide +kernel
theorem dX6_restore_37 : decode cX6_restore 37 = .ok (.aload_n 0, 1) := by decide +kernel
theorem dX6_restore_38 : decode cX6_restore 38 = .ok (.getfield 22, 3) := by decide +kernel
theorem dX6_restore_41 : decode cX6_restore 41 = .ok (.sipush 217, 3) := by decide +kernel
theorem dX6_restore_44 : decode cX6_restore 44 = .ok (.iload_n 1, 1) := by decide +kernel
theorem dX6_restore_45 : decode cX6_restore 45 = .ok (.imul, 1) := by decide +kernel
theorem dX6_restore_46 : decode cX6_restore 46 = .ok (.aload_n 0, 1) := by decide +kernel
theorem dX6_restore_47 : decode cX6_restore 47 = .ok (.getfield 13, 3) := by decide +kernel
theorem dX6_restore_50 : decode cX6_restore 50 = .ok (.iconst 0, 1) := by decide +kernel
theorem dX6_restore_51 : decode cX6_restore 51 = .ok (.invokestatic 194, 3) := by decide +kernel
theorem dX6_restore_54 : decode cX6_restore 54 = .ok (.aload_n 0, 1) := by decide +kernel
theorem dX6_restore_55 : decode cX6_restore 55 = .ok (.iconst 0, 1) := by decide +kernel
theorem dX6_restore_56 : decode cX6_restore 56 = .ok (.putfield 198, 3) := by decide +kernel
theorem dX6_restore_59 : decode cX6_restore 59 = .ok (.aload_n 0, 1) := by decide +kernel
theorem dX6_restore_60 : decode cX6_restore 60 = .ok (.getfield 13, 3) := by decide +kernel
theorem dX6_restore_63 : decode cX6_restore 63 = .ok (.iconst 0, 1) := by decide +kernel
theorem dX6_restore_64 : decode cX6_restore 64 = .ok (.iaload, 1) := by decide +kernel
theorem dX6_restore_65 : decode cX6_restore 65 = .ok (.ireturn, 1) := by decide +kernel

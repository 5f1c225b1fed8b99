theorem dX0_init_0 : decode cX0_init 0 = .ok (.aload_n 0, 1) := by decide +kernel
theorem dX0_init_1 : decode cX0_init 1 = .ok (.invokespecial 3, 3) := by decide +kernel
theorem dX0_init_4 : decode cX0_init 4 = .ok (.aload_n 0, 1) := by decide +kernel
theorem dX0_init_5 : decode cX0_init 5 = .ok (.bipush 28, 2) := by decide +kernel
theorem dX0_init_7 : decode cX0_init 7 = .ok (.newarray .int, 2) := by decide +kernel
theorem dX0_init_9 : decode cX0_init 9 = .ok (.putfield 9, 3) := by decide +kernel
theorem dX0_init_12 : decode cX0_init 12 = .ok (.aload_n 0, 1) := by decide +kernel
theorem dX0_init_13 : decode cX0_init 13 = .ok (.bipush 28, 2) := by decide +kernel
theorem dX0_init_15 : decode cX0_init 15 = .ok (.newarray .int, 2) := by decide +kernel
theorem dX0_init_17 : decode cX0_init 17 = .ok (.putfield 15, 3) := by decide +kernel
theorem dX0_init_20 : decode cX0_init 20 = .ok (.aload_n 0, 1) := by decide +kernel
theorem dX0_init_21 : decode cX0_init 21 = .ok (.iconst 4, 1) := by decide +kernel
theorem dX0_init_22 : decode cX0_init 22 = .ok (.newarray .int, 2) := by decide +kernel
theorem dX0_init_24 : decode cX0_init 24 = .ok (.putfield 18, 3) := by decide +kernel
theorem dX0_init_27 : decode cX0_init 27 = .ok (.aload_n 0, 1) := by decide +kernel
theorem dX0_init_28 : decode cX0_init 28 = .ok (.iconst 4, 1) := by decide +kernel
theorem dX0_init_29 : decode cX0_init 29 = .ok (.newarray .int, 2) := by decide +kernel
theorem dX0_init_31 : decode cX0_init 31 = .ok (.putfield 21, 3) := by decide +kernel
theorem dX0_init_34 : decode cX0_init 34 = .ok (.aload_n 0, 1) := by decide +kernel
theorem dX0_init_35 : decode cX0_init 35 = .ok (.new 24, 3) := by decide +kernel
theorem dX0_init_38 : decode cX0_init 38 = .ok (.dup, 1) := by decide +kernel
theorem dX0_init_39 : decode cX0_init 39 = .ok (.invokespecial 26, 3) := by decide +kernel
theorem dX0_init_42 : decode cX0_init 42 = .ok (.putfield 27, 3) := by decide +kernel
theorem dX0_init_45 : decode cX0_init 45 = .ok (.aload_n 0, 1) := by decide +kernel
theorem dX0_init_46 : decode cX0_init 46 = .ok (.invokevirtual 31, 3) := by decide +kernel
theorem dX0_init_49 : decode cX0_init 49 = .ok (.return_, 1) := by decide +kernel
theorem dX0_becomeNew_0 : decode cX0_becomeNew 0 = .ok (.aload_n 0, 1) := by decide +kernel
theorem dX0_becomeNew_1 : decode cX0_becomeNew 1 = .ok (.iconst 0, 1) := by decide +kernel
theorem dX0_becomeNew_2 : decode cX0_becomeNew 2 = .ok (.putfield 34, 3) := by decide +kernel
theorem dX0_becomeNew_5 : decode cX0_becomeNew 5 = .ok (.aload_n 0, 1) := by decide +kernel
theorem dX0_becomeNew_6 : decode cX0_becomeNew 6 = .ok (.iconst 0, 1) := by decide +kernel
theorem dX0_becomeNew_7 : decode cX0_becomeNew 7 = .ok (.putfield 38, 3) := by decide +kernel
theorem dX0_becomeNew_10 : decode cX0_becomeNew 10 = .ok (.aload_n 0, 1) := by decide +kernel
theorem dX0_becomeNew_11 : decode cX0_becomeNew 11 = .ok (.iconst 0, 1) := by decide +kernel
theorem dX0_becomeNew_12 : decode cX0_becomeNew 12 = .ok (.putfield 41, 3) := by decide +kernel
theorem dX0_becomeNew_15 : decode cX0_becomeNew 15 = .ok (.aload_n 0, 1) := by decide +kernel
theorem dX0_becomeNew_16 : decode cX0_becomeNew 16 = .ok (.iconst 0, 1) := by decide +kernel
theorem dX0_becomeNew_17 : decode cX0_becomeNew 17 = .ok (.putfield 44, 3) := by decide +kernel
theorem dX0_becomeNew_20 : decode cX0_becomeNew 20 = .ok (.aload_n 0, 1) := by decide +kernel
theorem dX0_becomeNew_21 : decode cX0_becomeNew 21 = .ok (.iconst 0, 1) := by decide +kernel
theorem dX0_becomeNew_22 : decode cX0_becomeNew 22 = .ok (.putfield 47, 3) := by decide +kernel
theorem dX0_becomeNew_25 : decode cX0_becomeNew 25 = .ok (.aload_n 0, 1) := by decide +kernel
theorem dX0_becomeNew_26 : decode cX0_becomeNew 26 = .ok (.iconst 0, 1) := by decide +kernel
theorem dX0_becomeNew_27 : decode cX0_becomeNew 27 = .ok (.putfield 50, 3) := by decide +kernel
theorem dX0_becomeNew_30 : decode cX0_becomeNew 30 = .ok (.aload_n 0, 1) := by decide +kernel
theorem dX0_becomeNew_31 : decode cX0_becomeNew 31 = .ok (.iconst 0, 1) := by decide +kernel
theorem dX0_becomeNew_32 : decode cX0_becomeNew 32 = .ok (.putfield 53, 3) := by decide +kernel
theorem dX0_becomeNew_35 : decode cX0_becomeNew 35 = .ok (.aload_n 0, 1) := by decide +kernel
theorem dX0_becomeNew_36 : decode cX0_becomeNew 36 = .ok (.bipush 28, 2) := by decide +kernel
theorem dX0_becomeNew_38 : decode cX0_becomeNew 38 = .ok (.putfield 56, 3) := by decide +kernel
theorem dX0_becomeNew_41 : decode cX0_becomeNew 41 = .ok (.aload_n 0, 1) := by decide +kernel
theorem dX0_becomeNew_42 : decode cX0_becomeNew 42 = .ok (.getfield 15, 3) := by decide +kernel
theorem dX0_becomeNew_45 : decode cX0_becomeNew 45 = .ok (.iconst (-1), 1) := by decide +kernel
theorem dX0_becomeNew_46 : decode cX0_becomeNew 46 = .ok (.invokestatic 59, 3) := by decide +kernel
theorem dX0_becomeNew_49 : decode cX0_becomeNew 49 = .ok (.aload_n 0, 1) := by decide +kernel
theorem dX0_becomeNew_50 : decode cX0_becomeNew 50 = .ok (.getfield 18, 3) := by decide +kernel
theorem dX0_becomeNew_53 : decode cX0_becomeNew 53 = .ok (.iconst 0, 1) := by decide +kernel
theorem dX0_becomeNew_54 : decode cX0_becomeNew 54 = .ok (.invokestatic 59, 3) := by decide +kernel
theorem dX0_becomeNew_57 : decode cX0_becomeNew 57 = .ok (.aload_n 0, 1) := by decide +kernel
theorem dX0_becomeNew_58 : decode cX0_becomeNew 58 = .ok (.getfield 21, 3) := by decide +kernel
theorem dX0_becomeNew_61 : decode cX0_becomeNew 61 = .ok (.iconst 0, 1) := by decide +kernel
theorem dX0_becomeNew_62 : decode cX0_becomeNew 62 = .ok (.invokestatic 59, 3) := by decide +kernel
theorem dX0_becomeNew_65 : decode cX0_becomeNew 65 = .ok (.aload_n 0, 1) := by decide +kernel
theorem dX0_becomeNew_66 : decode cX0_becomeNew 66 = .ok (.getfield 27, 3) := by decide +kernel
theorem dX0_becomeNew_69 : decode cX0_becomeNew 69 = .ok (.invokevirtual 65, 3) := by decide +kernel
theorem dX0_becomeNew_72 : decode cX0_becomeNew 72 = .ok (.return_, 1) := by decide +kernel
theorem dX0_becomeLike_0 : decode cX0_becomeLike 0 = .ok (.aload_n 0, 1) := by decide +kernel
theorem dX0_becomeLike_1 : decode cX0_becomeLike 1 = .ok (.aload_n 1, 1) := by decide +kernel
theorem dX0_becomeLike_2 : decode cX0_becomeLike 2 = .ok (.getfield 34, 3) := by decide +kernel
theorem dX0_becomeLike_5 : decode cX0_becomeLike 5 = .ok (.putfield 34, 3) := by decide +kernel
theorem dX0_becomeLike_8 : decode cX0_becomeLike 8 = .ok (.aload_n 0, 1) := by decide +kernel
theorem dX0_becomeLike_9 : decode cX0_becomeLike 9 = .ok (.aload_n 1, 1) := by decide +kernel
theorem dX0_becomeLike_10 : decode cX0_becomeLike 10 = .ok (.getfield 38, 3) := by decide +kernel
theorem dX0_becomeLike_13 : decode cX0_becomeLike 13 = .ok (.putfield 38, 3) := by decide +kernel
theorem dX0_becomeLike_16 : decode cX0_becomeLike 16 = .ok (.aload_n 0, 1) := by decide +kernel
theorem dX0_becomeLike_17 : decode cX0_becomeLike 17 = .ok (.aload_n 1, 1) := by decide +kernel
theorem dX0_becomeLike_18 : decode cX0_becomeLike 18 = .ok (.getfield 41, 3) := by decide +kernel
theorem dX0_becomeLike_21 : decode cX0_becomeLike 21 = .ok (.putfield 41, 3) := by decide +kernel
theorem dX0_becomeLike_24 : decode cX0_becomeLike 24 = .ok (.aload_n 0, 1) := by decide +kernel
theorem dX0_becomeLike_25 : decode cX0_becomeLike 25 = .ok (.aload_n 1, 1) := by decide +kernel
theorem dX0_becomeLike_26 : decode cX0_becomeLike 26 = .ok (.getfield 44, 3) := by decide +kernel
theorem dX0_becomeLike_29 : decode cX0_becomeLike 29 = .ok (.putfield 44, 3) := by decide +kernel
theorem dX0_becomeLike_32 : decode cX0_becomeLike 32 = .ok (.aload_n 0, 1) := by decide +kernel
theorem dX0_becomeLike_33 : decode cX0_becomeLike 33 = .ok (.aload_n 1, 1) := by decide +kernel
theorem dX0_becomeLike_34 : decode cX0_becomeLike 34 = .ok (.getfield 47, 3) := by decide +kernel
theorem dX0_becomeLike_37 : decode cX0_becomeLike 37 = .ok (.putfield 47, 3) := by decide +kernel
theorem dX0_becomeLike_40 : decode cX0_becomeLike 40 = .ok (.aload_n 0, 1) := by decide +kernel
theorem dX0_becomeLike_41 : decode cX0_becomeLike 41 = .ok (.aload_n 1, 1) := by decide +kernel
theorem dX0_becomeLike_42 : decode cX0_becomeLike 42 = .ok (.getfield 50, 3) := by decide +kernel
theorem dX0_becomeLike_45 : decode cX0_becomeLike 45 = .ok (.putfield 50, 3) := by decide +kernel
theorem dX0_becomeLike_48 : decode cX0_becomeLike 48 = .ok (.aload_n 0, 1) := by decide +kernel
theorem dX0_becomeLike_49 : decode cX0_becomeLike 49 = .ok (.aload_n 1, 1) := by decide +kernel
theorem dX0_becomeLike_50 : decode cX0_becomeLike 50 = .ok (.getfield 53, 3) := by decide +kernel
theorem dX0_becomeLike_53 : decode cX0_becomeLike 53 = .ok (.putfield 53, 3) := by decide +kernel
theorem dX0_becomeLike_56 : decode cX0_becomeLike 56 = .ok (.aload_n 0, 1) := by decide +kernel
theorem dX0_becomeLike_57 : decode cX0_becomeLike 57 = .ok (.aload_n 1, 1) := by decide +kernel
theorem dX0_becomeLike_58 : decode cX0_becomeLike 58 = .ok (.getfield 56, 3) := by decide +kernel
theorem dX0_becomeLike_61 : decode cX0_becomeLike 61 = .ok (.putfield 56, 3) := by decide +kernel
theorem dX0_becomeLike_64 : decode cX0_becomeLike 64 = .ok (.aload_n 1, 1) := by decide +kernel
theorem dX0_becomeLike_65 : decode cX0_becomeLike 65 = .ok (.getfield 9, 3) := by decide +kernel
theorem dX0_becomeLike_68 : decode cX0_becomeLike 68 = .ok (.iconst 0, 1) := by decide +kernel
theorem dX0_becomeLike_69 : decode cX0_becomeLike 69 = .ok (.aload_n 0, 1) := by decide +kernel
theorem dX0_becomeLike_70 : decode cX0_becomeLike 70 = .ok (.getfield 9, 3) := by decide +kernel
theorem dX0_becomeLike_73 : decode cX0_becomeLike 73 = .ok (.iconst 0, 1) := by decide +kernel
theorem dX0_becomeLike_74 : decode cX0_becomeLike 74 = .ok (.bipush 28, 2) := by decide +kernel
theorem dX0_becomeLike_76 : decode cX0_becomeLike 76 = .ok (.invokestatic 68, 3) := by decide +kernel
theorem dX0_becomeLike_79 : decode cX0_becomeLike 79 = .ok (.aload_n 1, 1) := by decide +kernel
theorem dX0_becomeLike_80 : decode cX0_becomeLike 80 = .ok (.getfield 15, 3) := by decide +kernel
theorem dX0_becomeLike_83 : decode cX0_becomeLike 83 = .ok (.iconst 0, 1) := by decide +kernel
theorem dX0_becomeLike_84 : decode cX0_becomeLike 84 = .ok (.aload_n 0, 1) := by decide +kernel
theorem dX0_becomeLike_85 : decode cX0_becomeLike 85 = .ok (.getfield 15, 3) := by decide +kernel
theorem dX0_becomeLike_88 : decode cX0_becomeLike 88 = .ok (.iconst 0, 1) := by decide +kernel
theorem dX0_becomeLike_89 : decode cX0_becomeLike 89 = .ok (.bipush 28, 2) := by decide +kernel
theorem dX0_becomeLike_91 : decode cX0_becomeLike 91 = .ok (.invokestatic 68, 3) := by decide +kernel
theorem dX0_becomeLike_94 : decode cX0_becomeLike 94 = .ok (.aload_n 1, 1) := by decide +kernel
theorem dX0_becomeLike_95 : decode cX0_becomeLike 95 = .ok (.getfield 18, 3) := by decide +kernel
theorem dX0_becomeLike_98 : decode cX0_becomeLike 98 = .ok (.iconst 0, 1) := by decide +kernel
theorem dX0_becomeLike_99 : decode cX0_becomeLike 99 = .ok (.aload_n 0, 1) := by decide +kernel
theorem dX0_becomeLike_100 : decode cX0_becomeLike 100 = .ok (.getfield 18, 3) := by decide +kernel
theorem dX0_becomeLike_103 : decode cX0_becomeLike 103 = .ok (.iconst 0, 1) := by decide +kernel
theorem dX0_becomeLike_104 : decode cX0_becomeLike 104 = .ok (.iconst 4, 1) := by decide +kernel
theorem dX0_becomeLike_105 : decode cX0_becomeLike 105 = .ok (.invokestatic 68, 3) := by decide +kernel
theorem dX0_becomeLike_108 : decode cX0_becomeLike 108 = .ok (.aload_n 1, 1) := by decide +kernel
theorem dX0_becomeLike_109 : decode cX0_becomeLike 109 = .ok (.getfield 21, 3) := by decide +kernel
theorem dX0_becomeLike_112 : decode cX0_becomeLike 112 = .ok (.iconst 0, 1) := by decide +kernel
theorem dX0_becomeLike_113 : decode cX0_becomeLike 113 = .ok (.aload_n 0, 1) := by decide +kernel
theorem dX0_becomeLike_114 : decode cX0_becomeLike 114 = .ok (.getfield 21, 3) := by decide +kernel
theorem dX0_becomeLike_117 : decode cX0_becomeLike 117 = .ok (.iconst 0, 1) := by decide +kernel
theorem dX0_becomeLike_118 : decode cX0_becomeLike 118 = .ok (.iconst 4, 1) := by decide +kernel
theorem dX0_becomeLike_119 : decode cX0_becomeLike 119 = .ok (.invokestatic 68, 3) := by decide +kernel
theorem dX0_becomeLike_122 : decode cX0_becomeLike 122 = .ok (.aload_n 0, 1) := by decide +kernel
theorem dX0_becomeLike_123 : decode cX0_becomeLike 123 = .ok (.getfield 27, 3) := by decide +kernel
theorem dX0_becomeLike_126 : decode cX0_becomeLike 126 = .ok (.aload_n 1, 1) := by decide +kernel
theorem dX0_becomeLike_127 : decode cX0_becomeLike 127 = .ok (.getfield 27, 3) := by decide +kernel
theorem dX0_becomeLike_130 : decode cX0_becomeLike 130 = .ok (.invokevirtual 74, 3) := by decide +kernel
theorem dX0_becomeLike_133 : decode cX0_becomeLike 133 = .ok (.return_, 1) := by decide +kernel
theorem dX0_line_0 : decode cX0_line 0 = .ok (.aload_n 0, 1) := by decide +kernel
theorem dX0_line_1 : decode cX0_line 1 = .ok (.getfield 27, 3) := by decide +kernel
theorem dX0_line_4 : decode cX0_line 4 = .ok (.areturn, 1) := by decide +kernel
theorem dX0_roundsSoFar_0 : decode cX0_roundsSoFar 0 = .ok (.aload_n 0, 1) := by decide +kernel
theorem dX0_roundsSoFar_1 : decode cX0_roundsSoFar 1 = .ok (.getfield 34, 3) := by decide +kernel
theorem dX0_roundsSoFar_4 : decode cX0_roundsSoFar 4 = .ok (.ireturn, 1) := by decide +kernel
theorem dX0_isPlayed_0 : decode cX0_isPlayed 0 = .ok (.aload_n 0, 1) := by decide +kernel
theorem dX0_isPlayed_1 : decode cX0_isPlayed 1 = .ok (.getfield 44, 3) := by decide +kernel
theorem dX0_isPlayed_4 : decode cX0_isPlayed 4 = .ok (.iconst 1, 1) := by decide +kernel
theorem dX0_isPlayed_5 : decode cX0_isPlayed 5 = .ok (.if_icmp .ne 7, 3) := by decide +kernel
theorem dX0_isPlayed_8 : decode cX0_isPlayed 8 = .ok (.iconst 1, 1) := by decide +kernel
theorem dX0_isPlayed_9 : decode cX0_isPlayed 9 = .ok (.goto 4, 3) := by decide +kernel
theorem dX0_isPlayed_12 : decode cX0_isPlayed 12 = .ok (.iconst 0, 1) := by decide +kernel
theorem dX0_isPlayed_13 : decode cX0_isPlayed 13 = .ok (.ireturn, 1) := by decide +kernel
theorem dX0_playerToMove_0 : decode cX0_playerToMove 0 = .ok (.aload_n 0, 1) := by decide +kernel
theorem dX0_playerToMove_1 : decode cX0_playerToMove 1 = .ok (.invokevirtual 78, 3) := by decide +kernel
theorem dX0_playerToMove_4 : decode cX0_playerToMove 4 = .ok (.ifCond .eq 10, 3) := by decide +kernel
theorem dX0_playerToMove_7 : decode cX0_playerToMove 7 = .ok (.aload_n 0, 1) := by decide +kernel
theorem dX0_playerToMove_8 : decode cX0_playerToMove 8 = .ok (.getfield 50, 3) := by decide +kernel
theorem dX0_playerToMove_11 : decode cX0_playerToMove 11 = .ok (.goto 4, 3) := by decide +kernel
theorem dX0_playerToMove_14 : decode cX0_playerToMove 14 = .ok (.iconst (-1), 1) := by decide +kernel
theorem dX0_playerToMove_15 : decode cX0_playerToMove 15 = .ok (.ireturn, 1) := by decide +kernel
theorem dX0_heapSize_0 : decode cX0_heapSize 0 = .ok (.bipush 28, 2) := by decide +kernel
theorem dX0_heapSize_2 : decode cX0_heapSize 2 = .ok (.aload_n 0, 1) := by decide +kernel
theorem dX0_heapSize_3 : decode cX0_heapSize 3 = .ok (.getfield 56, 3) := by decide +kernel
theorem dX0_heapSize_6 : decode cX0_heapSize 6 = .ok (.isub, 1) := by decide +kernel
theorem dX0_heapSize_7 : decode cX0_heapSize 7 = .ok (.ireturn, 1) := by decide +kernel
theorem dX0_numberOfGame_0 : decode cX0_numberOfGame 0 = .ok (.iload_n 1, 1) := by decide +kernel
theorem dX0_numberOfGame_1 : decode cX0_numberOfGame 1 = .ok (.tableswitch 126 0 10 #[59, 64, 69, 74, 79, 84, 92, 100, 108, 113, 121], 59) := by decide +kernel
theorem dX0_numberOfGame_60 : decode cX0_numberOfGame 60 = .ok (.aload_n 0, 1) := by decide +kernel
theorem dX0_numberOfGame_61 : decode cX0_numberOfGame 61 = .ok (.getfield 34, 3) := by decide +kernel
theorem dX0_numberOfGame_64 : decode cX0_numberOfGame 64 = .ok (.ireturn, 1) := by decide +kernel
theorem dX0_numberOfGame_65 : decode cX0_numberOfGame 65 = .ok (.aload_n 0, 1) := by decide +kernel
theorem dX0_numberOfGame_66 : decode cX0_numberOfGame 66 = .ok (.getfield 44, 3) := by decide +kernel
theorem dX0_numberOfGame_69 : decode cX0_numberOfGame 69 = .ok (.ireturn, 1) := by decide +kernel
theorem dX0_numberOfGame_70 : decode cX0_numberOfGame 70 = .ok (.aload_n 0, 1) := by decide +kernel
theorem dX0_numberOfGame_71 : decode cX0_numberOfGame 71 = .ok (.getfield 47, 3) := by decide +kernel
theorem dX0_numberOfGame_74 : decode cX0_numberOfGame 74 = .ok (.ireturn, 1) := by decide +kernel
theorem dX0_numberOfGame_75 : decode cX0_numberOfGame 75 = .ok (.aload_n 0, 1) := by decide +kernel
theorem dX0_numberOfGame_76 : decode cX0_numberOfGame 76 = .ok (.invokevirtual 82, 3) := by decide +kernel
theorem dX0_numberOfGame_79 : decode cX0_numberOfGame 79 = .ok (.ireturn, 1) := by decide +kernel
theorem dX0_numberOfGame_80 : decode cX0_numberOfGame 80 = .ok (.aload_n 0, 1) := by decide +kernel
theorem dX0_numberOfGame_81 : decode cX0_numberOfGame 81 = .ok (.invokevirtual 86, 3) := by decide +kernel
theorem dX0_numberOfGame_84 : decode cX0_numberOfGame 84 = .ok (.ireturn, 1) := by decide +kernel
theorem dX0_numberOfGame_85 : decode cX0_numberOfGame 85 = .ok (.aload_n 0, 1) := by decide +kernel
theorem dX0_numberOfGame_86 : decode cX0_numberOfGame 86 = .ok (.getfield 27, 3) := by decide +kernel
theorem dX0_numberOfGame_89 : decode cX0_numberOfGame 89 = .ok (.invokevirtual 89, 3) := by decide +kernel
theorem dX0_numberOfGame_92 : decode cX0_numberOfGame 92 = .ok (.ireturn, 1) := by decide +kernel
theorem dX0_numberOfGame_93 : decode cX0_numberOfGame 93 = .ok (.aload_n 0, 1) := by decide +kernel
theorem dX0_numberOfGame_94 : decode cX0_numberOfGame 94 = .ok (.getfield 27, 3) := by decide +kernel
theorem dX0_numberOfGame_97 : decode cX0_numberOfGame 97 = .ok (.invokevirtual 92, 3) := by decide +kernel
theorem dX0_numberOfGame_100 : decode cX0_numberOfGame 100 = .ok (.ireturn, 1) := by decide +kernel
theorem dX0_numberOfGame_101 : decode cX0_numberOfGame 101 = .ok (.aload_n 0, 1) := by decide +kernel
theorem dX0_numberOfGame_102 : decode cX0_numberOfGame 102 = .ok (.getfield 27, 3) := by decide +kernel
theorem dX0_numberOfGame_105 : decode cX0_numberOfGame 105 = .ok (.invokevirtual 95, 3) := by decide +kernel
theorem dX0_numberOfGame_108 : decode cX0_numberOfGame 108 = .ok (.ireturn, 1) := by decide +kernel
theorem dX0_numberOfGame_109 : decode cX0_numberOfGame 109 = .ok (.aload_n 0, 1) := by decide +kernel
theorem dX0_numberOfGame_110 : decode cX0_numberOfGame 110 = .ok (.getfield 53, 3) := by decide +kernel
theorem dX0_numberOfGame_113 : decode cX0_numberOfGame 113 = .ok (.ireturn, 1) := by decide +kernel
theorem dX0_numberOfGame_114 : decode cX0_numberOfGame 114 = .ok (.aload_n 0, 1) := by decide +kernel
theorem dX0_numberOfGame_115 : decode cX0_numberOfGame 115 = .ok (.getfield 27, 3) := by decide +kernel
theorem dX0_numberOfGame_118 : decode cX0_numberOfGame 118 = .ok (.invokevirtual 98, 3) := by decide +kernel
theorem dX0_numberOfGame_121 : decode cX0_numberOfGame 121 = .ok (.ireturn, 1) := by decide +kernel
theorem dX0_numberOfGame_122 : decode cX0_numberOfGame 122 = .ok (.aload_n 0, 1) := by decide +kernel
theorem dX0_numberOfGame_123 : decode cX0_numberOfGame 123 = .ok (.getfield 38, 3) := by decide +kernel
theorem dX0_numberOfGame_126 : decode cX0_numberOfGame 126 = .ok (.ireturn, 1) := by decide +kernel
theorem dX0_numberOfGame_127 : decode cX0_numberOfGame 127 = .ok (.aload_n 0, 1) := by decide +kernel
theorem dX0_numberOfGame_128 : decode cX0_numberOfGame 128 = .ok (.getfield 41, 3) := by decide +kernel
theorem dX0_numberOfGame_131 : decode cX0_numberOfGame 131 = .ok (.ireturn, 1) := by decide +kernel
theorem dX0_numberOfTile_0 : decode cX0_numberOfTile 0 = .ok (.iload_n 2, 1) := by decide +kernel
theorem dX0_numberOfTile_1 : decode cX0_numberOfTile 1 = .ok (.tableswitch 56 0 3 #[31, 36, 41, 47], 31) := by decide +kernel
theorem dX0_numberOfTile_32 : decode cX0_numberOfTile 32 = .ok (.iload_n 1, 1) := by decide +kernel
theorem dX0_numberOfTile_33 : decode cX0_numberOfTile 33 = .ok (.invokestatic 101, 3) := by decide +kernel
theorem dX0_numberOfTile_36 : decode cX0_numberOfTile 36 = .ok (.ireturn, 1) := by decide +kernel
theorem dX0_numberOfTile_37 : decode cX0_numberOfTile 37 = .ok (.iload_n 1, 1) := by decide +kernel
theorem dX0_numberOfTile_38 : decode cX0_numberOfTile 38 = .ok (.invokestatic 105, 3) := by decide +kernel
theorem dX0_numberOfTile_41 : decode cX0_numberOfTile 41 = .ok (.ireturn, 1) := by decide +kernel
theorem dX0_numberOfTile_42 : decode cX0_numberOfTile 42 = .ok (.aload_n 0, 1) := by decide +kernel
theorem dX0_numberOfTile_43 : decode cX0_numberOfTile 43 = .ok (.iload_n 1, 1) := by decide +kernel
theorem dX0_numberOfTile_44 : decode cX0_numberOfTile 44 = .ok (.invokevirtual 108, 3) := by decide +kernel
theorem dX0_numberOfTile_47 : decode cX0_numberOfTile 47 = .ok (.ireturn, 1) := by decide +kernel
theorem dX0_numberOfTile_48 : decode cX0_numberOfTile 48 = .ok (.aload_n 0, 1) := by decide +kernel
theorem dX0_numberOfTile_49 : decode cX0_numberOfTile 49 = .ok (.getfield 27, 3) := by decide +kernel
theorem dX0_numberOfTile_52 : decode cX0_numberOfTile 52 = .ok (.iload_n 1, 1) := by decide +kernel
theorem dX0_numberOfTile_53 : decode cX0_numberOfTile 53 = .ok (.invokevirtual 111, 3) := by decide +kernel
theorem dX0_numberOfTile_56 : decode cX0_numberOfTile 56 = .ok (.ireturn, 1) := by decide +kernel
theorem dX0_numberOfTile_57 : decode cX0_numberOfTile 57 = .ok (.aload_n 0, 1) := by decide +kernel
theorem dX0_numberOfTile_58 : decode cX0_numberOfTile 58 = .ok (.iload_n 1, 1) := by decide +kernel
theorem dX0_numberOfTile_59 : decode cX0_numberOfTile 59 = .ok (.invokevirtual 114, 3) := by decide +kernel
theorem dX0_numberOfTile_62 : decode cX0_numberOfTile 62 = .ok (.ireturn, 1) := by decide +kernel
theorem dX0_numberOfPlayer_0 : decode cX0_numberOfPlayer 0 = .ok (.iload_n 1, 1) := by decide +kernel
theorem dX0_numberOfPlayer_1 : decode cX0_numberOfPlayer 1 = .ok (.invokestatic 117, 3) := by decide +kernel
theorem dX0_numberOfPlayer_4 : decode cX0_numberOfPlayer 4 = .ok (.ifCond .ne 5, 3) := by decide +kernel
theorem dX0_numberOfPlayer_7 : decode cX0_numberOfPlayer 7 = .ok (.iconst (-1), 1) := by decide +kernel
theorem dX0_numberOfPlayer_8 : decode cX0_numberOfPlayer 8 = .ok (.ireturn, 1) := by decide +kernel
theorem dX0_numberOfPlayer_9 : decode cX0_numberOfPlayer 9 = .ok (.iload_n 2, 1) := by decide +kernel
theorem dX0_numberOfPlayer_10 : decode cX0_numberOfPlayer 10 = .ok (.tableswitch 45 0 2 #[26, 32, 38], 26) := by decide +kernel
theorem dX0_numberOfPlayer_36 : decode cX0_numberOfPlayer 36 = .ok (.aload_n 0, 1) := by decide +kernel
theorem dX0_numberOfPlayer_37 : decode cX0_numberOfPlayer 37 = .ok (.iload_n 1, 1) := by decide +kernel
theorem dX0_numberOfPlayer_38 : decode cX0_numberOfPlayer 38 = .ok (.invokevirtual 121, 3) := by decide +kernel
theorem dX0_numberOfPlayer_41 : decode cX0_numberOfPlayer 41 = .ok (.ireturn, 1) := by decide +kernel
theorem dX0_numberOfPlayer_42 : decode cX0_numberOfPlayer 42 = .ok (.aload_n 0, 1) := by decide +kernel
theorem dX0_numberOfPlayer_43 : decode cX0_numberOfPlayer 43 = .ok (.iload_n 1, 1) := by decide +kernel
theorem dX0_numberOfPlayer_44 : decode cX0_numberOfPlayer 44 = .ok (.invokevirtual 124, 3) := by decide +kernel
theorem dX0_numberOfPlayer_47 : decode cX0_numberOfPlayer 47 = .ok (.ireturn, 1) := by decide +kernel
theorem dX0_numberOfPlayer_48 : decode cX0_numberOfPlayer 48 = .ok (.aload_n 0, 1) := by decide +kernel
theorem dX0_numberOfPlayer_49 : decode cX0_numberOfPlayer 49 = .ok (.getfield 18, 3) := by decide +kernel
theorem dX0_numberOfPlayer_52 : decode cX0_numberOfPlayer 52 = .ok (.iload_n 1, 1) := by decide +kernel
theorem dX0_numberOfPlayer_53 : decode cX0_numberOfPlayer 53 = .ok (.iaload, 1) := by decide +kernel
theorem dX0_numberOfPlayer_54 : decode cX0_numberOfPlayer 54 = .ok (.ireturn, 1) := by decide +kernel
theorem dX0_numberOfPlayer_55 : decode cX0_numberOfPlayer 55 = .ok (.aload_n 0, 1) := by decide +kernel
theorem dX0_numberOfPlayer_56 : decode cX0_numberOfPlayer 56 = .ok (.getfield 21, 3) := by decide +kernel
theorem dX0_numberOfPlayer_59 : decode cX0_numberOfPlayer 59 = .ok (.iload_n 1, 1) := by decide +kernel
theorem dX0_numberOfPlayer_60 : decode cX0_numberOfPlayer 60 = .ok (.iaload, 1) := by decide +kernel
theorem dX0_numberOfPlayer_61 : decode cX0_numberOfPlayer 61 = .ok (.ireturn, 1) := by decide +kernel
theorem dX0_tilesOf_0 : decode cX0_tilesOf 0 = .ok (.aload_n 0, 1) := by decide +kernel
theorem dX0_tilesOf_1 : decode cX0_tilesOf 1 = .ok (.iload_n 1, 1) := by decide +kernel
theorem dX0_tilesOf_2 : decode cX0_tilesOf 2 = .ok (.invokevirtual 127, 3) := by decide +kernel
theorem dX0_tilesOf_5 : decode cX0_tilesOf 5 = .ok (.invokestatic 130, 3) := by decide +kernel
theorem dX0_tilesOf_8 : decode cX0_tilesOf 8 = .ok (.ireturn, 1) := by decide +kernel
theorem dX0_startRound_0 : decode cX0_startRound 0 = .ok (.iload_n 1, 1) := by decide +kernel
theorem dX0_startRound_1 : decode cX0_startRound 1 = .ok (.iconst 2, 1) := by decide +kernel
theorem dX0_startRound_2 : decode cX0_startRound 2 = .ok (.if_icmp .lt 8, 3) := by decide +kernel
theorem dX0_startRound_5 : decode cX0_startRound 5 = .ok (.iload_n 1, 1) := by decide +kernel
theorem dX0_startRound_6 : decode cX0_startRound 6 = .ok (.iconst 4, 1) := by decide +kernel
theorem dX0_startRound_7 : decode cX0_startRound 7 = .ok (.if_icmp .le 5, 3) := by decide +kernel
theorem dX0_startRound_10 : decode cX0_startRound 10 = .ok (.iconst 0, 1) := by decide +kernel
theorem dX0_startRound_11 : decode cX0_startRound 11 = .ok (.ireturn, 1) := by decide +kernel
theorem dX0_startRound_12 : decode cX0_startRound 12 = .ok (.aload_n 0, 1) := by decide +kernel
theorem dX0_startRound_13 : decode cX0_startRound 13 = .ok (.lload_n 2, 1) := by decide +kernel
theorem dX0_startRound_14 : decode cX0_startRound 14 = .ok (.invokevirtual 135, 3) := by decide +kernel
theorem dX0_startRound_17 : decode cX0_startRound 17 = .ok (.aload_n 0, 1) := by decide +kernel
theorem dX0_startRound_18 : decode cX0_startRound 18 = .ok (.getfield 15, 3) := by decide +kernel
theorem dX0_startRound_21 : decode cX0_startRound 21 = .ok (.iconst (-1), 1) := by decide +kernel
theorem dX0_startRound_22 : decode cX0_startRound 22 = .ok (.invokestatic 59, 3) := by decide +kernel
theorem dX0_startRound_25 : decode cX0_startRound 25 = .ok (.aload_n 0, 1) := by decide +kernel
theorem dX0_startRound_26 : decode cX0_startRound 26 = .ok (.iload_n 1, 1) := by decide +kernel
theorem dX0_startRound_27 : decode cX0_startRound 27 = .ok (.iconst 5, 1) := by decide +kernel
theorem dX0_startRound_28 : decode cX0_startRound 28 = .ok (.imul, 1) := by decide +kernel
theorem dX0_startRound_29 : decode cX0_startRound 29 = .ok (.putfield 56, 3) := by decide +kernel
theorem dX0_startRound_32 : decode cX0_startRound 32 = .ok (.iconst 0, 1) := by decide +kernel
theorem dX0_startRound_33 : decode cX0_startRound 33 = .ok (.istore 4, 2) := by decide +kernel
theorem dX0_startRound_35 : decode cX0_startRound 35 = .ok (.iload 4, 2) := by decide +kernel
theorem dX0_startRound_37 : decode cX0_startRound 37 = .ok (.aload_n 0, 1) := by decide +kernel
theorem dX0_startRound_38 : decode cX0_startRound 38 = .ok (.getfield 56, 3) := by decide +kernel
theorem dX0_startRound_41 : decode cX0_startRound 41 = .ok (.if_icmp .ge 31, 3) := by decide +kernel
theorem dX0_startRound_44 : decode cX0_startRound 44 = .ok (.iload 4, 2) := by decide +kernel
theorem dX0_startRound_46 : decode cX0_startRound 46 = .ok (.bipush 28, 2) := by decide +kernel
theorem dX0_startRound_48 : decode cX0_startRound 48 = .ok (.if_icmp .ge 24, 3) := by decide +kernel
theorem dX0_startRound_51 : decode cX0_startRound 51 = .ok (.aload_n 0, 1) := by decide +kernel
theorem dX0_startRound_52 : decode cX0_startRound 52 = .ok (.aload_n 0, 1) := by decide +kernel
theorem dX0_startRound_53 : decode cX0_startRound 53 = .ok (.getfield 9, 3) := by decide +kernel
theorem dX0_startRound_56 : decode cX0_startRound 56 = .ok (.iload 4, 2) := by decide +kernel
theorem dX0_startRound_58 : decode cX0_startRound 58 = .ok (.iaload, 1) := by decide +kernel
theorem dX0_startRound_59 : decode cX0_startRound 59 = .ok (.iload 4, 2) := by decide +kernel
theorem dX0_startRound_61 : decode cX0_startRound 61 = .ok (.iconst 5, 1) := by decide +kernel
theorem dX0_startRound_62 : decode cX0_startRound 62 = .ok (.idiv, 1) := by decide +kernel
theorem dX0_startRound_63 : decode cX0_startRound 63 = .ok (.invokevirtual 139, 3) := by decide +kernel
theorem dX0_startRound_66 : decode cX0_startRound 66 = .ok (.iinc 4 1, 3) := by decide +kernel
theorem dX0_startRound_69 : decode cX0_startRound 69 = .ok (.goto (-34), 3) := by decide +kernel
theorem dX0_startRound_72 : decode cX0_startRound 72 = .ok (.aload_n 0, 1) := by decide +kernel
theorem dX0_startRound_73 : decode cX0_startRound 73 = .ok (.getfield 27, 3) := by decide +kernel
theorem dX0_startRound_76 : decode cX0_startRound 76 = .ok (.invokevirtual 65, 3) := by decide +kernel
theorem dX0_startRound_79 : decode cX0_startRound 79 = .ok (.aload_n 0, 1) := by decide +kernel
theorem dX0_startRound_80 : decode cX0_startRound 80 = .ok (.iload_n 1, 1) := by decide +kernel
theorem dX0_startRound_81 : decode cX0_startRound 81 = .ok (.putfield 47, 3) := by decide +kernel
theorem dX0_startRound_84 : decode cX0_startRound 84 = .ok (.aload_n 0, 1) := by decide +kernel
theorem dX0_startRound_85 : decode cX0_startRound 85 = .ok (.aload_n 0, 1) := by decide +kernel
theorem dX0_startRound_86 : decode cX0_startRound 86 = .ok (.getfield 34, 3) := by decide +kernel
theorem dX0_startRound_89 : decode cX0_startRound 89 = .ok (.iload_n 1, 1) := by decide +kernel
theorem dX0_startRound_90 : decode cX0_startRound 90 = .ok (.irem, 1) := by decide +kernel
theorem dX0_startRound_91 : decode cX0_startRound 91 = .ok (.putfield 50, 3) := by decide +kernel
theorem dX0_startRound_94 : decode cX0_startRound 94 = .ok (.aload_n 0, 1) := by decide +kernel
theorem dX0_startRound_95 : decode cX0_startRound 95 = .ok (.iconst 0, 1) := by decide +kernel
theorem dX0_startRound_96 : decode cX0_startRound 96 = .ok (.putfield 53, 3) := by decide +kernel
theorem dX0_startRound_99 : decode cX0_startRound 99 = .ok (.aload_n 0, 1) := by decide +kernel
theorem dX0_startRound_100 : decode cX0_startRound 100 = .ok (.iconst 1, 1) := by decide +kernel
theorem dX0_startRound_101 : decode cX0_startRound 101 = .ok (.putfield 44, 3) := by decide +kernel
theorem dX0_startRound_104 : decode cX0_startRound 104 = .ok (.aload_n 0, 1) := by decide +kernel
theorem dX0_startRound_105 : decode cX0_startRound 105 = .ok (.dup, 1) := by decide +kernel
theorem dX0_startRound_106 : decode cX0_startRound 106 = .ok (.getfield 34, 3) := by decide +kernel
theorem dX0_startRound_109 : decode cX0_startRound 109 = .ok (.iconst 1, 1) := by decide +kernel
theorem dX0_startRound_110 : decode cX0_startRound 110 = .ok (.iadd, 1) := by decide +kernel
theorem dX0_startRound_111 : decode cX0_startRound 111 = .ok (.putfield 34, 3) := by decide +kernel
theorem dX0_startRound_114 : decode cX0_startRound 114 = .ok (.iconst 1, 1) := by decide +kernel
theorem dX0_startRound_115 : decode cX0_startRound 115 = .ok (.ireturn, 1) := by decide +kernel
theorem dX0_shuffle_0 : decode cX0_shuffle 0 = .ok (.iconst 0, 1) := by decide +kernel
theorem dX0_shuffle_1 : decode cX0_shuffle 1 = .ok (.istore_n 3, 1) := by decide +kernel
theorem dX0_shuffle_2 : decode cX0_shuffle 2 = .ok (.iload_n 3, 1) := by decide +kernel
theorem dX0_shuffle_3 : decode cX0_shuffle 3 = .ok (.bipush 28, 2) := by decide +kernel
theorem dX0_shuffle_5 : decode cX0_shuffle 5 = .ok (.if_icmp .ge 16, 3) := by decide +kernel
theorem dX0_shuffle_8 : decode cX0_shuffle 8 = .ok (.aload_n 0, 1) := by decide +kernel
theorem dX0_shuffle_9 : decode cX0_shuffle 9 = .ok (.getfield 9, 3) := by decide +kernel
theorem dX0_shuffle_12 : decode cX0_shuffle 12 = .ok (.iload_n 3, 1) := by decide +kernel
theorem dX0_shuffle_13 : decode cX0_shuffle 13 = .ok (.iload_n 3, 1) := by decide +kernel
theorem dX0_shuffle_14 : decode cX0_shuffle 14 = .ok (.iastore, 1) := by decide +kernel
theorem dX0_shuffle_15 : decode cX0_shuffle 15 = .ok (.iinc 3 1, 3) := by decide +kernel
theorem dX0_shuffle_18 : decode cX0_shuffle 18 = .ok (.goto (-16), 3) := by decide +kernel
theorem dX0_shuffle_21 : decode cX0_shuffle 21 = .ok (.lload_n 1, 1) := by decide +kernel
theorem dX0_shuffle_22 : decode cX0_shuffle 22 = .ok (.lstore_n 3, 1) := by decide +kernel
theorem dX0_shuffle_23 : decode cX0_shuffle 23 = .ok (.bipush 27, 2) := by decide +kernel
theorem dX0_shuffle_25 : decode cX0_shuffle 25 = .ok (.istore 5, 2) := by decide +kernel
theorem dX0_shuffle_27 : decode cX0_shuffle 27 = .ok (.iload 5, 2) := by decide +kernel
theorem dX0_shuffle_29 : decode cX0_shuffle 29 = .ok (.iconst 1, 1) := by decide +kernel
theorem dX0_shuffle_30 : decode cX0_shuffle 30 = .ok (.if_icmp .lt 63, 3) := by decide +kernel
theorem dX0_shuffle_33 : decode cX0_shuffle 33 = .ok (.lload_n 3, 1) := by decide +kernel
theorem dX0_shuffle_34 : decode cX0_shuffle 34 = .ok (.ldc2_w 143, 3) := by decide +kernel
theorem dX0_shuffle_37 : decode cX0_shuffle 37 = .ok (.lmul, 1) := by decide +kernel
theorem dX0_shuffle_38 : decode cX0_shuffle 38 = .ok (.ldc2_w 145, 3) := by decide +kernel
theorem dX0_shuffle_41 : decode cX0_shuffle 41 = .ok (.ladd, 1) := by decide +kernel
theorem dX0_shuffle_42 : decode cX0_shuffle 42 = .ok (.lstore_n 3, 1) := by decide +kernel
theorem dX0_shuffle_43 : decode cX0_shuffle 43 = .ok (.lload_n 3, 1) := by decide +kernel
theorem dX0_shuffle_44 : decode cX0_shuffle 44 = .ok (.bipush 33, 2) := by decide +kernel
theorem dX0_shuffle_46 : decode cX0_shuffle 46 = .ok (.lushr, 1) := by decide +kernel
theorem dX0_shuffle_47 : decode cX0_shuffle 47 = .ok (.l2i, 1) := by decide +kernel
theorem dX0_shuffle_48 : decode cX0_shuffle 48 = .ok (.iload 5, 2) := by decide +kernel
theorem dX0_shuffle_50 : decode cX0_shuffle 50 = .ok (.iconst 1, 1) := by decide +kernel
theorem dX0_shuffle_51 : decode cX0_shuffle 51 = .ok (.iadd, 1) := by decide +kernel
theorem dX0_shuffle_52 : decode cX0_shuffle 52 = .ok (.irem, 1) := by decide +kernel
theorem dX0_shuffle_53 : decode cX0_shuffle 53 = .ok (.istore 6, 2) := by decide +kernel
theorem dX0_shuffle_55 : decode cX0_shuffle 55 = .ok (.aload_n 0, 1) := by decide +kernel
theorem dX0_shuffle_56 : decode cX0_shuffle 56 = .ok (.getfield 9, 3) := by decide +kernel
theorem dX0_shuffle_59 : decode cX0_shuffle 59 = .ok (.iload 5, 2) := by decide +kernel
theorem dX0_shuffle_61 : decode cX0_shuffle 61 = .ok (.iaload, 1) := by decide +kernel
theorem dX0_shuffle_62 : decode cX0_shuffle 62 = .ok (.istore 7, 2) := by decide +kernel
theorem dX0_shuffle_64 : decode cX0_shuffle 64 = .ok (.aload_n 0, 1) := by decide +kernel
theorem dX0_shuffle_65 : decode cX0_shuffle 65 = .ok (.getfield 9, 3) := by decide +kernel
theorem dX0_shuffle_68 : decode cX0_shuffle 68 = .ok (.iload 5, 2) := by decide +kernel
theorem dX0_shuffle_70 : decode cX0_shuffle 70 = .ok (.aload_n 0, 1) := by decide +kernel
theorem dX0_shuffle_71 : decode cX0_shuffle 71 = .ok (.getfield 9, 3) := by decide +kernel
theorem dX0_shuffle_74 : decode cX0_shuffle 74 = .ok (.iload 6, 2) := by decide +kernel
theorem dX0_shuffle_76 : decode cX0_shuffle 76 = .ok (.iaload, 1) := by decide +kernel
theorem dX0_shuffle_77 : decode cX0_shuffle 77 = .ok (.iastore, 1) := by decide +kernel
theorem dX0_shuffle_78 : decode cX0_shuffle 78 = .ok (.aload_n 0, 1) := by decide +kernel
theorem dX0_shuffle_79 : decode cX0_shuffle 79 = .ok (.getfield 9, 3) := by decide +kernel
theorem dX0_shuffle_82 : decode cX0_shuffle 82 = .ok (.iload 6, 2) := by decide +kernel
theorem dX0_shuffle_84 : decode cX0_shuffle 84 = .ok (.iload 7, 2) := by decide +kernel
theorem dX0_shuffle_86 : decode cX0_shuffle 86 = .ok (.iastore, 1) := by decide +kernel
theorem dX0_shuffle_87 : decode cX0_shuffle 87 = .ok (.iinc 5 (-1), 3) := by decide +kernel
theorem dX0_shuffle_90 : decode cX0_shuffle 90 = .ok (.goto (-63), 3) := by decide +kernel
theorem dX0_shuffle_93 : decode cX0_shuffle 93 = .ok (.return_, 1) := by decide +kernel
theorem dX0_reasonAgainst_0 : decode cX0_reasonAgainst 0 = .ok (.aload_n 0, 1) := by decide +kernel
theorem dX0_reasonAgainst_1 : decode cX0_reasonAgainst 1 = .ok (.invokevirtual 78, 3) := by decide +kernel
theorem dX0_reasonAgainst_4 : decode cX0_reasonAgainst 4 = .ok (.ifCond .ne 5, 3) := by decide +kernel
theorem dX0_reasonAgainst_7 : decode cX0_reasonAgainst 7 = .ok (.iconst (-1), 1) := by decide +kernel
theorem dX0_reasonAgainst_8 : decode cX0_reasonAgainst 8 = .ok (.ireturn, 1) := by decide +kernel
theorem dX0_reasonAgainst_9 : decode cX0_reasonAgainst 9 = .ok (.aload_n 0, 1) := by decide +kernel
theorem dX0_reasonAgainst_10 : decode cX0_reasonAgainst 10 = .ok (.iload_n 1, 1) := by decide +kernel
theorem dX0_reasonAgainst_11 : decode cX0_reasonAgainst 11 = .ok (.invokevirtual 108, 3) := by decide +kernel
theorem dX0_reasonAgainst_14 : decode cX0_reasonAgainst 14 = .ok (.aload_n 0, 1) := by decide +kernel
theorem dX0_reasonAgainst_15 : decode cX0_reasonAgainst 15 = .ok (.getfield 50, 3) := by decide +kernel
theorem dX0_reasonAgainst_18 : decode cX0_reasonAgainst 18 = .ok (.if_icmp .eq 5, 3) := by decide +kernel
theorem dX0_reasonAgainst_21 : decode cX0_reasonAgainst 21 = .ok (.iconst 1, 1) := by decide +kernel
theorem dX0_reasonAgainst_22 : decode cX0_reasonAgainst 22 = .ok (.ireturn, 1) := by decide +kernel
theorem dX0_reasonAgainst_23 : decode cX0_reasonAgainst 23 = .ok (.aload_n 0, 1) := by decide +kernel
theorem dX0_reasonAgainst_24 : decode cX0_reasonAgainst 24 = .ok (.getfield 27, 3) := by decide +kernel
theorem dX0_reasonAgainst_27 : decode cX0_reasonAgainst 27 = .ok (.iload_n 1, 1) := by decide +kernel
theorem dX0_reasonAgainst_28 : decode cX0_reasonAgainst 28 = .ok (.invokevirtual 147, 3) := by decide +kernel
theorem dX0_reasonAgainst_31 : decode cX0_reasonAgainst 31 = .ok (.ifCond .ne 5, 3) := by decide +kernel
theorem dX0_reasonAgainst_34 : decode cX0_reasonAgainst 34 = .ok (.iconst 2, 1) := by decide +kernel
theorem dX0_reasonAgainst_35 : decode cX0_reasonAgainst 35 = .ok (.ireturn, 1) := by decide +kernel
theorem dX0_reasonAgainst_36 : decode cX0_reasonAgainst 36 = .ok (.aload_n 0, 1) := by decide +kernel
theorem dX0_reasonAgainst_37 : decode cX0_reasonAgainst 37 = .ok (.getfield 27, 3) := by decide +kernel
theorem dX0_reasonAgainst_40 : decode cX0_reasonAgainst 40 = .ok (.invokevirtual 150, 3) := by decide +kernel
theorem dX0_reasonAgainst_43 : decode cX0_reasonAgainst 43 = .ok (.ifCond .eq 7, 3) := by decide +kernel
theorem dX0_reasonAgainst_46 : decode cX0_reasonAgainst 46 = .ok (.iconst 0, 1) := by decide +kernel
theorem dX0_reasonAgainst_47 : decode cX0_reasonAgainst 47 = .ok (.goto 4, 3) := by decide +kernel
theorem dX0_reasonAgainst_50 : decode cX0_reasonAgainst 50 = .ok (.iconst 3, 1) := by decide +kernel
theorem dX0_reasonAgainst_51 : decode cX0_reasonAgainst 51 = .ok (.ireturn, 1) := by decide +kernel
theorem dX0_layOrRefuse_0 : decode cX0_layOrRefuse 0 = .ok (.aload_n 0, 1) := by decide +kernel
theorem dX0_layOrRefuse_1 : decode cX0_layOrRefuse 1 = .ok (.iload_n 1, 1) := by decide +kernel
theorem dX0_layOrRefuse_2 : decode cX0_layOrRefuse 2 = .ok (.invokevirtual 153, 3) := by decide +kernel
theorem dX0_layOrRefuse_5 : decode cX0_layOrRefuse 5 = .ok (.istore_n 3, 1) := by decide +kernel
theorem dX0_layOrRefuse_6 : decode cX0_layOrRefuse 6 = .ok (.aload_n 0, 1) := by decide +kernel
theorem dX0_layOrRefuse_7 : decode cX0_layOrRefuse 7 = .ok (.iload_n 1, 1) := by decide +kernel
theorem dX0_layOrRefuse_8 : decode cX0_layOrRefuse 8 = .ok (.iload_n 2, 1) := by decide +kernel
theorem dX0_layOrRefuse_9 : decode cX0_layOrRefuse 9 = .ok (.invokevirtual 156, 3) := by decide +kernel
theorem dX0_layOrRefuse_12 : decode cX0_layOrRefuse 12 = .ok (.ifCond .ne 13, 3) := by decide +kernel
theorem dX0_layOrRefuse_15 : decode cX0_layOrRefuse 15 = .ok (.aload_n 0, 1) := by decide +kernel
theorem dX0_layOrRefuse_16 : decode cX0_layOrRefuse 16 = .ok (.dup, 1) := by decide +kernel
theorem dX0_layOrRefuse_17 : decode cX0_layOrRefuse 17 = .ok (.getfield 38, 3) := by decide +kernel
theorem dX0_layOrRefuse_20 : decode cX0_layOrRefuse 20 = .ok (.iconst 1, 1) := by decide +kernel
theorem dX0_layOrRefuse_21 : decode cX0_layOrRefuse 21 = .ok (.iadd, 1) := by decide +kernel
theorem dX0_layOrRefuse_22 : decode cX0_layOrRefuse 22 = .ok (.putfield 38, 3) := by decide +kernel
theorem dX0_layOrRefuse_25 : decode cX0_layOrRefuse 25 = .ok (.iload_n 3, 1) := by decide +kernel
theorem dX0_layOrRefuse_26 : decode cX0_layOrRefuse 26 = .ok (.ireturn, 1) := by decide +kernel
theorem dX0_layIfPossible_0 : decode cX0_layIfPossible 0 = .ok (.aload_n 0, 1) := by decide +kernel
theorem dX0_layIfPossible_1 : decode cX0_layIfPossible 1 = .ok (.iload_n 1, 1) := by decide +kernel
theorem dX0_layIfPossible_2 : decode cX0_layIfPossible 2 = .ok (.invokevirtual 153, 3) := by decide +kernel
theorem dX0_layIfPossible_5 : decode cX0_layIfPossible 5 = .ok (.ifCond .eq 5, 3) := by decide +kernel
theorem dX0_layIfPossible_8 : decode cX0_layIfPossible 8 = .ok (.iconst 0, 1) := by decide +kernel
theorem dX0_layIfPossible_9 : decode cX0_layIfPossible 9 = .ok (.ireturn, 1) := by decide +kernel
theorem dX0_layIfPossible_10 : decode cX0_layIfPossible 10 = .ok (.aload_n 0, 1) := by decide +kernel
theorem dX0_layIfPossible_11 : decode cX0_layIfPossible 11 = .ok (.getfield 27, 3) := by decide +kernel
theorem dX0_layIfPossible_14 : decode cX0_layIfPossible 14 = .ok (.iload_n 1, 1) := by decide +kernel
theorem dX0_layIfPossible_15 : decode cX0_layIfPossible 15 = .ok (.iload_n 2, 1) := by decide +kernel
theorem dX0_layIfPossible_16 : decode cX0_layIfPossible 16 = .ok (.invokevirtual 160, 3) := by decide +kernel
theorem dX0_layIfPossible_19 : decode cX0_layIfPossible 19 = .ok (.aload_n 0, 1) := by decide +kernel
theorem dX0_layIfPossible_20 : decode cX0_layIfPossible 20 = .ok (.iload_n 1, 1) := by decide +kernel
theorem dX0_layIfPossible_21 : decode cX0_layIfPossible 21 = .ok (.iconst (-1), 1) := by decide +kernel
theorem dX0_layIfPossible_22 : decode cX0_layIfPossible 22 = .ok (.invokevirtual 139, 3) := by decide +kernel
theorem dX0_layIfPossible_25 : decode cX0_layIfPossible 25 = .ok (.aload_n 0, 1) := by decide +kernel
theorem dX0_layIfPossible_26 : decode cX0_layIfPossible 26 = .ok (.dup, 1) := by decide +kernel
theorem dX0_layIfPossible_27 : decode cX0_layIfPossible 27 = .ok (.getfield 41, 3) := by decide +kernel
theorem dX0_layIfPossible_30 : decode cX0_layIfPossible 30 = .ok (.iconst 1, 1) := by decide +kernel
theorem dX0_layIfPossible_31 : decode cX0_layIfPossible 31 = .ok (.iadd, 1) := by decide +kernel
theorem dX0_layIfPossible_32 : decode cX0_layIfPossible 32 = .ok (.putfield 41, 3) := by decide +kernel
theorem dX0_layIfPossible_35 : decode cX0_layIfPossible 35 = .ok (.aload_n 0, 1) := by decide +kernel
theorem dX0_layIfPossible_36 : decode cX0_layIfPossible 36 = .ok (.iconst 0, 1) := by decide +kernel
theorem dX0_layIfPossible_37 : decode cX0_layIfPossible 37 = .ok (.putfield 53, 3) := by decide +kernel
theorem dX0_layIfPossible_40 : decode cX0_layIfPossible 40 = .ok (.aload_n 0, 1) := by decide +kernel
theorem dX0_layIfPossible_41 : decode cX0_layIfPossible 41 = .ok (.aload_n 0, 1) := by decide +kernel
theorem dX0_layIfPossible_42 : decode cX0_layIfPossible 42 = .ok (.getfield 50, 3) := by decide +kernel
theorem dX0_layIfPossible_45 : decode cX0_layIfPossible 45 = .ok (.invokevirtual 121, 3) := by decide +kernel
theorem dX0_layIfPossible_48 : decode cX0_layIfPossible 48 = .ok (.ifCond .ne 14, 3) := by decide +kernel
theorem dX0_layIfPossible_51 : decode cX0_layIfPossible 51 = .ok (.aload_n 0, 1) := by decide +kernel
theorem dX0_layIfPossible_52 : decode cX0_layIfPossible 52 = .ok (.aload_n 0, 1) := by decide +kernel
theorem dX0_layIfPossible_53 : decode cX0_layIfPossible 53 = .ok (.getfield 50, 3) := by decide +kernel
theorem dX0_layIfPossible_56 : decode cX0_layIfPossible 56 = .ok (.invokevirtual 164, 3) := by decide +kernel
theorem dX0_layIfPossible_59 : decode cX0_layIfPossible 59 = .ok (.goto 7, 3) := by decide +kernel
theorem dX0_layIfPossible_62 : decode cX0_layIfPossible 62 = .ok (.aload_n 0, 1) := by decide +kernel
theorem dX0_layIfPossible_63 : decode cX0_layIfPossible 63 = .ok (.invokevirtual 168, 3) := by decide +kernel
theorem dX0_layIfPossible_66 : decode cX0_layIfPossible 66 = .ok (.iconst 1, 1) := by decide +kernel
theorem dX0_layIfPossible_67 : decode cX0_layIfPossible 67 = .ok (.ireturn, 1) := by decide +kernel
theorem dX0_layHeaviest_0 : decode cX0_layHeaviest 0 = .ok (.iconst 0, 1) := by decide +kernel
theorem dX0_layHeaviest_1 : decode cX0_layHeaviest 1 = .ok (.istore_n 2, 1) := by decide +kernel
theorem dX0_layHeaviest_2 : decode cX0_layHeaviest 2 = .ok (.iload_n 2, 1) := by decide +kernel
theorem dX0_layHeaviest_3 : decode cX0_layHeaviest 3 = .ok (.iload_n 1, 1) := by decide +kernel
theorem dX0_layHeaviest_4 : decode cX0_layHeaviest 4 = .ok (.if_icmp .ge 23, 3) := by decide +kernel
theorem dX0_layHeaviest_7 : decode cX0_layHeaviest 7 = .ok (.aload_n 0, 1) := by decide +kernel
theorem dX0_layHeaviest_8 : decode cX0_layHeaviest 8 = .ok (.aload_n 0, 1) := by decide +kernel
theorem dX0_layHeaviest_9 : decode cX0_layHeaviest 9 = .ok (.invokevirtual 171, 3) := by decide +kernel
theorem dX0_layHeaviest_12 : decode cX0_layHeaviest 12 = .ok (.iconst 0, 1) := by decide +kernel
theorem dX0_layHeaviest_13 : decode cX0_layHeaviest 13 = .ok (.invokevirtual 156, 3) := by decide +kernel
theorem dX0_layHeaviest_16 : decode cX0_layHeaviest 16 = .ok (.ifCond .ne 5, 3) := by decide +kernel
theorem dX0_layHeaviest_19 : decode cX0_layHeaviest 19 = .ok (.iconst 0, 1) := by decide +kernel
theorem dX0_layHeaviest_20 : decode cX0_layHeaviest 20 = .ok (.ireturn, 1) := by decide +kernel
theorem dX0_layHeaviest_21 : decode cX0_layHeaviest 21 = .ok (.iinc 2 1, 3) := by decide +kernel
theorem dX0_layHeaviest_24 : decode cX0_layHeaviest 24 = .ok (.goto (-22), 3) := by decide +kernel
theorem dX0_layHeaviest_27 : decode cX0_layHeaviest 27 = .ok (.iconst 1, 1) := by decide +kernel
theorem dX0_layHeaviest_28 : decode cX0_layHeaviest 28 = .ok (.ireturn, 1) := by decide +kernel
theorem dX0_canTakeFromHeap_0 : decode cX0_canTakeFromHeap 0 = .ok (.aload_n 0, 1) := by decide +kernel
theorem dX0_canTakeFromHeap_1 : decode cX0_canTakeFromHeap 1 = .ok (.invokevirtual 78, 3) := by decide +kernel
theorem dX0_canTakeFromHeap_4 : decode cX0_canTakeFromHeap 4 = .ok (.ifCond .eq 16, 3) := by decide +kernel
theorem dX0_canTakeFromHeap_7 : decode cX0_canTakeFromHeap 7 = .ok (.aload_n 0, 1) := by decide +kernel
theorem dX0_canTakeFromHeap_8 : decode cX0_canTakeFromHeap 8 = .ok (.getfield 56, 3) := by decide +kernel
theorem dX0_canTakeFromHeap_11 : decode cX0_canTakeFromHeap 11 = .ok (.bipush 28, 2) := by decide +kernel
theorem dX0_canTakeFromHeap_13 : decode cX0_canTakeFromHeap 13 = .ok (.if_icmp .ge 7, 3) := by decide +kernel
theorem dX0_canTakeFromHeap_16 : decode cX0_canTakeFromHeap 16 = .ok (.iconst 1, 1) := by decide +kernel
theorem dX0_canTakeFromHeap_17 : decode cX0_canTakeFromHeap 17 = .ok (.goto 4, 3) := by decide +kernel
theorem dX0_canTakeFromHeap_20 : decode cX0_canTakeFromHeap 20 = .ok (.iconst 0, 1) := by decide +kernel
theorem dX0_canTakeFromHeap_21 : decode cX0_canTakeFromHeap 21 = .ok (.ireturn, 1) := by decide +kernel
theorem dX0_takeFromHeap_0 : decode cX0_takeFromHeap 0 = .ok (.aload_n 0, 1) := by decide +kernel
theorem dX0_takeFromHeap_1 : decode cX0_takeFromHeap 1 = .ok (.invokevirtual 174, 3) := by decide +kernel
theorem dX0_takeFromHeap_4 : decode cX0_takeFromHeap 4 = .ok (.ifCond .eq 10, 3) := by decide +kernel
theorem dX0_takeFromHeap_7 : decode cX0_takeFromHeap 7 = .ok (.aload_n 0, 1) := by decide +kernel
theorem dX0_takeFromHeap_8 : decode cX0_takeFromHeap 8 = .ok (.getfield 56, 3) := by decide +kernel
theorem dX0_takeFromHeap_11 : decode cX0_takeFromHeap 11 = .ok (.ifCond .ge 5, 3) := by decide +kernel
theorem dX0_takeFromHeap_14 : decode cX0_takeFromHeap 14 = .ok (.iconst (-1), 1) := by decide +kernel
theorem dX0_takeFromHeap_15 : decode cX0_takeFromHeap 15 = .ok (.ireturn, 1) := by decide +kernel
theorem dX0_takeFromHeap_16 : decode cX0_takeFromHeap 16 = .ok (.aload_n 0, 1) := by decide +kernel
theorem dX0_takeFromHeap_17 : decode cX0_takeFromHeap 17 = .ok (.getfield 9, 3) := by decide +kernel
theorem dX0_takeFromHeap_20 : decode cX0_takeFromHeap 20 = .ok (.aload_n 0, 1) := by decide +kernel
theorem dX0_takeFromHeap_21 : decode cX0_takeFromHeap 21 = .ok (.getfield 56, 3) := by decide +kernel
theorem dX0_takeFromHeap_24 : decode cX0_takeFromHeap 24 = .ok (.iaload, 1) := by decide +kernel
theorem dX0_takeFromHeap_25 : decode cX0_takeFromHeap 25 = .ok (.istore_n 1, 1) := by decide +kernel
theorem dX0_takeFromHeap_26 : decode cX0_takeFromHeap 26 = .ok (.aload_n 0, 1) := by decide +kernel
theorem dX0_takeFromHeap_27 : decode cX0_takeFromHeap 27 = .ok (.dup, 1) := by decide +kernel
theorem dX0_takeFromHeap_28 : decode cX0_takeFromHeap 28 = .ok (.getfield 56, 3) := by decide +kernel
theorem dX0_takeFromHeap_31 : decode cX0_takeFromHeap 31 = .ok (.iconst 1, 1) := by decide +kernel
theorem dX0_takeFromHeap_32 : decode cX0_takeFromHeap 32 = .ok (.iadd, 1) := by decide +kernel
theorem dX0_takeFromHeap_33 : decode cX0_takeFromHeap 33 = .ok (.putfield 56, 3) := by decide +kernel
theorem dX0_takeFromHeap_36 : decode cX0_takeFromHeap 36 = .ok (.aload_n 0, 1) := by decide +kernel
theorem dX0_takeFromHeap_37 : decode cX0_takeFromHeap 37 = .ok (.iload_n 1, 1) := by decide +kernel
theorem dX0_takeFromHeap_38 : decode cX0_takeFromHeap 38 = .ok (.aload_n 0, 1) := by decide +kernel
theorem dX0_takeFromHeap_39 : decode cX0_takeFromHeap 39 = .ok (.getfield 50, 3) := by decide +kernel
theorem dX0_takeFromHeap_42 : decode cX0_takeFromHeap 42 = .ok (.invokevirtual 139, 3) := by decide +kernel
theorem dX0_takeFromHeap_45 : decode cX0_takeFromHeap 45 = .ok (.aload_n 0, 1) := by decide +kernel
theorem dX0_takeFromHeap_46 : decode cX0_takeFromHeap 46 = .ok (.iconst 0, 1) := by decide +kernel
theorem dX0_takeFromHeap_47 : decode cX0_takeFromHeap 47 = .ok (.putfield 53, 3) := by decide +kernel
theorem dX0_takeFromHeap_50 : decode cX0_takeFromHeap 50 = .ok (.iload_n 1, 1) := by decide +kernel
theorem dX0_takeFromHeap_51 : decode cX0_takeFromHeap 51 = .ok (.ireturn, 1) := by decide +kernel
theorem dX0_canSkipTurn_0 : decode cX0_canSkipTurn 0 = .ok (.aload_n 0, 1) := by decide +kernel
theorem dX0_canSkipTurn_1 : decode cX0_canSkipTurn 1 = .ok (.invokevirtual 78, 3) := by decide +kernel
theorem dX0_canSkipTurn_4 : decode cX0_canSkipTurn 4 = .ok (.ifCond .eq 16, 3) := by decide +kernel
theorem dX0_canSkipTurn_7 : decode cX0_canSkipTurn 7 = .ok (.aload_n 0, 1) := by decide +kernel
theorem dX0_canSkipTurn_8 : decode cX0_canSkipTurn 8 = .ok (.getfield 56, 3) := by decide +kernel
theorem dX0_canSkipTurn_11 : decode cX0_canSkipTurn 11 = .ok (.bipush 28, 2) := by decide +kernel
theorem dX0_canSkipTurn_13 : decode cX0_canSkipTurn 13 = .ok (.if_icmp .lt 7, 3) := by decide +kernel
theorem dX0_canSkipTurn_16 : decode cX0_canSkipTurn 16 = .ok (.iconst 1, 1) := by decide +kernel
theorem dX0_canSkipTurn_17 : decode cX0_canSkipTurn 17 = .ok (.goto 4, 3) := by decide +kernel
theorem dX0_canSkipTurn_20 : decode cX0_canSkipTurn 20 = .ok (.iconst 0, 1) := by decide +kernel
theorem dX0_canSkipTurn_21 : decode cX0_canSkipTurn 21 = .ok (.ireturn, 1) := by decide +kernel
theorem dX0_skipTurn_0 : decode cX0_skipTurn 0 = .ok (.aload_n 0, 1) := by decide +kernel
theorem dX0_skipTurn_1 : decode cX0_skipTurn 1 = .ok (.invokevirtual 177, 3) := by decide +kernel
theorem dX0_skipTurn_4 : decode cX0_skipTurn 4 = .ok (.ifCond .ne 5, 3) := by decide +kernel
theorem dX0_skipTurn_7 : decode cX0_skipTurn 7 = .ok (.iconst (-1), 1) := by decide +kernel
theorem dX0_skipTurn_8 : decode cX0_skipTurn 8 = .ok (.ireturn, 1) := by decide +kernel
theorem dX0_skipTurn_9 : decode cX0_skipTurn 9 = .ok (.aload_n 0, 1) := by decide +kernel
theorem dX0_skipTurn_10 : decode cX0_skipTurn 10 = .ok (.dup, 1) := by decide +kernel
theorem dX0_skipTurn_11 : decode cX0_skipTurn 11 = .ok (.getfield 53, 3) := by decide +kernel
theorem dX0_skipTurn_14 : decode cX0_skipTurn 14 = .ok (.iconst 1, 1) := by decide +kernel
theorem dX0_skipTurn_15 : decode cX0_skipTurn 15 = .ok (.iadd, 1) := by decide +kernel
theorem dX0_skipTurn_16 : decode cX0_skipTurn 16 = .ok (.putfield 53, 3) := by decide +kernel
theorem dX0_skipTurn_19 : decode cX0_skipTurn 19 = .ok (.aload_n 0, 1) := by decide +kernel
theorem dX0_skipTurn_20 : decode cX0_skipTurn 20 = .ok (.getfield 53, 3) := by decide +kernel
theorem dX0_skipTurn_23 : decode cX0_skipTurn 23 = .ok (.aload_n 0, 1) := by decide +kernel
theorem dX0_skipTurn_24 : decode cX0_skipTurn 24 = .ok (.getfield 47, 3) := by decide +kernel
theorem dX0_skipTurn_27 : decode cX0_skipTurn 27 = .ok (.if_icmp .lt 14, 3) := by decide +kernel
theorem dX0_skipTurn_30 : decode cX0_skipTurn 30 = .ok (.aload_n 0, 1) := by decide +kernel
theorem dX0_skipTurn_31 : decode cX0_skipTurn 31 = .ok (.aload_n 0, 1) := by decide +kernel
theorem dX0_skipTurn_32 : decode cX0_skipTurn 32 = .ok (.invokevirtual 180, 3) := by decide +kernel
theorem dX0_skipTurn_35 : decode cX0_skipTurn 35 = .ok (.invokevirtual 164, 3) := by decide +kernel
theorem dX0_skipTurn_38 : decode cX0_skipTurn 38 = .ok (.goto 7, 3) := by decide +kernel
theorem dX0_skipTurn_41 : decode cX0_skipTurn 41 = .ok (.aload_n 0, 1) := by decide +kernel
theorem dX0_skipTurn_42 : decode cX0_skipTurn 42 = .ok (.invokevirtual 168, 3) := by decide +kernel
theorem dX0_skipTurn_45 : decode cX0_skipTurn 45 = .ok (.aload_n 0, 1) := by decide +kernel
theorem dX0_skipTurn_46 : decode cX0_skipTurn 46 = .ok (.getfield 44, 3) := by decide +kernel
theorem dX0_skipTurn_49 : decode cX0_skipTurn 49 = .ok (.ireturn, 1) := by decide +kernel
theorem dX0_goToNextPlayer_0 : decode cX0_goToNextPlayer 0 = .ok (.aload_n 0, 1) := by decide +kernel
theorem dX0_goToNextPlayer_1 : decode cX0_goToNextPlayer 1 = .ok (.aload_n 0, 1) := by decide +kernel
theorem dX0_goToNextPlayer_2 : decode cX0_goToNextPlayer 2 = .ok (.getfield 50, 3) := by decide +kernel
theorem dX0_goToNextPlayer_5 : decode cX0_goToNextPlayer 5 = .ok (.iconst 1, 1) := by decide +kernel
theorem dX0_goToNextPlayer_6 : decode cX0_goToNextPlayer 6 = .ok (.iadd, 1) := by decide +kernel
theorem dX0_goToNextPlayer_7 : decode cX0_goToNextPlayer 7 = .ok (.aload_n 0, 1) := by decide +kernel
theorem dX0_goToNextPlayer_8 : decode cX0_goToNextPlayer 8 = .ok (.getfield 47, 3) := by decide +kernel
theorem dX0_goToNextPlayer_11 : decode cX0_goToNextPlayer 11 = .ok (.if_icmp .ge 12, 3) := by decide +kernel
theorem dX0_goToNextPlayer_14 : decode cX0_goToNextPlayer 14 = .ok (.aload_n 0, 1) := by decide +kernel
theorem dX0_goToNextPlayer_15 : decode cX0_goToNextPlayer 15 = .ok (.getfield 50, 3) := by decide +kernel
theorem dX0_goToNextPlayer_18 : decode cX0_goToNextPlayer 18 = .ok (.iconst 1, 1) := by decide +kernel
theorem dX0_goToNextPlayer_19 : decode cX0_goToNextPlayer 19 = .ok (.iadd, 1) := by decide +kernel
theorem dX0_goToNextPlayer_20 : decode cX0_goToNextPlayer 20 = .ok (.goto 4, 3) := by decide +kernel
theorem dX0_goToNextPlayer_23 : decode cX0_goToNextPlayer 23 = .ok (.iconst 0, 1) := by decide +kernel
theorem dX0_goToNextPlayer_24 : decode cX0_goToNextPlayer 24 = .ok (.putfield 50, 3) := by decide +kernel
theorem dX0_goToNextPlayer_27 : decode cX0_goToNextPlayer 27 = .ok (.return_, 1) := by decide +kernel
theorem dX0_playerWithFewestPips_0 : decode cX0_playerWithFewestPips 0 = .ok (.iconst 0, 1) := by decide +kernel
theorem dX0_playerWithFewestPips_1 : decode cX0_playerWithFewestPips 1 = .ok (.istore_n 1, 1) := by decide +kernel
theorem dX0_playerWithFewestPips_2 : decode cX0_playerWithFewestPips 2 = .ok (.iconst 1, 1) := by decide +kernel
theorem dX0_playerWithFewestPips_3 : decode cX0_playerWithFewestPips 3 = .ok (.istore_n 2, 1) := by decide +kernel
theorem dX0_playerWithFewestPips_4 : decode cX0_playerWithFewestPips 4 = .ok (.iload_n 2, 1) := by decide +kernel
theorem dX0_playerWithFewestPips_5 : decode cX0_playerWithFewestPips 5 = .ok (.aload_n 0, 1) := by decide +kernel
theorem dX0_playerWithFewestPips_6 : decode cX0_playerWithFewestPips 6 = .ok (.getfield 47, 3) := by decide +kernel
theorem dX0_playerWithFewestPips_9 : decode cX0_playerWithFewestPips 9 = .ok (.if_icmp .ge 24, 3) := by decide +kernel
theorem dX0_playerWithFewestPips_12 : decode cX0_playerWithFewestPips 12 = .ok (.aload_n 0, 1) := by decide +kernel
theorem dX0_playerWithFewestPips_13 : decode cX0_playerWithFewestPips 13 = .ok (.iload_n 2, 1) := by decide +kernel
theorem dX0_playerWithFewestPips_14 : decode cX0_playerWithFewestPips 14 = .ok (.invokevirtual 124, 3) := by decide +kernel
theorem dX0_playerWithFewestPips_17 : decode cX0_playerWithFewestPips 17 = .ok (.aload_n 0, 1) := by decide +kernel
theorem dX0_playerWithFewestPips_18 : decode cX0_playerWithFewestPips 18 = .ok (.iload_n 1, 1) := by decide +kernel
theorem dX0_playerWithFewestPips_19 : decode cX0_playerWithFewestPips 19 = .ok (.invokevirtual 124, 3) := by decide +kernel
theorem dX0_playerWithFewestPips_22 : decode cX0_playerWithFewestPips 22 = .ok (.if_icmp .ge 5, 3) := by decide +kernel
theorem dX0_playerWithFewestPips_25 : decode cX0_playerWithFewestPips 25 = .ok (.iload_n 2, 1) := by decide +kernel
theorem dX0_playerWithFewestPips_26 : decode cX0_playerWithFewestPips 26 = .ok (.istore_n 1, 1) := by decide +kernel
theorem dX0_playerWithFewestPips_27 : decode cX0_playerWithFewestPips 27 = .ok (.iinc 2 1, 3) := by decide +kernel
theorem dX0_playerWithFewestPips_30 : decode cX0_playerWithFewestPips 30 = .ok (.goto (-26), 3) := by decide +kernel
theorem dX0_playerWithFewestPips_33 : decode cX0_playerWithFewestPips 33 = .ok (.iload_n 1, 1) := by decide +kernel
theorem dX0_playerWithFewestPips_34 : decode cX0_playerWithFewestPips 34 = .ok (.ireturn, 1) := by decide +kernel
theorem dX0_winRound_0 : decode cX0_winRound 0 = .ok (.iload_n 1, 1) := by decide +kernel
theorem dX0_winRound_1 : decode cX0_winRound 1 = .ok (.invokestatic 117, 3) := by decide +kernel
theorem dX0_winRound_4 : decode cX0_winRound 4 = .ok (.ifCond .eq 57, 3) := by decide +kernel
theorem dX0_winRound_7 : decode cX0_winRound 7 = .ok (.iconst 0, 1) := by decide +kernel
theorem dX0_winRound_8 : decode cX0_winRound 8 = .ok (.istore_n 2, 1) := by decide +kernel
theorem dX0_winRound_9 : decode cX0_winRound 9 = .ok (.iconst 0, 1) := by decide +kernel
theorem dX0_winRound_10 : decode cX0_winRound 10 = .ok (.istore_n 3, 1) := by decide +kernel
theorem dX0_winRound_11 : decode cX0_winRound 11 = .ok (.iload_n 3, 1) := by decide +kernel
theorem dX0_winRound_12 : decode cX0_winRound 12 = .ok (.aload_n 0, 1) := by decide +kernel
theorem dX0_winRound_13 : decode cX0_winRound 13 = .ok (.getfield 47, 3) := by decide +kernel
theorem dX0_winRound_16 : decode cX0_winRound 16 = .ok (.if_icmp .ge 17, 3) := by decide +kernel
theorem dX0_winRound_19 : decode cX0_winRound 19 = .ok (.iload_n 2, 1) := by decide +kernel
theorem dX0_winRound_20 : decode cX0_winRound 20 = .ok (.aload_n 0, 1) := by decide +kernel
theorem dX0_winRound_21 : decode cX0_winRound 21 = .ok (.iload_n 3, 1) := by decide +kernel
theorem dX0_winRound_22 : decode cX0_winRound 22 = .ok (.invokevirtual 124, 3) := by decide +kernel
theorem dX0_winRound_25 : decode cX0_winRound 25 = .ok (.iadd, 1) := by decide +kernel
theorem dX0_winRound_26 : decode cX0_winRound 26 = .ok (.istore_n 2, 1) := by decide +kernel
theorem dX0_winRound_27 : decode cX0_winRound 27 = .ok (.iinc 3 1, 3) := by decide +kernel
theorem dX0_winRound_30 : decode cX0_winRound 30 = .ok (.goto (-19), 3) := by decide +kernel
theorem dX0_winRound_33 : decode cX0_winRound 33 = .ok (.aload_n 0, 1) := by decide +kernel
theorem dX0_winRound_34 : decode cX0_winRound 34 = .ok (.getfield 18, 3) := by decide +kernel
theorem dX0_winRound_37 : decode cX0_winRound 37 = .ok (.iload_n 1, 1) := by decide +kernel
theorem dX0_winRound_38 : decode cX0_winRound 38 = .ok (.dup2, 1) := by decide +kernel
theorem dX0_winRound_39 : decode cX0_winRound 39 = .ok (.iaload, 1) := by decide +kernel
theorem dX0_winRound_40 : decode cX0_winRound 40 = .ok (.iload_n 2, 1) := by decide +kernel
theorem dX0_winRound_41 : decode cX0_winRound 41 = .ok (.iconst 2, 1) := by decide +kernel
theorem dX0_winRound_42 : decode cX0_winRound 42 = .ok (.aload_n 0, 1) := by decide +kernel
theorem dX0_winRound_43 : decode cX0_winRound 43 = .ok (.iload_n 1, 1) := by decide +kernel
theorem dX0_winRound_44 : decode cX0_winRound 44 = .ok (.invokevirtual 124, 3) := by decide +kernel
theorem dX0_winRound_47 : decode cX0_winRound 47 = .ok (.imul, 1) := by decide +kernel
theorem dX0_winRound_48 : decode cX0_winRound 48 = .ok (.isub, 1) := by decide +kernel
theorem dX0_winRound_49 : decode cX0_winRound 49 = .ok (.iadd, 1) := by decide +kernel
theorem dX0_winRound_50 : decode cX0_winRound 50 = .ok (.iastore, 1) := by decide +kernel
theorem dX0_winRound_51 : decode cX0_winRound 51 = .ok (.aload_n 0, 1) := by decide +kernel
theorem dX0_winRound_52 : decode cX0_winRound 52 = .ok (.getfield 21, 3) := by decide +kernel
theorem dX0_winRound_55 : decode cX0_winRound 55 = .ok (.iload_n 1, 1) := by decide +kernel
theorem dX0_winRound_56 : decode cX0_winRound 56 = .ok (.dup2, 1) := by decide +kernel
theorem dX0_winRound_57 : decode cX0_winRound 57 = .ok (.iaload, 1) := by decide +kernel
theorem dX0_winRound_58 : decode cX0_winRound 58 = .ok (.iconst 1, 1) := by decide +kernel
theorem dX0_winRound_59 : decode cX0_winRound 59 = .ok (.iadd, 1) := by decide +kernel
theorem dX0_winRound_60 : decode cX0_winRound 60 = .ok (.iastore, 1) := by decide +kernel
theorem dX0_winRound_61 : decode cX0_winRound 61 = .ok (.aload_n 0, 1) := by decide +kernel
theorem dX0_winRound_62 : decode cX0_winRound 62 = .ok (.iconst 2, 1) := by decide +kernel
theorem dX0_winRound_63 : decode cX0_winRound 63 = .ok (.putfield 44, 3) := by decide +kernel
theorem dX0_winRound_66 : decode cX0_winRound 66 = .ok (.return_, 1) := by decide +kernel
theorem dX0_playable_0 : decode cX0_playable 0 = .ok (.iconst 0, 1) := by decide +kernel
theorem dX0_playable_1 : decode cX0_playable 1 = .ok (.istore_n 1, 1) := by decide +kernel
theorem dX0_playable_2 : decode cX0_playable 2 = .ok (.iconst 0, 1) := by decide +kernel
theorem dX0_playable_3 : decode cX0_playable 3 = .ok (.istore_n 2, 1) := by decide +kernel
theorem dX0_playable_4 : decode cX0_playable 4 = .ok (.iload_n 2, 1) := by decide +kernel
theorem dX0_playable_5 : decode cX0_playable 5 = .ok (.bipush 28, 2) := by decide +kernel
theorem dX0_playable_7 : decode cX0_playable 7 = .ok (.if_icmp .ge 23, 3) := by decide +kernel
theorem dX0_playable_10 : decode cX0_playable 10 = .ok (.aload_n 0, 1) := by decide +kernel
theorem dX0_playable_11 : decode cX0_playable 11 = .ok (.iload_n 2, 1) := by decide +kernel
theorem dX0_playable_12 : decode cX0_playable 12 = .ok (.invokevirtual 153, 3) := by decide +kernel
theorem dX0_playable_15 : decode cX0_playable 15 = .ok (.ifCond .ne 9, 3) := by decide +kernel
theorem dX0_playable_18 : decode cX0_playable 18 = .ok (.iload_n 1, 1) := by decide +kernel
theorem dX0_playable_19 : decode cX0_playable 19 = .ok (.iconst 1, 1) := by decide +kernel
theorem dX0_playable_20 : decode cX0_playable 20 = .ok (.iload_n 2, 1) := by decide +kernel
theorem dX0_playable_21 : decode cX0_playable 21 = .ok (.ishl, 1) := by decide +kernel
theorem dX0_playable_22 : decode cX0_playable 22 = .ok (.ior, 1) := by decide +kernel
theorem dX0_playable_23 : decode cX0_playable 23 = .ok (.istore_n 1, 1) := by decide +kernel
theorem dX0_playable_24 : decode cX0_playable 24 = .ok (.iinc 2 1, 3) := by decide +kernel
theorem dX0_playable_27 : decode cX0_playable 27 = .ok (.goto (-23), 3) := by decide +kernel
theorem dX0_playable_30 : decode cX0_playable 30 = .ok (.iload_n 1, 1) := by decide +kernel
theorem dX0_playable_31 : decode cX0_playable 31 = .ok (.ireturn, 1) := by decide +kernel
theorem dX0_heaviestPlayable_0 : decode cX0_heaviestPlayable 0 = .ok (.iconst (-1), 1) := by decide +kernel
theorem dX0_heaviestPlayable_1 : decode cX0_heaviestPlayable 1 = .ok (.istore_n 1, 1) := by decide +kernel
theorem dX0_heaviestPlayable_2 : decode cX0_heaviestPlayable 2 = .ok (.iconst 0, 1) := by decide +kernel
theorem dX0_heaviestPlayable_3 : decode cX0_heaviestPlayable 3 = .ok (.istore_n 2, 1) := by decide +kernel
theorem dX0_heaviestPlayable_4 : decode cX0_heaviestPlayable 4 = .ok (.iload_n 2, 1) := by decide +kernel
theorem dX0_heaviestPlayable_5 : decode cX0_heaviestPlayable 5 = .ok (.bipush 28, 2) := by decide +kernel
theorem dX0_heaviestPlayable_7 : decode cX0_heaviestPlayable 7 = .ok (.if_icmp .ge 35, 3) := by decide +kernel
theorem dX0_heaviestPlayable_10 : decode cX0_heaviestPlayable 10 = .ok (.aload_n 0, 1) := by decide +kernel
theorem dX0_heaviestPlayable_11 : decode cX0_heaviestPlayable 11 = .ok (.iload_n 2, 1) := by decide +kernel
theorem dX0_heaviestPlayable_12 : decode cX0_heaviestPlayable 12 = .ok (.invokevirtual 153, 3) := by decide +kernel
theorem dX0_heaviestPlayable_15 : decode cX0_heaviestPlayable 15 = .ok (.ifCond .ne 21, 3) := by decide +kernel
theorem dX0_heaviestPlayable_18 : decode cX0_heaviestPlayable 18 = .ok (.iload_n 1, 1) := by decide +kernel
theorem dX0_heaviestPlayable_19 : decode cX0_heaviestPlayable 19 = .ok (.iconst (-1), 1) := by decide +kernel
theorem dX0_heaviestPlayable_20 : decode cX0_heaviestPlayable 20 = .ok (.if_icmp .eq 14, 3) := by decide +kernel
theorem dX0_heaviestPlayable_23 : decode cX0_heaviestPlayable 23 = .ok (.iload_n 2, 1) := by decide +kernel
theorem dX0_heaviestPlayable_24 : decode cX0_heaviestPlayable 24 = .ok (.invokestatic 183, 3) := by decide +kernel
theorem dX0_heaviestPlayable_27 : decode cX0_heaviestPlayable 27 = .ok (.iload_n 1, 1) := by decide +kernel
theorem dX0_heaviestPlayable_28 : decode cX0_heaviestPlayable 28 = .ok (.invokestatic 183, 3) := by decide +kernel
theorem dX0_heaviestPlayable_31 : decode cX0_heaviestPlayable 31 = .ok (.if_icmp .le 5, 3) := by decide +kernel
theorem dX0_heaviestPlayable_34 : decode cX0_heaviestPlayable 34 = .ok (.iload_n 2, 1) := by decide +kernel
theorem dX0_heaviestPlayable_35 : decode cX0_heaviestPlayable 35 = .ok (.istore_n 1, 1) := by decide +kernel
theorem dX0_heaviestPlayable_36 : decode cX0_heaviestPlayable 36 = .ok (.iinc 2 1, 3) := by decide +kernel
theorem dX0_heaviestPlayable_39 : decode cX0_heaviestPlayable 39 = .ok (.goto (-35), 3) := by decide +kernel
theorem dX0_heaviestPlayable_42 : decode cX0_heaviestPlayable 42 = .ok (.iload_n 1, 1) := by decide +kernel
theorem dX0_heaviestPlayable_43 : decode cX0_heaviestPlayable 43 = .ok (.ireturn, 1) := by decide +kernel
theorem dX0_longestChainOf_0 : decode cX0_longestChainOf 0 = .ok (.aload_n 0, 1) := by decide +kernel
theorem dX0_longestChainOf_1 : decode cX0_longestChainOf 1 = .ok (.invokevirtual 78, 3) := by decide +kernel
theorem dX0_longestChainOf_4 : decode cX0_longestChainOf 4 = .ok (.ifCond .ne 5, 3) := by decide +kernel
theorem dX0_longestChainOf_7 : decode cX0_longestChainOf 7 = .ok (.iconst 0, 1) := by decide +kernel
theorem dX0_longestChainOf_8 : decode cX0_longestChainOf 8 = .ok (.ireturn, 1) := by decide +kernel
theorem dX0_longestChainOf_9 : decode cX0_longestChainOf 9 = .ok (.aload_n 0, 1) := by decide +kernel
theorem dX0_longestChainOf_10 : decode cX0_longestChainOf 10 = .ok (.iload_n 1, 1) := by decide +kernel
theorem dX0_longestChainOf_11 : decode cX0_longestChainOf 11 = .ok (.invokevirtual 127, 3) := by decide +kernel
theorem dX0_longestChainOf_14 : decode cX0_longestChainOf 14 = .ok (.istore_n 3, 1) := by decide +kernel
theorem dX0_longestChainOf_15 : decode cX0_longestChainOf 15 = .ok (.aload_n 0, 1) := by decide +kernel
theorem dX0_longestChainOf_16 : decode cX0_longestChainOf 16 = .ok (.getfield 27, 3) := by decide +kernel
theorem dX0_longestChainOf_19 : decode cX0_longestChainOf 19 = .ok (.invokevirtual 89, 3) := by decide +kernel
theorem dX0_longestChainOf_22 : decode cX0_longestChainOf 22 = .ok (.ifCond .le 18, 3) := by decide +kernel
theorem dX0_longestChainOf_25 : decode cX0_longestChainOf 25 = .ok (.iload_n 3, 1) := by decide +kernel
theorem dX0_longestChainOf_26 : decode cX0_longestChainOf 26 = .ok (.aload_n 0, 1) := by decide +kernel
theorem dX0_longestChainOf_27 : decode cX0_longestChainOf 27 = .ok (.getfield 27, 3) := by decide +kernel
theorem dX0_longestChainOf_30 : decode cX0_longestChainOf 30 = .ok (.invokevirtual 92, 3) := by decide +kernel
theorem dX0_longestChainOf_33 : decode cX0_longestChainOf 33 = .ok (.iload_n 2, 1) := by decide +kernel
theorem dX0_longestChainOf_34 : decode cX0_longestChainOf 34 = .ok (.invokestatic 186, 3) := by decide +kernel
theorem dX0_longestChainOf_37 : decode cX0_longestChainOf 37 = .ok (.goto 8, 3) := by decide +kernel
theorem dX0_longestChainOf_40 : decode cX0_longestChainOf 40 = .ok (.iload_n 3, 1) := by decide +kernel
theorem dX0_longestChainOf_41 : decode cX0_longestChainOf 41 = .ok (.iload_n 2, 1) := by decide +kernel
theorem dX0_longestChainOf_42 : decode cX0_longestChainOf 42 = .ok (.invokestatic 190, 3) := by decide +kernel
theorem dX0_longestChainOf_45 : decode cX0_longestChainOf 45 = .ok (.ireturn, 1) := by decide +kernel
theorem dX0_mostFromAnyTile_0 : decode cX0_mostFromAnyTile 0 = .ok (.iconst 0, 1) := by decide +kernel
theorem dX0_mostFromAnyTile_1 : decode cX0_mostFromAnyTile 1 = .ok (.istore_n 2, 1) := by decide +kernel
theorem dX0_mostFromAnyTile_2 : decode cX0_mostFromAnyTile 2 = .ok (.iconst 0, 1) := by decide +kernel
theorem dX0_mostFromAnyTile_3 : decode cX0_mostFromAnyTile 3 = .ok (.istore_n 3, 1) := by decide +kernel
theorem dX0_mostFromAnyTile_4 : decode cX0_mostFromAnyTile 4 = .ok (.iload_n 3, 1) := by decide +kernel
theorem dX0_mostFromAnyTile_5 : decode cX0_mostFromAnyTile 5 = .ok (.bipush 28, 2) := by decide +kernel
theorem dX0_mostFromAnyTile_7 : decode cX0_mostFromAnyTile 7 = .ok (.if_icmp .ge 46, 3) := by decide +kernel
theorem dX0_mostFromAnyTile_10 : decode cX0_mostFromAnyTile 10 = .ok (.iload_n 2, 1) := by decide +kernel
theorem dX0_mostFromAnyTile_11 : decode cX0_mostFromAnyTile 11 = .ok (.iload_n 1, 1) := by decide +kernel
theorem dX0_mostFromAnyTile_12 : decode cX0_mostFromAnyTile 12 = .ok (.if_icmp .ge 41, 3) := by decide +kernel
theorem dX0_mostFromAnyTile_15 : decode cX0_mostFromAnyTile 15 = .ok (.iload_n 0, 1) := by decide +kernel
theorem dX0_mostFromAnyTile_16 : decode cX0_mostFromAnyTile 16 = .ok (.iload_n 3, 1) := by decide +kernel
theorem dX0_mostFromAnyTile_17 : decode cX0_mostFromAnyTile 17 = .ok (.iushr, 1) := by decide +kernel
theorem dX0_mostFromAnyTile_18 : decode cX0_mostFromAnyTile 18 = .ok (.iconst 1, 1) := by decide +kernel
theorem dX0_mostFromAnyTile_19 : decode cX0_mostFromAnyTile 19 = .ok (.iand, 1) := by decide +kernel
theorem dX0_mostFromAnyTile_20 : decode cX0_mostFromAnyTile 20 = .ok (.ifCond .eq 27, 3) := by decide +kernel
theorem dX0_mostFromAnyTile_23 : decode cX0_mostFromAnyTile 23 = .ok (.iload_n 2, 1) := by decide +kernel
theorem dX0_mostFromAnyTile_24 : decode cX0_mostFromAnyTile 24 = .ok (.iconst 1, 1) := by decide +kernel
theorem dX0_mostFromAnyTile_25 : decode cX0_mostFromAnyTile 25 = .ok (.iload_n 0, 1) := by decide +kernel
theorem dX0_mostFromAnyTile_26 : decode cX0_mostFromAnyTile 26 = .ok (.iconst 1, 1) := by decide +kernel
theorem dX0_mostFromAnyTile_27 : decode cX0_mostFromAnyTile 27 = .ok (.iload_n 3, 1) := by decide +kernel
theorem dX0_mostFromAnyTile_28 : decode cX0_mostFromAnyTile 28 = .ok (.ishl, 1) := by decide +kernel
theorem dX0_mostFromAnyTile_29 : decode cX0_mostFromAnyTile 29 = .ok (.iconst (-1), 1) := by decide +kernel
theorem dX0_mostFromAnyTile_30 : decode cX0_mostFromAnyTile 30 = .ok (.ixor, 1) := by decide +kernel
theorem dX0_mostFromAnyTile_31 : decode cX0_mostFromAnyTile 31 = .ok (.iand, 1) := by decide +kernel
theorem dX0_mostFromAnyTile_32 : decode cX0_mostFromAnyTile 32 = .ok (.iload_n 3, 1) := by decide +kernel
theorem dX0_mostFromAnyTile_33 : decode cX0_mostFromAnyTile 33 = .ok (.invokestatic 105, 3) := by decide +kernel
theorem dX0_mostFromAnyTile_36 : decode cX0_mostFromAnyTile 36 = .ok (.iload_n 1, 1) := by decide +kernel
theorem dX0_mostFromAnyTile_37 : decode cX0_mostFromAnyTile 37 = .ok (.iconst 1, 1) := by decide +kernel
theorem dX0_mostFromAnyTile_38 : decode cX0_mostFromAnyTile 38 = .ok (.isub, 1) := by decide +kernel
theorem dX0_mostFromAnyTile_39 : decode cX0_mostFromAnyTile 39 = .ok (.invokestatic 186, 3) := by decide +kernel
theorem dX0_mostFromAnyTile_42 : decode cX0_mostFromAnyTile 42 = .ok (.iadd, 1) := by decide +kernel
theorem dX0_mostFromAnyTile_43 : decode cX0_mostFromAnyTile 43 = .ok (.invokestatic 194, 3) := by decide +kernel
theorem dX0_mostFromAnyTile_46 : decode cX0_mostFromAnyTile 46 = .ok (.istore_n 2, 1) := by decide +kernel
theorem dX0_mostFromAnyTile_47 : decode cX0_mostFromAnyTile 47 = .ok (.iinc 3 1, 3) := by decide +kernel
theorem dX0_mostFromAnyTile_50 : decode cX0_mostFromAnyTile 50 = .ok (.goto (-46), 3) := by decide +kernel
theorem dX0_mostFromAnyTile_53 : decode cX0_mostFromAnyTile 53 = .ok (.iload_n 2, 1) := by decide +kernel
theorem dX0_mostFromAnyTile_54 : decode cX0_mostFromAnyTile 54 = .ok (.ireturn, 1) := by decide +kernel
theorem dX0_mostBehind_0 : decode cX0_mostBehind 0 = .ok (.iconst 0, 1) := by decide +kernel
theorem dX0_mostBehind_1 : decode cX0_mostBehind 1 = .ok (.istore_n 3, 1) := by decide +kernel
theorem dX0_mostBehind_2 : decode cX0_mostBehind 2 = .ok (.iconst 0, 1) := by decide +kernel
theorem dX0_mostBehind_3 : decode cX0_mostBehind 3 = .ok (.istore 4, 2) := by decide +kernel
theorem dX0_mostBehind_5 : decode cX0_mostBehind 5 = .ok (.iload 4, 2) := by decide +kernel
theorem dX0_mostBehind_7 : decode cX0_mostBehind 7 = .ok (.bipush 6, 2) := by decide +kernel
theorem dX0_mostBehind_9 : decode cX0_mostBehind 9 = .ok (.if_icmp .gt 54, 3) := by decide +kernel
theorem dX0_mostBehind_12 : decode cX0_mostBehind 12 = .ok (.iload_n 3, 1) := by decide +kernel
theorem dX0_mostBehind_13 : decode cX0_mostBehind 13 = .ok (.iload_n 2, 1) := by decide +kernel
theorem dX0_mostBehind_14 : decode cX0_mostBehind 14 = .ok (.if_icmp .ge 49, 3) := by decide +kernel
theorem dX0_mostBehind_17 : decode cX0_mostBehind 17 = .ok (.iload_n 1, 1) := by decide +kernel
theorem dX0_mostBehind_18 : decode cX0_mostBehind 18 = .ok (.iload 4, 2) := by decide +kernel
theorem dX0_mostBehind_20 : decode cX0_mostBehind 20 = .ok (.invokestatic 199, 3) := by decide +kernel
theorem dX0_mostBehind_23 : decode cX0_mostBehind 23 = .ok (.istore 5, 2) := by decide +kernel
theorem dX0_mostBehind_25 : decode cX0_mostBehind 25 = .ok (.iload_n 0, 1) := by decide +kernel
theorem dX0_mostBehind_26 : decode cX0_mostBehind 26 = .ok (.iload 5, 2) := by decide +kernel
theorem dX0_mostBehind_28 : decode cX0_mostBehind 28 = .ok (.iushr, 1) := by decide +kernel
theorem dX0_mostBehind_29 : decode cX0_mostBehind 29 = .ok (.iconst 1, 1) := by decide +kernel
theorem dX0_mostBehind_30 : decode cX0_mostBehind 30 = .ok (.iand, 1) := by decide +kernel
theorem dX0_mostBehind_31 : decode cX0_mostBehind 31 = .ok (.ifCond .eq 26, 3) := by decide +kernel
theorem dX0_mostBehind_34 : decode cX0_mostBehind 34 = .ok (.iload_n 3, 1) := by decide +kernel
theorem dX0_mostBehind_35 : decode cX0_mostBehind 35 = .ok (.iconst 1, 1) := by decide +kernel
theorem dX0_mostBehind_36 : decode cX0_mostBehind 36 = .ok (.iload_n 0, 1) := by decide +kernel
theorem dX0_mostBehind_37 : decode cX0_mostBehind 37 = .ok (.iconst 1, 1) := by decide +kernel
theorem dX0_mostBehind_38 : decode cX0_mostBehind 38 = .ok (.iload 5, 2) := by decide +kernel
theorem dX0_mostBehind_40 : decode cX0_mostBehind 40 = .ok (.ishl, 1) := by decide +kernel
theorem dX0_mostBehind_41 : decode cX0_mostBehind 41 = .ok (.iconst (-1), 1) := by decide +kernel
theorem dX0_mostBehind_42 : decode cX0_mostBehind 42 = .ok (.ixor, 1) := by decide +kernel
theorem dX0_mostBehind_43 : decode cX0_mostBehind 43 = .ok (.iand, 1) := by decide +kernel
theorem dX0_mostBehind_44 : decode cX0_mostBehind 44 = .ok (.iload 4, 2) := by decide +kernel
theorem dX0_mostBehind_46 : decode cX0_mostBehind 46 = .ok (.iload_n 2, 1) := by decide +kernel
theorem dX0_mostBehind_47 : decode cX0_mostBehind 47 = .ok (.iconst 1, 1) := by decide +kernel
theorem dX0_mostBehind_48 : decode cX0_mostBehind 48 = .ok (.isub, 1) := by decide +kernel
theorem dX0_mostBehind_49 : decode cX0_mostBehind 49 = .ok (.invokestatic 186, 3) := by decide +kernel
theorem dX0_mostBehind_52 : decode cX0_mostBehind 52 = .ok (.iadd, 1) := by decide +kernel
theorem dX0_mostBehind_53 : decode cX0_mostBehind 53 = .ok (.invokestatic 194, 3) := by decide +kernel
theorem dX0_mostBehind_56 : decode cX0_mostBehind 56 = .ok (.istore_n 3, 1) := by decide +kernel
theorem dX0_mostBehind_57 : decode cX0_mostBehind 57 = .ok (.iinc 4 1, 3) := by decide +kernel
theorem dX0_mostBehind_60 : decode cX0_mostBehind 60 = .ok (.goto (-55), 3) := by decide +kernel
theorem dX0_mostBehind_63 : decode cX0_mostBehind 63 = .ok (.iload_n 3, 1) := by decide +kernel
theorem dX0_mostBehind_64 : decode cX0_mostBehind 64 = .ok (.ireturn, 1) := by decide +kernel
theorem dX0_holderOf_0 : decode cX0_holderOf 0 = .ok (.iload_n 1, 1) := by decide +kernel
theorem dX0_holderOf_1 : decode cX0_holderOf 1 = .ok (.invokestatic 202, 3) := by decide +kernel
theorem dX0_holderOf_4 : decode cX0_holderOf 4 = .ok (.ifCond .eq 12, 3) := by decide +kernel
theorem dX0_holderOf_7 : decode cX0_holderOf 7 = .ok (.aload_n 0, 1) := by decide +kernel
theorem dX0_holderOf_8 : decode cX0_holderOf 8 = .ok (.getfield 15, 3) := by decide +kernel
theorem dX0_holderOf_11 : decode cX0_holderOf 11 = .ok (.iload_n 1, 1) := by decide +kernel
theorem dX0_holderOf_12 : decode cX0_holderOf 12 = .ok (.iaload, 1) := by decide +kernel
theorem dX0_holderOf_13 : decode cX0_holderOf 13 = .ok (.goto 4, 3) := by decide +kernel
theorem dX0_holderOf_16 : decode cX0_holderOf 16 = .ok (.iconst (-1), 1) := by decide +kernel
theorem dX0_holderOf_17 : decode cX0_holderOf 17 = .ok (.ireturn, 1) := by decide +kernel
theorem dX0_giveTo_0 : decode cX0_giveTo 0 = .ok (.iload_n 1, 1) := by decide +kernel
theorem dX0_giveTo_1 : decode cX0_giveTo 1 = .ok (.invokestatic 202, 3) := by decide +kernel
theorem dX0_giveTo_4 : decode cX0_giveTo 4 = .ok (.ifCond .eq 10, 3) := by decide +kernel
theorem dX0_giveTo_7 : decode cX0_giveTo 7 = .ok (.aload_n 0, 1) := by decide +kernel
theorem dX0_giveTo_8 : decode cX0_giveTo 8 = .ok (.getfield 15, 3) := by decide +kernel
theorem dX0_giveTo_11 : decode cX0_giveTo 11 = .ok (.iload_n 1, 1) := by decide +kernel
theorem dX0_giveTo_12 : decode cX0_giveTo 12 = .ok (.iload_n 2, 1) := by decide +kernel
theorem dX0_giveTo_13 : decode cX0_giveTo 13 = .ok (.iastore, 1) := by decide +kernel
theorem dX0_giveTo_14 : decode cX0_giveTo 14 = .ok (.return_, 1) := by decide +kernel
theorem dX0_handOf_0 : decode cX0_handOf 0 = .ok (.iconst 0, 1) := by decide +kernel
theorem dX0_handOf_1 : decode cX0_handOf 1 = .ok (.istore_n 2, 1) := by decide +kernel
theorem dX0_handOf_2 : decode cX0_handOf 2 = .ok (.iconst 0, 1) := by decide +kernel
theorem dX0_handOf_3 : decode cX0_handOf 3 = .ok (.istore_n 3, 1) := by decide +kernel
theorem dX0_handOf_4 : decode cX0_handOf 4 = .ok (.iload_n 3, 1) := by decide +kernel
theorem dX0_handOf_5 : decode cX0_handOf 5 = .ok (.bipush 28, 2) := by decide +kernel
theorem dX0_handOf_7 : decode cX0_handOf 7 = .ok (.if_icmp .ge 25, 3) := by decide +kernel
theorem dX0_handOf_10 : decode cX0_handOf 10 = .ok (.aload_n 0, 1) := by decide +kernel
theorem dX0_handOf_11 : decode cX0_handOf 11 = .ok (.getfield 15, 3) := by decide +kernel
theorem dX0_handOf_14 : decode cX0_handOf 14 = .ok (.iload_n 3, 1) := by decide +kernel
theorem dX0_handOf_15 : decode cX0_handOf 15 = .ok (.iaload, 1) := by decide +kernel
theorem dX0_handOf_16 : decode cX0_handOf 16 = .ok (.iload_n 1, 1) := by decide +kernel
theorem dX0_handOf_17 : decode cX0_handOf 17 = .ok (.if_icmp .ne 9, 3) := by decide +kernel
theorem dX0_handOf_20 : decode cX0_handOf 20 = .ok (.iload_n 2, 1) := by decide +kernel
theorem dX0_handOf_21 : decode cX0_handOf 21 = .ok (.iconst 1, 1) := by decide +kernel
theorem dX0_handOf_22 : decode cX0_handOf 22 = .ok (.iload_n 3, 1) := by decide +kernel
theorem dX0_handOf_23 : decode cX0_handOf 23 = .ok (.ishl, 1) := by decide +kernel
theorem dX0_handOf_24 : decode cX0_handOf 24 = .ok (.ior, 1) := by decide +kernel
theorem dX0_handOf_25 : decode cX0_handOf 25 = .ok (.istore_n 2, 1) := by decide +kernel
theorem dX0_handOf_26 : decode cX0_handOf 26 = .ok (.iinc 3 1, 3) := by decide +kernel
theorem dX0_handOf_29 : decode cX0_handOf 29 = .ok (.goto (-25), 3) := by decide +kernel
theorem dX0_handOf_32 : decode cX0_handOf 32 = .ok (.iload_n 2, 1) := by decide +kernel
theorem dX0_handOf_33 : decode cX0_handOf 33 = .ok (.ireturn, 1) := by decide +kernel
theorem dX0_pipsOf_0 : decode cX0_pipsOf 0 = .ok (.iconst 0, 1) := by decide +kernel
theorem dX0_pipsOf_1 : decode cX0_pipsOf 1 = .ok (.istore_n 2, 1) := by decide +kernel
theorem dX0_pipsOf_2 : decode cX0_pipsOf 2 = .ok (.iconst 0, 1) := by decide +kernel
theorem dX0_pipsOf_3 : decode cX0_pipsOf 3 = .ok (.istore_n 3, 1) := by decide +kernel
theorem dX0_pipsOf_4 : decode cX0_pipsOf 4 = .ok (.iload_n 3, 1) := by decide +kernel
theorem dX0_pipsOf_5 : decode cX0_pipsOf 5 = .ok (.bipush 28, 2) := by decide +kernel
theorem dX0_pipsOf_7 : decode cX0_pipsOf 7 = .ok (.if_icmp .ge 33, 3) := by decide +kernel
theorem dX0_pipsOf_10 : decode cX0_pipsOf 10 = .ok (.aload_n 0, 1) := by decide +kernel
theorem dX0_pipsOf_11 : decode cX0_pipsOf 11 = .ok (.getfield 15, 3) := by decide +kernel
theorem dX0_pipsOf_14 : decode cX0_pipsOf 14 = .ok (.iload_n 3, 1) := by decide +kernel
theorem dX0_pipsOf_15 : decode cX0_pipsOf 15 = .ok (.iaload, 1) := by decide +kernel
theorem dX0_pipsOf_16 : decode cX0_pipsOf 16 = .ok (.iload_n 1, 1) := by decide +kernel
theorem dX0_pipsOf_17 : decode cX0_pipsOf 17 = .ok (.if_icmp .ne 17, 3) := by decide +kernel
theorem dX0_pipsOf_20 : decode cX0_pipsOf 20 = .ok (.iload_n 2, 1) := by decide +kernel
theorem dX0_pipsOf_21 : decode cX0_pipsOf 21 = .ok (.getstatic 205, 3) := by decide +kernel
theorem dX0_pipsOf_24 : decode cX0_pipsOf 24 = .ok (.iload_n 3, 1) := by decide +kernel
theorem dX0_pipsOf_25 : decode cX0_pipsOf 25 = .ok (.iaload, 1) := by decide +kernel
theorem dX0_pipsOf_26 : decode cX0_pipsOf 26 = .ok (.getstatic 208, 3) := by decide +kernel
theorem dX0_pipsOf_29 : decode cX0_pipsOf 29 = .ok (.iload_n 3, 1) := by decide +kernel
theorem dX0_pipsOf_30 : decode cX0_pipsOf 30 = .ok (.iaload, 1) := by decide +kernel
theorem dX0_pipsOf_31 : decode cX0_pipsOf 31 = .ok (.iadd, 1) := by decide +kernel
theorem dX0_pipsOf_32 : decode cX0_pipsOf 32 = .ok (.iadd, 1) := by decide +kernel
theorem dX0_pipsOf_33 : decode cX0_pipsOf 33 = .ok (.istore_n 2, 1) := by decide +kernel
theorem dX0_pipsOf_34 : decode cX0_pipsOf 34 = .ok (.iinc 3 1, 3) := by decide +kernel
theorem dX0_pipsOf_37 : decode cX0_pipsOf 37 = .ok (.goto (-33), 3) := by decide +kernel
theorem dX0_pipsOf_40 : decode cX0_pipsOf 40 = .ok (.iload_n 2, 1) := by decide +kernel
theorem dX0_pipsOf_41 : decode cX0_pipsOf 41 = .ok (.ireturn, 1) := by decide +kernel
theorem dX0_placeInHeap_0 : decode cX0_placeInHeap 0 = .ok (.iconst 0, 1) := by decide +kernel
theorem dX0_placeInHeap_1 : decode cX0_placeInHeap 1 = .ok (.istore_n 2, 1) := by decide +kernel
theorem dX0_placeInHeap_2 : decode cX0_placeInHeap 2 = .ok (.iload_n 2, 1) := by decide +kernel
theorem dX0_placeInHeap_3 : decode cX0_placeInHeap 3 = .ok (.bipush 28, 2) := by decide +kernel
theorem dX0_placeInHeap_5 : decode cX0_placeInHeap 5 = .ok (.if_icmp .ge 34, 3) := by decide +kernel
theorem dX0_placeInHeap_8 : decode cX0_placeInHeap 8 = .ok (.iload_n 2, 1) := by decide +kernel
theorem dX0_placeInHeap_9 : decode cX0_placeInHeap 9 = .ok (.aload_n 0, 1) := by decide +kernel
theorem dX0_placeInHeap_10 : decode cX0_placeInHeap 10 = .ok (.getfield 56, 3) := by decide +kernel
theorem dX0_placeInHeap_13 : decode cX0_placeInHeap 13 = .ok (.if_icmp .lt 20, 3) := by decide +kernel
theorem dX0_placeInHeap_16 : decode cX0_placeInHeap 16 = .ok (.aload_n 0, 1) := by decide +kernel
theorem dX0_placeInHeap_17 : decode cX0_placeInHeap 17 = .ok (.getfield 9, 3) := by decide +kernel
theorem dX0_placeInHeap_20 : decode cX0_placeInHeap 20 = .ok (.iload_n 2, 1) := by decide +kernel
theorem dX0_placeInHeap_21 : decode cX0_placeInHeap 21 = .ok (.iaload, 1) := by decide +kernel
theorem dX0_placeInHeap_22 : decode cX0_placeInHeap 22 = .ok (.iload_n 1, 1) := by decide +kernel
theorem dX0_placeInHeap_23 : decode cX0_placeInHeap 23 = .ok (.if_icmp .ne 10, 3) := by decide +kernel
theorem dX0_placeInHeap_26 : decode cX0_placeInHeap 26 = .ok (.iload_n 2, 1) := by decide +kernel
theorem dX0_placeInHeap_27 : decode cX0_placeInHeap 27 = .ok (.aload_n 0, 1) := by decide +kernel
theorem dX0_placeInHeap_28 : decode cX0_placeInHeap 28 = .ok (.getfield 56, 3) := by decide +kernel
theorem dX0_placeInHeap_31 : decode cX0_placeInHeap 31 = .ok (.isub, 1) := by decide +kernel
theorem dX0_placeInHeap_32 : decode cX0_placeInHeap 32 = .ok (.ireturn, 1) := by decide +kernel
theorem dX0_placeInHeap_33 : decode cX0_placeInHeap 33 = .ok (.iinc 2 1, 3) := by decide +kernel
theorem dX0_placeInHeap_36 : decode cX0_placeInHeap 36 = .ok (.goto (-34), 3) := by decide +kernel
theorem dX0_placeInHeap_39 : decode cX0_placeInHeap 39 = .ok (.iconst (-1), 1) := by decide +kernel
theorem dX0_placeInHeap_40 : decode cX0_placeInHeap 40 = .ok (.ireturn, 1) := by decide +kernel
theorem dX1_init_0 : decode cX1_init 0 = .ok (.aload_n 0, 1) := by decide +kernel
theorem dX1_init_1 : decode cX1_init 1 = .ok (.invokespecial 3, 3) := by decide +kernel
theorem dX1_init_4 : decode cX1_init 4 = .ok (.aload_n 0, 1) := by decide +kernel
theorem dX1_init_5 : decode cX1_init 5 = .ok (.bipush 14, 2) := by decide +kernel
theorem dX1_init_7 : decode cX1_init 7 = .ok (.anewarray 9, 3) := by decide +kernel
theorem dX1_init_10 : decode cX1_init 10 = .ok (.putfield 11, 3) := by decide +kernel
theorem dX1_init_13 : decode cX1_init 13 = .ok (.iconst 0, 1) := by decide +kernel
theorem dX1_init_14 : decode cX1_init 14 = .ok (.istore_n 1, 1) := by decide +kernel
theorem dX1_init_15 : decode cX1_init 15 = .ok (.iload_n 1, 1) := by decide +kernel
theorem dX1_init_16 : decode cX1_init 16 = .ok (.bipush 14, 2) := by decide +kernel
theorem dX1_init_18 : decode cX1_init 18 = .ok (.if_icmp .ge 22, 3) := by decide +kernel
theorem dX1_init_21 : decode cX1_init 21 = .ok (.aload_n 0, 1) := by decide +kernel
theorem dX1_init_22 : decode cX1_init 22 = .ok (.getfield 11, 3) := by decide +kernel
theorem dX1_init_25 : decode cX1_init 25 = .ok (.iload_n 1, 1) := by decide +kernel
theorem dX1_init_26 : decode cX1_init 26 = .ok (.new 9, 3) := by decide +kernel
theorem dX1_init_29 : decode cX1_init 29 = .ok (.dup, 1) := by decide +kernel
theorem dX1_init_30 : decode cX1_init 30 = .ok (.invokespecial 17, 3) := by decide +kernel
theorem dX1_init_33 : decode cX1_init 33 = .ok (.aastore, 1) := by decide +kernel
theorem dX1_init_34 : decode cX1_init 34 = .ok (.iinc 1 1, 3) := by decide +kernel
theorem dX1_init_37 : decode cX1_init 37 = .ok (.goto (-22), 3) := by decide +kernel
theorem dX1_init_40 : decode cX1_init 40 = .ok (.return_, 1) := by decide +kernel
theorem dX1_size_0 : decode cX1_size 0 = .ok (.aload_n 0, 1) := by decide +kernel
theorem dX1_size_1 : decode cX1_size 1 = .ok (.getfield 18, 3) := by decide +kernel
theorem dX1_size_4 : decode cX1_size 4 = .ok (.ireturn, 1) := by decide +kernel
theorem dX1_forget_0 : decode cX1_forget 0 = .ok (.aload_n 0, 1) := by decide +kernel
theorem dX1_forget_1 : decode cX1_forget 1 = .ok (.iconst 0, 1) := by decide +kernel
theorem dX1_forget_2 : decode cX1_forget 2 = .ok (.putfield 22, 3) := by decide +kernel
theorem dX1_forget_5 : decode cX1_forget 5 = .ok (.aload_n 0, 1) := by decide +kernel
theorem dX1_forget_6 : decode cX1_forget 6 = .ok (.iconst 0, 1) := by decide +kernel
theorem dX1_forget_7 : decode cX1_forget 7 = .ok (.putfield 18, 3) := by decide +kernel
theorem dX1_forget_10 : decode cX1_forget 10 = .ok (.return_, 1) := by decide +kernel
theorem dX1_remember_0 : decode cX1_remember 0 = .ok (.aload_n 0, 1) := by decide +kernel
theorem dX1_remember_1 : decode cX1_remember 1 = .ok (.aload_n 0, 1) := by decide +kernel
theorem dX1_remember_2 : decode cX1_remember 2 = .ok (.getfield 18, 3) := by decide +kernel
theorem dX1_remember_5 : decode cX1_remember 5 = .ok (.invokevirtual 25, 3) := by decide +kernel
theorem dX1_remember_8 : decode cX1_remember 8 = .ok (.astore_n 2, 1) := by decide +kernel
theorem dX1_remember_9 : decode cX1_remember 9 = .ok (.aload_n 2, 1) := by decide +kernel
theorem dX1_remember_10 : decode cX1_remember 10 = .ok (.ifnull 8, 3) := by decide +kernel
theorem dX1_remember_13 : decode cX1_remember 13 = .ok (.aload_n 2, 1) := by decide +kernel
theorem dX1_remember_14 : decode cX1_remember 14 = .ok (.aload_n 1, 1) := by decide +kernel
theorem dX1_remember_15 : decode cX1_remember 15 = .ok (.invokevirtual 29, 3) := by decide +kernel
theorem dX1_remember_18 : decode cX1_remember 18 = .ok (.aload_n 0, 1) := by decide +kernel
theorem dX1_remember_19 : decode cX1_remember 19 = .ok (.getfield 18, 3) := by decide +kernel
theorem dX1_remember_22 : decode cX1_remember 22 = .ok (.bipush 14, 2) := by decide +kernel
theorem dX1_remember_24 : decode cX1_remember 24 = .ok (.if_icmp .ge 16, 3) := by decide +kernel
theorem dX1_remember_27 : decode cX1_remember 27 = .ok (.aload_n 0, 1) := by decide +kernel
theorem dX1_remember_28 : decode cX1_remember 28 = .ok (.dup, 1) := by decide +kernel
theorem dX1_remember_29 : decode cX1_remember 29 = .ok (.getfield 18, 3) := by decide +kernel
theorem dX1_remember_32 : decode cX1_remember 32 = .ok (.iconst 1, 1) := by decide +kernel
theorem dX1_remember_33 : decode cX1_remember 33 = .ok (.iadd, 1) := by decide +kernel
theorem dX1_remember_34 : decode cX1_remember 34 = .ok (.putfield 18, 3) := by decide +kernel
theorem dX1_remember_37 : decode cX1_remember 37 = .ok (.goto 16, 3) := by decide +kernel
theorem dX1_remember_40 : decode cX1_remember 40 = .ok (.aload_n 0, 1) := by decide +kernel
theorem dX1_remember_41 : decode cX1_remember 41 = .ok (.aload_n 0, 1) := by decide +kernel
theorem dX1_remember_42 : decode cX1_remember 42 = .ok (.getfield 22, 3) := by decide +kernel
theorem dX1_remember_45 : decode cX1_remember 45 = .ok (.iconst 1, 1) := by decide +kernel
theorem dX1_remember_46 : decode cX1_remember 46 = .ok (.iadd, 1) := by decide +kernel
theorem dX1_remember_47 : decode cX1_remember 47 = .ok (.bipush 14, 2) := by decide +kernel
theorem dX1_remember_49 : decode cX1_remember 49 = .ok (.irem, 1) := by decide +kernel
theorem dX1_remember_50 : decode cX1_remember 50 = .ok (.putfield 22, 3) := by decide +kernel
theorem dX1_remember_53 : decode cX1_remember 53 = .ok (.return_, 1) := by decide +kernel
theorem dX1_takeBack_0 : decode cX1_takeBack 0 = .ok (.aload_n 0, 1) := by decide +kernel
theorem dX1_takeBack_1 : decode cX1_takeBack 1 = .ok (.getfield 18, 3) := by decide +kernel
theorem dX1_takeBack_4 : decode cX1_takeBack 4 = .ok (.ifCond .le 31, 3) := by decide +kernel
theorem dX1_takeBack_7 : decode cX1_takeBack 7 = .ok (.aload_n 0, 1) := by decide +kernel
theorem dX1_takeBack_8 : decode cX1_takeBack 8 = .ok (.dup, 1) := by decide +kernel
theorem dX1_takeBack_9 : decode cX1_takeBack 9 = .ok (.getfield 18, 3) := by decide +kernel
theorem dX1_takeBack_12 : decode cX1_takeBack 12 = .ok (.iconst 1, 1) := by decide +kernel
theorem dX1_takeBack_13 : decode cX1_takeBack 13 = .ok (.isub, 1) := by decide +kernel
theorem dX1_takeBack_14 : decode cX1_takeBack 14 = .ok (.putfield 18, 3) := by decide +kernel
theorem dX1_takeBack_17 : decode cX1_takeBack 17 = .ok (.aload_n 0, 1) := by decide +kernel
theorem dX1_takeBack_18 : decode cX1_takeBack 18 = .ok (.aload_n 0, 1) := by decide +kernel
theorem dX1_takeBack_19 : decode cX1_takeBack 19 = .ok (.getfield 18, 3) := by decide +kernel
theorem dX1_takeBack_22 : decode cX1_takeBack 22 = .ok (.invokevirtual 25, 3) := by decide +kernel
theorem dX1_takeBack_25 : decode cX1_takeBack 25 = .ok (.astore_n 2, 1) := by decide +kernel
theorem dX1_takeBack_26 : decode cX1_takeBack 26 = .ok (.aload_n 2, 1) := by decide +kernel
theorem dX1_takeBack_27 : decode cX1_takeBack 27 = .ok (.ifnull 8, 3) := by decide +kernel
theorem dX1_takeBack_30 : decode cX1_takeBack 30 = .ok (.aload_n 1, 1) := by decide +kernel
theorem dX1_takeBack_31 : decode cX1_takeBack 31 = .ok (.aload_n 2, 1) := by decide +kernel
theorem dX1_takeBack_32 : decode cX1_takeBack 32 = .ok (.invokevirtual 29, 3) := by decide +kernel
theorem dX1_takeBack_35 : decode cX1_takeBack 35 = .ok (.aload_n 0, 1) := by decide +kernel
theorem dX1_takeBack_36 : decode cX1_takeBack 36 = .ok (.getfield 18, 3) := by decide +kernel
theorem dX1_takeBack_39 : decode cX1_takeBack 39 = .ok (.ireturn, 1) := by decide +kernel
theorem dX1_stateOf_0 : decode cX1_stateOf 0 = .ok (.aload_n 0, 1) := by decide +kernel
theorem dX1_stateOf_1 : decode cX1_stateOf 1 = .ok (.getfield 22, 3) := by decide +kernel
theorem dX1_stateOf_4 : decode cX1_stateOf 4 = .ok (.iload_n 1, 1) := by decide +kernel
theorem dX1_stateOf_5 : decode cX1_stateOf 5 = .ok (.iadd, 1) := by decide +kernel
theorem dX1_stateOf_6 : decode cX1_stateOf 6 = .ok (.bipush 14, 2) := by decide +kernel
theorem dX1_stateOf_8 : decode cX1_stateOf 8 = .ok (.invokestatic 33, 3) := by decide +kernel
theorem dX1_stateOf_11 : decode cX1_stateOf 11 = .ok (.istore_n 2, 1) := by decide +kernel
theorem dX1_stateOf_12 : decode cX1_stateOf 12 = .ok (.iload_n 2, 1) := by decide +kernel
theorem dX1_stateOf_13 : decode cX1_stateOf 13 = .ok (.aload_n 0, 1) := by decide +kernel
theorem dX1_stateOf_14 : decode cX1_stateOf 14 = .ok (.getfield 11, 3) := by decide +kernel
theorem dX1_stateOf_17 : decode cX1_stateOf 17 = .ok (.arraylength, 1) := by decide +kernel
theorem dX1_stateOf_18 : decode cX1_stateOf 18 = .ok (.if_icmp .ge 12, 3) := by decide +kernel
theorem dX1_stateOf_21 : decode cX1_stateOf 21 = .ok (.aload_n 0, 1) := by decide +kernel
theorem dX1_stateOf_22 : decode cX1_stateOf 22 = .ok (.getfield 11, 3) := by decide +kernel
theorem dX1_stateOf_25 : decode cX1_stateOf 25 = .ok (.iload_n 2, 1) := by decide +kernel
theorem dX1_stateOf_26 : decode cX1_stateOf 26 = .ok (.aaload, 1) := by decide +kernel
theorem dX1_stateOf_27 : decode cX1_stateOf 27 = .ok (.goto 4, 3) := by decide +kernel
theorem dX1_stateOf_30 : decode cX1_stateOf 30 = .ok (.aconst_null, 1) := by decide +kernel
theorem dX1_stateOf_31 : decode cX1_stateOf 31 = .ok (.areturn, 1) := by decide +kernel
theorem dX2_init_0 : decode cX2_init 0 = .ok (.aload_n 0, 1) := by decide +kernel
theorem dX2_init_1 : decode cX2_init 1 = .ok (.invokespecial 3, 3) := by decide +kernel
theorem dX2_init_4 : decode cX2_init 4 = .ok (.aload_n 0, 1) := by decide +kernel
theorem dX2_init_5 : decode cX2_init 5 = .ok (.iconst (-1), 1) := by decide +kernel
theorem dX2_init_6 : decode cX2_init 6 = .ok (.putfield 9, 3) := by decide +kernel
theorem dX2_init_9 : decode cX2_init 9 = .ok (.aload_n 0, 1) := by decide +kernel
theorem dX2_init_10 : decode cX2_init 10 = .ok (.bipush 12, 2) := by decide +kernel
theorem dX2_init_12 : decode cX2_init 12 = .ok (.putfield 15, 3) := by decide +kernel
theorem dX2_init_15 : decode cX2_init 15 = .ok (.aload_n 0, 1) := by decide +kernel
theorem dX2_init_16 : decode cX2_init 16 = .ok (.bipush 12, 2) := by decide +kernel
theorem dX2_init_18 : decode cX2_init 18 = .ok (.putfield 18, 3) := by decide +kernel
theorem dX2_init_21 : decode cX2_init 21 = .ok (.aload_n 0, 1) := by decide +kernel
theorem dX2_init_22 : decode cX2_init 22 = .ok (.bipush 28, 2) := by decide +kernel
theorem dX2_init_24 : decode cX2_init 24 = .ok (.newarray .int, 2) := by decide +kernel
theorem dX2_init_26 : decode cX2_init 26 = .ok (.putfield 21, 3) := by decide +kernel
theorem dX2_init_29 : decode cX2_init 29 = .ok (.aload_n 0, 1) := by decide +kernel
theorem dX2_init_30 : decode cX2_init 30 = .ok (.bipush 28, 2) := by decide +kernel
theorem dX2_init_32 : decode cX2_init 32 = .ok (.newarray .int, 2) := by decide +kernel
theorem dX2_init_34 : decode cX2_init 34 = .ok (.putfield 25, 3) := by decide +kernel
theorem dX2_init_37 : decode cX2_init 37 = .ok (.aload_n 0, 1) := by decide +kernel
theorem dX2_init_38 : decode cX2_init 38 = .ok (.bipush 28, 2) := by decide +kernel
theorem dX2_init_40 : decode cX2_init 40 = .ok (.newarray .int, 2) := by decide +kernel
theorem dX2_init_42 : decode cX2_init 42 = .ok (.putfield 28, 3) := by decide +kernel
theorem dX2_init_45 : decode cX2_init 45 = .ok (.aload_n 0, 1) := by decide +kernel
theorem dX2_init_46 : decode cX2_init 46 = .ok (.bipush 28, 2) := by decide +kernel
theorem dX2_init_48 : decode cX2_init 48 = .ok (.newarray .int, 2) := by decide +kernel
theorem dX2_init_50 : decode cX2_init 50 = .ok (.putfield 31, 3) := by decide +kernel
theorem dX2_init_53 : decode cX2_init 53 = .ok (.aload_n 0, 1) := by decide +kernel
theorem dX2_init_54 : decode cX2_init 54 = .ok (.bipush 28, 2) := by decide +kernel
theorem dX2_init_56 : decode cX2_init 56 = .ok (.newarray .int, 2) := by decide +kernel
theorem dX2_init_58 : decode cX2_init 58 = .ok (.putfield 34, 3) := by decide +kernel
theorem dX2_init_61 : decode cX2_init 61 = .ok (.aload_n 0, 1) := by decide +kernel
theorem dX2_init_62 : decode cX2_init 62 = .ok (.bipush 25, 2) := by decide +kernel
theorem dX2_init_64 : decode cX2_init 64 = .ok (.newarray .int, 2) := by decide +kernel
theorem dX2_init_66 : decode cX2_init 66 = .ok (.putfield 37, 3) := by decide +kernel
theorem dX2_init_69 : decode cX2_init 69 = .ok (.return_, 1) := by decide +kernel
theorem dX2_size_0 : decode cX2_size 0 = .ok (.aload_n 0, 1) := by decide +kernel
theorem dX2_size_1 : decode cX2_size 1 = .ok (.getfield 40, 3) := by decide +kernel
theorem dX2_size_4 : decode cX2_size 4 = .ok (.ireturn, 1) := by decide +kernel
theorem dX2_endOfNow_0 : decode cX2_endOfNow 0 = .ok (.aload_n 0, 1) := by decide +kernel
theorem dX2_endOfNow_1 : decode cX2_endOfNow 1 = .ok (.getfield 9, 3) := by decide +kernel
theorem dX2_endOfNow_4 : decode cX2_endOfNow 4 = .ok (.ireturn, 1) := by decide +kernel
theorem dX2_directionOfNow_0 : decode cX2_directionOfNow 0 = .ok (.aload_n 0, 1) := by decide +kernel
theorem dX2_directionOfNow_1 : decode cX2_directionOfNow 1 = .ok (.getfield 43, 3) := by decide +kernel
theorem dX2_directionOfNow_4 : decode cX2_directionOfNow 4 = .ok (.ireturn, 1) := by decide +kernel
theorem dX2_becomeEmpty_0 : decode cX2_becomeEmpty 0 = .ok (.aload_n 0, 1) := by decide +kernel
theorem dX2_becomeEmpty_1 : decode cX2_becomeEmpty 1 = .ok (.iconst 0, 1) := by decide +kernel
theorem dX2_becomeEmpty_2 : decode cX2_becomeEmpty 2 = .ok (.putfield 40, 3) := by decide +kernel
theorem dX2_becomeEmpty_5 : decode cX2_becomeEmpty 5 = .ok (.aload_n 0, 1) := by decide +kernel
theorem dX2_becomeEmpty_6 : decode cX2_becomeEmpty 6 = .ok (.iconst (-1), 1) := by decide +kernel
theorem dX2_becomeEmpty_7 : decode cX2_becomeEmpty 7 = .ok (.putfield 9, 3) := by decide +kernel
theorem dX2_becomeEmpty_10 : decode cX2_becomeEmpty 10 = .ok (.aload_n 0, 1) := by decide +kernel
theorem dX2_becomeEmpty_11 : decode cX2_becomeEmpty 11 = .ok (.iconst 0, 1) := by decide +kernel
theorem dX2_becomeEmpty_12 : decode cX2_becomeEmpty 12 = .ok (.putfield 43, 3) := by decide +kernel
theorem dX2_becomeEmpty_15 : decode cX2_becomeEmpty 15 = .ok (.aload_n 0, 1) := by decide +kernel
theorem dX2_becomeEmpty_16 : decode cX2_becomeEmpty 16 = .ok (.bipush 12, 2) := by decide +kernel
theorem dX2_becomeEmpty_18 : decode cX2_becomeEmpty 18 = .ok (.putfield 15, 3) := by decide +kernel
theorem dX2_becomeEmpty_21 : decode cX2_becomeEmpty 21 = .ok (.aload_n 0, 1) := by decide +kernel
theorem dX2_becomeEmpty_22 : decode cX2_becomeEmpty 22 = .ok (.bipush 12, 2) := by decide +kernel
theorem dX2_becomeEmpty_24 : decode cX2_becomeEmpty 24 = .ok (.putfield 18, 3) := by decide +kernel
theorem dX2_becomeEmpty_27 : decode cX2_becomeEmpty 27 = .ok (.aload_n 0, 1) := by decide +kernel
theorem dX2_becomeEmpty_28 : decode cX2_becomeEmpty 28 = .ok (.getfield 37, 3) := by decide +kernel
theorem dX2_becomeEmpty_31 : decode cX2_becomeEmpty 31 = .ok (.iconst 0, 1) := by decide +kernel
theorem dX2_becomeEmpty_32 : decode cX2_becomeEmpty 32 = .ok (.invokestatic 46, 3) := by decide +kernel
theorem dX2_becomeEmpty_35 : decode cX2_becomeEmpty 35 = .ok (.return_, 1) := by decide +kernel
theorem dX2_becomeLike_0 : decode cX2_becomeLike 0 = .ok (.aload_n 0, 1) := by decide +kernel
theorem dX2_becomeLike_1 : decode cX2_becomeLike 1 = .ok (.aload_n 1, 1) := by decide +kernel
theorem dX2_becomeLike_2 : decode cX2_becomeLike 2 = .ok (.getfield 40, 3) := by decide +kernel
theorem dX2_becomeLike_5 : decode cX2_becomeLike 5 = .ok (.putfield 40, 3) := by decide +kernel
theorem dX2_becomeLike_8 : decode cX2_becomeLike 8 = .ok (.aload_n 0, 1) := by decide +kernel
theorem dX2_becomeLike_9 : decode cX2_becomeLike 9 = .ok (.aload_n 1, 1) := by decide +kernel
theorem dX2_becomeLike_10 : decode cX2_becomeLike 10 = .ok (.getfield 9, 3) := by decide +kernel
theorem dX2_becomeLike_13 : decode cX2_becomeLike 13 = .ok (.putfield 9, 3) := by decide +kernel
theorem dX2_becomeLike_16 : decode cX2_becomeLike 16 = .ok (.aload_n 0, 1) := by decide +kernel
theorem dX2_becomeLike_17 : decode cX2_becomeLike 17 = .ok (.aload_n 1, 1) := by decide +kernel
theorem dX2_becomeLike_18 : decode cX2_becomeLike 18 = .ok (.getfield 43, 3) := by decide +kernel
theorem dX2_becomeLike_21 : decode cX2_becomeLike 21 = .ok (.putfield 43, 3) := by decide +kernel
theorem dX2_becomeLike_24 : decode cX2_becomeLike 24 = .ok (.aload_n 0, 1) := by decide +kernel
theorem dX2_becomeLike_25 : decode cX2_becomeLike 25 = .ok (.aload_n 1, 1) := by decide +kernel
theorem dX2_becomeLike_26 : decode cX2_becomeLike 26 = .ok (.getfield 15, 3) := by decide +kernel
theorem dX2_becomeLike_29 : decode cX2_becomeLike 29 = .ok (.putfield 15, 3) := by decide +kernel
theorem dX2_becomeLike_32 : decode cX2_becomeLike 32 = .ok (.aload_n 0, 1) := by decide +kernel
theorem dX2_becomeLike_33 : decode cX2_becomeLike 33 = .ok (.aload_n 1, 1) := by decide +kernel
theorem dX2_becomeLike_34 : decode cX2_becomeLike 34 = .ok (.getfield 18, 3) := by decide +kernel
theorem dX2_becomeLike_37 : decode cX2_becomeLike 37 = .ok (.putfield 18, 3) := by decide +kernel
theorem dX2_becomeLike_40 : decode cX2_becomeLike 40 = .ok (.aload_n 1, 1) := by decide +kernel
theorem dX2_becomeLike_41 : decode cX2_becomeLike 41 = .ok (.getfield 21, 3) := by decide +kernel
theorem dX2_becomeLike_44 : decode cX2_becomeLike 44 = .ok (.iconst 0, 1) := by decide +kernel
theorem dX2_becomeLike_45 : decode cX2_becomeLike 45 = .ok (.aload_n 0, 1) := by decide +kernel
theorem dX2_becomeLike_46 : decode cX2_becomeLike 46 = .ok (.getfield 21, 3) := by decide +kernel
theorem dX2_becomeLike_49 : decode cX2_becomeLike 49 = .ok (.iconst 0, 1) := by decide +kernel
theorem dX2_becomeLike_50 : decode cX2_becomeLike 50 = .ok (.bipush 28, 2) := by decide +kernel
theorem dX2_becomeLike_52 : decode cX2_becomeLike 52 = .ok (.invokestatic 52, 3) := by decide +kernel
theorem dX2_becomeLike_55 : decode cX2_becomeLike 55 = .ok (.aload_n 1, 1) := by decide +kernel
theorem dX2_becomeLike_56 : decode cX2_becomeLike 56 = .ok (.getfield 25, 3) := by decide +kernel
theorem dX2_becomeLike_59 : decode cX2_becomeLike 59 = .ok (.iconst 0, 1) := by decide +kernel
theorem dX2_becomeLike_60 : decode cX2_becomeLike 60 = .ok (.aload_n 0, 1) := by decide +kernel
theorem dX2_becomeLike_61 : decode cX2_becomeLike 61 = .ok (.getfield 25, 3) := by decide +kernel
theorem dX2_becomeLike_64 : decode cX2_becomeLike 64 = .ok (.iconst 0, 1) := by decide +kernel
theorem dX2_becomeLike_65 : decode cX2_becomeLike 65 = .ok (.bipush 28, 2) := by decide +kernel
theorem dX2_becomeLike_67 : decode cX2_becomeLike 67 = .ok (.invokestatic 52, 3) := by decide +kernel
theorem dX2_becomeLike_70 : decode cX2_becomeLike 70 = .ok (.aload_n 1, 1) := by decide +kernel
theorem dX2_becomeLike_71 : decode cX2_becomeLike 71 = .ok (.getfield 28, 3) := by decide +kernel
theorem dX2_becomeLike_74 : decode cX2_becomeLike 74 = .ok (.iconst 0, 1) := by decide +kernel
theorem dX2_becomeLike_75 : decode cX2_becomeLike 75 = .ok (.aload_n 0, 1) := by decide +kernel
theorem dX2_becomeLike_76 : decode cX2_becomeLike 76 = .ok (.getfield 28, 3) := by decide +kernel
theorem dX2_becomeLike_79 : decode cX2_becomeLike 79 = .ok (.iconst 0, 1) := by decide +kernel
theorem dX2_becomeLike_80 : decode cX2_becomeLike 80 = .ok (.bipush 28, 2) := by decide +kernel
theorem dX2_becomeLike_82 : decode cX2_becomeLike 82 = .ok (.invokestatic 52, 3) := by decide +kernel
theorem dX2_becomeLike_85 : decode cX2_becomeLike 85 = .ok (.aload_n 1, 1) := by decide +kernel
theorem dX2_becomeLike_86 : decode cX2_becomeLike 86 = .ok (.getfield 31, 3) := by decide +kernel
theorem dX2_becomeLike_89 : decode cX2_becomeLike 89 = .ok (.iconst 0, 1) := by decide +kernel
theorem dX2_becomeLike_90 : decode cX2_becomeLike 90 = .ok (.aload_n 0, 1) := by decide +kernel
theorem dX2_becomeLike_91 : decode cX2_becomeLike 91 = .ok (.getfield 31, 3) := by decide +kernel
theorem dX2_becomeLike_94 : decode cX2_becomeLike 94 = .ok (.iconst 0, 1) := by decide +kernel
theorem dX2_becomeLike_95 : decode cX2_becomeLike 95 = .ok (.bipush 28, 2) := by decide +kernel
theorem dX2_becomeLike_97 : decode cX2_becomeLike 97 = .ok (.invokestatic 52, 3) := by decide +kernel
theorem dX2_becomeLike_100 : decode cX2_becomeLike 100 = .ok (.aload_n 1, 1) := by decide +kernel
theorem dX2_becomeLike_101 : decode cX2_becomeLike 101 = .ok (.getfield 34, 3) := by decide +kernel
theorem dX2_becomeLike_104 : decode cX2_becomeLike 104 = .ok (.iconst 0, 1) := by decide +kernel
theorem dX2_becomeLike_105 : decode cX2_becomeLike 105 = .ok (.aload_n 0, 1) := by decide +kernel
theorem dX2_becomeLike_106 : decode cX2_becomeLike 106 = .ok (.getfield 34, 3) := by decide +kernel
theorem dX2_becomeLike_109 : decode cX2_becomeLike 109 = .ok (.iconst 0, 1) := by decide +kernel
theorem dX2_becomeLike_110 : decode cX2_becomeLike 110 = .ok (.bipush 28, 2) := by decide +kernel
theorem dX2_becomeLike_112 : decode cX2_becomeLike 112 = .ok (.invokestatic 52, 3) := by decide +kernel
theorem dX2_becomeLike_115 : decode cX2_becomeLike 115 = .ok (.aload_n 1, 1) := by decide +kernel
theorem dX2_becomeLike_116 : decode cX2_becomeLike 116 = .ok (.getfield 37, 3) := by decide +kernel
theorem dX2_becomeLike_119 : decode cX2_becomeLike 119 = .ok (.iconst 0, 1) := by decide +kernel
theorem dX2_becomeLike_120 : decode cX2_becomeLike 120 = .ok (.aload_n 0, 1) := by decide +kernel
theorem dX2_becomeLike_121 : decode cX2_becomeLike 121 = .ok (.getfield 37, 3) := by decide +kernel
theorem dX2_becomeLike_124 : decode cX2_becomeLike 124 = .ok (.iconst 0, 1) := by decide +kernel
theorem dX2_becomeLike_125 : decode cX2_becomeLike 125 = .ok (.bipush 25, 2) := by decide +kernel
theorem dX2_becomeLike_127 : decode cX2_becomeLike 127 = .ok (.invokestatic 52, 3) := by decide +kernel
theorem dX2_becomeLike_130 : decode cX2_becomeLike 130 = .ok (.return_, 1) := by decide +kernel
theorem dX2_fits_0 : decode cX2_fits 0 = .ok (.aload_n 0, 1) := by decide +kernel
theorem dX2_fits_1 : decode cX2_fits 1 = .ok (.getfield 40, 3) := by decide +kernel
theorem dX2_fits_4 : decode cX2_fits 4 = .ok (.ifCond .eq 25, 3) := by decide +kernel
theorem dX2_fits_7 : decode cX2_fits 7 = .ok (.iload_n 1, 1) := by decide +kernel
theorem dX2_fits_8 : decode cX2_fits 8 = .ok (.invokestatic 58, 3) := by decide +kernel
theorem dX2_fits_11 : decode cX2_fits 11 = .ok (.aload_n 0, 1) := by decide +kernel
theorem dX2_fits_12 : decode cX2_fits 12 = .ok (.getfield 9, 3) := by decide +kernel
theorem dX2_fits_15 : decode cX2_fits 15 = .ok (.if_icmp .eq 14, 3) := by decide +kernel
theorem dX2_fits_18 : decode cX2_fits 18 = .ok (.iload_n 1, 1) := by decide +kernel
theorem dX2_fits_19 : decode cX2_fits 19 = .ok (.invokestatic 62, 3) := by decide +kernel
theorem dX2_fits_22 : decode cX2_fits 22 = .ok (.aload_n 0, 1) := by decide +kernel
theorem dX2_fits_23 : decode cX2_fits 23 = .ok (.getfield 9, 3) := by decide +kernel
theorem dX2_fits_26 : decode cX2_fits 26 = .ok (.if_icmp .ne 7, 3) := by decide +kernel
theorem dX2_fits_29 : decode cX2_fits 29 = .ok (.iconst 1, 1) := by decide +kernel
theorem dX2_fits_30 : decode cX2_fits 30 = .ok (.goto 4, 3) := by decide +kernel
theorem dX2_fits_33 : decode cX2_fits 33 = .ok (.iconst 0, 1) := by decide +kernel
theorem dX2_fits_34 : decode cX2_fits 34 = .ok (.ireturn, 1) := by decide +kernel
theorem dX2_hasRoom_0 : decode cX2_hasRoom 0 = .ok (.aload_n 0, 1) := by decide +kernel
theorem dX2_hasRoom_1 : decode cX2_hasRoom 1 = .ok (.aload_n 0, 1) := by decide +kernel
theorem dX2_hasRoom_2 : decode cX2_hasRoom 2 = .ok (.getfield 15, 3) := by decide +kernel
theorem dX2_hasRoom_5 : decode cX2_hasRoom 5 = .ok (.aload_n 0, 1) := by decide +kernel
theorem dX2_hasRoom_6 : decode cX2_hasRoom 6 = .ok (.getfield 18, 3) := by decide +kernel
theorem dX2_hasRoom_9 : decode cX2_hasRoom 9 = .ok (.invokevirtual 65, 3) := by decide +kernel
theorem dX2_hasRoom_12 : decode cX2_hasRoom 12 = .ok (.ifCond .eq 38, 3) := by decide +kernel
theorem dX2_hasRoom_15 : decode cX2_hasRoom 15 = .ok (.aload_n 0, 1) := by decide +kernel
theorem dX2_hasRoom_16 : decode cX2_hasRoom 16 = .ok (.aload_n 0, 1) := by decide +kernel
theorem dX2_hasRoom_17 : decode cX2_hasRoom 17 = .ok (.getfield 15, 3) := by decide +kernel
theorem dX2_hasRoom_20 : decode cX2_hasRoom 20 = .ok (.aload_n 0, 1) := by decide +kernel
theorem dX2_hasRoom_21 : decode cX2_hasRoom 21 = .ok (.getfield 43, 3) := by decide +kernel
theorem dX2_hasRoom_24 : decode cX2_hasRoom 24 = .ok (.invokestatic 69, 3) := by decide +kernel
theorem dX2_hasRoom_27 : decode cX2_hasRoom 27 = .ok (.iadd, 1) := by decide +kernel
theorem dX2_hasRoom_28 : decode cX2_hasRoom 28 = .ok (.aload_n 0, 1) := by decide +kernel
theorem dX2_hasRoom_29 : decode cX2_hasRoom 29 = .ok (.getfield 18, 3) := by decide +kernel
theorem dX2_hasRoom_32 : decode cX2_hasRoom 32 = .ok (.aload_n 0, 1) := by decide +kernel
theorem dX2_hasRoom_33 : decode cX2_hasRoom 33 = .ok (.getfield 43, 3) := by decide +kernel
theorem dX2_hasRoom_36 : decode cX2_hasRoom 36 = .ok (.invokestatic 72, 3) := by decide +kernel
theorem dX2_hasRoom_39 : decode cX2_hasRoom 39 = .ok (.iadd, 1) := by decide +kernel
theorem dX2_hasRoom_40 : decode cX2_hasRoom 40 = .ok (.invokevirtual 65, 3) := by decide +kernel
theorem dX2_hasRoom_43 : decode cX2_hasRoom 43 = .ok (.ifCond .eq 7, 3) := by decide +kernel
theorem dX2_hasRoom_46 : decode cX2_hasRoom 46 = .ok (.iconst 1, 1) := by decide +kernel
theorem dX2_hasRoom_47 : decode cX2_hasRoom 47 = .ok (.goto 4, 3) := by decide +kernel
theorem dX2_hasRoom_50 : decode cX2_hasRoom 50 = .ok (.iconst 0, 1) := by decide +kernel
theorem dX2_hasRoom_51 : decode cX2_hasRoom 51 = .ok (.ireturn, 1) := by decide +kernel
theorem dX2_add_0 : decode cX2_add 0 = .ok (.aload_n 0, 1) := by decide +kernel
theorem dX2_add_1 : decode cX2_add 1 = .ok (.getfield 40, 3) := by decide +kernel
theorem dX2_add_4 : decode cX2_add 4 = .ok (.ifCond .lt 12, 3) := by decide +kernel
theorem dX2_add_7 : decode cX2_add 7 = .ok (.aload_n 0, 1) := by decide +kernel
theorem dX2_add_8 : decode cX2_add 8 = .ok (.getfield 40, 3) := by decide +kernel
theorem dX2_add_11 : decode cX2_add 11 = .ok (.bipush 28, 2) := by decide +kernel
theorem dX2_add_13 : decode cX2_add 13 = .ok (.if_icmp .lt 4, 3) := by decide +kernel
theorem dX2_add_16 : decode cX2_add 16 = .ok (.return_, 1) := by decide +kernel
theorem dX2_add_17 : decode cX2_add 17 = .ok (.aload_n 0, 1) := by decide +kernel
theorem dX2_add_18 : decode cX2_add 18 = .ok (.getfield 40, 3) := by decide +kernel
theorem dX2_add_21 : decode cX2_add 21 = .ok (.ifCond .ne 10, 3) := by decide +kernel
theorem dX2_add_24 : decode cX2_add 24 = .ok (.iload_n 1, 1) := by decide +kernel
theorem dX2_add_25 : decode cX2_add 25 = .ok (.invokestatic 58, 3) := by decide +kernel
theorem dX2_add_28 : decode cX2_add 28 = .ok (.goto 7, 3) := by decide +kernel
theorem dX2_add_31 : decode cX2_add 31 = .ok (.aload_n 0, 1) := by decide +kernel
theorem dX2_add_32 : decode cX2_add 32 = .ok (.getfield 9, 3) := by decide +kernel
theorem dX2_add_35 : decode cX2_add 35 = .ok (.istore_n 3, 1) := by decide +kernel
theorem dX2_add_36 : decode cX2_add 36 = .ok (.aload_n 0, 1) := by decide +kernel
theorem dX2_add_37 : decode cX2_add 37 = .ok (.getfield 15, 3) := by decide +kernel
theorem dX2_add_40 : decode cX2_add 40 = .ok (.aload_n 0, 1) := by decide +kernel
theorem dX2_add_41 : decode cX2_add 41 = .ok (.getfield 43, 3) := by decide +kernel
theorem dX2_add_44 : decode cX2_add 44 = .ok (.invokestatic 69, 3) := by decide +kernel
theorem dX2_add_47 : decode cX2_add 47 = .ok (.iadd, 1) := by decide +kernel
theorem dX2_add_48 : decode cX2_add 48 = .ok (.istore 4, 2) := by decide +kernel
theorem dX2_add_50 : decode cX2_add 50 = .ok (.aload_n 0, 1) := by decide +kernel
theorem dX2_add_51 : decode cX2_add 51 = .ok (.getfield 18, 3) := by decide +kernel
theorem dX2_add_54 : decode cX2_add 54 = .ok (.aload_n 0, 1) := by decide +kernel
theorem dX2_add_55 : decode cX2_add 55 = .ok (.getfield 43, 3) := by decide +kernel
theorem dX2_add_58 : decode cX2_add 58 = .ok (.invokestatic 72, 3) := by decide +kernel
theorem dX2_add_61 : decode cX2_add 61 = .ok (.iadd, 1) := by decide +kernel
theorem dX2_add_62 : decode cX2_add 62 = .ok (.istore 5, 2) := by decide +kernel
theorem dX2_add_64 : decode cX2_add 64 = .ok (.aload_n 0, 1) := by decide +kernel
theorem dX2_add_65 : decode cX2_add 65 = .ok (.getfield 21, 3) := by decide +kernel
theorem dX2_add_68 : decode cX2_add 68 = .ok (.aload_n 0, 1) := by decide +kernel
theorem dX2_add_69 : decode cX2_add 69 = .ok (.getfield 40, 3) := by decide +kernel
theorem dX2_add_72 : decode cX2_add 72 = .ok (.iload_n 1, 1) := by decide +kernel
theorem dX2_add_73 : decode cX2_add 73 = .ok (.iastore, 1) := by decide +kernel
theorem dX2_add_74 : decode cX2_add 74 = .ok (.aload_n 0, 1) := by decide +kernel
theorem dX2_add_75 : decode cX2_add 75 = .ok (.getfield 25, 3) := by decide +kernel
theorem dX2_add_78 : decode cX2_add 78 = .ok (.aload_n 0, 1) := by decide +kernel
theorem dX2_add_79 : decode cX2_add 79 = .ok (.getfield 40, 3) := by decide +kernel
theorem dX2_add_82 : decode cX2_add 82 = .ok (.aload_n 0, 1) := by decide +kernel
theorem dX2_add_83 : decode cX2_add 83 = .ok (.getfield 15, 3) := by decide +kernel
theorem dX2_add_86 : decode cX2_add 86 = .ok (.iastore, 1) := by decide +kernel
theorem dX2_add_87 : decode cX2_add 87 = .ok (.aload_n 0, 1) := by decide +kernel
theorem dX2_add_88 : decode cX2_add 88 = .ok (.getfield 28, 3) := by decide +kernel
theorem dX2_add_91 : decode cX2_add 91 = .ok (.aload_n 0, 1) := by decide +kernel
theorem dX2_add_92 : decode cX2_add 92 = .ok (.getfield 40, 3) := by decide +kernel
theorem dX2_add_95 : decode cX2_add 95 = .ok (.aload_n 0, 1) := by decide +kernel
theorem dX2_add_96 : decode cX2_add 96 = .ok (.getfield 18, 3) := by decide +kernel
theorem dX2_add_99 : decode cX2_add 99 = .ok (.iastore, 1) := by decide +kernel
theorem dX2_add_100 : decode cX2_add 100 = .ok (.aload_n 0, 1) := by decide +kernel
theorem dX2_add_101 : decode cX2_add 101 = .ok (.getfield 31, 3) := by decide +kernel
theorem dX2_add_104 : decode cX2_add 104 = .ok (.aload_n 0, 1) := by decide +kernel
theorem dX2_add_105 : decode cX2_add 105 = .ok (.getfield 40, 3) := by decide +kernel
theorem dX2_add_108 : decode cX2_add 108 = .ok (.aload_n 0, 1) := by decide +kernel
theorem dX2_add_109 : decode cX2_add 109 = .ok (.getfield 43, 3) := by decide +kernel
theorem dX2_add_112 : decode cX2_add 112 = .ok (.iastore, 1) := by decide +kernel
theorem dX2_add_113 : decode cX2_add 113 = .ok (.aload_n 0, 1) := by decide +kernel
theorem dX2_add_114 : decode cX2_add 114 = .ok (.getfield 34, 3) := by decide +kernel
theorem dX2_add_117 : decode cX2_add 117 = .ok (.aload_n 0, 1) := by decide +kernel
theorem dX2_add_118 : decode cX2_add 118 = .ok (.getfield 40, 3) := by decide +kernel
theorem dX2_add_121 : decode cX2_add 121 = .ok (.iload_n 3, 1) := by decide +kernel
theorem dX2_add_122 : decode cX2_add 122 = .ok (.iastore, 1) := by decide +kernel
theorem dX2_add_123 : decode cX2_add 123 = .ok (.aload_n 0, 1) := by decide +kernel
theorem dX2_add_124 : decode cX2_add 124 = .ok (.dup, 1) := by decide +kernel
theorem dX2_add_125 : decode cX2_add 125 = .ok (.getfield 40, 3) := by decide +kernel
theorem dX2_add_128 : decode cX2_add 128 = .ok (.iconst 1, 1) := by decide +kernel
theorem dX2_add_129 : decode cX2_add 129 = .ok (.iadd, 1) := by decide +kernel
theorem dX2_add_130 : decode cX2_add 130 = .ok (.putfield 40, 3) := by decide +kernel
theorem dX2_add_133 : decode cX2_add 133 = .ok (.aload_n 0, 1) := by decide +kernel
theorem dX2_add_134 : decode cX2_add 134 = .ok (.aload_n 0, 1) := by decide +kernel
theorem dX2_add_135 : decode cX2_add 135 = .ok (.getfield 15, 3) := by decide +kernel
theorem dX2_add_138 : decode cX2_add 138 = .ok (.aload_n 0, 1) := by decide +kernel
theorem dX2_add_139 : decode cX2_add 139 = .ok (.getfield 18, 3) := by decide +kernel
theorem dX2_add_142 : decode cX2_add 142 = .ok (.invokevirtual 75, 3) := by decide +kernel
theorem dX2_add_145 : decode cX2_add 145 = .ok (.aload_n 0, 1) := by decide +kernel
theorem dX2_add_146 : decode cX2_add 146 = .ok (.iload 4, 2) := by decide +kernel
theorem dX2_add_148 : decode cX2_add 148 = .ok (.iload 5, 2) := by decide +kernel
theorem dX2_add_150 : decode cX2_add 150 = .ok (.invokevirtual 75, 3) := by decide +kernel
theorem dX2_add_153 : decode cX2_add 153 = .ok (.aload_n 0, 1) := by decide +kernel
theorem dX2_add_154 : decode cX2_add 154 = .ok (.iload_n 1, 1) := by decide +kernel
theorem dX2_add_155 : decode cX2_add 155 = .ok (.invokestatic 79, 3) := by decide +kernel
theorem dX2_add_158 : decode cX2_add 158 = .ok (.iload_n 3, 1) := by decide +kernel
theorem dX2_add_159 : decode cX2_add 159 = .ok (.isub, 1) := by decide +kernel
theorem dX2_add_160 : decode cX2_add 160 = .ok (.putfield 9, 3) := by decide +kernel
theorem dX2_add_163 : decode cX2_add 163 = .ok (.iload_n 1, 1) := by decide +kernel
theorem dX2_add_164 : decode cX2_add 164 = .ok (.invokestatic 58, 3) := by decide +kernel
theorem dX2_add_167 : decode cX2_add 167 = .ok (.iload_n 1, 1) := by decide +kernel
theorem dX2_add_168 : decode cX2_add 168 = .ok (.invokestatic 62, 3) := by decide +kernel
theorem dX2_add_171 : decode cX2_add 171 = .ok (.if_icmp .ne 23, 3) := by decide +kernel
theorem dX2_add_174 : decode cX2_add 174 = .ok (.aload_n 0, 1) := by decide +kernel
theorem dX2_add_175 : decode cX2_add 175 = .ok (.aload_n 0, 1) := by decide +kernel
theorem dX2_add_176 : decode cX2_add 176 = .ok (.getfield 43, 3) := by decide +kernel
theorem dX2_add_179 : decode cX2_add 179 = .ok (.iload_n 2, 1) := by decide +kernel
theorem dX2_add_180 : decode cX2_add 180 = .ok (.ifCond .eq 7, 3) := by decide +kernel
theorem dX2_add_183 : decode cX2_add 183 = .ok (.iconst 3, 1) := by decide +kernel
theorem dX2_add_184 : decode cX2_add 184 = .ok (.goto 4, 3) := by decide +kernel
theorem dX2_add_187 : decode cX2_add 187 = .ok (.iconst 1, 1) := by decide +kernel
theorem dX2_add_188 : decode cX2_add 188 = .ok (.iadd, 1) := by decide +kernel
theorem dX2_add_189 : decode cX2_add 189 = .ok (.iconst 3, 1) := by decide +kernel
theorem dX2_add_190 : decode cX2_add 190 = .ok (.iand, 1) := by decide +kernel
theorem dX2_add_191 : decode cX2_add 191 = .ok (.putfield 43, 3) := by decide +kernel
theorem dX2_add_194 : decode cX2_add 194 = .ok (.aload_n 0, 1) := by decide +kernel
theorem dX2_add_195 : decode cX2_add 195 = .ok (.iload 4, 2) := by decide +kernel
theorem dX2_add_197 : decode cX2_add 197 = .ok (.aload_n 0, 1) := by decide +kernel
theorem dX2_add_198 : decode cX2_add 198 = .ok (.getfield 43, 3) := by decide +kernel
theorem dX2_add_201 : decode cX2_add 201 = .ok (.invokestatic 69, 3) := by decide +kernel
theorem dX2_add_204 : decode cX2_add 204 = .ok (.iadd, 1) := by decide +kernel
theorem dX2_add_205 : decode cX2_add 205 = .ok (.putfield 15, 3) := by decide +kernel
theorem dX2_add_208 : decode cX2_add 208 = .ok (.aload_n 0, 1) := by decide +kernel
theorem dX2_add_209 : decode cX2_add 209 = .ok (.iload 5, 2) := by decide +kernel
theorem dX2_add_211 : decode cX2_add 211 = .ok (.aload_n 0, 1) := by decide +kernel
theorem dX2_add_212 : decode cX2_add 212 = .ok (.getfield 43, 3) := by decide +kernel
theorem dX2_add_215 : decode cX2_add 215 = .ok (.invokestatic 72, 3) := by decide +kernel
theorem dX2_add_218 : decode cX2_add 218 = .ok (.iadd, 1) := by decide +kernel
theorem dX2_add_219 : decode cX2_add 219 = .ok (.putfield 18, 3) := by decide +kernel
theorem dX2_add_222 : decode cX2_add 222 = .ok (.return_, 1) := by decide +kernel
theorem dX2_placeOf_0 : decode cX2_placeOf 0 = .ok (.iconst 0, 1) := by decide +kernel
theorem dX2_placeOf_1 : decode cX2_placeOf 1 = .ok (.istore_n 2, 1) := by decide +kernel
theorem dX2_placeOf_2 : decode cX2_placeOf 2 = .ok (.iload_n 2, 1) := by decide +kernel
theorem dX2_placeOf_3 : decode cX2_placeOf 3 = .ok (.aload_n 0, 1) := by decide +kernel
theorem dX2_placeOf_4 : decode cX2_placeOf 4 = .ok (.getfield 40, 3) := by decide +kernel
theorem dX2_placeOf_7 : decode cX2_placeOf 7 = .ok (.if_icmp .ge 27, 3) := by decide +kernel
theorem dX2_placeOf_10 : decode cX2_placeOf 10 = .ok (.iload_n 2, 1) := by decide +kernel
theorem dX2_placeOf_11 : decode cX2_placeOf 11 = .ok (.bipush 28, 2) := by decide +kernel
theorem dX2_placeOf_13 : decode cX2_placeOf 13 = .ok (.if_icmp .ge 21, 3) := by decide +kernel
theorem dX2_placeOf_16 : decode cX2_placeOf 16 = .ok (.aload_n 0, 1) := by decide +kernel
theorem dX2_placeOf_17 : decode cX2_placeOf 17 = .ok (.getfield 21, 3) := by decide +kernel
theorem dX2_placeOf_20 : decode cX2_placeOf 20 = .ok (.iload_n 2, 1) := by decide +kernel
theorem dX2_placeOf_21 : decode cX2_placeOf 21 = .ok (.iaload, 1) := by decide +kernel
theorem dX2_placeOf_22 : decode cX2_placeOf 22 = .ok (.iload_n 1, 1) := by decide +kernel
theorem dX2_placeOf_23 : decode cX2_placeOf 23 = .ok (.if_icmp .ne 5, 3) := by decide +kernel
theorem dX2_placeOf_26 : decode cX2_placeOf 26 = .ok (.iload_n 2, 1) := by decide +kernel
theorem dX2_placeOf_27 : decode cX2_placeOf 27 = .ok (.ireturn, 1) := by decide +kernel
theorem dX2_placeOf_28 : decode cX2_placeOf 28 = .ok (.iinc 2 1, 3) := by decide +kernel
theorem dX2_placeOf_31 : decode cX2_placeOf 31 = .ok (.goto (-29), 3) := by decide +kernel
theorem dX2_placeOf_34 : decode cX2_placeOf 34 = .ok (.iconst (-1), 1) := by decide +kernel
theorem dX2_placeOf_35 : decode cX2_placeOf 35 = .ok (.ireturn, 1) := by decide +kernel
theorem dX2_numberOfPlace_0 : decode cX2_numberOfPlace 0 = .ok (.iload_n 1, 1) := by decide +kernel
theorem dX2_numberOfPlace_1 : decode cX2_numberOfPlace 1 = .ok (.ifCond .lt 17, 3) := by decide +kernel
theorem dX2_numberOfPlace_4 : decode cX2_numberOfPlace 4 = .ok (.iload_n 1, 1) := by decide +kernel
theorem dX2_numberOfPlace_5 : decode cX2_numberOfPlace 5 = .ok (.aload_n 0, 1) := by decide +kernel
theorem dX2_numberOfPlace_6 : decode cX2_numberOfPlace 6 = .ok (.getfield 40, 3) := by decide +kernel
theorem dX2_numberOfPlace_9 : decode cX2_numberOfPlace 9 = .ok (.if_icmp .ge 9, 3) := by decide +kernel
theorem dX2_numberOfPlace_12 : decode cX2_numberOfPlace 12 = .ok (.iload_n 1, 1) := by decide +kernel
theorem dX2_numberOfPlace_13 : decode cX2_numberOfPlace 13 = .ok (.bipush 28, 2) := by decide +kernel
theorem dX2_numberOfPlace_15 : decode cX2_numberOfPlace 15 = .ok (.if_icmp .lt 5, 3) := by decide +kernel
theorem dX2_numberOfPlace_18 : decode cX2_numberOfPlace 18 = .ok (.iconst (-1), 1) := by decide +kernel
theorem dX2_numberOfPlace_19 : decode cX2_numberOfPlace 19 = .ok (.ireturn, 1) := by decide +kernel
theorem dX2_numberOfPlace_20 : decode cX2_numberOfPlace 20 = .ok (.iload_n 2, 1) := by decide +kernel
theorem dX2_numberOfPlace_21 : decode cX2_numberOfPlace 21 = .ok (.tableswitch 70 0 4 #[35, 42, 49, 56, 63], 35) := by decide +kernel
theorem dX2_numberOfPlace_56 : decode cX2_numberOfPlace 56 = .ok (.aload_n 0, 1) := by decide +kernel
theorem dX2_numberOfPlace_57 : decode cX2_numberOfPlace 57 = .ok (.getfield 21, 3) := by decide +kernel
theorem dX2_numberOfPlace_60 : decode cX2_numberOfPlace 60 = .ok (.iload_n 1, 1) := by decide +kernel
theorem dX2_numberOfPlace_61 : decode cX2_numberOfPlace 61 = .ok (.iaload, 1) := by decide +kernel
theorem dX2_numberOfPlace_62 : decode cX2_numberOfPlace 62 = .ok (.ireturn, 1) := by decide +kernel
theorem dX2_numberOfPlace_63 : decode cX2_numberOfPlace 63 = .ok (.aload_n 0, 1) := by decide +kernel
theorem dX2_numberOfPlace_64 : decode cX2_numberOfPlace 64 = .ok (.getfield 25, 3) := by decide +kernel
theorem dX2_numberOfPlace_67 : decode cX2_numberOfPlace 67 = .ok (.iload_n 1, 1) := by decide +kernel
theorem dX2_numberOfPlace_68 : decode cX2_numberOfPlace 68 = .ok (.iaload, 1) := by decide +kernel
theorem dX2_numberOfPlace_69 : decode cX2_numberOfPlace 69 = .ok (.ireturn, 1) := by decide +kernel
theorem dX2_numberOfPlace_70 : decode cX2_numberOfPlace 70 = .ok (.aload_n 0, 1) := by decide +kernel
theorem dX2_numberOfPlace_71 : decode cX2_numberOfPlace 71 = .ok (.getfield 28, 3) := by decide +kernel
theorem dX2_numberOfPlace_74 : decode cX2_numberOfPlace 74 = .ok (.iload_n 1, 1) := by decide +kernel
theorem dX2_numberOfPlace_75 : decode cX2_numberOfPlace 75 = .ok (.iaload, 1) := by decide +kernel
theorem dX2_numberOfPlace_76 : decode cX2_numberOfPlace 76 = .ok (.ireturn, 1) := by decide +kernel
theorem dX2_numberOfPlace_77 : decode cX2_numberOfPlace 77 = .ok (.aload_n 0, 1) := by decide +kernel
theorem dX2_numberOfPlace_78 : decode cX2_numberOfPlace 78 = .ok (.getfield 31, 3) := by decide +kernel
theorem dX2_numberOfPlace_81 : decode cX2_numberOfPlace 81 = .ok (.iload_n 1, 1) := by decide +kernel
theorem dX2_numberOfPlace_82 : decode cX2_numberOfPlace 82 = .ok (.iaload, 1) := by decide +kernel
theorem dX2_numberOfPlace_83 : decode cX2_numberOfPlace 83 = .ok (.ireturn, 1) := by decide +kernel
theorem dX2_numberOfPlace_84 : decode cX2_numberOfPlace 84 = .ok (.aload_n 0, 1) := by decide +kernel
theorem dX2_numberOfPlace_85 : decode cX2_numberOfPlace 85 = .ok (.getfield 34, 3) := by decide +kernel
theorem dX2_numberOfPlace_88 : decode cX2_numberOfPlace 88 = .ok (.iload_n 1, 1) := by decide +kernel
theorem dX2_numberOfPlace_89 : decode cX2_numberOfPlace 89 = .ok (.iaload, 1) := by decide +kernel
theorem dX2_numberOfPlace_90 : decode cX2_numberOfPlace 90 = .ok (.ireturn, 1) := by decide +kernel
theorem dX2_numberOfPlace_91 : decode cX2_numberOfPlace 91 = .ok (.aload_n 0, 1) := by decide +kernel
theorem dX2_numberOfPlace_92 : decode cX2_numberOfPlace 92 = .ok (.getfield 21, 3) := by decide +kernel
theorem dX2_numberOfPlace_95 : decode cX2_numberOfPlace 95 = .ok (.iload_n 1, 1) := by decide +kernel
theorem dX2_numberOfPlace_96 : decode cX2_numberOfPlace 96 = .ok (.iaload, 1) := by decide +kernel
theorem dX2_numberOfPlace_97 : decode cX2_numberOfPlace 97 = .ok (.invokestatic 79, 3) := by decide +kernel
theorem dX2_numberOfPlace_100 : decode cX2_numberOfPlace 100 = .ok (.aload_n 0, 1) := by decide +kernel
theorem dX2_numberOfPlace_101 : decode cX2_numberOfPlace 101 = .ok (.getfield 34, 3) := by decide +kernel
theorem dX2_numberOfPlace_104 : decode cX2_numberOfPlace 104 = .ok (.iload_n 1, 1) := by decide +kernel
theorem dX2_numberOfPlace_105 : decode cX2_numberOfPlace 105 = .ok (.iaload, 1) := by decide +kernel
theorem dX2_numberOfPlace_106 : decode cX2_numberOfPlace 106 = .ok (.isub, 1) := by decide +kernel
theorem dX2_numberOfPlace_107 : decode cX2_numberOfPlace 107 = .ok (.ireturn, 1) := by decide +kernel
theorem dX2_pips_0 : decode cX2_pips 0 = .ok (.iconst 0, 1) := by decide +kernel
theorem dX2_pips_1 : decode cX2_pips 1 = .ok (.istore_n 1, 1) := by decide +kernel
theorem dX2_pips_2 : decode cX2_pips 2 = .ok (.iconst 0, 1) := by decide +kernel
theorem dX2_pips_3 : decode cX2_pips 3 = .ok (.istore_n 2, 1) := by decide +kernel
theorem dX2_pips_4 : decode cX2_pips 4 = .ok (.iload_n 2, 1) := by decide +kernel
theorem dX2_pips_5 : decode cX2_pips 5 = .ok (.aload_n 0, 1) := by decide +kernel
theorem dX2_pips_6 : decode cX2_pips 6 = .ok (.getfield 40, 3) := by decide +kernel
theorem dX2_pips_9 : decode cX2_pips 9 = .ok (.if_icmp .ge 27, 3) := by decide +kernel
theorem dX2_pips_12 : decode cX2_pips 12 = .ok (.iload_n 2, 1) := by decide +kernel
theorem dX2_pips_13 : decode cX2_pips 13 = .ok (.bipush 28, 2) := by decide +kernel
theorem dX2_pips_15 : decode cX2_pips 15 = .ok (.if_icmp .ge 21, 3) := by decide +kernel
theorem dX2_pips_18 : decode cX2_pips 18 = .ok (.iload_n 1, 1) := by decide +kernel
theorem dX2_pips_19 : decode cX2_pips 19 = .ok (.aload_n 0, 1) := by decide +kernel
theorem dX2_pips_20 : decode cX2_pips 20 = .ok (.getfield 21, 3) := by decide +kernel
theorem dX2_pips_23 : decode cX2_pips 23 = .ok (.iload_n 2, 1) := by decide +kernel
theorem dX2_pips_24 : decode cX2_pips 24 = .ok (.iaload, 1) := by decide +kernel
theorem dX2_pips_25 : decode cX2_pips 25 = .ok (.invokestatic 79, 3) := by decide +kernel
theorem dX2_pips_28 : decode cX2_pips 28 = .ok (.iadd, 1) := by decide +kernel
theorem dX2_pips_29 : decode cX2_pips 29 = .ok (.istore_n 1, 1) := by decide +kernel
theorem dX2_pips_30 : decode cX2_pips 30 = .ok (.iinc 2 1, 3) := by decide +kernel
theorem dX2_pips_33 : decode cX2_pips 33 = .ok (.goto (-29), 3) := by decide +kernel
theorem dX2_pips_36 : decode cX2_pips 36 = .ok (.iload_n 1, 1) := by decide +kernel
theorem dX2_pips_37 : decode cX2_pips 37 = .ok (.ireturn, 1) := by decide +kernel
theorem dX2_pipsAt_0 : decode cX2_pipsAt 0 = .ok (.iconst 0, 1) := by decide +kernel
theorem dX2_pipsAt_1 : decode cX2_pipsAt 1 = .ok (.istore_n 3, 1) := by decide +kernel
theorem dX2_pipsAt_2 : decode cX2_pipsAt 2 = .ok (.iload_n 3, 1) := by decide +kernel
theorem dX2_pipsAt_3 : decode cX2_pipsAt 3 = .ok (.aload_n 0, 1) := by decide +kernel
theorem dX2_pipsAt_4 : decode cX2_pipsAt 4 = .ok (.getfield 40, 3) := by decide +kernel
theorem dX2_pipsAt_7 : decode cX2_pipsAt 7 = .ok (.if_icmp .ge 99, 3) := by decide +kernel
theorem dX2_pipsAt_10 : decode cX2_pipsAt 10 = .ok (.iload_n 3, 1) := by decide +kernel
theorem dX2_pipsAt_11 : decode cX2_pipsAt 11 = .ok (.bipush 28, 2) := by decide +kernel
theorem dX2_pipsAt_13 : decode cX2_pipsAt 13 = .ok (.if_icmp .ge 93, 3) := by decide +kernel
theorem dX2_pipsAt_16 : decode cX2_pipsAt 16 = .ok (.aload_n 0, 1) := by decide +kernel
theorem dX2_pipsAt_17 : decode cX2_pipsAt 17 = .ok (.getfield 25, 3) := by decide +kernel
theorem dX2_pipsAt_20 : decode cX2_pipsAt 20 = .ok (.iload_n 3, 1) := by decide +kernel
theorem dX2_pipsAt_21 : decode cX2_pipsAt 21 = .ok (.iaload, 1) := by decide +kernel
theorem dX2_pipsAt_22 : decode cX2_pipsAt 22 = .ok (.iload_n 1, 1) := by decide +kernel
theorem dX2_pipsAt_23 : decode cX2_pipsAt 23 = .ok (.if_icmp .ne 20, 3) := by decide +kernel
theorem dX2_pipsAt_26 : decode cX2_pipsAt 26 = .ok (.aload_n 0, 1) := by decide +kernel
theorem dX2_pipsAt_27 : decode cX2_pipsAt 27 = .ok (.getfield 28, 3) := by decide +kernel
theorem dX2_pipsAt_30 : decode cX2_pipsAt 30 = .ok (.iload_n 3, 1) := by decide +kernel
theorem dX2_pipsAt_31 : decode cX2_pipsAt 31 = .ok (.iaload, 1) := by decide +kernel
theorem dX2_pipsAt_32 : decode cX2_pipsAt 32 = .ok (.iload_n 2, 1) := by decide +kernel
theorem dX2_pipsAt_33 : decode cX2_pipsAt 33 = .ok (.if_icmp .ne 10, 3) := by decide +kernel
theorem dX2_pipsAt_36 : decode cX2_pipsAt 36 = .ok (.aload_n 0, 1) := by decide +kernel
theorem dX2_pipsAt_37 : decode cX2_pipsAt 37 = .ok (.getfield 34, 3) := by decide +kernel
theorem dX2_pipsAt_40 : decode cX2_pipsAt 40 = .ok (.iload_n 3, 1) := by decide +kernel
theorem dX2_pipsAt_41 : decode cX2_pipsAt 41 = .ok (.iaload, 1) := by decide +kernel
theorem dX2_pipsAt_42 : decode cX2_pipsAt 42 = .ok (.ireturn, 1) := by decide +kernel
theorem dX2_pipsAt_43 : decode cX2_pipsAt 43 = .ok (.aload_n 0, 1) := by decide +kernel
theorem dX2_pipsAt_44 : decode cX2_pipsAt 44 = .ok (.getfield 25, 3) := by decide +kernel
theorem dX2_pipsAt_47 : decode cX2_pipsAt 47 = .ok (.iload_n 3, 1) := by decide +kernel
theorem dX2_pipsAt_48 : decode cX2_pipsAt 48 = .ok (.iaload, 1) := by decide +kernel
theorem dX2_pipsAt_49 : decode cX2_pipsAt 49 = .ok (.aload_n 0, 1) := by decide +kernel
theorem dX2_pipsAt_50 : decode cX2_pipsAt 50 = .ok (.getfield 31, 3) := by decide +kernel
theorem dX2_pipsAt_53 : decode cX2_pipsAt 53 = .ok (.iload_n 3, 1) := by decide +kernel
theorem dX2_pipsAt_54 : decode cX2_pipsAt 54 = .ok (.iaload, 1) := by decide +kernel
theorem dX2_pipsAt_55 : decode cX2_pipsAt 55 = .ok (.invokestatic 69, 3) := by decide +kernel
theorem dX2_pipsAt_58 : decode cX2_pipsAt 58 = .ok (.iadd, 1) := by decide +kernel
theorem dX2_pipsAt_59 : decode cX2_pipsAt 59 = .ok (.iload_n 1, 1) := by decide +kernel
theorem dX2_pipsAt_60 : decode cX2_pipsAt 60 = .ok (.if_icmp .ne 40, 3) := by decide +kernel
theorem dX2_pipsAt_63 : decode cX2_pipsAt 63 = .ok (.aload_n 0, 1) := by decide +kernel
theorem dX2_pipsAt_64 : decode cX2_pipsAt 64 = .ok (.getfield 28, 3) := by decide +kernel
theorem dX2_pipsAt_67 : decode cX2_pipsAt 67 = .ok (.iload_n 3, 1) := by decide +kernel
theorem dX2_pipsAt_68 : decode cX2_pipsAt 68 = .ok (.iaload, 1) := by decide +kernel
theorem dX2_pipsAt_69 : decode cX2_pipsAt 69 = .ok (.aload_n 0, 1) := by decide +kernel
theorem dX2_pipsAt_70 : decode cX2_pipsAt 70 = .ok (.getfield 31, 3) := by decide +kernel
theorem dX2_pipsAt_73 : decode cX2_pipsAt 73 = .ok (.iload_n 3, 1) := by decide +kernel
theorem dX2_pipsAt_74 : decode cX2_pipsAt 74 = .ok (.iaload, 1) := by decide +kernel
theorem dX2_pipsAt_75 : decode cX2_pipsAt 75 = .ok (.invokestatic 72, 3) := by decide +kernel
theorem dX2_pipsAt_78 : decode cX2_pipsAt 78 = .ok (.iadd, 1) := by decide +kernel
theorem dX2_pipsAt_79 : decode cX2_pipsAt 79 = .ok (.iload_n 2, 1) := by decide +kernel
theorem dX2_pipsAt_80 : decode cX2_pipsAt 80 = .ok (.if_icmp .ne 20, 3) := by decide +kernel
theorem dX2_pipsAt_83 : decode cX2_pipsAt 83 = .ok (.aload_n 0, 1) := by decide +kernel
theorem dX2_pipsAt_84 : decode cX2_pipsAt 84 = .ok (.getfield 21, 3) := by decide +kernel
theorem dX2_pipsAt_87 : decode cX2_pipsAt 87 = .ok (.iload_n 3, 1) := by decide +kernel
theorem dX2_pipsAt_88 : decode cX2_pipsAt 88 = .ok (.iaload, 1) := by decide +kernel
theorem dX2_pipsAt_89 : decode cX2_pipsAt 89 = .ok (.invokestatic 79, 3) := by decide +kernel
theorem dX2_pipsAt_92 : decode cX2_pipsAt 92 = .ok (.aload_n 0, 1) := by decide +kernel
theorem dX2_pipsAt_93 : decode cX2_pipsAt 93 = .ok (.getfield 34, 3) := by decide +kernel
theorem dX2_pipsAt_96 : decode cX2_pipsAt 96 = .ok (.iload_n 3, 1) := by decide +kernel
theorem dX2_pipsAt_97 : decode cX2_pipsAt 97 = .ok (.iaload, 1) := by decide +kernel
theorem dX2_pipsAt_98 : decode cX2_pipsAt 98 = .ok (.isub, 1) := by decide +kernel
theorem dX2_pipsAt_99 : decode cX2_pipsAt 99 = .ok (.ireturn, 1) := by decide +kernel
theorem dX2_pipsAt_100 : decode cX2_pipsAt 100 = .ok (.iinc 3 1, 3) := by decide +kernel
theorem dX2_pipsAt_103 : decode cX2_pipsAt 103 = .ok (.goto (-101), 3) := by decide +kernel
theorem dX2_pipsAt_106 : decode cX2_pipsAt 106 = .ok (.iconst (-1), 1) := by decide +kernel
theorem dX2_pipsAt_107 : decode cX2_pipsAt 107 = .ok (.ireturn, 1) := by decide +kernel
theorem dX2_freeByCells_0 : decode cX2_freeByCells 0 = .ok (.iconst 0, 1) := by decide +kernel
theorem dX2_freeByCells_1 : decode cX2_freeByCells 1 = .ok (.istore_n 1, 1) := by decide +kernel
theorem dX2_freeByCells_2 : decode cX2_freeByCells 2 = .ok (.iconst 0, 1) := by decide +kernel
theorem dX2_freeByCells_3 : decode cX2_freeByCells 3 = .ok (.istore_n 2, 1) := by decide +kernel
theorem dX2_freeByCells_4 : decode cX2_freeByCells 4 = .ok (.iload_n 2, 1) := by decide +kernel
theorem dX2_freeByCells_5 : decode cX2_freeByCells 5 = .ok (.bipush 25, 2) := by decide +kernel
theorem dX2_freeByCells_7 : decode cX2_freeByCells 7 = .ok (.if_icmp .ge 35, 3) := by decide +kernel
theorem dX2_freeByCells_10 : decode cX2_freeByCells 10 = .ok (.iconst 0, 1) := by decide +kernel
theorem dX2_freeByCells_11 : decode cX2_freeByCells 11 = .ok (.istore_n 3, 1) := by decide +kernel
theorem dX2_freeByCells_12 : decode cX2_freeByCells 12 = .ok (.iload_n 3, 1) := by decide +kernel
theorem dX2_freeByCells_13 : decode cX2_freeByCells 13 = .ok (.bipush 25, 2) := by decide +kernel
theorem dX2_freeByCells_15 : decode cX2_freeByCells 15 = .ok (.if_icmp .ge 21, 3) := by decide +kernel
theorem dX2_freeByCells_18 : decode cX2_freeByCells 18 = .ok (.aload_n 0, 1) := by decide +kernel
theorem dX2_freeByCells_19 : decode cX2_freeByCells 19 = .ok (.iload_n 3, 1) := by decide +kernel
theorem dX2_freeByCells_20 : decode cX2_freeByCells 20 = .ok (.iload_n 2, 1) := by decide +kernel
theorem dX2_freeByCells_21 : decode cX2_freeByCells 21 = .ok (.invokevirtual 65, 3) := by decide +kernel
theorem dX2_freeByCells_24 : decode cX2_freeByCells 24 = .ok (.ifCond .eq 6, 3) := by decide +kernel
theorem dX2_freeByCells_27 : decode cX2_freeByCells 27 = .ok (.iinc 1 1, 3) := by decide +kernel
theorem dX2_freeByCells_30 : decode cX2_freeByCells 30 = .ok (.iinc 3 1, 3) := by decide +kernel
theorem dX2_freeByCells_33 : decode cX2_freeByCells 33 = .ok (.goto (-21), 3) := by decide +kernel
theorem dX2_freeByCells_36 : decode cX2_freeByCells 36 = .ok (.iinc 2 1, 3) := by decide +kernel
theorem dX2_freeByCells_39 : decode cX2_freeByCells 39 = .ok (.goto (-35), 3) := by decide +kernel
theorem dX2_freeByCells_42 : decode cX2_freeByCells 42 = .ok (.iload_n 1, 1) := by decide +kernel
theorem dX2_freeByCells_43 : decode cX2_freeByCells 43 = .ok (.ireturn, 1) := by decide +kernel
theorem dX2_freeByTiles_0 : decode cX2_freeByTiles 0 = .ok (.sipush 625, 3) := by decide +kernel
theorem dX2_freeByTiles_3 : decode cX2_freeByTiles 3 = .ok (.iconst 2, 1) := by decide +kernel
theorem dX2_freeByTiles_4 : decode cX2_freeByTiles 4 = .ok (.aload_n 0, 1) := by decide +kernel
theorem dX2_freeByTiles_5 : decode cX2_freeByTiles 5 = .ok (.getfield 40, 3) := by decide +kernel
theorem dX2_freeByTiles_8 : decode cX2_freeByTiles 8 = .ok (.imul, 1) := by decide +kernel
theorem dX2_freeByTiles_9 : decode cX2_freeByTiles 9 = .ok (.isub, 1) := by decide +kernel
theorem dX2_freeByTiles_10 : decode cX2_freeByTiles 10 = .ok (.ireturn, 1) := by decide +kernel
theorem dX2_numberOfReach_0 : decode cX2_numberOfReach 0 = .ok (.iload_n 1, 1) := by decide +kernel
theorem dX2_numberOfReach_1 : decode cX2_numberOfReach 1 = .ok (.tableswitch 65 0 4 #[35, 41, 47, 53, 59], 35) := by decide +kernel
theorem dX2_numberOfReach_36 : decode cX2_numberOfReach 36 = .ok (.aload_n 0, 1) := by decide +kernel
theorem dX2_numberOfReach_37 : decode cX2_numberOfReach 37 = .ok (.iconst 1, 1) := by decide +kernel
theorem dX2_numberOfReach_38 : decode cX2_numberOfReach 38 = .ok (.invokevirtual 82, 3) := by decide +kernel
theorem dX2_numberOfReach_41 : decode cX2_numberOfReach 41 = .ok (.ireturn, 1) := by decide +kernel
theorem dX2_numberOfReach_42 : decode cX2_numberOfReach 42 = .ok (.aload_n 0, 1) := by decide +kernel
theorem dX2_numberOfReach_43 : decode cX2_numberOfReach 43 = .ok (.iconst 1, 1) := by decide +kernel
theorem dX2_numberOfReach_44 : decode cX2_numberOfReach 44 = .ok (.invokevirtual 86, 3) := by decide +kernel
theorem dX2_numberOfReach_47 : decode cX2_numberOfReach 47 = .ok (.ireturn, 1) := by decide +kernel
theorem dX2_numberOfReach_48 : decode cX2_numberOfReach 48 = .ok (.aload_n 0, 1) := by decide +kernel
theorem dX2_numberOfReach_49 : decode cX2_numberOfReach 49 = .ok (.iconst 0, 1) := by decide +kernel
theorem dX2_numberOfReach_50 : decode cX2_numberOfReach 50 = .ok (.invokevirtual 82, 3) := by decide +kernel
theorem dX2_numberOfReach_53 : decode cX2_numberOfReach 53 = .ok (.ireturn, 1) := by decide +kernel
theorem dX2_numberOfReach_54 : decode cX2_numberOfReach 54 = .ok (.aload_n 0, 1) := by decide +kernel
theorem dX2_numberOfReach_55 : decode cX2_numberOfReach 55 = .ok (.iconst 0, 1) := by decide +kernel
theorem dX2_numberOfReach_56 : decode cX2_numberOfReach 56 = .ok (.invokevirtual 86, 3) := by decide +kernel
theorem dX2_numberOfReach_59 : decode cX2_numberOfReach 59 = .ok (.ireturn, 1) := by decide +kernel
theorem dX2_numberOfReach_60 : decode cX2_numberOfReach 60 = .ok (.aload_n 0, 1) := by decide +kernel
theorem dX2_numberOfReach_61 : decode cX2_numberOfReach 61 = .ok (.iconst 1, 1) := by decide +kernel
theorem dX2_numberOfReach_62 : decode cX2_numberOfReach 62 = .ok (.invokevirtual 89, 3) := by decide +kernel
theorem dX2_numberOfReach_65 : decode cX2_numberOfReach 65 = .ok (.ireturn, 1) := by decide +kernel
theorem dX2_numberOfReach_66 : decode cX2_numberOfReach 66 = .ok (.aload_n 0, 1) := by decide +kernel
theorem dX2_numberOfReach_67 : decode cX2_numberOfReach 67 = .ok (.iconst 3, 1) := by decide +kernel
theorem dX2_numberOfReach_68 : decode cX2_numberOfReach 68 = .ok (.invokevirtual 89, 3) := by decide +kernel
theorem dX2_numberOfReach_71 : decode cX2_numberOfReach 71 = .ok (.ireturn, 1) := by decide +kernel
theorem dX2_least_0 : decode cX2_least 0 = .ok (.iconst (-1), 1) := by decide +kernel
theorem dX2_least_1 : decode cX2_least 1 = .ok (.istore_n 2, 1) := by decide +kernel
theorem dX2_least_2 : decode cX2_least 2 = .ok (.iconst 0, 1) := by decide +kernel
theorem dX2_least_3 : decode cX2_least 3 = .ok (.istore_n 3, 1) := by decide +kernel
theorem dX2_least_4 : decode cX2_least 4 = .ok (.iload_n 3, 1) := by decide +kernel
theorem dX2_least_5 : decode cX2_least 5 = .ok (.aload_n 0, 1) := by decide +kernel
theorem dX2_least_6 : decode cX2_least 6 = .ok (.getfield 40, 3) := by decide +kernel
theorem dX2_least_9 : decode cX2_least 9 = .ok (.if_icmp .ge 63, 3) := by decide +kernel
theorem dX2_least_12 : decode cX2_least 12 = .ok (.iload_n 3, 1) := by decide +kernel
theorem dX2_least_13 : decode cX2_least 13 = .ok (.bipush 28, 2) := by decide +kernel
theorem dX2_least_15 : decode cX2_least 15 = .ok (.if_icmp .ge 57, 3) := by decide +kernel
theorem dX2_least_18 : decode cX2_least 18 = .ok (.iconst 0, 1) := by decide +kernel
theorem dX2_least_19 : decode cX2_least 19 = .ok (.aload_n 0, 1) := by decide +kernel
theorem dX2_least_20 : decode cX2_least 20 = .ok (.iload_n 3, 1) := by decide +kernel
theorem dX2_least_21 : decode cX2_least 21 = .ok (.iload_n 1, 1) := by decide +kernel
theorem dX2_least_22 : decode cX2_least 22 = .ok (.invokevirtual 92, 3) := by decide +kernel
theorem dX2_least_25 : decode cX2_least 25 = .ok (.invokestatic 96, 3) := by decide +kernel
theorem dX2_least_28 : decode cX2_least 28 = .ok (.iload_n 1, 1) := by decide +kernel
theorem dX2_least_29 : decode cX2_least 29 = .ok (.ifCond .eq 12, 3) := by decide +kernel
theorem dX2_least_32 : decode cX2_least 32 = .ok (.aload_n 0, 1) := by decide +kernel
theorem dX2_least_33 : decode cX2_least 33 = .ok (.getfield 25, 3) := by decide +kernel
theorem dX2_least_36 : decode cX2_least 36 = .ok (.iload_n 3, 1) := by decide +kernel
theorem dX2_least_37 : decode cX2_least 37 = .ok (.iaload, 1) := by decide +kernel
theorem dX2_least_38 : decode cX2_least 38 = .ok (.goto 9, 3) := by decide +kernel
theorem dX2_least_41 : decode cX2_least 41 = .ok (.aload_n 0, 1) := by decide +kernel
theorem dX2_least_42 : decode cX2_least 42 = .ok (.getfield 28, 3) := by decide +kernel
theorem dX2_least_45 : decode cX2_least 45 = .ok (.iload_n 3, 1) := by decide +kernel
theorem dX2_least_46 : decode cX2_least 46 = .ok (.iaload, 1) := by decide +kernel
theorem dX2_least_47 : decode cX2_least 47 = .ok (.iadd, 1) := by decide +kernel
theorem dX2_least_48 : decode cX2_least 48 = .ok (.istore 4, 2) := by decide +kernel
theorem dX2_least_50 : decode cX2_least 50 = .ok (.iload_n 3, 1) := by decide +kernel
theorem dX2_least_51 : decode cX2_least 51 = .ok (.ifCond .ne 8, 3) := by decide +kernel
theorem dX2_least_54 : decode cX2_least 54 = .ok (.iload 4, 2) := by decide +kernel
theorem dX2_least_56 : decode cX2_least 56 = .ok (.goto 9, 3) := by decide +kernel
theorem dX2_least_59 : decode cX2_least 59 = .ok (.iload_n 2, 1) := by decide +kernel
theorem dX2_least_60 : decode cX2_least 60 = .ok (.iload 4, 2) := by decide +kernel
theorem dX2_least_62 : decode cX2_least 62 = .ok (.invokestatic 96, 3) := by decide +kernel
theorem dX2_least_65 : decode cX2_least 65 = .ok (.istore_n 2, 1) := by decide +kernel
theorem dX2_least_66 : decode cX2_least 66 = .ok (.iinc 3 1, 3) := by decide +kernel
theorem dX2_least_69 : decode cX2_least 69 = .ok (.goto (-65), 3) := by decide +kernel
theorem dX2_least_72 : decode cX2_least 72 = .ok (.iload_n 2, 1) := by decide +kernel
theorem dX2_least_73 : decode cX2_least 73 = .ok (.ireturn, 1) := by decide +kernel
theorem dX2_greatest_0 : decode cX2_greatest 0 = .ok (.iconst (-1), 1) := by decide +kernel
theorem dX2_greatest_1 : decode cX2_greatest 1 = .ok (.istore_n 2, 1) := by decide +kernel
theorem dX2_greatest_2 : decode cX2_greatest 2 = .ok (.iconst 0, 1) := by decide +kernel
theorem dX2_greatest_3 : decode cX2_greatest 3 = .ok (.istore_n 3, 1) := by decide +kernel
theorem dX2_greatest_4 : decode cX2_greatest 4 = .ok (.iload_n 3, 1) := by decide +kernel
theorem dX2_greatest_5 : decode cX2_greatest 5 = .ok (.aload_n 0, 1) := by decide +kernel
theorem dX2_greatest_6 : decode cX2_greatest 6 = .ok (.getfield 40, 3) := by decide +kernel
theorem dX2_greatest_9 : decode cX2_greatest 9 = .ok (.if_icmp .ge 63, 3) := by decide +kernel
theorem dX2_greatest_12 : decode cX2_greatest 12 = .ok (.iload_n 3, 1) := by decide +kernel
theorem dX2_greatest_13 : decode cX2_greatest 13 = .ok (.bipush 28, 2) := by decide +kernel
theorem dX2_greatest_15 : decode cX2_greatest 15 = .ok (.if_icmp .ge 57, 3) := by decide +kernel
theorem dX2_greatest_18 : decode cX2_greatest 18 = .ok (.iconst 0, 1) := by decide +kernel
theorem dX2_greatest_19 : decode cX2_greatest 19 = .ok (.aload_n 0, 1) := by decide +kernel
theorem dX2_greatest_20 : decode cX2_greatest 20 = .ok (.iload_n 3, 1) := by decide +kernel
theorem dX2_greatest_21 : decode cX2_greatest 21 = .ok (.iload_n 1, 1) := by decide +kernel
theorem dX2_greatest_22 : decode cX2_greatest 22 = .ok (.invokevirtual 92, 3) := by decide +kernel
theorem dX2_greatest_25 : decode cX2_greatest 25 = .ok (.invokestatic 102, 3) := by decide +kernel
theorem dX2_greatest_28 : decode cX2_greatest 28 = .ok (.iload_n 1, 1) := by decide +kernel
theorem dX2_greatest_29 : decode cX2_greatest 29 = .ok (.ifCond .eq 12, 3) := by decide +kernel
theorem dX2_greatest_32 : decode cX2_greatest 32 = .ok (.aload_n 0, 1) := by decide +kernel
theorem dX2_greatest_33 : decode cX2_greatest 33 = .ok (.getfield 25, 3) := by decide +kernel
theorem dX2_greatest_36 : decode cX2_greatest 36 = .ok (.iload_n 3, 1) := by decide +kernel
theorem dX2_greatest_37 : decode cX2_greatest 37 = .ok (.iaload, 1) := by decide +kernel
theorem dX2_greatest_38 : decode cX2_greatest 38 = .ok (.goto 9, 3) := by decide +kernel
theorem dX2_greatest_41 : decode cX2_greatest 41 = .ok (.aload_n 0, 1) := by decide +kernel
theorem dX2_greatest_42 : decode cX2_greatest 42 = .ok (.getfield 28, 3) := by decide +kernel
theorem dX2_greatest_45 : decode cX2_greatest 45 = .ok (.iload_n 3, 1) := by decide +kernel
theorem dX2_greatest_46 : decode cX2_greatest 46 = .ok (.iaload, 1) := by decide +kernel
theorem dX2_greatest_47 : decode cX2_greatest 47 = .ok (.iadd, 1) := by decide +kernel
theorem dX2_greatest_48 : decode cX2_greatest 48 = .ok (.istore 4, 2) := by decide +kernel
theorem dX2_greatest_50 : decode cX2_greatest 50 = .ok (.iload_n 3, 1) := by decide +kernel
theorem dX2_greatest_51 : decode cX2_greatest 51 = .ok (.ifCond .ne 8, 3) := by decide +kernel
theorem dX2_greatest_54 : decode cX2_greatest 54 = .ok (.iload 4, 2) := by decide +kernel
theorem dX2_greatest_56 : decode cX2_greatest 56 = .ok (.goto 9, 3) := by decide +kernel
theorem dX2_greatest_59 : decode cX2_greatest 59 = .ok (.iload_n 2, 1) := by decide +kernel
theorem dX2_greatest_60 : decode cX2_greatest 60 = .ok (.iload 4, 2) := by decide +kernel
theorem dX2_greatest_62 : decode cX2_greatest 62 = .ok (.invokestatic 102, 3) := by decide +kernel
theorem dX2_greatest_65 : decode cX2_greatest 65 = .ok (.istore_n 2, 1) := by decide +kernel
theorem dX2_greatest_66 : decode cX2_greatest 66 = .ok (.iinc 3 1, 3) := by decide +kernel
theorem dX2_greatest_69 : decode cX2_greatest 69 = .ok (.goto (-65), 3) := by decide +kernel
theorem dX2_greatest_72 : decode cX2_greatest 72 = .ok (.iload_n 2, 1) := by decide +kernel
theorem dX2_greatest_73 : decode cX2_greatest 73 = .ok (.ireturn, 1) := by decide +kernel
theorem dX2_step_0 : decode cX2_step 0 = .ok (.iload_n 1, 1) := by decide +kernel
theorem dX2_step_1 : decode cX2_step 1 = .ok (.ifCond .lt 9, 3) := by decide +kernel
theorem dX2_step_4 : decode cX2_step 4 = .ok (.iload_n 1, 1) := by decide +kernel
theorem dX2_step_5 : decode cX2_step 5 = .ok (.bipush 28, 2) := by decide +kernel
theorem dX2_step_7 : decode cX2_step 7 = .ok (.if_icmp .lt 5, 3) := by decide +kernel
theorem dX2_step_10 : decode cX2_step 10 = .ok (.iconst 0, 1) := by decide +kernel
theorem dX2_step_11 : decode cX2_step 11 = .ok (.ireturn, 1) := by decide +kernel
theorem dX2_step_12 : decode cX2_step 12 = .ok (.iload_n 2, 1) := by decide +kernel
theorem dX2_step_13 : decode cX2_step 13 = .ok (.ifCond .eq 15, 3) := by decide +kernel
theorem dX2_step_16 : decode cX2_step 16 = .ok (.aload_n 0, 1) := by decide +kernel
theorem dX2_step_17 : decode cX2_step 17 = .ok (.getfield 31, 3) := by decide +kernel
theorem dX2_step_20 : decode cX2_step 20 = .ok (.iload_n 1, 1) := by decide +kernel
theorem dX2_step_21 : decode cX2_step 21 = .ok (.iaload, 1) := by decide +kernel
theorem dX2_step_22 : decode cX2_step 22 = .ok (.invokestatic 69, 3) := by decide +kernel
theorem dX2_step_25 : decode cX2_step 25 = .ok (.goto 12, 3) := by decide +kernel
theorem dX2_step_28 : decode cX2_step 28 = .ok (.aload_n 0, 1) := by decide +kernel
theorem dX2_step_29 : decode cX2_step 29 = .ok (.getfield 31, 3) := by decide +kernel
theorem dX2_step_32 : decode cX2_step 32 = .ok (.iload_n 1, 1) := by decide +kernel
theorem dX2_step_33 : decode cX2_step 33 = .ok (.iaload, 1) := by decide +kernel
theorem dX2_step_34 : decode cX2_step 34 = .ok (.invokestatic 72, 3) := by decide +kernel
theorem dX2_step_37 : decode cX2_step 37 = .ok (.ireturn, 1) := by decide +kernel
theorem dX2_turnsTo_0 : decode cX2_turnsTo 0 = .ok (.iconst 0, 1) := by decide +kernel
theorem dX2_turnsTo_1 : decode cX2_turnsTo 1 = .ok (.istore_n 2, 1) := by decide +kernel
theorem dX2_turnsTo_2 : decode cX2_turnsTo 2 = .ok (.iconst 0, 1) := by decide +kernel
theorem dX2_turnsTo_3 : decode cX2_turnsTo 3 = .ok (.istore_n 3, 1) := by decide +kernel
theorem dX2_turnsTo_4 : decode cX2_turnsTo 4 = .ok (.iload_n 3, 1) := by decide +kernel
theorem dX2_turnsTo_5 : decode cX2_turnsTo 5 = .ok (.aload_n 0, 1) := by decide +kernel
theorem dX2_turnsTo_6 : decode cX2_turnsTo 6 = .ok (.getfield 40, 3) := by decide +kernel
theorem dX2_turnsTo_9 : decode cX2_turnsTo 9 = .ok (.if_icmp .ge 68, 3) := by decide +kernel
theorem dX2_turnsTo_12 : decode cX2_turnsTo 12 = .ok (.iload_n 3, 1) := by decide +kernel
theorem dX2_turnsTo_13 : decode cX2_turnsTo 13 = .ok (.bipush 28, 2) := by decide +kernel
theorem dX2_turnsTo_15 : decode cX2_turnsTo 15 = .ok (.if_icmp .ge 62, 3) := by decide +kernel
theorem dX2_turnsTo_18 : decode cX2_turnsTo 18 = .ok (.iload_n 3, 1) := by decide +kernel
theorem dX2_turnsTo_19 : decode cX2_turnsTo 19 = .ok (.iconst 1, 1) := by decide +kernel
theorem dX2_turnsTo_20 : decode cX2_turnsTo 20 = .ok (.iadd, 1) := by decide +kernel
theorem dX2_turnsTo_21 : decode cX2_turnsTo 21 = .ok (.aload_n 0, 1) := by decide +kernel
theorem dX2_turnsTo_22 : decode cX2_turnsTo 22 = .ok (.getfield 40, 3) := by decide +kernel
theorem dX2_turnsTo_25 : decode cX2_turnsTo 25 = .ok (.if_icmp .ge 22, 3) := by decide +kernel
theorem dX2_turnsTo_28 : decode cX2_turnsTo 28 = .ok (.iload_n 3, 1) := by decide +kernel
theorem dX2_turnsTo_29 : decode cX2_turnsTo 29 = .ok (.iconst 1, 1) := by decide +kernel
theorem dX2_turnsTo_30 : decode cX2_turnsTo 30 = .ok (.iadd, 1) := by decide +kernel
theorem dX2_turnsTo_31 : decode cX2_turnsTo 31 = .ok (.bipush 28, 2) := by decide +kernel
theorem dX2_turnsTo_33 : decode cX2_turnsTo 33 = .ok (.if_icmp .ge 14, 3) := by decide +kernel
theorem dX2_turnsTo_36 : decode cX2_turnsTo 36 = .ok (.aload_n 0, 1) := by decide +kernel
theorem dX2_turnsTo_37 : decode cX2_turnsTo 37 = .ok (.getfield 31, 3) := by decide +kernel
theorem dX2_turnsTo_40 : decode cX2_turnsTo 40 = .ok (.iload_n 3, 1) := by decide +kernel
theorem dX2_turnsTo_41 : decode cX2_turnsTo 41 = .ok (.iconst 1, 1) := by decide +kernel
theorem dX2_turnsTo_42 : decode cX2_turnsTo 42 = .ok (.iadd, 1) := by decide +kernel
theorem dX2_turnsTo_43 : decode cX2_turnsTo 43 = .ok (.iaload, 1) := by decide +kernel
theorem dX2_turnsTo_44 : decode cX2_turnsTo 44 = .ok (.goto 7, 3) := by decide +kernel
theorem dX2_turnsTo_47 : decode cX2_turnsTo 47 = .ok (.aload_n 0, 1) := by decide +kernel
theorem dX2_turnsTo_48 : decode cX2_turnsTo 48 = .ok (.getfield 43, 3) := by decide +kernel
theorem dX2_turnsTo_51 : decode cX2_turnsTo 51 = .ok (.istore 4, 2) := by decide +kernel
theorem dX2_turnsTo_53 : decode cX2_turnsTo 53 = .ok (.iload 4, 2) := by decide +kernel
theorem dX2_turnsTo_55 : decode cX2_turnsTo 55 = .ok (.aload_n 0, 1) := by decide +kernel
theorem dX2_turnsTo_56 : decode cX2_turnsTo 56 = .ok (.getfield 31, 3) := by decide +kernel
theorem dX2_turnsTo_59 : decode cX2_turnsTo 59 = .ok (.iload_n 3, 1) := by decide +kernel
theorem dX2_turnsTo_60 : decode cX2_turnsTo 60 = .ok (.iaload, 1) := by decide +kernel
theorem dX2_turnsTo_61 : decode cX2_turnsTo 61 = .ok (.isub, 1) := by decide +kernel
theorem dX2_turnsTo_62 : decode cX2_turnsTo 62 = .ok (.iconst 3, 1) := by decide +kernel
theorem dX2_turnsTo_63 : decode cX2_turnsTo 63 = .ok (.iand, 1) := by decide +kernel
theorem dX2_turnsTo_64 : decode cX2_turnsTo 64 = .ok (.iload_n 1, 1) := by decide +kernel
theorem dX2_turnsTo_65 : decode cX2_turnsTo 65 = .ok (.if_icmp .ne 6, 3) := by decide +kernel
theorem dX2_turnsTo_68 : decode cX2_turnsTo 68 = .ok (.iinc 2 1, 3) := by decide +kernel
theorem dX2_turnsTo_71 : decode cX2_turnsTo 71 = .ok (.iinc 3 1, 3) := by decide +kernel
theorem dX2_turnsTo_74 : decode cX2_turnsTo 74 = .ok (.goto (-70), 3) := by decide +kernel
theorem dX2_turnsTo_77 : decode cX2_turnsTo 77 = .ok (.iload_n 2, 1) := by decide +kernel
theorem dX2_turnsTo_78 : decode cX2_turnsTo 78 = .ok (.ireturn, 1) := by decide +kernel
theorem dX2_isFree_0 : decode cX2_isFree 0 = .ok (.iload_n 1, 1) := by decide +kernel
theorem dX2_isFree_1 : decode cX2_isFree 1 = .ok (.ifCond .lt 36, 3) := by decide +kernel
theorem dX2_isFree_4 : decode cX2_isFree 4 = .ok (.iload_n 1, 1) := by decide +kernel
theorem dX2_isFree_5 : decode cX2_isFree 5 = .ok (.bipush 25, 2) := by decide +kernel
theorem dX2_isFree_7 : decode cX2_isFree 7 = .ok (.if_icmp .ge 30, 3) := by decide +kernel
theorem dX2_isFree_10 : decode cX2_isFree 10 = .ok (.iload_n 2, 1) := by decide +kernel
theorem dX2_isFree_11 : decode cX2_isFree 11 = .ok (.ifCond .lt 26, 3) := by decide +kernel
theorem dX2_isFree_14 : decode cX2_isFree 14 = .ok (.iload_n 2, 1) := by decide +kernel
theorem dX2_isFree_15 : decode cX2_isFree 15 = .ok (.bipush 25, 2) := by decide +kernel
theorem dX2_isFree_17 : decode cX2_isFree 17 = .ok (.if_icmp .ge 20, 3) := by decide +kernel
theorem dX2_isFree_20 : decode cX2_isFree 20 = .ok (.aload_n 0, 1) := by decide +kernel
theorem dX2_isFree_21 : decode cX2_isFree 21 = .ok (.getfield 37, 3) := by decide +kernel
theorem dX2_isFree_24 : decode cX2_isFree 24 = .ok (.iload_n 2, 1) := by decide +kernel
theorem dX2_isFree_25 : decode cX2_isFree 25 = .ok (.iaload, 1) := by decide +kernel
theorem dX2_isFree_26 : decode cX2_isFree 26 = .ok (.iload_n 1, 1) := by decide +kernel
theorem dX2_isFree_27 : decode cX2_isFree 27 = .ok (.iushr, 1) := by decide +kernel
theorem dX2_isFree_28 : decode cX2_isFree 28 = .ok (.iconst 1, 1) := by decide +kernel
theorem dX2_isFree_29 : decode cX2_isFree 29 = .ok (.iand, 1) := by decide +kernel
theorem dX2_isFree_30 : decode cX2_isFree 30 = .ok (.ifCond .ne 7, 3) := by decide +kernel
theorem dX2_isFree_33 : decode cX2_isFree 33 = .ok (.iconst 1, 1) := by decide +kernel
theorem dX2_isFree_34 : decode cX2_isFree 34 = .ok (.goto 4, 3) := by decide +kernel
theorem dX2_isFree_37 : decode cX2_isFree 37 = .ok (.iconst 0, 1) := by decide +kernel
theorem dX2_isFree_38 : decode cX2_isFree 38 = .ok (.ireturn, 1) := by decide +kernel
theorem dX2_cover_0 : decode cX2_cover 0 = .ok (.iload_n 1, 1) := by decide +kernel
theorem dX2_cover_1 : decode cX2_cover 1 = .ok (.iload_n 2, 1) := by decide +kernel
theorem dX2_cover_2 : decode cX2_cover 2 = .ok (.invokestatic 105, 3) := by decide +kernel
theorem dX2_cover_5 : decode cX2_cover 5 = .ok (.ifCond .eq 15, 3) := by decide +kernel
theorem dX2_cover_8 : decode cX2_cover 8 = .ok (.aload_n 0, 1) := by decide +kernel
theorem dX2_cover_9 : decode cX2_cover 9 = .ok (.getfield 37, 3) := by decide +kernel
theorem dX2_cover_12 : decode cX2_cover 12 = .ok (.iload_n 2, 1) := by decide +kernel
theorem dX2_cover_13 : decode cX2_cover 13 = .ok (.dup2, 1) := by decide +kernel
theorem dX2_cover_14 : decode cX2_cover 14 = .ok (.iaload, 1) := by decide +kernel
theorem dX2_cover_15 : decode cX2_cover 15 = .ok (.iconst 1, 1) := by decide +kernel
theorem dX2_cover_16 : decode cX2_cover 16 = .ok (.iload_n 1, 1) := by decide +kernel
theorem dX2_cover_17 : decode cX2_cover 17 = .ok (.ishl, 1) := by decide +kernel
theorem dX2_cover_18 : decode cX2_cover 18 = .ok (.ior, 1) := by decide +kernel
theorem dX2_cover_19 : decode cX2_cover 19 = .ok (.iastore, 1) := by decide +kernel
theorem dX2_cover_20 : decode cX2_cover 20 = .ok (.return_, 1) := by decide +kernel
theorem dX3_init_0 : decode cX3_init 0 = .ok (.aload_n 0, 1) := by decide +kernel
theorem dX3_init_1 : decode cX3_init 1 = .ok (.invokespecial 1, 3) := by decide +kernel
theorem dX3_init_4 : decode cX3_init 4 = .ok (.aload_n 0, 1) := by decide +kernel
theorem dX3_init_5 : decode cX3_init 5 = .ok (.new 7, 3) := by decide +kernel
theorem dX3_init_8 : decode cX3_init 8 = .ok (.dup, 1) := by decide +kernel
theorem dX3_init_9 : decode cX3_init 9 = .ok (.invokespecial 9, 3) := by decide +kernel
theorem dX3_init_12 : decode cX3_init 12 = .ok (.putfield 10, 3) := by decide +kernel
theorem dX3_init_15 : decode cX3_init 15 = .ok (.return_, 1) := by decide +kernel
theorem dX3_isFull_0 : decode cX3_isFull 0 = .ok (.aload_n 0, 1) := by decide +kernel
theorem dX3_isFull_1 : decode cX3_isFull 1 = .ok (.getfield 16, 3) := by decide +kernel
theorem dX3_isFull_4 : decode cX3_isFull 4 = .ok (.ireturn, 1) := by decide +kernel
theorem dX3_becomeEmpty_0 : decode cX3_becomeEmpty 0 = .ok (.aload_n 0, 1) := by decide +kernel
theorem dX3_becomeEmpty_1 : decode cX3_becomeEmpty 1 = .ok (.iconst 0, 1) := by decide +kernel
theorem dX3_becomeEmpty_2 : decode cX3_becomeEmpty 2 = .ok (.putfield 16, 3) := by decide +kernel
theorem dX3_becomeEmpty_5 : decode cX3_becomeEmpty 5 = .ok (.return_, 1) := by decide +kernel
theorem dX3_keep_0 : decode cX3_keep 0 = .ok (.aload_n 0, 1) := by decide +kernel
theorem dX3_keep_1 : decode cX3_keep 1 = .ok (.getfield 10, 3) := by decide +kernel
theorem dX3_keep_4 : decode cX3_keep 4 = .ok (.aload_n 1, 1) := by decide +kernel
theorem dX3_keep_5 : decode cX3_keep 5 = .ok (.invokevirtual 20, 3) := by decide +kernel
theorem dX3_keep_8 : decode cX3_keep 8 = .ok (.aload_n 0, 1) := by decide +kernel
theorem dX3_keep_9 : decode cX3_keep 9 = .ok (.iconst 1, 1) := by decide +kernel
theorem dX3_keep_10 : decode cX3_keep 10 = .ok (.putfield 16, 3) := by decide +kernel
theorem dX3_keep_13 : decode cX3_keep 13 = .ok (.return_, 1) := by decide +kernel
theorem dX3_giveBack_0 : decode cX3_giveBack 0 = .ok (.aload_n 1, 1) := by decide +kernel
theorem dX3_giveBack_1 : decode cX3_giveBack 1 = .ok (.aload_n 0, 1) := by decide +kernel
theorem dX3_giveBack_2 : decode cX3_giveBack 2 = .ok (.getfield 10, 3) := by decide +kernel
theorem dX3_giveBack_5 : decode cX3_giveBack 5 = .ok (.invokevirtual 20, 3) := by decide +kernel
theorem dX3_giveBack_8 : decode cX3_giveBack 8 = .ok (.return_, 1) := by decide +kernel
theorem dX4_init_0 : decode cX4_init 0 = .ok (.aload_n 0, 1) := by decide +kernel
theorem dX4_init_1 : decode cX4_init 1 = .ok (.invokespecial 3, 3) := by decide +kernel
theorem dX4_init_4 : decode cX4_init 4 = .ok (.aload_n 0, 1) := by decide +kernel
theorem dX4_init_5 : decode cX4_init 5 = .ok (.bipush 120, 2) := by decide +kernel
theorem dX4_init_7 : decode cX4_init 7 = .ok (.newarray .int, 2) := by decide +kernel
theorem dX4_init_9 : decode cX4_init 9 = .ok (.putfield 11, 3) := by decide +kernel
theorem dX4_init_12 : decode cX4_init 12 = .ok (.return_, 1) := by decide +kernel
theorem dX4_isFull_0 : decode cX4_isFull 0 = .ok (.aload_n 0, 1) := by decide +kernel
theorem dX4_isFull_1 : decode cX4_isFull 1 = .ok (.getfield 15, 3) := by decide +kernel
theorem dX4_isFull_4 : decode cX4_isFull 4 = .ok (.bipush 120, 2) := by decide +kernel
theorem dX4_isFull_6 : decode cX4_isFull 6 = .ok (.if_icmp .lt 7, 3) := by decide +kernel
theorem dX4_isFull_9 : decode cX4_isFull 9 = .ok (.iconst 1, 1) := by decide +kernel
theorem dX4_isFull_10 : decode cX4_isFull 10 = .ok (.goto 4, 3) := by decide +kernel
theorem dX4_isFull_13 : decode cX4_isFull 13 = .ok (.iconst 0, 1) := by decide +kernel
theorem dX4_isFull_14 : decode cX4_isFull 14 = .ok (.ireturn, 1) := by decide +kernel
theorem dX4_size_0 : decode cX4_size 0 = .ok (.aload_n 0, 1) := by decide +kernel
theorem dX4_size_1 : decode cX4_size 1 = .ok (.getfield 15, 3) := by decide +kernel
theorem dX4_size_4 : decode cX4_size 4 = .ok (.ireturn, 1) := by decide +kernel
theorem dX4_add_0 : decode cX4_add 0 = .ok (.aload_n 0, 1) := by decide +kernel
theorem dX4_add_1 : decode cX4_add 1 = .ok (.getfield 15, 3) := by decide +kernel
theorem dX4_add_4 : decode cX4_add 4 = .ok (.ifCond .lt 32, 3) := by decide +kernel
theorem dX4_add_7 : decode cX4_add 7 = .ok (.aload_n 0, 1) := by decide +kernel
theorem dX4_add_8 : decode cX4_add 8 = .ok (.getfield 15, 3) := by decide +kernel
theorem dX4_add_11 : decode cX4_add 11 = .ok (.bipush 120, 2) := by decide +kernel
theorem dX4_add_13 : decode cX4_add 13 = .ok (.if_icmp .ge 23, 3) := by decide +kernel
theorem dX4_add_16 : decode cX4_add 16 = .ok (.aload_n 0, 1) := by decide +kernel
theorem dX4_add_17 : decode cX4_add 17 = .ok (.getfield 11, 3) := by decide +kernel
theorem dX4_add_20 : decode cX4_add 20 = .ok (.aload_n 0, 1) := by decide +kernel
theorem dX4_add_21 : decode cX4_add 21 = .ok (.getfield 15, 3) := by decide +kernel
theorem dX4_add_24 : decode cX4_add 24 = .ok (.iload_n 1, 1) := by decide +kernel
theorem dX4_add_25 : decode cX4_add 25 = .ok (.iastore, 1) := by decide +kernel
theorem dX4_add_26 : decode cX4_add 26 = .ok (.aload_n 0, 1) := by decide +kernel
theorem dX4_add_27 : decode cX4_add 27 = .ok (.dup, 1) := by decide +kernel
theorem dX4_add_28 : decode cX4_add 28 = .ok (.getfield 15, 3) := by decide +kernel
theorem dX4_add_31 : decode cX4_add 31 = .ok (.iconst 1, 1) := by decide +kernel
theorem dX4_add_32 : decode cX4_add 32 = .ok (.iadd, 1) := by decide +kernel
theorem dX4_add_33 : decode cX4_add 33 = .ok (.putfield 15, 3) := by decide +kernel
theorem dX4_add_36 : decode cX4_add 36 = .ok (.aload_n 0, 1) := by decide +kernel
theorem dX4_add_37 : decode cX4_add 37 = .ok (.getfield 15, 3) := by decide +kernel
theorem dX4_add_40 : decode cX4_add 40 = .ok (.ireturn, 1) := by decide +kernel
theorem dX4_signAt_0 : decode cX4_signAt 0 = .ok (.iload_n 1, 1) := by decide +kernel
theorem dX4_signAt_1 : decode cX4_signAt 1 = .ok (.ifCond .lt 26, 3) := by decide +kernel
theorem dX4_signAt_4 : decode cX4_signAt 4 = .ok (.iload_n 1, 1) := by decide +kernel
theorem dX4_signAt_5 : decode cX4_signAt 5 = .ok (.aload_n 0, 1) := by decide +kernel
theorem dX4_signAt_6 : decode cX4_signAt 6 = .ok (.getfield 15, 3) := by decide +kernel
theorem dX4_signAt_9 : decode cX4_signAt 9 = .ok (.if_icmp .ge 18, 3) := by decide +kernel
theorem dX4_signAt_12 : decode cX4_signAt 12 = .ok (.iload_n 1, 1) := by decide +kernel
theorem dX4_signAt_13 : decode cX4_signAt 13 = .ok (.bipush 120, 2) := by decide +kernel
theorem dX4_signAt_15 : decode cX4_signAt 15 = .ok (.if_icmp .ge 12, 3) := by decide +kernel
theorem dX4_signAt_18 : decode cX4_signAt 18 = .ok (.aload_n 0, 1) := by decide +kernel
theorem dX4_signAt_19 : decode cX4_signAt 19 = .ok (.getfield 11, 3) := by decide +kernel
theorem dX4_signAt_22 : decode cX4_signAt 22 = .ok (.iload_n 1, 1) := by decide +kernel
theorem dX4_signAt_23 : decode cX4_signAt 23 = .ok (.iaload, 1) := by decide +kernel
theorem dX4_signAt_24 : decode cX4_signAt 24 = .ok (.goto 4, 3) := by decide +kernel
theorem dX4_signAt_27 : decode cX4_signAt 27 = .ok (.iconst 0, 1) := by decide +kernel
theorem dX4_signAt_28 : decode cX4_signAt 28 = .ok (.ireturn, 1) := by decide +kernel
theorem dX4_digitAt_0 : decode cX4_digitAt 0 = .ok (.aload_n 0, 1) := by decide +kernel
theorem dX4_digitAt_1 : decode cX4_digitAt 1 = .ok (.iload_n 1, 1) := by decide +kernel
theorem dX4_digitAt_2 : decode cX4_digitAt 2 = .ok (.invokevirtual 19, 3) := by decide +kernel
theorem dX4_digitAt_5 : decode cX4_digitAt 5 = .ok (.bipush 48, 2) := by decide +kernel
theorem dX4_digitAt_7 : decode cX4_digitAt 7 = .ok (.isub, 1) := by decide +kernel
theorem dX4_digitAt_8 : decode cX4_digitAt 8 = .ok (.ireturn, 1) := by decide +kernel
theorem dX4_numberAt_0 : decode cX4_numberAt 0 = .ok (.bipush 10, 2) := by decide +kernel
theorem dX4_numberAt_2 : decode cX4_numberAt 2 = .ok (.aload_n 0, 1) := by decide +kernel
theorem dX4_numberAt_3 : decode cX4_numberAt 3 = .ok (.iload_n 1, 1) := by decide +kernel
theorem dX4_numberAt_4 : decode cX4_numberAt 4 = .ok (.invokevirtual 23, 3) := by decide +kernel
theorem dX4_numberAt_7 : decode cX4_numberAt 7 = .ok (.imul, 1) := by decide +kernel
theorem dX4_numberAt_8 : decode cX4_numberAt 8 = .ok (.aload_n 0, 1) := by decide +kernel
theorem dX4_numberAt_9 : decode cX4_numberAt 9 = .ok (.iload_n 1, 1) := by decide +kernel
theorem dX4_numberAt_10 : decode cX4_numberAt 10 = .ok (.iconst 1, 1) := by decide +kernel
theorem dX4_numberAt_11 : decode cX4_numberAt 11 = .ok (.iadd, 1) := by decide +kernel
theorem dX4_numberAt_12 : decode cX4_numberAt 12 = .ok (.invokevirtual 23, 3) := by decide +kernel
theorem dX4_numberAt_15 : decode cX4_numberAt 15 = .ok (.iadd, 1) := by decide +kernel
theorem dX4_numberAt_16 : decode cX4_numberAt 16 = .ok (.ireturn, 1) := by decide +kernel
theorem dX4_firstError_0 : decode cX4_firstError 0 = .ok (.aload_n 0, 1) := by decide +kernel
theorem dX4_firstError_1 : decode cX4_firstError 1 = .ok (.iconst 0, 1) := by decide +kernel
theorem dX4_firstError_2 : decode cX4_firstError 2 = .ok (.invokevirtual 19, 3) := by decide +kernel
theorem dX4_firstError_5 : decode cX4_firstError 5 = .ok (.bipush 78, 2) := by decide +kernel
theorem dX4_firstError_7 : decode cX4_firstError 7 = .ok (.if_icmp .eq 5, 3) := by decide +kernel
theorem dX4_firstError_10 : decode cX4_firstError 10 = .ok (.iconst 0, 1) := by decide +kernel
theorem dX4_firstError_11 : decode cX4_firstError 11 = .ok (.ireturn, 1) := by decide +kernel
theorem dX4_firstError_12 : decode cX4_firstError 12 = .ok (.iconst 1, 1) := by decide +kernel
theorem dX4_firstError_13 : decode cX4_firstError 13 = .ok (.istore_n 1, 1) := by decide +kernel
theorem dX4_firstError_14 : decode cX4_firstError 14 = .ok (.iconst 1, 1) := by decide +kernel
theorem dX4_firstError_15 : decode cX4_firstError 15 = .ok (.istore_n 2, 1) := by decide +kernel
theorem dX4_firstError_16 : decode cX4_firstError 16 = .ok (.iload_n 2, 1) := by decide +kernel
theorem dX4_firstError_17 : decode cX4_firstError 17 = .ok (.aload_n 0, 1) := by decide +kernel
theorem dX4_firstError_18 : decode cX4_firstError 18 = .ok (.getfield 15, 3) := by decide +kernel
theorem dX4_firstError_21 : decode cX4_firstError 21 = .ok (.if_icmp .ge 33, 3) := by decide +kernel
theorem dX4_firstError_24 : decode cX4_firstError 24 = .ok (.aload_n 0, 1) := by decide +kernel
theorem dX4_firstError_25 : decode cX4_firstError 25 = .ok (.iload_n 1, 1) := by decide +kernel
theorem dX4_firstError_26 : decode cX4_firstError 26 = .ok (.iload_n 2, 1) := by decide +kernel
theorem dX4_firstError_27 : decode cX4_firstError 27 = .ok (.invokevirtual 26, 3) := by decide +kernel
theorem dX4_firstError_30 : decode cX4_firstError 30 = .ok (.ifCond .ne 5, 3) := by decide +kernel
theorem dX4_firstError_33 : decode cX4_firstError 33 = .ok (.iload_n 2, 1) := by decide +kernel
theorem dX4_firstError_34 : decode cX4_firstError 34 = .ok (.ireturn, 1) := by decide +kernel
theorem dX4_firstError_35 : decode cX4_firstError 35 = .ok (.aload_n 0, 1) := by decide +kernel
theorem dX4_firstError_36 : decode cX4_firstError 36 = .ok (.iload_n 1, 1) := by decide +kernel
theorem dX4_firstError_37 : decode cX4_firstError 37 = .ok (.iload_n 2, 1) := by decide +kernel
theorem dX4_firstError_38 : decode cX4_firstError 38 = .ok (.invokevirtual 30, 3) := by decide +kernel
theorem dX4_firstError_41 : decode cX4_firstError 41 = .ok (.ifCond .eq 7, 3) := by decide +kernel
theorem dX4_firstError_44 : decode cX4_firstError 44 = .ok (.iload_n 2, 1) := by decide +kernel
theorem dX4_firstError_45 : decode cX4_firstError 45 = .ok (.iconst 1, 1) := by decide +kernel
theorem dX4_firstError_46 : decode cX4_firstError 46 = .ok (.iadd, 1) := by decide +kernel
theorem dX4_firstError_47 : decode cX4_firstError 47 = .ok (.istore_n 1, 1) := by decide +kernel
theorem dX4_firstError_48 : decode cX4_firstError 48 = .ok (.iinc 2 1, 3) := by decide +kernel
theorem dX4_firstError_51 : decode cX4_firstError 51 = .ok (.goto (-35), 3) := by decide +kernel
theorem dX4_firstError_54 : decode cX4_firstError 54 = .ok (.iload_n 1, 1) := by decide +kernel
theorem dX4_firstError_55 : decode cX4_firstError 55 = .ok (.aload_n 0, 1) := by decide +kernel
theorem dX4_firstError_56 : decode cX4_firstError 56 = .ok (.getfield 15, 3) := by decide +kernel
theorem dX4_firstError_59 : decode cX4_firstError 59 = .ok (.if_icmp .ne 7, 3) := by decide +kernel
theorem dX4_firstError_62 : decode cX4_firstError 62 = .ok (.iconst (-1), 1) := by decide +kernel
theorem dX4_firstError_63 : decode cX4_firstError 63 = .ok (.goto 7, 3) := by decide +kernel
theorem dX4_firstError_66 : decode cX4_firstError 66 = .ok (.aload_n 0, 1) := by decide +kernel
theorem dX4_firstError_67 : decode cX4_firstError 67 = .ok (.getfield 15, 3) := by decide +kernel
theorem dX4_firstError_70 : decode cX4_firstError 70 = .ok (.ireturn, 1) := by decide +kernel
theorem dX4_isEndOfCommand_0 : decode cX4_isEndOfCommand 0 = .ok (.iload_n 2, 1) := by decide +kernel
theorem dX4_isEndOfCommand_1 : decode cX4_isEndOfCommand 1 = .ok (.iload_n 1, 1) := by decide +kernel
theorem dX4_isEndOfCommand_2 : decode cX4_isEndOfCommand 2 = .ok (.isub, 1) := by decide +kernel
theorem dX4_isEndOfCommand_3 : decode cX4_isEndOfCommand 3 = .ok (.iconst 1, 1) := by decide +kernel
theorem dX4_isEndOfCommand_4 : decode cX4_isEndOfCommand 4 = .ok (.iadd, 1) := by decide +kernel
theorem dX4_isEndOfCommand_5 : decode cX4_isEndOfCommand 5 = .ok (.aload_n 0, 1) := by decide +kernel
theorem dX4_isEndOfCommand_6 : decode cX4_isEndOfCommand 6 = .ok (.iload_n 1, 1) := by decide +kernel
theorem dX4_isEndOfCommand_7 : decode cX4_isEndOfCommand 7 = .ok (.invokevirtual 19, 3) := by decide +kernel
theorem dX4_isEndOfCommand_10 : decode cX4_isEndOfCommand 10 = .ok (.invokestatic 33, 3) := by decide +kernel
theorem dX4_isEndOfCommand_13 : decode cX4_isEndOfCommand 13 = .ok (.if_icmp .ne 7, 3) := by decide +kernel
theorem dX4_isEndOfCommand_16 : decode cX4_isEndOfCommand 16 = .ok (.iconst 1, 1) := by decide +kernel
theorem dX4_isEndOfCommand_17 : decode cX4_isEndOfCommand 17 = .ok (.goto 4, 3) := by decide +kernel
theorem dX4_isEndOfCommand_20 : decode cX4_isEndOfCommand 20 = .ok (.iconst 0, 1) := by decide +kernel
theorem dX4_isEndOfCommand_21 : decode cX4_isEndOfCommand 21 = .ok (.ireturn, 1) := by decide +kernel
theorem dX4_lengthOfCommand_0 : decode cX4_lengthOfCommand 0 = .ok (.iload_n 0, 1) := by decide +kernel
theorem dX4_lengthOfCommand_1 : decode cX4_lengthOfCommand 1 = .ok (.lookupswitch 55 #[(98, 53), (100, 51), (112, 51), (115, 53), (119, 53)], 51) := by decide +kernel
theorem dX4_lengthOfCommand_52 : decode cX4_lengthOfCommand 52 = .ok (.iconst 4, 1) := by decide +kernel
theorem dX4_lengthOfCommand_53 : decode cX4_lengthOfCommand 53 = .ok (.ireturn, 1) := by decide +kernel
theorem dX4_lengthOfCommand_54 : decode cX4_lengthOfCommand 54 = .ok (.iconst 1, 1) := by decide +kernel
theorem dX4_lengthOfCommand_55 : decode cX4_lengthOfCommand 55 = .ok (.ireturn, 1) := by decide +kernel
theorem dX4_lengthOfCommand_56 : decode cX4_lengthOfCommand 56 = .ok (.iconst 0, 1) := by decide +kernel
theorem dX4_lengthOfCommand_57 : decode cX4_lengthOfCommand 57 = .ok (.ireturn, 1) := by decide +kernel
theorem dX4_isAllowed_0 : decode cX4_isAllowed 0 = .ok (.iload_n 2, 1) := by decide +kernel
theorem dX4_isAllowed_1 : decode cX4_isAllowed 1 = .ok (.iload_n 1, 1) := by decide +kernel
theorem dX4_isAllowed_2 : decode cX4_isAllowed 2 = .ok (.if_icmp .ne 20, 3) := by decide +kernel
theorem dX4_isAllowed_5 : decode cX4_isAllowed 5 = .ok (.aload_n 0, 1) := by decide +kernel
theorem dX4_isAllowed_6 : decode cX4_isAllowed 6 = .ok (.iload_n 2, 1) := by decide +kernel
theorem dX4_isAllowed_7 : decode cX4_isAllowed 7 = .ok (.invokevirtual 19, 3) := by decide +kernel
theorem dX4_isAllowed_10 : decode cX4_isAllowed 10 = .ok (.invokestatic 33, 3) := by decide +kernel
theorem dX4_isAllowed_13 : decode cX4_isAllowed 13 = .ok (.ifCond .le 7, 3) := by decide +kernel
theorem dX4_isAllowed_16 : decode cX4_isAllowed 16 = .ok (.iconst 1, 1) := by decide +kernel
theorem dX4_isAllowed_17 : decode cX4_isAllowed 17 = .ok (.goto 4, 3) := by decide +kernel
theorem dX4_isAllowed_20 : decode cX4_isAllowed 20 = .ok (.iconst 0, 1) := by decide +kernel
theorem dX4_isAllowed_21 : decode cX4_isAllowed 21 = .ok (.ireturn, 1) := by decide +kernel
theorem dX4_isAllowed_22 : decode cX4_isAllowed 22 = .ok (.aload_n 0, 1) := by decide +kernel
theorem dX4_isAllowed_23 : decode cX4_isAllowed 23 = .ok (.iload_n 1, 1) := by decide +kernel
theorem dX4_isAllowed_24 : decode cX4_isAllowed 24 = .ok (.invokevirtual 19, 3) := by decide +kernel
theorem dX4_isAllowed_27 : decode cX4_isAllowed 27 = .ok (.bipush 100, 2) := by decide +kernel
theorem dX4_isAllowed_29 : decode cX4_isAllowed 29 = .ok (.if_icmp .ne 29, 3) := by decide +kernel
theorem dX4_isAllowed_32 : decode cX4_isAllowed 32 = .ok (.iload_n 2, 1) := by decide +kernel
theorem dX4_isAllowed_33 : decode cX4_isAllowed 33 = .ok (.iload_n 1, 1) := by decide +kernel
theorem dX4_isAllowed_34 : decode cX4_isAllowed 34 = .ok (.iconst 1, 1) := by decide +kernel
theorem dX4_isAllowed_35 : decode cX4_isAllowed 35 = .ok (.iadd, 1) := by decide +kernel
theorem dX4_isAllowed_36 : decode cX4_isAllowed 36 = .ok (.if_icmp .ne 13, 3) := by decide +kernel
theorem dX4_isAllowed_39 : decode cX4_isAllowed 39 = .ok (.aload_n 0, 1) := by decide +kernel
theorem dX4_isAllowed_40 : decode cX4_isAllowed 40 = .ok (.iload_n 2, 1) := by decide +kernel
theorem dX4_isAllowed_41 : decode cX4_isAllowed 41 = .ok (.iconst 2, 1) := by decide +kernel
theorem dX4_isAllowed_42 : decode cX4_isAllowed 42 = .ok (.iconst 4, 1) := by decide +kernel
theorem dX4_isAllowed_43 : decode cX4_isAllowed 43 = .ok (.invokevirtual 36, 3) := by decide +kernel
theorem dX4_isAllowed_46 : decode cX4_isAllowed 46 = .ok (.goto 11, 3) := by decide +kernel
theorem dX4_isAllowed_49 : decode cX4_isAllowed 49 = .ok (.aload_n 0, 1) := by decide +kernel
theorem dX4_isAllowed_50 : decode cX4_isAllowed 50 = .ok (.iload_n 2, 1) := by decide +kernel
theorem dX4_isAllowed_51 : decode cX4_isAllowed 51 = .ok (.iconst 0, 1) := by decide +kernel
theorem dX4_isAllowed_52 : decode cX4_isAllowed 52 = .ok (.bipush 9, 2) := by decide +kernel
theorem dX4_isAllowed_54 : decode cX4_isAllowed 54 = .ok (.invokevirtual 36, 3) := by decide +kernel
theorem dX4_isAllowed_57 : decode cX4_isAllowed 57 = .ok (.ireturn, 1) := by decide +kernel
theorem dX4_isAllowed_58 : decode cX4_isAllowed 58 = .ok (.iload_n 2, 1) := by decide +kernel
theorem dX4_isAllowed_59 : decode cX4_isAllowed 59 = .ok (.iload_n 1, 1) := by decide +kernel
theorem dX4_isAllowed_60 : decode cX4_isAllowed 60 = .ok (.iconst 1, 1) := by decide +kernel
theorem dX4_isAllowed_61 : decode cX4_isAllowed 61 = .ok (.iadd, 1) := by decide +kernel
theorem dX4_isAllowed_62 : decode cX4_isAllowed 62 = .ok (.if_icmp .ne 11, 3) := by decide +kernel
theorem dX4_isAllowed_65 : decode cX4_isAllowed 65 = .ok (.aload_n 0, 1) := by decide +kernel
theorem dX4_isAllowed_66 : decode cX4_isAllowed 66 = .ok (.iload_n 2, 1) := by decide +kernel
theorem dX4_isAllowed_67 : decode cX4_isAllowed 67 = .ok (.iconst 0, 1) := by decide +kernel
theorem dX4_isAllowed_68 : decode cX4_isAllowed 68 = .ok (.iconst 2, 1) := by decide +kernel
theorem dX4_isAllowed_69 : decode cX4_isAllowed 69 = .ok (.invokevirtual 36, 3) := by decide +kernel
theorem dX4_isAllowed_72 : decode cX4_isAllowed 72 = .ok (.ireturn, 1) := by decide +kernel
theorem dX4_isAllowed_73 : decode cX4_isAllowed 73 = .ok (.iload_n 2, 1) := by decide +kernel
theorem dX4_isAllowed_74 : decode cX4_isAllowed 74 = .ok (.iload_n 1, 1) := by decide +kernel
theorem dX4_isAllowed_75 : decode cX4_isAllowed 75 = .ok (.iconst 2, 1) := by decide +kernel
theorem dX4_isAllowed_76 : decode cX4_isAllowed 76 = .ok (.iadd, 1) := by decide +kernel
theorem dX4_isAllowed_77 : decode cX4_isAllowed 77 = .ok (.if_icmp .ne 29, 3) := by decide +kernel
theorem dX4_isAllowed_80 : decode cX4_isAllowed 80 = .ok (.aload_n 0, 1) := by decide +kernel
theorem dX4_isAllowed_81 : decode cX4_isAllowed 81 = .ok (.iload_n 2, 1) := by decide +kernel
theorem dX4_isAllowed_82 : decode cX4_isAllowed 82 = .ok (.iconst 0, 1) := by decide +kernel
theorem dX4_isAllowed_83 : decode cX4_isAllowed 83 = .ok (.aload_n 0, 1) := by decide +kernel
theorem dX4_isAllowed_84 : decode cX4_isAllowed 84 = .ok (.iload_n 1, 1) := by decide +kernel
theorem dX4_isAllowed_85 : decode cX4_isAllowed 85 = .ok (.iconst 1, 1) := by decide +kernel
theorem dX4_isAllowed_86 : decode cX4_isAllowed 86 = .ok (.iadd, 1) := by decide +kernel
theorem dX4_isAllowed_87 : decode cX4_isAllowed 87 = .ok (.invokevirtual 19, 3) := by decide +kernel
theorem dX4_isAllowed_90 : decode cX4_isAllowed 90 = .ok (.bipush 50, 2) := by decide +kernel
theorem dX4_isAllowed_92 : decode cX4_isAllowed 92 = .ok (.if_icmp .ne 8, 3) := by decide +kernel
theorem dX4_isAllowed_95 : decode cX4_isAllowed 95 = .ok (.bipush 7, 2) := by decide +kernel
theorem dX4_isAllowed_97 : decode cX4_isAllowed 97 = .ok (.goto 5, 3) := by decide +kernel
theorem dX4_isAllowed_100 : decode cX4_isAllowed 100 = .ok (.bipush 9, 2) := by decide +kernel
theorem dX4_isAllowed_102 : decode cX4_isAllowed 102 = .ok (.invokevirtual 36, 3) := by decide +kernel
theorem dX4_isAllowed_105 : decode cX4_isAllowed 105 = .ok (.ireturn, 1) := by decide +kernel
theorem dX4_isAllowed_106 : decode cX4_isAllowed 106 = .ok (.aload_n 0, 1) := by decide +kernel
theorem dX4_isAllowed_107 : decode cX4_isAllowed 107 = .ok (.iload_n 2, 1) := by decide +kernel
theorem dX4_isAllowed_108 : decode cX4_isAllowed 108 = .ok (.invokevirtual 19, 3) := by decide +kernel
theorem dX4_isAllowed_111 : decode cX4_isAllowed 111 = .ok (.bipush 114, 2) := by decide +kernel
theorem dX4_isAllowed_113 : decode cX4_isAllowed 113 = .ok (.if_icmp .eq 13, 3) := by decide +kernel
theorem dX4_isAllowed_116 : decode cX4_isAllowed 116 = .ok (.aload_n 0, 1) := by decide +kernel
theorem dX4_isAllowed_117 : decode cX4_isAllowed 117 = .ok (.iload_n 2, 1) := by decide +kernel
theorem dX4_isAllowed_118 : decode cX4_isAllowed 118 = .ok (.invokevirtual 19, 3) := by decide +kernel
theorem dX4_isAllowed_121 : decode cX4_isAllowed 121 = .ok (.bipush 108, 2) := by decide +kernel
theorem dX4_isAllowed_123 : decode cX4_isAllowed 123 = .ok (.if_icmp .ne 7, 3) := by decide +kernel
theorem dX4_isAllowed_126 : decode cX4_isAllowed 126 = .ok (.iconst 1, 1) := by decide +kernel
theorem dX4_isAllowed_127 : decode cX4_isAllowed 127 = .ok (.goto 4, 3) := by decide +kernel
theorem dX4_isAllowed_130 : decode cX4_isAllowed 130 = .ok (.iconst 0, 1) := by decide +kernel
theorem dX4_isAllowed_131 : decode cX4_isAllowed 131 = .ok (.ireturn, 1) := by decide +kernel
theorem dX4_isDigit_0 : decode cX4_isDigit 0 = .ok (.aload_n 0, 1) := by decide +kernel
theorem dX4_isDigit_1 : decode cX4_isDigit 1 = .ok (.iload_n 1, 1) := by decide +kernel
theorem dX4_isDigit_2 : decode cX4_isDigit 2 = .ok (.invokevirtual 23, 3) := by decide +kernel
theorem dX4_isDigit_5 : decode cX4_isDigit 5 = .ok (.iload_n 2, 1) := by decide +kernel
theorem dX4_isDigit_6 : decode cX4_isDigit 6 = .ok (.if_icmp .lt 16, 3) := by decide +kernel
theorem dX4_isDigit_9 : decode cX4_isDigit 9 = .ok (.aload_n 0, 1) := by decide +kernel
theorem dX4_isDigit_10 : decode cX4_isDigit 10 = .ok (.iload_n 1, 1) := by decide +kernel
theorem dX4_isDigit_11 : decode cX4_isDigit 11 = .ok (.invokevirtual 23, 3) := by decide +kernel
theorem dX4_isDigit_14 : decode cX4_isDigit 14 = .ok (.iload_n 3, 1) := by decide +kernel
theorem dX4_isDigit_15 : decode cX4_isDigit 15 = .ok (.if_icmp .gt 7, 3) := by decide +kernel
theorem dX4_isDigit_18 : decode cX4_isDigit 18 = .ok (.iconst 1, 1) := by decide +kernel
theorem dX4_isDigit_19 : decode cX4_isDigit 19 = .ok (.goto 4, 3) := by decide +kernel
theorem dX4_isDigit_22 : decode cX4_isDigit 22 = .ok (.iconst 0, 1) := by decide +kernel
theorem dX4_isDigit_23 : decode cX4_isDigit 23 = .ok (.ireturn, 1) := by decide +kernel
theorem dX5_init_0 : decode cX5_init 0 = .ok (.aload_n 0, 1) := by decide +kernel
theorem dX5_init_1 : decode cX5_init 1 = .ok (.invokespecial 1, 3) := by decide +kernel
theorem dX5_init_4 : decode cX5_init 4 = .ok (.aload_n 0, 1) := by decide +kernel
theorem dX5_init_5 : decode cX5_init 5 = .ok (.new 7, 3) := by decide +kernel
theorem dX5_init_8 : decode cX5_init 8 = .ok (.dup, 1) := by decide +kernel
theorem dX5_init_9 : decode cX5_init 9 = .ok (.invokespecial 9, 3) := by decide +kernel
theorem dX5_init_12 : decode cX5_init 12 = .ok (.putfield 10, 3) := by decide +kernel
theorem dX5_init_15 : decode cX5_init 15 = .ok (.aload_n 0, 1) := by decide +kernel
theorem dX5_init_16 : decode cX5_init 16 = .ok (.new 16, 3) := by decide +kernel
theorem dX5_init_19 : decode cX5_init 19 = .ok (.dup, 1) := by decide +kernel
theorem dX5_init_20 : decode cX5_init 20 = .ok (.invokespecial 18, 3) := by decide +kernel
theorem dX5_init_23 : decode cX5_init 23 = .ok (.putfield 19, 3) := by decide +kernel
theorem dX5_init_26 : decode cX5_init 26 = .ok (.aload_n 0, 1) := by decide +kernel
theorem dX5_init_27 : decode cX5_init 27 = .ok (.new 16, 3) := by decide +kernel
theorem dX5_init_30 : decode cX5_init 30 = .ok (.dup, 1) := by decide +kernel
theorem dX5_init_31 : decode cX5_init 31 = .ok (.invokespecial 18, 3) := by decide +kernel
theorem dX5_init_34 : decode cX5_init 34 = .ok (.putfield 23, 3) := by decide +kernel
theorem dX5_init_37 : decode cX5_init 37 = .ok (.aload_n 0, 1) := by decide +kernel
theorem dX5_init_38 : decode cX5_init 38 = .ok (.new 26, 3) := by decide +kernel
theorem dX5_init_41 : decode cX5_init 41 = .ok (.dup, 1) := by decide +kernel
theorem dX5_init_42 : decode cX5_init 42 = .ok (.invokespecial 28, 3) := by decide +kernel
theorem dX5_init_45 : decode cX5_init 45 = .ok (.putfield 29, 3) := by decide +kernel
theorem dX5_init_48 : decode cX5_init 48 = .ok (.aload_n 0, 1) := by decide +kernel
theorem dX5_init_49 : decode cX5_init 49 = .ok (.new 33, 3) := by decide +kernel
theorem dX5_init_52 : decode cX5_init 52 = .ok (.dup, 1) := by decide +kernel
theorem dX5_init_53 : decode cX5_init 53 = .ok (.invokespecial 35, 3) := by decide +kernel
theorem dX5_init_56 : decode cX5_init 56 = .ok (.putfield 36, 3) := by decide +kernel
theorem dX5_init_59 : decode cX5_init 59 = .ok (.aload_n 0, 1) := by decide +kernel
theorem dX5_init_60 : decode cX5_init 60 = .ok (.new 33, 3) := by decide +kernel
theorem dX5_init_63 : decode cX5_init 63 = .ok (.dup, 1) := by decide +kernel
theorem dX5_init_64 : decode cX5_init 64 = .ok (.invokespecial 35, 3) := by decide +kernel
theorem dX5_init_67 : decode cX5_init 67 = .ok (.putfield 40, 3) := by decide +kernel
theorem dX5_init_70 : decode cX5_init 70 = .ok (.return_, 1) := by decide +kernel
theorem dX5_append_0 : decode cX5_append 0 = .ok (.iload_n 1, 1) := by decide +kernel
theorem dX5_append_1 : decode cX5_append 1 = .ok (.ifCond .lt 10, 3) := by decide +kernel
theorem dX5_append_4 : decode cX5_append 4 = .ok (.iload_n 1, 1) := by decide +kernel
theorem dX5_append_5 : decode cX5_append 5 = .ok (.sipush 255, 3) := by decide +kernel
theorem dX5_append_8 : decode cX5_append 8 = .ok (.if_icmp .le 13, 3) := by decide +kernel
theorem dX5_append_11 : decode cX5_append 11 = .ok (.new 43, 3) := by decide +kernel
theorem dX5_append_14 : decode cX5_append 14 = .ok (.dup, 1) := by decide +kernel
theorem dX5_append_15 : decode cX5_append 15 = .ok (.ldc 45, 2) := by decide +kernel
theorem dX5_append_17 : decode cX5_append 17 = .ok (.invokespecial 47, 3) := by decide +kernel
theorem dX5_append_20 : decode cX5_append 20 = .ok (.athrow, 1) := by decide +kernel
theorem dX5_append_21 : decode cX5_append 21 = .ok (.aload_n 0, 1) := by decide +kernel
theorem dX5_append_22 : decode cX5_append 22 = .ok (.getfield 10, 3) := by decide +kernel
theorem dX5_append_25 : decode cX5_append 25 = .ok (.invokevirtual 50, 3) := by decide +kernel
theorem dX5_append_28 : decode cX5_append 28 = .ok (.ifCond .eq 13, 3) := by decide +kernel
theorem dX5_append_31 : decode cX5_append 31 = .ok (.new 54, 3) := by decide +kernel
theorem dX5_append_34 : decode cX5_append 34 = .ok (.dup, 1) := by decide +kernel
theorem dX5_append_35 : decode cX5_append 35 = .ok (.ldc 56, 2) := by decide +kernel
theorem dX5_append_37 : decode cX5_append 37 = .ok (.invokespecial 58, 3) := by decide +kernel
theorem dX5_append_40 : decode cX5_append 40 = .ok (.athrow, 1) := by decide +kernel
theorem dX5_append_41 : decode cX5_append 41 = .ok (.aload_n 0, 1) := by decide +kernel
theorem dX5_append_42 : decode cX5_append 42 = .ok (.getfield 10, 3) := by decide +kernel
theorem dX5_append_45 : decode cX5_append 45 = .ok (.iload_n 1, 1) := by decide +kernel
theorem dX5_append_46 : decode cX5_append 46 = .ok (.invokevirtual 59, 3) := by decide +kernel
theorem dX5_append_49 : decode cX5_append 49 = .ok (.ireturn, 1) := by decide +kernel
theorem dX5_load_0 : decode cX5_load 0 = .ok (.aload_n 0, 1) := by decide +kernel
theorem dX5_load_1 : decode cX5_load 1 = .ok (.getfield 10, 3) := by decide +kernel
theorem dX5_load_4 : decode cX5_load 4 = .ok (.invokevirtual 67, 3) := by decide +kernel
theorem dX5_load_7 : decode cX5_load 7 = .ok (.iconst (-1), 1) := by decide +kernel
theorem dX5_load_8 : decode cX5_load 8 = .ok (.if_icmp .eq 13, 3) := by decide +kernel
theorem dX5_load_11 : decode cX5_load 11 = .ok (.new 54, 3) := by decide +kernel
theorem dX5_load_14 : decode cX5_load 14 = .ok (.dup, 1) := by decide +kernel
theorem dX5_load_15 : decode cX5_load 15 = .ok (.ldc 70, 2) := by decide +kernel
theorem dX5_load_17 : decode cX5_load 17 = .ok (.invokespecial 58, 3) := by decide +kernel
theorem dX5_load_20 : decode cX5_load 20 = .ok (.athrow, 1) := by decide +kernel
theorem dX5_load_21 : decode cX5_load 21 = .ok (.aload_n 0, 1) := by decide +kernel
theorem dX5_load_22 : decode cX5_load 22 = .ok (.getfield 19, 3) := by decide +kernel
theorem dX5_load_25 : decode cX5_load 25 = .ok (.invokevirtual 72, 3) := by decide +kernel
theorem dX5_load_28 : decode cX5_load 28 = .ok (.aload_n 0, 1) := by decide +kernel
theorem dX5_load_29 : decode cX5_load 29 = .ok (.getfield 29, 3) := by decide +kernel
theorem dX5_load_32 : decode cX5_load 32 = .ok (.invokevirtual 75, 3) := by decide +kernel
theorem dX5_load_35 : decode cX5_load 35 = .ok (.aload_n 0, 1) := by decide +kernel
theorem dX5_load_36 : decode cX5_load 36 = .ok (.getfield 36, 3) := by decide +kernel
theorem dX5_load_39 : decode cX5_load 39 = .ok (.invokevirtual 78, 3) := by decide +kernel
theorem dX5_load_42 : decode cX5_load 42 = .ok (.aload_n 0, 1) := by decide +kernel
theorem dX5_load_43 : decode cX5_load 43 = .ok (.getfield 40, 3) := by decide +kernel
theorem dX5_load_46 : decode cX5_load 46 = .ok (.invokevirtual 78, 3) := by decide +kernel
theorem dX5_load_49 : decode cX5_load 49 = .ok (.aload_n 0, 1) := by decide +kernel
theorem dX5_load_50 : decode cX5_load 50 = .ok (.invokevirtual 80, 3) := by decide +kernel
theorem dX5_load_53 : decode cX5_load 53 = .ok (.ireturn, 1) := by decide +kernel
theorem dX5_doCommandsOfText_0 : decode cX5_doCommandsOfText 0 = .ok (.iconst 0, 1) := by decide +kernel
theorem dX5_doCommandsOfText_1 : decode cX5_doCommandsOfText 1 = .ok (.istore_n 1, 1) := by decide +kernel
theorem dX5_doCommandsOfText_2 : decode cX5_doCommandsOfText 2 = .ok (.iconst 1, 1) := by decide +kernel
theorem dX5_doCommandsOfText_3 : decode cX5_doCommandsOfText 3 = .ok (.istore_n 2, 1) := by decide +kernel
theorem dX5_doCommandsOfText_4 : decode cX5_doCommandsOfText 4 = .ok (.iconst 1, 1) := by decide +kernel
theorem dX5_doCommandsOfText_5 : decode cX5_doCommandsOfText 5 = .ok (.istore_n 3, 1) := by decide +kernel
theorem dX5_doCommandsOfText_6 : decode cX5_doCommandsOfText 6 = .ok (.iload_n 3, 1) := by decide +kernel
theorem dX5_doCommandsOfText_7 : decode cX5_doCommandsOfText 7 = .ok (.aload_n 0, 1) := by decide +kernel
theorem dX5_doCommandsOfText_8 : decode cX5_doCommandsOfText 8 = .ok (.getfield 10, 3) := by decide +kernel
theorem dX5_doCommandsOfText_11 : decode cX5_doCommandsOfText 11 = .ok (.invokevirtual 83, 3) := by decide +kernel
theorem dX5_doCommandsOfText_14 : decode cX5_doCommandsOfText 14 = .ok (.if_icmp .ge 36, 3) := by decide +kernel
theorem dX5_doCommandsOfText_17 : decode cX5_doCommandsOfText 17 = .ok (.aload_n 0, 1) := by decide +kernel
theorem dX5_doCommandsOfText_18 : decode cX5_doCommandsOfText 18 = .ok (.getfield 10, 3) := by decide +kernel
theorem dX5_doCommandsOfText_21 : decode cX5_doCommandsOfText 21 = .ok (.iload_n 2, 1) := by decide +kernel
theorem dX5_doCommandsOfText_22 : decode cX5_doCommandsOfText 22 = .ok (.iload_n 3, 1) := by decide +kernel
theorem dX5_doCommandsOfText_23 : decode cX5_doCommandsOfText 23 = .ok (.invokevirtual 86, 3) := by decide +kernel
theorem dX5_doCommandsOfText_26 : decode cX5_doCommandsOfText 26 = .ok (.ifCond .eq 18, 3) := by decide +kernel
theorem dX5_doCommandsOfText_29 : decode cX5_doCommandsOfText 29 = .ok (.aload_n 0, 1) := by decide +kernel
theorem dX5_doCommandsOfText_30 : decode cX5_doCommandsOfText 30 = .ok (.iload_n 2, 1) := by decide +kernel
theorem dX5_doCommandsOfText_31 : decode cX5_doCommandsOfText 31 = .ok (.invokevirtual 90, 3) := by decide +kernel
theorem dX5_doCommandsOfText_34 : decode cX5_doCommandsOfText 34 = .ok (.ifCond .ne 6, 3) := by decide +kernel
theorem dX5_doCommandsOfText_37 : decode cX5_doCommandsOfText 37 = .ok (.iinc 1 1, 3) := by decide +kernel
theorem dX5_doCommandsOfText_40 : decode cX5_doCommandsOfText 40 = .ok (.iload_n 3, 1) := by decide +kernel
theorem dX5_doCommandsOfText_41 : decode cX5_doCommandsOfText 41 = .ok (.iconst 1, 1) := by decide +kernel
theorem dX5_doCommandsOfText_42 : decode cX5_doCommandsOfText 42 = .ok (.iadd, 1) := by decide +kernel
theorem dX5_doCommandsOfText_43 : decode cX5_doCommandsOfText 43 = .ok (.istore_n 2, 1) := by decide +kernel
theorem dX5_doCommandsOfText_44 : decode cX5_doCommandsOfText 44 = .ok (.iinc 3 1, 3) := by decide +kernel
theorem dX5_doCommandsOfText_47 : decode cX5_doCommandsOfText 47 = .ok (.goto (-41), 3) := by decide +kernel
theorem dX5_doCommandsOfText_50 : decode cX5_doCommandsOfText 50 = .ok (.iload_n 1, 1) := by decide +kernel
theorem dX5_doCommandsOfText_51 : decode cX5_doCommandsOfText 51 = .ok (.ireturn, 1) := by decide +kernel
theorem dX5_doCommandAt_0 : decode cX5_doCommandAt 0 = .ok (.aload_n 0, 1) := by decide +kernel
theorem dX5_doCommandAt_1 : decode cX5_doCommandAt 1 = .ok (.getfield 10, 3) := by decide +kernel
theorem dX5_doCommandAt_4 : decode cX5_doCommandAt 4 = .ok (.iload_n 1, 1) := by decide +kernel
theorem dX5_doCommandAt_5 : decode cX5_doCommandAt 5 = .ok (.invokevirtual 94, 3) := by decide +kernel
theorem dX5_doCommandAt_8 : decode cX5_doCommandAt 8 = .ok (.lookupswitch 145 #[(100, 44), (112, 73), (115, 128), (119, 111)], 44) := by decide +kernel
theorem dX5_doCommandAt_52 : decode cX5_doCommandAt 52 = .ok (.aload_n 0, 1) := by decide +kernel
theorem dX5_doCommandAt_53 : decode cX5_doCommandAt 53 = .ok (.getfield 19, 3) := by decide +kernel
theorem dX5_doCommandAt_56 : decode cX5_doCommandAt 56 = .ok (.aload_n 0, 1) := by decide +kernel
theorem dX5_doCommandAt_57 : decode cX5_doCommandAt 57 = .ok (.getfield 10, 3) := by decide +kernel
theorem dX5_doCommandAt_60 : decode cX5_doCommandAt 60 = .ok (.iload_n 1, 1) := by decide +kernel
theorem dX5_doCommandAt_61 : decode cX5_doCommandAt 61 = .ok (.iconst 1, 1) := by decide +kernel
theorem dX5_doCommandAt_62 : decode cX5_doCommandAt 62 = .ok (.iadd, 1) := by decide +kernel
theorem dX5_doCommandAt_63 : decode cX5_doCommandAt 63 = .ok (.invokevirtual 97, 3) := by decide +kernel
theorem dX5_doCommandAt_66 : decode cX5_doCommandAt 66 = .ok (.aload_n 0, 1) := by decide +kernel
theorem dX5_doCommandAt_67 : decode cX5_doCommandAt 67 = .ok (.getfield 10, 3) := by decide +kernel
theorem dX5_doCommandAt_70 : decode cX5_doCommandAt 70 = .ok (.iload_n 1, 1) := by decide +kernel
theorem dX5_doCommandAt_71 : decode cX5_doCommandAt 71 = .ok (.iconst 2, 1) := by decide +kernel
theorem dX5_doCommandAt_72 : decode cX5_doCommandAt 72 = .ok (.iadd, 1) := by decide +kernel
theorem dX5_doCommandAt_73 : decode cX5_doCommandAt 73 = .ok (.invokevirtual 100, 3) := by decide +kernel
theorem dX5_doCommandAt_76 : decode cX5_doCommandAt 76 = .ok (.i2l, 1) := by decide +kernel
theorem dX5_doCommandAt_77 : decode cX5_doCommandAt 77 = .ok (.invokevirtual 103, 3) := by decide +kernel
theorem dX5_doCommandAt_80 : decode cX5_doCommandAt 80 = .ok (.ireturn, 1) := by decide +kernel
theorem dX5_doCommandAt_81 : decode cX5_doCommandAt 81 = .ok (.aload_n 0, 1) := by decide +kernel
theorem dX5_doCommandAt_82 : decode cX5_doCommandAt 82 = .ok (.getfield 19, 3) := by decide +kernel
theorem dX5_doCommandAt_85 : decode cX5_doCommandAt 85 = .ok (.aload_n 0, 1) := by decide +kernel
theorem dX5_doCommandAt_86 : decode cX5_doCommandAt 86 = .ok (.getfield 10, 3) := by decide +kernel
theorem dX5_doCommandAt_89 : decode cX5_doCommandAt 89 = .ok (.iload_n 1, 1) := by decide +kernel
theorem dX5_doCommandAt_90 : decode cX5_doCommandAt 90 = .ok (.iconst 1, 1) := by decide +kernel
theorem dX5_doCommandAt_91 : decode cX5_doCommandAt 91 = .ok (.iadd, 1) := by decide +kernel
theorem dX5_doCommandAt_92 : decode cX5_doCommandAt 92 = .ok (.invokevirtual 100, 3) := by decide +kernel
theorem dX5_doCommandAt_95 : decode cX5_doCommandAt 95 = .ok (.aload_n 0, 1) := by decide +kernel
theorem dX5_doCommandAt_96 : decode cX5_doCommandAt 96 = .ok (.getfield 10, 3) := by decide +kernel
theorem dX5_doCommandAt_99 : decode cX5_doCommandAt 99 = .ok (.iload_n 1, 1) := by decide +kernel
theorem dX5_doCommandAt_100 : decode cX5_doCommandAt 100 = .ok (.iconst 3, 1) := by decide +kernel
theorem dX5_doCommandAt_101 : decode cX5_doCommandAt 101 = .ok (.iadd, 1) := by decide +kernel
theorem dX5_doCommandAt_102 : decode cX5_doCommandAt 102 = .ok (.invokevirtual 94, 3) := by decide +kernel
theorem dX5_doCommandAt_105 : decode cX5_doCommandAt 105 = .ok (.bipush 108, 2) := by decide +kernel
theorem dX5_doCommandAt_107 : decode cX5_doCommandAt 107 = .ok (.if_icmp .ne 7, 3) := by decide +kernel
theorem dX5_doCommandAt_110 : decode cX5_doCommandAt 110 = .ok (.iconst 1, 1) := by decide +kernel
theorem dX5_doCommandAt_111 : decode cX5_doCommandAt 111 = .ok (.goto 4, 3) := by decide +kernel
theorem dX5_doCommandAt_114 : decode cX5_doCommandAt 114 = .ok (.iconst 0, 1) := by decide +kernel
theorem dX5_doCommandAt_115 : decode cX5_doCommandAt 115 = .ok (.invokevirtual 107, 3) := by decide +kernel
theorem dX5_doCommandAt_118 : decode cX5_doCommandAt 118 = .ok (.ireturn, 1) := by decide +kernel
theorem dX5_doCommandAt_119 : decode cX5_doCommandAt 119 = .ok (.aload_n 0, 1) := by decide +kernel
theorem dX5_doCommandAt_120 : decode cX5_doCommandAt 120 = .ok (.getfield 19, 3) := by decide +kernel
theorem dX5_doCommandAt_123 : decode cX5_doCommandAt 123 = .ok (.invokevirtual 111, 3) := by decide +kernel
theorem dX5_doCommandAt_126 : decode cX5_doCommandAt 126 = .ok (.iconst (-1), 1) := by decide +kernel
theorem dX5_doCommandAt_127 : decode cX5_doCommandAt 127 = .ok (.if_icmp .eq 7, 3) := by decide +kernel
theorem dX5_doCommandAt_130 : decode cX5_doCommandAt 130 = .ok (.iconst 1, 1) := by decide +kernel
theorem dX5_doCommandAt_131 : decode cX5_doCommandAt 131 = .ok (.goto 4, 3) := by decide +kernel
theorem dX5_doCommandAt_134 : decode cX5_doCommandAt 134 = .ok (.iconst 0, 1) := by decide +kernel
theorem dX5_doCommandAt_135 : decode cX5_doCommandAt 135 = .ok (.ireturn, 1) := by decide +kernel
theorem dX5_doCommandAt_136 : decode cX5_doCommandAt 136 = .ok (.aload_n 0, 1) := by decide +kernel
theorem dX5_doCommandAt_137 : decode cX5_doCommandAt 137 = .ok (.getfield 19, 3) := by decide +kernel
theorem dX5_doCommandAt_140 : decode cX5_doCommandAt 140 = .ok (.invokevirtual 114, 3) := by decide +kernel
theorem dX5_doCommandAt_143 : decode cX5_doCommandAt 143 = .ok (.iconst (-1), 1) := by decide +kernel
theorem dX5_doCommandAt_144 : decode cX5_doCommandAt 144 = .ok (.if_icmp .eq 7, 3) := by decide +kernel
theorem dX5_doCommandAt_147 : decode cX5_doCommandAt 147 = .ok (.iconst 1, 1) := by decide +kernel
theorem dX5_doCommandAt_148 : decode cX5_doCommandAt 148 = .ok (.goto 4, 3) := by decide +kernel
theorem dX5_doCommandAt_151 : decode cX5_doCommandAt 151 = .ok (.iconst 0, 1) := by decide +kernel
theorem dX5_doCommandAt_152 : decode cX5_doCommandAt 152 = .ok (.ireturn, 1) := by decide +kernel
theorem dX5_doCommandAt_153 : decode cX5_doCommandAt 153 = .ok (.aload_n 0, 1) := by decide +kernel
theorem dX5_doCommandAt_154 : decode cX5_doCommandAt 154 = .ok (.getfield 19, 3) := by decide +kernel
theorem dX5_doCommandAt_157 : decode cX5_doCommandAt 157 = .ok (.aload_n 0, 1) := by decide +kernel
theorem dX5_doCommandAt_158 : decode cX5_doCommandAt 158 = .ok (.getfield 19, 3) := by decide +kernel
theorem dX5_doCommandAt_161 : decode cX5_doCommandAt 161 = .ok (.invokevirtual 117, 3) := by decide +kernel
theorem dX5_doCommandAt_164 : decode cX5_doCommandAt 164 = .ok (.iconst 0, 1) := by decide +kernel
theorem dX5_doCommandAt_165 : decode cX5_doCommandAt 165 = .ok (.invokevirtual 107, 3) := by decide +kernel
theorem dX5_doCommandAt_168 : decode cX5_doCommandAt 168 = .ok (.pop, 1) := by decide +kernel
theorem dX5_doCommandAt_169 : decode cX5_doCommandAt 169 = .ok (.iconst 1, 1) := by decide +kernel
theorem dX5_doCommandAt_170 : decode cX5_doCommandAt 170 = .ok (.ireturn, 1) := by decide +kernel
theorem dX5_about_0 : decode cX5_about 0 = .ok (.iload_n 1, 1) := by decide +kernel
theorem dX5_about_1 : decode cX5_about 1 = .ok (.ifCond .lt 9, 3) := by decide +kernel
theorem dX5_about_4 : decode cX5_about 4 = .ok (.iload_n 1, 1) := by decide +kernel
theorem dX5_about_5 : decode cX5_about 5 = .ok (.bipush 11, 2) := by decide +kernel
theorem dX5_about_7 : decode cX5_about 7 = .ok (.if_icmp .le 13, 3) := by decide +kernel
theorem dX5_about_10 : decode cX5_about 10 = .ok (.new 43, 3) := by decide +kernel
theorem dX5_about_13 : decode cX5_about 13 = .ok (.dup, 1) := by decide +kernel
theorem dX5_about_14 : decode cX5_about 14 = .ok (.ldc 120, 2) := by decide +kernel
theorem dX5_about_16 : decode cX5_about 16 = .ok (.invokespecial 47, 3) := by decide +kernel
theorem dX5_about_19 : decode cX5_about 19 = .ok (.athrow, 1) := by decide +kernel
theorem dX5_about_20 : decode cX5_about 20 = .ok (.aload_n 0, 1) := by decide +kernel
theorem dX5_about_21 : decode cX5_about 21 = .ok (.getfield 19, 3) := by decide +kernel
theorem dX5_about_24 : decode cX5_about 24 = .ok (.iload_n 1, 1) := by decide +kernel
theorem dX5_about_25 : decode cX5_about 25 = .ok (.invokevirtual 122, 3) := by decide +kernel
theorem dX5_about_28 : decode cX5_about 28 = .ok (.ireturn, 1) := by decide +kernel
theorem dX5_tileOf_0 : decode cX5_tileOf 0 = .ok (.iload_n 1, 1) := by decide +kernel
theorem dX5_tileOf_1 : decode cX5_tileOf 1 = .ok (.invokestatic 125, 3) := by decide +kernel
theorem dX5_tileOf_4 : decode cX5_tileOf 4 = .ok (.ifCond .ne 13, 3) := by decide +kernel
theorem dX5_tileOf_7 : decode cX5_tileOf 7 = .ok (.new 128, 3) := by decide +kernel
theorem dX5_tileOf_10 : decode cX5_tileOf 10 = .ok (.dup, 1) := by decide +kernel
theorem dX5_tileOf_11 : decode cX5_tileOf 11 = .ok (.ldc 130, 2) := by decide +kernel
theorem dX5_tileOf_13 : decode cX5_tileOf 13 = .ok (.invokespecial 132, 3) := by decide +kernel
theorem dX5_tileOf_16 : decode cX5_tileOf 16 = .ok (.athrow, 1) := by decide +kernel
theorem dX5_tileOf_17 : decode cX5_tileOf 17 = .ok (.iload_n 2, 1) := by decide +kernel
theorem dX5_tileOf_18 : decode cX5_tileOf 18 = .ok (.ifCond .lt 8, 3) := by decide +kernel
theorem dX5_tileOf_21 : decode cX5_tileOf 21 = .ok (.iload_n 2, 1) := by decide +kernel
theorem dX5_tileOf_22 : decode cX5_tileOf 22 = .ok (.iconst 4, 1) := by decide +kernel
theorem dX5_tileOf_23 : decode cX5_tileOf 23 = .ok (.if_icmp .le 13, 3) := by decide +kernel
theorem dX5_tileOf_26 : decode cX5_tileOf 26 = .ok (.new 43, 3) := by decide +kernel
theorem dX5_tileOf_29 : decode cX5_tileOf 29 = .ok (.dup, 1) := by decide +kernel
theorem dX5_tileOf_30 : decode cX5_tileOf 30 = .ok (.ldc 120, 2) := by decide +kernel
theorem dX5_tileOf_32 : decode cX5_tileOf 32 = .ok (.invokespecial 47, 3) := by decide +kernel
theorem dX5_tileOf_35 : decode cX5_tileOf 35 = .ok (.athrow, 1) := by decide +kernel
theorem dX5_tileOf_36 : decode cX5_tileOf 36 = .ok (.aload_n 0, 1) := by decide +kernel
theorem dX5_tileOf_37 : decode cX5_tileOf 37 = .ok (.getfield 19, 3) := by decide +kernel
theorem dX5_tileOf_40 : decode cX5_tileOf 40 = .ok (.iload_n 1, 1) := by decide +kernel
theorem dX5_tileOf_41 : decode cX5_tileOf 41 = .ok (.iload_n 2, 1) := by decide +kernel
theorem dX5_tileOf_42 : decode cX5_tileOf 42 = .ok (.invokevirtual 133, 3) := by decide +kernel
theorem dX5_tileOf_45 : decode cX5_tileOf 45 = .ok (.ireturn, 1) := by decide +kernel
theorem dX5_laid_0 : decode cX5_laid 0 = .ok (.iload_n 1, 1) := by decide +kernel
theorem dX5_laid_1 : decode cX5_laid 1 = .ok (.ifCond .lt 17, 3) := by decide +kernel
theorem dX5_laid_4 : decode cX5_laid 4 = .ok (.iload_n 1, 1) := by decide +kernel
theorem dX5_laid_5 : decode cX5_laid 5 = .ok (.aload_n 0, 1) := by decide +kernel
theorem dX5_laid_6 : decode cX5_laid 6 = .ok (.getfield 19, 3) := by decide +kernel
theorem dX5_laid_9 : decode cX5_laid 9 = .ok (.invokevirtual 137, 3) := by decide +kernel
theorem dX5_laid_12 : decode cX5_laid 12 = .ok (.invokevirtual 141, 3) := by decide +kernel
theorem dX5_laid_15 : decode cX5_laid 15 = .ok (.if_icmp .lt 13, 3) := by decide +kernel
theorem dX5_laid_18 : decode cX5_laid 18 = .ok (.new 128, 3) := by decide +kernel
theorem dX5_laid_21 : decode cX5_laid 21 = .ok (.dup, 1) := by decide +kernel
theorem dX5_laid_22 : decode cX5_laid 22 = .ok (.ldc 144, 2) := by decide +kernel
theorem dX5_laid_24 : decode cX5_laid 24 = .ok (.invokespecial 132, 3) := by decide +kernel
theorem dX5_laid_27 : decode cX5_laid 27 = .ok (.athrow, 1) := by decide +kernel
theorem dX5_laid_28 : decode cX5_laid 28 = .ok (.iload_n 2, 1) := by decide +kernel
theorem dX5_laid_29 : decode cX5_laid 29 = .ok (.ifCond .lt 8, 3) := by decide +kernel
theorem dX5_laid_32 : decode cX5_laid 32 = .ok (.iload_n 2, 1) := by decide +kernel
theorem dX5_laid_33 : decode cX5_laid 33 = .ok (.iconst 5, 1) := by decide +kernel
theorem dX5_laid_34 : decode cX5_laid 34 = .ok (.if_icmp .le 13, 3) := by decide +kernel
theorem dX5_laid_37 : decode cX5_laid 37 = .ok (.new 43, 3) := by decide +kernel
theorem dX5_laid_40 : decode cX5_laid 40 = .ok (.dup, 1) := by decide +kernel
theorem dX5_laid_41 : decode cX5_laid 41 = .ok (.ldc 120, 2) := by decide +kernel
theorem dX5_laid_43 : decode cX5_laid 43 = .ok (.invokespecial 47, 3) := by decide +kernel
theorem dX5_laid_46 : decode cX5_laid 46 = .ok (.athrow, 1) := by decide +kernel
theorem dX5_laid_47 : decode cX5_laid 47 = .ok (.aload_n 0, 1) := by decide +kernel
theorem dX5_laid_48 : decode cX5_laid 48 = .ok (.getfield 19, 3) := by decide +kernel
theorem dX5_laid_51 : decode cX5_laid 51 = .ok (.invokevirtual 137, 3) := by decide +kernel
theorem dX5_laid_54 : decode cX5_laid 54 = .ok (.iload_n 1, 1) := by decide +kernel
theorem dX5_laid_55 : decode cX5_laid 55 = .ok (.iload_n 2, 1) := by decide +kernel
theorem dX5_laid_56 : decode cX5_laid 56 = .ok (.invokevirtual 146, 3) := by decide +kernel
theorem dX5_laid_59 : decode cX5_laid 59 = .ok (.ireturn, 1) := by decide +kernel
theorem dX5_playerOf_0 : decode cX5_playerOf 0 = .ok (.iload_n 1, 1) := by decide +kernel
theorem dX5_playerOf_1 : decode cX5_playerOf 1 = .ok (.invokestatic 149, 3) := by decide +kernel
theorem dX5_playerOf_4 : decode cX5_playerOf 4 = .ok (.ifCond .ne 13, 3) := by decide +kernel
theorem dX5_playerOf_7 : decode cX5_playerOf 7 = .ok (.new 128, 3) := by decide +kernel
theorem dX5_playerOf_10 : decode cX5_playerOf 10 = .ok (.dup, 1) := by decide +kernel
theorem dX5_playerOf_11 : decode cX5_playerOf 11 = .ok (.ldc 152, 2) := by decide +kernel
theorem dX5_playerOf_13 : decode cX5_playerOf 13 = .ok (.invokespecial 132, 3) := by decide +kernel
theorem dX5_playerOf_16 : decode cX5_playerOf 16 = .ok (.athrow, 1) := by decide +kernel
theorem dX5_playerOf_17 : decode cX5_playerOf 17 = .ok (.iload_n 2, 1) := by decide +kernel
theorem dX5_playerOf_18 : decode cX5_playerOf 18 = .ok (.ifCond .lt 8, 3) := by decide +kernel
theorem dX5_playerOf_21 : decode cX5_playerOf 21 = .ok (.iload_n 2, 1) := by decide +kernel
theorem dX5_playerOf_22 : decode cX5_playerOf 22 = .ok (.iconst 3, 1) := by decide +kernel
theorem dX5_playerOf_23 : decode cX5_playerOf 23 = .ok (.if_icmp .le 13, 3) := by decide +kernel
theorem dX5_playerOf_26 : decode cX5_playerOf 26 = .ok (.new 43, 3) := by decide +kernel
theorem dX5_playerOf_29 : decode cX5_playerOf 29 = .ok (.dup, 1) := by decide +kernel
theorem dX5_playerOf_30 : decode cX5_playerOf 30 = .ok (.ldc 120, 2) := by decide +kernel
theorem dX5_playerOf_32 : decode cX5_playerOf 32 = .ok (.invokespecial 47, 3) := by decide +kernel
theorem dX5_playerOf_35 : decode cX5_playerOf 35 = .ok (.athrow, 1) := by decide +kernel
theorem dX5_playerOf_36 : decode cX5_playerOf 36 = .ok (.aload_n 0, 1) := by decide +kernel
theorem dX5_playerOf_37 : decode cX5_playerOf 37 = .ok (.getfield 19, 3) := by decide +kernel
theorem dX5_playerOf_40 : decode cX5_playerOf 40 = .ok (.iload_n 1, 1) := by decide +kernel
theorem dX5_playerOf_41 : decode cX5_playerOf 41 = .ok (.iload_n 2, 1) := by decide +kernel
theorem dX5_playerOf_42 : decode cX5_playerOf 42 = .ok (.invokevirtual 154, 3) := by decide +kernel
theorem dX5_playerOf_45 : decode cX5_playerOf 45 = .ok (.ireturn, 1) := by decide +kernel
theorem dX5_at_0 : decode cX5_at 0 = .ok (.iload_n 1, 1) := by decide +kernel
theorem dX5_at_1 : decode cX5_at 1 = .ok (.iload_n 2, 1) := by decide +kernel
theorem dX5_at_2 : decode cX5_at 2 = .ok (.invokestatic 157, 3) := by decide +kernel
theorem dX5_at_5 : decode cX5_at 5 = .ok (.ifCond .ne 13, 3) := by decide +kernel
theorem dX5_at_8 : decode cX5_at 8 = .ok (.new 128, 3) := by decide +kernel
theorem dX5_at_11 : decode cX5_at 11 = .ok (.dup, 1) := by decide +kernel
theorem dX5_at_12 : decode cX5_at 12 = .ok (.ldc 160, 2) := by decide +kernel
theorem dX5_at_14 : decode cX5_at 14 = .ok (.invokespecial 132, 3) := by decide +kernel
theorem dX5_at_17 : decode cX5_at 17 = .ok (.athrow, 1) := by decide +kernel
theorem dX5_at_18 : decode cX5_at 18 = .ok (.aload_n 0, 1) := by decide +kernel
theorem dX5_at_19 : decode cX5_at 19 = .ok (.getfield 19, 3) := by decide +kernel
theorem dX5_at_22 : decode cX5_at 22 = .ok (.invokevirtual 137, 3) := by decide +kernel
theorem dX5_at_25 : decode cX5_at 25 = .ok (.iload_n 1, 1) := by decide +kernel
theorem dX5_at_26 : decode cX5_at 26 = .ok (.iload_n 2, 1) := by decide +kernel
theorem dX5_at_27 : decode cX5_at 27 = .ok (.invokevirtual 162, 3) := by decide +kernel
theorem dX5_at_30 : decode cX5_at 30 = .ok (.ireturn, 1) := by decide +kernel
theorem dX5_free_0 : decode cX5_free 0 = .ok (.iload_n 1, 1) := by decide +kernel
theorem dX5_free_1 : decode cX5_free 1 = .ok (.ifCond .eq 18, 3) := by decide +kernel
theorem dX5_free_4 : decode cX5_free 4 = .ok (.iload_n 1, 1) := by decide +kernel
theorem dX5_free_5 : decode cX5_free 5 = .ok (.iconst 1, 1) := by decide +kernel
theorem dX5_free_6 : decode cX5_free 6 = .ok (.if_icmp .eq 13, 3) := by decide +kernel
theorem dX5_free_9 : decode cX5_free 9 = .ok (.new 43, 3) := by decide +kernel
theorem dX5_free_12 : decode cX5_free 12 = .ok (.dup, 1) := by decide +kernel
theorem dX5_free_13 : decode cX5_free 13 = .ok (.ldc 165, 2) := by decide +kernel
theorem dX5_free_15 : decode cX5_free 15 = .ok (.invokespecial 47, 3) := by decide +kernel
theorem dX5_free_18 : decode cX5_free 18 = .ok (.athrow, 1) := by decide +kernel
theorem dX5_free_19 : decode cX5_free 19 = .ok (.iload_n 1, 1) := by decide +kernel
theorem dX5_free_20 : decode cX5_free 20 = .ok (.ifCond .ne 16, 3) := by decide +kernel
theorem dX5_free_23 : decode cX5_free 23 = .ok (.aload_n 0, 1) := by decide +kernel
theorem dX5_free_24 : decode cX5_free 24 = .ok (.getfield 19, 3) := by decide +kernel
theorem dX5_free_27 : decode cX5_free 27 = .ok (.invokevirtual 137, 3) := by decide +kernel
theorem dX5_free_30 : decode cX5_free 30 = .ok (.invokevirtual 167, 3) := by decide +kernel
theorem dX5_free_33 : decode cX5_free 33 = .ok (.goto 13, 3) := by decide +kernel
theorem dX5_free_36 : decode cX5_free 36 = .ok (.aload_n 0, 1) := by decide +kernel
theorem dX5_free_37 : decode cX5_free 37 = .ok (.getfield 19, 3) := by decide +kernel
theorem dX5_free_40 : decode cX5_free 40 = .ok (.invokevirtual 137, 3) := by decide +kernel
theorem dX5_free_43 : decode cX5_free 43 = .ok (.invokevirtual 170, 3) := by decide +kernel
theorem dX5_free_46 : decode cX5_free 46 = .ok (.ireturn, 1) := by decide +kernel
theorem dX5_deal_0 : decode cX5_deal 0 = .ok (.iload_n 1, 1) := by decide +kernel
theorem dX5_deal_1 : decode cX5_deal 1 = .ok (.invokestatic 173, 3) := by decide +kernel
theorem dX5_deal_4 : decode cX5_deal 4 = .ok (.ifCond .ne 13, 3) := by decide +kernel
theorem dX5_deal_7 : decode cX5_deal 7 = .ok (.new 43, 3) := by decide +kernel
theorem dX5_deal_10 : decode cX5_deal 10 = .ok (.dup, 1) := by decide +kernel
theorem dX5_deal_11 : decode cX5_deal 11 = .ok (.ldc 176, 2) := by decide +kernel
theorem dX5_deal_13 : decode cX5_deal 13 = .ok (.invokespecial 47, 3) := by decide +kernel
theorem dX5_deal_16 : decode cX5_deal 16 = .ok (.athrow, 1) := by decide +kernel
theorem dX5_deal_17 : decode cX5_deal 17 = .ok (.aload_n 0, 1) := by decide +kernel
theorem dX5_deal_18 : decode cX5_deal 18 = .ok (.getfield 29, 3) := by decide +kernel
theorem dX5_deal_21 : decode cX5_deal 21 = .ok (.aload_n 0, 1) := by decide +kernel
theorem dX5_deal_22 : decode cX5_deal 22 = .ok (.getfield 19, 3) := by decide +kernel
theorem dX5_deal_25 : decode cX5_deal 25 = .ok (.invokevirtual 178, 3) := by decide +kernel
theorem dX5_deal_28 : decode cX5_deal 28 = .ok (.aload_n 0, 1) := by decide +kernel
theorem dX5_deal_29 : decode cX5_deal 29 = .ok (.getfield 19, 3) := by decide +kernel
theorem dX5_deal_32 : decode cX5_deal 32 = .ok (.iload_n 1, 1) := by decide +kernel
theorem dX5_deal_33 : decode cX5_deal 33 = .ok (.lload_n 2, 1) := by decide +kernel
theorem dX5_deal_34 : decode cX5_deal 34 = .ok (.invokevirtual 103, 3) := by decide +kernel
theorem dX5_deal_37 : decode cX5_deal 37 = .ok (.pop, 1) := by decide +kernel
theorem dX5_deal_38 : decode cX5_deal 38 = .ok (.aload_n 0, 1) := by decide +kernel
theorem dX5_deal_39 : decode cX5_deal 39 = .ok (.getfield 19, 3) := by decide +kernel
theorem dX5_deal_42 : decode cX5_deal 42 = .ok (.invokevirtual 182, 3) := by decide +kernel
theorem dX5_deal_45 : decode cX5_deal 45 = .ok (.ireturn, 1) := by decide +kernel
theorem dX5_play_0 : decode cX5_play 0 = .ok (.iload_n 1, 1) := by decide +kernel
theorem dX5_play_1 : decode cX5_play 1 = .ok (.invokestatic 125, 3) := by decide +kernel
theorem dX5_play_4 : decode cX5_play 4 = .ok (.ifCond .ne 13, 3) := by decide +kernel
theorem dX5_play_7 : decode cX5_play 7 = .ok (.new 128, 3) := by decide +kernel
theorem dX5_play_10 : decode cX5_play 10 = .ok (.dup, 1) := by decide +kernel
theorem dX5_play_11 : decode cX5_play 11 = .ok (.ldc 130, 2) := by decide +kernel
theorem dX5_play_13 : decode cX5_play 13 = .ok (.invokespecial 132, 3) := by decide +kernel
theorem dX5_play_16 : decode cX5_play 16 = .ok (.athrow, 1) := by decide +kernel
theorem dX5_play_17 : decode cX5_play 17 = .ok (.aload_n 0, 1) := by decide +kernel
theorem dX5_play_18 : decode cX5_play 18 = .ok (.getfield 19, 3) := by decide +kernel
theorem dX5_play_21 : decode cX5_play 21 = .ok (.invokevirtual 185, 3) := by decide +kernel
theorem dX5_play_24 : decode cX5_play 24 = .ok (.ifCond .ne 13, 3) := by decide +kernel
theorem dX5_play_27 : decode cX5_play 27 = .ok (.new 54, 3) := by decide +kernel
theorem dX5_play_30 : decode cX5_play 30 = .ok (.dup, 1) := by decide +kernel
theorem dX5_play_31 : decode cX5_play 31 = .ok (.ldc 188, 2) := by decide +kernel
theorem dX5_play_33 : decode cX5_play 33 = .ok (.invokespecial 58, 3) := by decide +kernel
theorem dX5_play_36 : decode cX5_play 36 = .ok (.athrow, 1) := by decide +kernel
theorem dX5_play_37 : decode cX5_play 37 = .ok (.aload_n 0, 1) := by decide +kernel
theorem dX5_play_38 : decode cX5_play 38 = .ok (.getfield 29, 3) := by decide +kernel
theorem dX5_play_41 : decode cX5_play 41 = .ok (.aload_n 0, 1) := by decide +kernel
theorem dX5_play_42 : decode cX5_play 42 = .ok (.getfield 19, 3) := by decide +kernel
theorem dX5_play_45 : decode cX5_play 45 = .ok (.invokevirtual 178, 3) := by decide +kernel
theorem dX5_play_48 : decode cX5_play 48 = .ok (.aload_n 0, 1) := by decide +kernel
theorem dX5_play_49 : decode cX5_play 49 = .ok (.getfield 19, 3) := by decide +kernel
theorem dX5_play_52 : decode cX5_play 52 = .ok (.iload_n 1, 1) := by decide +kernel
theorem dX5_play_53 : decode cX5_play 53 = .ok (.iload_n 2, 1) := by decide +kernel
theorem dX5_play_54 : decode cX5_play 54 = .ok (.invokevirtual 190, 3) := by decide +kernel
theorem dX5_play_57 : decode cX5_play 57 = .ok (.ireturn, 1) := by decide +kernel
theorem dX5_draw_0 : decode cX5_draw 0 = .ok (.aload_n 0, 1) := by decide +kernel
theorem dX5_draw_1 : decode cX5_draw 1 = .ok (.getfield 19, 3) := by decide +kernel
theorem dX5_draw_4 : decode cX5_draw 4 = .ok (.invokevirtual 194, 3) := by decide +kernel
theorem dX5_draw_7 : decode cX5_draw 7 = .ok (.ifCond .ne 13, 3) := by decide +kernel
theorem dX5_draw_10 : decode cX5_draw 10 = .ok (.new 54, 3) := by decide +kernel
theorem dX5_draw_13 : decode cX5_draw 13 = .ok (.dup, 1) := by decide +kernel
theorem dX5_draw_14 : decode cX5_draw 14 = .ok (.ldc 197, 2) := by decide +kernel
theorem dX5_draw_16 : decode cX5_draw 16 = .ok (.invokespecial 58, 3) := by decide +kernel
theorem dX5_draw_19 : decode cX5_draw 19 = .ok (.athrow, 1) := by decide +kernel
theorem dX5_draw_20 : decode cX5_draw 20 = .ok (.aload_n 0, 1) := by decide +kernel
theorem dX5_draw_21 : decode cX5_draw 21 = .ok (.getfield 29, 3) := by decide +kernel
theorem dX5_draw_24 : decode cX5_draw 24 = .ok (.aload_n 0, 1) := by decide +kernel
theorem dX5_draw_25 : decode cX5_draw 25 = .ok (.getfield 19, 3) := by decide +kernel
theorem dX5_draw_28 : decode cX5_draw 28 = .ok (.invokevirtual 178, 3) := by decide +kernel
theorem dX5_draw_31 : decode cX5_draw 31 = .ok (.aload_n 0, 1) := by decide +kernel
theorem dX5_draw_32 : decode cX5_draw 32 = .ok (.getfield 19, 3) := by decide +kernel
theorem dX5_draw_35 : decode cX5_draw 35 = .ok (.invokevirtual 111, 3) := by decide +kernel
theorem dX5_draw_38 : decode cX5_draw 38 = .ok (.ireturn, 1) := by decide +kernel
theorem dX5_pass_0 : decode cX5_pass 0 = .ok (.aload_n 0, 1) := by decide +kernel
theorem dX5_pass_1 : decode cX5_pass 1 = .ok (.getfield 19, 3) := by decide +kernel
theorem dX5_pass_4 : decode cX5_pass 4 = .ok (.invokevirtual 199, 3) := by decide +kernel
theorem dX5_pass_7 : decode cX5_pass 7 = .ok (.ifCond .ne 13, 3) := by decide +kernel
theorem dX5_pass_10 : decode cX5_pass 10 = .ok (.new 54, 3) := by decide +kernel
theorem dX5_pass_13 : decode cX5_pass 13 = .ok (.dup, 1) := by decide +kernel
theorem dX5_pass_14 : decode cX5_pass 14 = .ok (.ldc 202, 2) := by decide +kernel
theorem dX5_pass_16 : decode cX5_pass 16 = .ok (.invokespecial 58, 3) := by decide +kernel
theorem dX5_pass_19 : decode cX5_pass 19 = .ok (.athrow, 1) := by decide +kernel
theorem dX5_pass_20 : decode cX5_pass 20 = .ok (.aload_n 0, 1) := by decide +kernel
theorem dX5_pass_21 : decode cX5_pass 21 = .ok (.getfield 29, 3) := by decide +kernel
theorem dX5_pass_24 : decode cX5_pass 24 = .ok (.aload_n 0, 1) := by decide +kernel
theorem dX5_pass_25 : decode cX5_pass 25 = .ok (.getfield 19, 3) := by decide +kernel
theorem dX5_pass_28 : decode cX5_pass 28 = .ok (.invokevirtual 178, 3) := by decide +kernel
theorem dX5_pass_31 : decode cX5_pass 31 = .ok (.aload_n 0, 1) := by decide +kernel
theorem dX5_pass_32 : decode cX5_pass 32 = .ok (.getfield 19, 3) := by decide +kernel
theorem dX5_pass_35 : decode cX5_pass 35 = .ok (.invokevirtual 114, 3) := by decide +kernel
theorem dX5_pass_38 : decode cX5_pass 38 = .ok (.ireturn, 1) := by decide +kernel
theorem dX5_undo_0 : decode cX5_undo 0 = .ok (.aload_n 0, 1) := by decide +kernel
theorem dX5_undo_1 : decode cX5_undo 1 = .ok (.getfield 29, 3) := by decide +kernel
theorem dX5_undo_4 : decode cX5_undo 4 = .ok (.invokevirtual 204, 3) := by decide +kernel
theorem dX5_undo_7 : decode cX5_undo 7 = .ok (.ifCond .ne 13, 3) := by decide +kernel
theorem dX5_undo_10 : decode cX5_undo 10 = .ok (.new 54, 3) := by decide +kernel
theorem dX5_undo_13 : decode cX5_undo 13 = .ok (.dup, 1) := by decide +kernel
theorem dX5_undo_14 : decode cX5_undo 14 = .ok (.ldc 205, 2) := by decide +kernel
theorem dX5_undo_16 : decode cX5_undo 16 = .ok (.invokespecial 58, 3) := by decide +kernel
theorem dX5_undo_19 : decode cX5_undo 19 = .ok (.athrow, 1) := by decide +kernel
theorem dX5_undo_20 : decode cX5_undo 20 = .ok (.aload_n 0, 1) := by decide +kernel
theorem dX5_undo_21 : decode cX5_undo 21 = .ok (.getfield 29, 3) := by decide +kernel
theorem dX5_undo_24 : decode cX5_undo 24 = .ok (.aload_n 0, 1) := by decide +kernel
theorem dX5_undo_25 : decode cX5_undo 25 = .ok (.getfield 19, 3) := by decide +kernel
theorem dX5_undo_28 : decode cX5_undo 28 = .ok (.invokevirtual 207, 3) := by decide +kernel
theorem dX5_undo_31 : decode cX5_undo 31 = .ok (.ireturn, 1) := by decide +kernel
theorem dX5_why_0 : decode cX5_why 0 = .ok (.iload_n 1, 1) := by decide +kernel
theorem dX5_why_1 : decode cX5_why 1 = .ok (.invokestatic 125, 3) := by decide +kernel
theorem dX5_why_4 : decode cX5_why 4 = .ok (.ifCond .ne 13, 3) := by decide +kernel
theorem dX5_why_7 : decode cX5_why 7 = .ok (.new 128, 3) := by decide +kernel
theorem dX5_why_10 : decode cX5_why 10 = .ok (.dup, 1) := by decide +kernel
theorem dX5_why_11 : decode cX5_why 11 = .ok (.ldc 130, 2) := by decide +kernel
theorem dX5_why_13 : decode cX5_why 13 = .ok (.invokespecial 132, 3) := by decide +kernel
theorem dX5_why_16 : decode cX5_why 16 = .ok (.athrow, 1) := by decide +kernel
theorem dX5_why_17 : decode cX5_why 17 = .ok (.aload_n 0, 1) := by decide +kernel
theorem dX5_why_18 : decode cX5_why 18 = .ok (.getfield 19, 3) := by decide +kernel
theorem dX5_why_21 : decode cX5_why 21 = .ok (.iload_n 1, 1) := by decide +kernel
theorem dX5_why_22 : decode cX5_why 22 = .ok (.invokevirtual 211, 3) := by decide +kernel
theorem dX5_why_25 : decode cX5_why 25 = .ok (.ireturn, 1) := by decide +kernel
theorem dX5_legal_0 : decode cX5_legal 0 = .ok (.aload_n 0, 1) := by decide +kernel
theorem dX5_legal_1 : decode cX5_legal 1 = .ok (.getfield 19, 3) := by decide +kernel
theorem dX5_legal_4 : decode cX5_legal 4 = .ok (.invokevirtual 214, 3) := by decide +kernel
theorem dX5_legal_7 : decode cX5_legal 7 = .ok (.ireturn, 1) := by decide +kernel
theorem dX5_best_0 : decode cX5_best 0 = .ok (.aload_n 0, 1) := by decide +kernel
theorem dX5_best_1 : decode cX5_best 1 = .ok (.getfield 19, 3) := by decide +kernel
theorem dX5_best_4 : decode cX5_best 4 = .ok (.invokevirtual 117, 3) := by decide +kernel
theorem dX5_best_7 : decode cX5_best 7 = .ok (.ireturn, 1) := by decide +kernel
theorem dX5_chain_0 : decode cX5_chain 0 = .ok (.iload_n 1, 1) := by decide +kernel
theorem dX5_chain_1 : decode cX5_chain 1 = .ok (.invokestatic 149, 3) := by decide +kernel
theorem dX5_chain_4 : decode cX5_chain 4 = .ok (.ifCond .ne 13, 3) := by decide +kernel
theorem dX5_chain_7 : decode cX5_chain 7 = .ok (.new 128, 3) := by decide +kernel
theorem dX5_chain_10 : decode cX5_chain 10 = .ok (.dup, 1) := by decide +kernel
theorem dX5_chain_11 : decode cX5_chain 11 = .ok (.ldc 152, 2) := by decide +kernel
theorem dX5_chain_13 : decode cX5_chain 13 = .ok (.invokespecial 132, 3) := by decide +kernel
theorem dX5_chain_16 : decode cX5_chain 16 = .ok (.athrow, 1) := by decide +kernel
theorem dX5_chain_17 : decode cX5_chain 17 = .ok (.iload_n 2, 1) := by decide +kernel
theorem dX5_chain_18 : decode cX5_chain 18 = .ok (.iconst 1, 1) := by decide +kernel
theorem dX5_chain_19 : decode cX5_chain 19 = .ok (.if_icmp .lt 9, 3) := by decide +kernel
theorem dX5_chain_22 : decode cX5_chain 22 = .ok (.iload_n 2, 1) := by decide +kernel
theorem dX5_chain_23 : decode cX5_chain 23 = .ok (.bipush 6, 2) := by decide +kernel
theorem dX5_chain_25 : decode cX5_chain 25 = .ok (.if_icmp .le 13, 3) := by decide +kernel
theorem dX5_chain_28 : decode cX5_chain 28 = .ok (.new 43, 3) := by decide +kernel
theorem dX5_chain_31 : decode cX5_chain 31 = .ok (.dup, 1) := by decide +kernel
theorem dX5_chain_32 : decode cX5_chain 32 = .ok (.ldc 217, 2) := by decide +kernel
theorem dX5_chain_34 : decode cX5_chain 34 = .ok (.invokespecial 47, 3) := by decide +kernel
theorem dX5_chain_37 : decode cX5_chain 37 = .ok (.athrow, 1) := by decide +kernel
theorem dX5_chain_38 : decode cX5_chain 38 = .ok (.aload_n 0, 1) := by decide +kernel
theorem dX5_chain_39 : decode cX5_chain 39 = .ok (.getfield 19, 3) := by decide +kernel
theorem dX5_chain_42 : decode cX5_chain 42 = .ok (.iload_n 1, 1) := by decide +kernel
theorem dX5_chain_43 : decode cX5_chain 43 = .ok (.iload_n 2, 1) := by decide +kernel
theorem dX5_chain_44 : decode cX5_chain 44 = .ok (.invokevirtual 219, 3) := by decide +kernel
theorem dX5_chain_47 : decode cX5_chain 47 = .ok (.ireturn, 1) := by decide +kernel
theorem dX5_reach_0 : decode cX5_reach 0 = .ok (.iload_n 1, 1) := by decide +kernel
theorem dX5_reach_1 : decode cX5_reach 1 = .ok (.ifCond .lt 8, 3) := by decide +kernel
theorem dX5_reach_4 : decode cX5_reach 4 = .ok (.iload_n 1, 1) := by decide +kernel
theorem dX5_reach_5 : decode cX5_reach 5 = .ok (.iconst 5, 1) := by decide +kernel
theorem dX5_reach_6 : decode cX5_reach 6 = .ok (.if_icmp .le 13, 3) := by decide +kernel
theorem dX5_reach_9 : decode cX5_reach 9 = .ok (.new 43, 3) := by decide +kernel
theorem dX5_reach_12 : decode cX5_reach 12 = .ok (.dup, 1) := by decide +kernel
theorem dX5_reach_13 : decode cX5_reach 13 = .ok (.ldc 120, 2) := by decide +kernel
theorem dX5_reach_15 : decode cX5_reach 15 = .ok (.invokespecial 47, 3) := by decide +kernel
theorem dX5_reach_18 : decode cX5_reach 18 = .ok (.athrow, 1) := by decide +kernel
theorem dX5_reach_19 : decode cX5_reach 19 = .ok (.aload_n 0, 1) := by decide +kernel
theorem dX5_reach_20 : decode cX5_reach 20 = .ok (.getfield 19, 3) := by decide +kernel
theorem dX5_reach_23 : decode cX5_reach 23 = .ok (.invokevirtual 137, 3) := by decide +kernel
theorem dX5_reach_26 : decode cX5_reach 26 = .ok (.iload_n 1, 1) := by decide +kernel
theorem dX5_reach_27 : decode cX5_reach 27 = .ok (.invokevirtual 222, 3) := by decide +kernel
theorem dX5_reach_30 : decode cX5_reach 30 = .ok (.ireturn, 1) := by decide +kernel
theorem dX5_runScript_0 : decode cX5_runScript 0 = .ok (.iload_n 1, 1) := by decide +kernel
theorem dX5_runScript_1 : decode cX5_runScript 1 = .ok (.iconst 1, 1) := by decide +kernel
theorem dX5_runScript_2 : decode cX5_runScript 2 = .ok (.if_icmp .lt 8, 3) := by decide +kernel
theorem dX5_runScript_5 : decode cX5_runScript 5 = .ok (.iload_n 1, 1) := by decide +kernel
theorem dX5_runScript_6 : decode cX5_runScript 6 = .ok (.iconst 4, 1) := by decide +kernel
theorem dX5_runScript_7 : decode cX5_runScript 7 = .ok (.if_icmp .le 13, 3) := by decide +kernel
theorem dX5_runScript_10 : decode cX5_runScript 10 = .ok (.new 43, 3) := by decide +kernel
theorem dX5_runScript_13 : decode cX5_runScript 13 = .ok (.dup, 1) := by decide +kernel
theorem dX5_runScript_14 : decode cX5_runScript 14 = .ok (.ldc 225, 2) := by decide +kernel
theorem dX5_runScript_16 : decode cX5_runScript 16 = .ok (.invokespecial 47, 3) := by decide +kernel
theorem dX5_runScript_19 : decode cX5_runScript 19 = .ok (.athrow, 1) := by decide +kernel
theorem dX5_runScript_20 : decode cX5_runScript 20 = .ok (.lload_n 2, 1) := by decide +kernel
theorem dX5_runScript_21 : decode cX5_runScript 21 = .ok (.lconst 0, 1) := by decide +kernel
theorem dX5_runScript_22 : decode cX5_runScript 22 = .ok (.lcmp, 1) := by decide +kernel
theorem dX5_runScript_23 : decode cX5_runScript 23 = .ok (.ifCond .lt 13, 3) := by decide +kernel
theorem dX5_runScript_26 : decode cX5_runScript 26 = .ok (.lload_n 2, 1) := by decide +kernel
theorem dX5_runScript_27 : decode cX5_runScript 27 = .ok (.iload_n 1, 1) := by decide +kernel
theorem dX5_runScript_28 : decode cX5_runScript 28 = .ok (.invokestatic 227, 3) := by decide +kernel
theorem dX5_runScript_31 : decode cX5_runScript 31 = .ok (.lconst 0, 1) := by decide +kernel
theorem dX5_runScript_32 : decode cX5_runScript 32 = .ok (.lcmp, 1) := by decide +kernel
theorem dX5_runScript_33 : decode cX5_runScript 33 = .ok (.ifCond .le 13, 3) := by decide +kernel
theorem dX5_runScript_36 : decode cX5_runScript 36 = .ok (.new 43, 3) := by decide +kernel
theorem dX5_runScript_39 : decode cX5_runScript 39 = .ok (.dup, 1) := by decide +kernel
theorem dX5_runScript_40 : decode cX5_runScript 40 = .ok (.ldc 231, 2) := by decide +kernel
theorem dX5_runScript_42 : decode cX5_runScript 42 = .ok (.invokespecial 47, 3) := by decide +kernel
theorem dX5_runScript_45 : decode cX5_runScript 45 = .ok (.athrow, 1) := by decide +kernel
theorem dX5_runScript_46 : decode cX5_runScript 46 = .ok (.aload_n 0, 1) := by decide +kernel
theorem dX5_runScript_47 : decode cX5_runScript 47 = .ok (.getfield 23, 3) := by decide +kernel
theorem dX5_runScript_50 : decode cX5_runScript 50 = .ok (.aload_n 0, 1) := by decide +kernel
theorem dX5_runScript_51 : decode cX5_runScript 51 = .ok (.getfield 19, 3) := by decide +kernel
theorem dX5_runScript_54 : decode cX5_runScript 54 = .ok (.invokevirtual 233, 3) := by decide +kernel
theorem dX5_runScript_57 : decode cX5_runScript 57 = .ok (.iconst 0, 1) := by decide +kernel
theorem dX5_runScript_58 : decode cX5_runScript 58 = .ok (.istore 4, 2) := by decide +kernel
theorem dX5_runScript_60 : decode cX5_runScript 60 = .ok (.iload 4, 2) := by decide +kernel
theorem dX5_runScript_62 : decode cX5_runScript 62 = .ok (.iload_n 1, 1) := by decide +kernel
theorem dX5_runScript_63 : decode cX5_runScript 63 = .ok (.if_icmp .ge 34, 3) := by decide +kernel
theorem dX5_runScript_66 : decode cX5_runScript 66 = .ok (.aload_n 0, 1) := by decide +kernel
theorem dX5_runScript_67 : decode cX5_runScript 67 = .ok (.lload_n 2, 1) := by decide +kernel
theorem dX5_runScript_68 : decode cX5_runScript 68 = .ok (.iload_n 1, 1) := by decide +kernel
theorem dX5_runScript_69 : decode cX5_runScript 69 = .ok (.iconst 1, 1) := by decide +kernel
theorem dX5_runScript_70 : decode cX5_runScript 70 = .ok (.isub, 1) := by decide +kernel
theorem dX5_runScript_71 : decode cX5_runScript 71 = .ok (.iload 4, 2) := by decide +kernel
theorem dX5_runScript_73 : decode cX5_runScript 73 = .ok (.isub, 1) := by decide +kernel
theorem dX5_runScript_74 : decode cX5_runScript 74 = .ok (.invokestatic 227, 3) := by decide +kernel
theorem dX5_runScript_77 : decode cX5_runScript 77 = .ok (.ldc2_w 236, 3) := by decide +kernel
theorem dX5_runScript_80 : decode cX5_runScript 80 = .ok (.lrem, 1) := by decide +kernel
theorem dX5_runScript_81 : decode cX5_runScript 81 = .ok (.l2i, 1) := by decide +kernel
theorem dX5_runScript_82 : decode cX5_runScript 82 = .ok (.invokevirtual 238, 3) := by decide +kernel
theorem dX5_runScript_85 : decode cX5_runScript 85 = .ok (.ifCond .ne 6, 3) := by decide +kernel
theorem dX5_runScript_88 : decode cX5_runScript 88 = .ok (.iload 4, 2) := by decide +kernel
theorem dX5_runScript_90 : decode cX5_runScript 90 = .ok (.ireturn, 1) := by decide +kernel
theorem dX5_runScript_91 : decode cX5_runScript 91 = .ok (.iinc 4 1, 3) := by decide +kernel
theorem dX5_runScript_94 : decode cX5_runScript 94 = .ok (.goto (-34), 3) := by decide +kernel
theorem dX5_runScript_97 : decode cX5_runScript 97 = .ok (.iconst (-1), 1) := by decide +kernel
theorem dX5_runScript_98 : decode cX5_runScript 98 = .ok (.ireturn, 1) := by decide +kernel
theorem dX5_withoutGroups_0 : decode cX5_withoutGroups 0 = .ok (.lload_n 0, 1) := by decide +kernel
theorem dX5_withoutGroups_1 : decode cX5_withoutGroups 1 = .ok (.lstore_n 3, 1) := by decide +kernel
theorem dX5_withoutGroups_2 : decode cX5_withoutGroups 2 = .ok (.iconst 0, 1) := by decide +kernel
theorem dX5_withoutGroups_3 : decode cX5_withoutGroups 3 = .ok (.istore 5, 2) := by decide +kernel
theorem dX5_withoutGroups_5 : decode cX5_withoutGroups 5 = .ok (.iload 5, 2) := by decide +kernel
theorem dX5_withoutGroups_7 : decode cX5_withoutGroups 7 = .ok (.iload_n 2, 1) := by decide +kernel
theorem dX5_withoutGroups_8 : decode cX5_withoutGroups 8 = .ok (.if_icmp .ge 15, 3) := by decide +kernel
theorem dX5_withoutGroups_11 : decode cX5_withoutGroups 11 = .ok (.lload_n 3, 1) := by decide +kernel
theorem dX5_withoutGroups_12 : decode cX5_withoutGroups 12 = .ok (.ldc2_w 236, 3) := by decide +kernel
theorem dX5_withoutGroups_15 : decode cX5_withoutGroups 15 = .ok (.ldiv, 1) := by decide +kernel
theorem dX5_withoutGroups_16 : decode cX5_withoutGroups 16 = .ok (.lstore_n 3, 1) := by decide +kernel
theorem dX5_withoutGroups_17 : decode cX5_withoutGroups 17 = .ok (.iinc 5 1, 3) := by decide +kernel
theorem dX5_withoutGroups_20 : decode cX5_withoutGroups 20 = .ok (.goto (-15), 3) := by decide +kernel
theorem dX5_withoutGroups_23 : decode cX5_withoutGroups 23 = .ok (.lload_n 3, 1) := by decide +kernel
theorem dX5_withoutGroups_24 : decode cX5_withoutGroups 24 = .ok (.lreturn, 1) := by decide +kernel
theorem dX5_succeeds_0 : decode cX5_succeeds 0 = .ok (.iload_n 1, 1) := by decide +kernel
theorem dX5_succeeds_1 : decode cX5_succeeds 1 = .ok (.bipush 100, 2) := by decide +kernel
theorem dX5_succeeds_3 : decode cX5_succeeds 3 = .ok (.idiv, 1) := by decide +kernel
theorem dX5_succeeds_4 : decode cX5_succeeds 4 = .ok (.bipush 10, 2) := by decide +kernel
theorem dX5_succeeds_6 : decode cX5_succeeds 6 = .ok (.irem, 1) := by decide +kernel
theorem dX5_succeeds_7 : decode cX5_succeeds 7 = .ok (.istore_n 2, 1) := by decide +kernel
theorem dX5_succeeds_8 : decode cX5_succeeds 8 = .ok (.iload_n 1, 1) := by decide +kernel
theorem dX5_succeeds_9 : decode cX5_succeeds 9 = .ok (.bipush 100, 2) := by decide +kernel
theorem dX5_succeeds_11 : decode cX5_succeeds 11 = .ok (.irem, 1) := by decide +kernel
theorem dX5_succeeds_12 : decode cX5_succeeds 12 = .ok (.istore_n 3, 1) := by decide +kernel
theorem dX5_succeeds_13 : decode cX5_succeeds 13 = .ok (.iload_n 1, 1) := by decide +kernel
theorem dX5_succeeds_14 : decode cX5_succeeds 14 = .ok (.sipush 1000, 3) := by decide +kernel
theorem dX5_succeeds_17 : decode cX5_succeeds 17 = .ok (.idiv, 1) := by decide +kernel
theorem dX5_succeeds_18 : decode cX5_succeeds 18 = .ok (.tableswitch 262 1 9 #[50, 61, 93, 117, 141, 168, 189, 214, 238], 50) := by decide +kernel
theorem dX5_succeeds_68 : decode cX5_succeeds 68 = .ok (.aload_n 0, 1) := by decide +kernel
theorem dX5_succeeds_69 : decode cX5_succeeds 69 = .ok (.getfield 23, 3) := by decide +kernel
theorem dX5_succeeds_72 : decode cX5_succeeds 72 = .ok (.iload_n 2, 1) := by decide +kernel
theorem dX5_succeeds_73 : decode cX5_succeeds 73 = .ok (.iload_n 3, 1) := by decide +kernel
theorem dX5_succeeds_74 : decode cX5_succeeds 74 = .ok (.i2l, 1) := by decide +kernel
theorem dX5_succeeds_75 : decode cX5_succeeds 75 = .ok (.invokevirtual 103, 3) := by decide +kernel
theorem dX5_succeeds_78 : decode cX5_succeeds 78 = .ok (.ireturn, 1) := by decide +kernel
theorem dX5_succeeds_79 : decode cX5_succeeds 79 = .ok (.iload_n 2, 1) := by decide +kernel
theorem dX5_succeeds_80 : decode cX5_succeeds 80 = .ok (.iconst 1, 1) := by decide +kernel
theorem dX5_succeeds_81 : decode cX5_succeeds 81 = .ok (.if_icmp .gt 28, 3) := by decide +kernel
theorem dX5_succeeds_84 : decode cX5_succeeds 84 = .ok (.aload_n 0, 1) := by decide +kernel
theorem dX5_succeeds_85 : decode cX5_succeeds 85 = .ok (.getfield 23, 3) := by decide +kernel
theorem dX5_succeeds_88 : decode cX5_succeeds 88 = .ok (.iload_n 3, 1) := by decide +kernel
theorem dX5_succeeds_89 : decode cX5_succeeds 89 = .ok (.iload_n 2, 1) := by decide +kernel
theorem dX5_succeeds_90 : decode cX5_succeeds 90 = .ok (.iconst 1, 1) := by decide +kernel
theorem dX5_succeeds_91 : decode cX5_succeeds 91 = .ok (.if_icmp .ne 7, 3) := by decide +kernel
theorem dX5_succeeds_94 : decode cX5_succeeds 94 = .ok (.iconst 1, 1) := by decide +kernel
theorem dX5_succeeds_95 : decode cX5_succeeds 95 = .ok (.goto 4, 3) := by decide +kernel
theorem dX5_succeeds_98 : decode cX5_succeeds 98 = .ok (.iconst 0, 1) := by decide +kernel
theorem dX5_succeeds_99 : decode cX5_succeeds 99 = .ok (.invokevirtual 107, 3) := by decide +kernel
theorem dX5_succeeds_102 : decode cX5_succeeds 102 = .ok (.ifCond .eq 7, 3) := by decide +kernel
theorem dX5_succeeds_105 : decode cX5_succeeds 105 = .ok (.iconst 1, 1) := by decide +kernel
theorem dX5_succeeds_106 : decode cX5_succeeds 106 = .ok (.goto 4, 3) := by decide +kernel
theorem dX5_succeeds_109 : decode cX5_succeeds 109 = .ok (.iconst 0, 1) := by decide +kernel
theorem dX5_succeeds_110 : decode cX5_succeeds 110 = .ok (.ireturn, 1) := by decide +kernel
theorem dX5_succeeds_111 : decode cX5_succeeds 111 = .ok (.iload_n 1, 1) := by decide +kernel
theorem dX5_succeeds_112 : decode cX5_succeeds 112 = .ok (.sipush 3000, 3) := by decide +kernel
theorem dX5_succeeds_115 : decode cX5_succeeds 115 = .ok (.if_icmp .ne 18, 3) := by decide +kernel
theorem dX5_succeeds_118 : decode cX5_succeeds 118 = .ok (.aload_n 0, 1) := by decide +kernel
theorem dX5_succeeds_119 : decode cX5_succeeds 119 = .ok (.getfield 23, 3) := by decide +kernel
theorem dX5_succeeds_122 : decode cX5_succeeds 122 = .ok (.invokevirtual 111, 3) := by decide +kernel
theorem dX5_succeeds_125 : decode cX5_succeeds 125 = .ok (.iconst (-1), 1) := by decide +kernel
theorem dX5_succeeds_126 : decode cX5_succeeds 126 = .ok (.if_icmp .eq 7, 3) := by decide +kernel
theorem dX5_succeeds_129 : decode cX5_succeeds 129 = .ok (.iconst 1, 1) := by decide +kernel
theorem dX5_succeeds_130 : decode cX5_succeeds 130 = .ok (.goto 4, 3) := by decide +kernel
theorem dX5_succeeds_133 : decode cX5_succeeds 133 = .ok (.iconst 0, 1) := by decide +kernel
theorem dX5_succeeds_134 : decode cX5_succeeds 134 = .ok (.ireturn, 1) := by decide +kernel
theorem dX5_succeeds_135 : decode cX5_succeeds 135 = .ok (.iload_n 1, 1) := by decide +kernel
theorem dX5_succeeds_136 : decode cX5_succeeds 136 = .ok (.sipush 4000, 3) := by decide +kernel
theorem dX5_succeeds_139 : decode cX5_succeeds 139 = .ok (.if_icmp .ne 18, 3) := by decide +kernel
theorem dX5_succeeds_142 : decode cX5_succeeds 142 = .ok (.aload_n 0, 1) := by decide +kernel
theorem dX5_succeeds_143 : decode cX5_succeeds 143 = .ok (.getfield 23, 3) := by decide +kernel
theorem dX5_succeeds_146 : decode cX5_succeeds 146 = .ok (.invokevirtual 114, 3) := by decide +kernel
theorem dX5_succeeds_149 : decode cX5_succeeds 149 = .ok (.iconst (-1), 1) := by decide +kernel
theorem dX5_succeeds_150 : decode cX5_succeeds 150 = .ok (.if_icmp .eq 7, 3) := by decide +kernel
theorem dX5_succeeds_153 : decode cX5_succeeds 153 = .ok (.iconst 1, 1) := by decide +kernel
theorem dX5_succeeds_154 : decode cX5_succeeds 154 = .ok (.goto 4, 3) := by decide +kernel
theorem dX5_succeeds_157 : decode cX5_succeeds 157 = .ok (.iconst 0, 1) := by decide +kernel
theorem dX5_succeeds_158 : decode cX5_succeeds 158 = .ok (.ireturn, 1) := by decide +kernel
theorem dX5_succeeds_159 : decode cX5_succeeds 159 = .ok (.iload_n 2, 1) := by decide +kernel
theorem dX5_succeeds_160 : decode cX5_succeeds 160 = .ok (.ifCond .ne 24, 3) := by decide +kernel
theorem dX5_succeeds_163 : decode cX5_succeeds 163 = .ok (.iload_n 3, 1) := by decide +kernel
theorem dX5_succeeds_164 : decode cX5_succeeds 164 = .ok (.bipush 9, 2) := by decide +kernel
theorem dX5_succeeds_166 : decode cX5_succeeds 166 = .ok (.if_icmp .gt 18, 3) := by decide +kernel
theorem dX5_succeeds_169 : decode cX5_succeeds 169 = .ok (.aload_n 0, 1) := by decide +kernel
theorem dX5_succeeds_170 : decode cX5_succeeds 170 = .ok (.getfield 23, 3) := by decide +kernel
theorem dX5_succeeds_173 : decode cX5_succeeds 173 = .ok (.iload_n 3, 1) := by decide +kernel
theorem dX5_succeeds_174 : decode cX5_succeeds 174 = .ok (.invokevirtual 241, 3) := by decide +kernel
theorem dX5_succeeds_177 : decode cX5_succeeds 177 = .ok (.ifCond .eq 7, 3) := by decide +kernel
theorem dX5_succeeds_180 : decode cX5_succeeds 180 = .ok (.iconst 1, 1) := by decide +kernel
theorem dX5_succeeds_181 : decode cX5_succeeds 181 = .ok (.goto 4, 3) := by decide +kernel
theorem dX5_succeeds_184 : decode cX5_succeeds 184 = .ok (.iconst 0, 1) := by decide +kernel
theorem dX5_succeeds_185 : decode cX5_succeeds 185 = .ok (.ireturn, 1) := by decide +kernel
theorem dX5_succeeds_186 : decode cX5_succeeds 186 = .ok (.iload_n 2, 1) := by decide +kernel
theorem dX5_succeeds_187 : decode cX5_succeeds 187 = .ok (.ifCond .ne 18, 3) := by decide +kernel
theorem dX5_succeeds_190 : decode cX5_succeeds 190 = .ok (.aload_n 0, 1) := by decide +kernel
theorem dX5_succeeds_191 : decode cX5_succeeds 191 = .ok (.getfield 23, 3) := by decide +kernel
theorem dX5_succeeds_194 : decode cX5_succeeds 194 = .ok (.invokevirtual 244, 3) := by decide +kernel
theorem dX5_succeeds_197 : decode cX5_succeeds 197 = .ok (.iload_n 3, 1) := by decide +kernel
theorem dX5_succeeds_198 : decode cX5_succeeds 198 = .ok (.if_icmp .ne 7, 3) := by decide +kernel
theorem dX5_succeeds_201 : decode cX5_succeeds 201 = .ok (.iconst 1, 1) := by decide +kernel
theorem dX5_succeeds_202 : decode cX5_succeeds 202 = .ok (.goto 4, 3) := by decide +kernel
theorem dX5_succeeds_205 : decode cX5_succeeds 205 = .ok (.iconst 0, 1) := by decide +kernel
theorem dX5_succeeds_206 : decode cX5_succeeds 206 = .ok (.ireturn, 1) := by decide +kernel
theorem dX5_succeeds_207 : decode cX5_succeeds 207 = .ok (.iload_n 2, 1) := by decide +kernel
theorem dX5_succeeds_208 : decode cX5_succeeds 208 = .ok (.invokestatic 149, 3) := by decide +kernel
theorem dX5_succeeds_211 : decode cX5_succeeds 211 = .ok (.ifCond .eq 19, 3) := by decide +kernel
theorem dX5_succeeds_214 : decode cX5_succeeds 214 = .ok (.aload_n 0, 1) := by decide +kernel
theorem dX5_succeeds_215 : decode cX5_succeeds 215 = .ok (.getfield 23, 3) := by decide +kernel
theorem dX5_succeeds_218 : decode cX5_succeeds 218 = .ok (.iload_n 2, 1) := by decide +kernel
theorem dX5_succeeds_219 : decode cX5_succeeds 219 = .ok (.invokevirtual 247, 3) := by decide +kernel
theorem dX5_succeeds_222 : decode cX5_succeeds 222 = .ok (.iload_n 3, 1) := by decide +kernel
theorem dX5_succeeds_223 : decode cX5_succeeds 223 = .ok (.if_icmp .gt 7, 3) := by decide +kernel
theorem dX5_succeeds_226 : decode cX5_succeeds 226 = .ok (.iconst 1, 1) := by decide +kernel
theorem dX5_succeeds_227 : decode cX5_succeeds 227 = .ok (.goto 4, 3) := by decide +kernel
theorem dX5_succeeds_230 : decode cX5_succeeds 230 = .ok (.iconst 0, 1) := by decide +kernel
theorem dX5_succeeds_231 : decode cX5_succeeds 231 = .ok (.ireturn, 1) := by decide +kernel
theorem dX5_succeeds_232 : decode cX5_succeeds 232 = .ok (.iload_n 2, 1) := by decide +kernel
theorem dX5_succeeds_233 : decode cX5_succeeds 233 = .ok (.ifCond .ne 21, 3) := by decide +kernel
theorem dX5_succeeds_236 : decode cX5_succeeds 236 = .ok (.aload_n 0, 1) := by decide +kernel
theorem dX5_succeeds_237 : decode cX5_succeeds 237 = .ok (.getfield 23, 3) := by decide +kernel
theorem dX5_succeeds_240 : decode cX5_succeeds 240 = .ok (.invokevirtual 137, 3) := by decide +kernel
theorem dX5_succeeds_243 : decode cX5_succeeds 243 = .ok (.invokevirtual 250, 3) := by decide +kernel
theorem dX5_succeeds_246 : decode cX5_succeeds 246 = .ok (.iload_n 3, 1) := by decide +kernel
theorem dX5_succeeds_247 : decode cX5_succeeds 247 = .ok (.if_icmp .ne 7, 3) := by decide +kernel
theorem dX5_succeeds_250 : decode cX5_succeeds 250 = .ok (.iconst 1, 1) := by decide +kernel
theorem dX5_succeeds_251 : decode cX5_succeeds 251 = .ok (.goto 4, 3) := by decide +kernel
theorem dX5_succeeds_254 : decode cX5_succeeds 254 = .ok (.iconst 0, 1) := by decide +kernel
theorem dX5_succeeds_255 : decode cX5_succeeds 255 = .ok (.ireturn, 1) := by decide +kernel
theorem dX5_succeeds_256 : decode cX5_succeeds 256 = .ok (.iload_n 2, 1) := by decide +kernel
theorem dX5_succeeds_257 : decode cX5_succeeds 257 = .ok (.ifCond .ne 21, 3) := by decide +kernel
theorem dX5_succeeds_260 : decode cX5_succeeds 260 = .ok (.aload_n 0, 1) := by decide +kernel
theorem dX5_succeeds_261 : decode cX5_succeeds 261 = .ok (.getfield 23, 3) := by decide +kernel
theorem dX5_succeeds_264 : decode cX5_succeeds 264 = .ok (.invokevirtual 137, 3) := by decide +kernel
theorem dX5_succeeds_267 : decode cX5_succeeds 267 = .ok (.invokevirtual 141, 3) := by decide +kernel
theorem dX5_succeeds_270 : decode cX5_succeeds 270 = .ok (.iload_n 3, 1) := by decide +kernel
theorem dX5_succeeds_271 : decode cX5_succeeds 271 = .ok (.if_icmp .lt 7, 3) := by decide +kernel
theorem dX5_succeeds_274 : decode cX5_succeeds 274 = .ok (.iconst 1, 1) := by decide +kernel
theorem dX5_succeeds_275 : decode cX5_succeeds 275 = .ok (.goto 4, 3) := by decide +kernel
theorem dX5_succeeds_278 : decode cX5_succeeds 278 = .ok (.iconst 0, 1) := by decide +kernel
theorem dX5_succeeds_279 : decode cX5_succeeds 279 = .ok (.ireturn, 1) := by decide +kernel
theorem dX5_succeeds_280 : decode cX5_succeeds 280 = .ok (.iconst 0, 1) := by decide +kernel
theorem dX5_succeeds_281 : decode cX5_succeeds 281 = .ok (.ireturn, 1) := by decide +kernel
theorem dX5_simulate_0 : decode cX5_simulate 0 = .ok (.iload_n 3, 1) := by decide +kernel
theorem dX5_simulate_1 : decode cX5_simulate 1 = .ok (.iconst 1, 1) := by decide +kernel
theorem dX5_simulate_2 : decode cX5_simulate 2 = .ok (.if_icmp .lt 10, 3) := by decide +kernel
theorem dX5_simulate_5 : decode cX5_simulate 5 = .ok (.iload_n 3, 1) := by decide +kernel
theorem dX5_simulate_6 : decode cX5_simulate 6 = .ok (.sipush 200, 3) := by decide +kernel
theorem dX5_simulate_9 : decode cX5_simulate 9 = .ok (.if_icmp .le 13, 3) := by decide +kernel
theorem dX5_simulate_12 : decode cX5_simulate 12 = .ok (.new 43, 3) := by decide +kernel
theorem dX5_simulate_15 : decode cX5_simulate 15 = .ok (.dup, 1) := by decide +kernel
theorem dX5_simulate_16 : decode cX5_simulate 16 = .ok (.ldc 253, 2) := by decide +kernel
theorem dX5_simulate_18 : decode cX5_simulate 18 = .ok (.invokespecial 47, 3) := by decide +kernel
theorem dX5_simulate_21 : decode cX5_simulate 21 = .ok (.athrow, 1) := by decide +kernel
theorem dX5_simulate_22 : decode cX5_simulate 22 = .ok (.aload_n 0, 1) := by decide +kernel
theorem dX5_simulate_23 : decode cX5_simulate 23 = .ok (.getfield 23, 3) := by decide +kernel
theorem dX5_simulate_26 : decode cX5_simulate 26 = .ok (.aload_n 0, 1) := by decide +kernel
theorem dX5_simulate_27 : decode cX5_simulate 27 = .ok (.getfield 19, 3) := by decide +kernel
theorem dX5_simulate_30 : decode cX5_simulate 30 = .ok (.invokevirtual 233, 3) := by decide +kernel
theorem dX5_simulate_33 : decode cX5_simulate 33 = .ok (.lload_n 1, 1) := by decide +kernel
theorem dX5_simulate_34 : decode cX5_simulate 34 = .ok (.lstore 4, 2) := by decide +kernel
theorem dX5_simulate_36 : decode cX5_simulate 36 = .ok (.iconst 0, 1) := by decide +kernel
theorem dX5_simulate_37 : decode cX5_simulate 37 = .ok (.istore 6, 2) := by decide +kernel
theorem dX5_simulate_39 : decode cX5_simulate 39 = .ok (.iload 6, 2) := by decide +kernel
theorem dX5_simulate_41 : decode cX5_simulate 41 = .ok (.iload_n 3, 1) := by decide +kernel
theorem dX5_simulate_42 : decode cX5_simulate 42 = .ok (.if_icmp .ge 31, 3) := by decide +kernel
theorem dX5_simulate_45 : decode cX5_simulate 45 = .ok (.lload 4, 2) := by decide +kernel
theorem dX5_simulate_47 : decode cX5_simulate 47 = .ok (.ldc2_w 255, 3) := by decide +kernel
theorem dX5_simulate_50 : decode cX5_simulate 50 = .ok (.lmul, 1) := by decide +kernel
theorem dX5_simulate_51 : decode cX5_simulate 51 = .ok (.ldc2_w 257, 3) := by decide +kernel
theorem dX5_simulate_54 : decode cX5_simulate 54 = .ok (.ladd, 1) := by decide +kernel
theorem dX5_simulate_55 : decode cX5_simulate 55 = .ok (.lstore 4, 2) := by decide +kernel
theorem dX5_simulate_57 : decode cX5_simulate 57 = .ok (.aload_n 0, 1) := by decide +kernel
theorem dX5_simulate_58 : decode cX5_simulate 58 = .ok (.lload 4, 2) := by decide +kernel
theorem dX5_simulate_60 : decode cX5_simulate 60 = .ok (.bipush 33, 2) := by decide +kernel
theorem dX5_simulate_62 : decode cX5_simulate 62 = .ok (.lushr, 1) := by decide +kernel
theorem dX5_simulate_63 : decode cX5_simulate 63 = .ok (.l2i, 1) := by decide +kernel
theorem dX5_simulate_64 : decode cX5_simulate 64 = .ok (.invokevirtual 259, 3) := by decide +kernel
theorem dX5_simulate_67 : decode cX5_simulate 67 = .ok (.iinc 6 1, 3) := by decide +kernel
theorem dX5_simulate_70 : decode cX5_simulate 70 = .ok (.goto (-31), 3) := by decide +kernel
theorem dX5_simulate_73 : decode cX5_simulate 73 = .ok (.aload_n 0, 1) := by decide +kernel
theorem dX5_simulate_74 : decode cX5_simulate 74 = .ok (.getfield 23, 3) := by decide +kernel
theorem dX5_simulate_77 : decode cX5_simulate 77 = .ok (.invokevirtual 182, 3) := by decide +kernel
theorem dX5_simulate_80 : decode cX5_simulate 80 = .ok (.aload_n 0, 1) := by decide +kernel
theorem dX5_simulate_81 : decode cX5_simulate 81 = .ok (.getfield 19, 3) := by decide +kernel
theorem dX5_simulate_84 : decode cX5_simulate 84 = .ok (.invokevirtual 182, 3) := by decide +kernel
theorem dX5_simulate_87 : decode cX5_simulate 87 = .ok (.isub, 1) := by decide +kernel
theorem dX5_simulate_88 : decode cX5_simulate 88 = .ok (.istore 6, 2) := by decide +kernel
theorem dX5_simulate_90 : decode cX5_simulate 90 = .ok (.sipush 10000, 3) := by decide +kernel
theorem dX5_simulate_93 : decode cX5_simulate 93 = .ok (.iload 6, 2) := by decide +kernel
theorem dX5_simulate_95 : decode cX5_simulate 95 = .ok (.imul, 1) := by decide +kernel
theorem dX5_simulate_96 : decode cX5_simulate 96 = .ok (.bipush 100, 2) := by decide +kernel
theorem dX5_simulate_98 : decode cX5_simulate 98 = .ok (.aload_n 0, 1) := by decide +kernel
theorem dX5_simulate_99 : decode cX5_simulate 99 = .ok (.getfield 23, 3) := by decide +kernel
theorem dX5_simulate_102 : decode cX5_simulate 102 = .ok (.invokevirtual 137, 3) := by decide +kernel
theorem dX5_simulate_105 : decode cX5_simulate 105 = .ok (.invokevirtual 141, 3) := by decide +kernel
theorem dX5_simulate_108 : decode cX5_simulate 108 = .ok (.imul, 1) := by decide +kernel
theorem dX5_simulate_109 : decode cX5_simulate 109 = .ok (.iadd, 1) := by decide +kernel
theorem dX5_simulate_110 : decode cX5_simulate 110 = .ok (.aload_n 0, 1) := by decide +kernel
theorem dX5_simulate_111 : decode cX5_simulate 111 = .ok (.getfield 23, 3) := by decide +kernel
theorem dX5_simulate_114 : decode cX5_simulate 114 = .ok (.invokevirtual 263, 3) := by decide +kernel
theorem dX5_simulate_117 : decode cX5_simulate 117 = .ok (.iadd, 1) := by decide +kernel
theorem dX5_simulate_118 : decode cX5_simulate 118 = .ok (.ireturn, 1) := by decide +kernel
theorem dX5_simulateTurn_0 : decode cX5_simulateTurn 0 = .ok (.iload_n 1, 1) := by decide +kernel
theorem dX5_simulateTurn_1 : decode cX5_simulateTurn 1 = .ok (.bipush 16, 2) := by decide +kernel
theorem dX5_simulateTurn_3 : decode cX5_simulateTurn 3 = .ok (.idiv, 1) := by decide +kernel
theorem dX5_simulateTurn_4 : decode cX5_simulateTurn 4 = .ok (.istore_n 2, 1) := by decide +kernel
theorem dX5_simulateTurn_5 : decode cX5_simulateTurn 5 = .ok (.aload_n 0, 1) := by decide +kernel
theorem dX5_simulateTurn_6 : decode cX5_simulateTurn 6 = .ok (.getfield 23, 3) := by decide +kernel
theorem dX5_simulateTurn_9 : decode cX5_simulateTurn 9 = .ok (.invokevirtual 185, 3) := by decide +kernel
theorem dX5_simulateTurn_12 : decode cX5_simulateTurn 12 = .ok (.ifCond .ne 19, 3) := by decide +kernel
theorem dX5_simulateTurn_15 : decode cX5_simulateTurn 15 = .ok (.aload_n 0, 1) := by decide +kernel
theorem dX5_simulateTurn_16 : decode cX5_simulateTurn 16 = .ok (.getfield 23, 3) := by decide +kernel
theorem dX5_simulateTurn_19 : decode cX5_simulateTurn 19 = .ok (.iconst 2, 1) := by decide +kernel
theorem dX5_simulateTurn_20 : decode cX5_simulateTurn 20 = .ok (.iload_n 2, 1) := by decide +kernel
theorem dX5_simulateTurn_21 : decode cX5_simulateTurn 21 = .ok (.iconst 3, 1) := by decide +kernel
theorem dX5_simulateTurn_22 : decode cX5_simulateTurn 22 = .ok (.irem, 1) := by decide +kernel
theorem dX5_simulateTurn_23 : decode cX5_simulateTurn 23 = .ok (.iadd, 1) := by decide +kernel
theorem dX5_simulateTurn_24 : decode cX5_simulateTurn 24 = .ok (.iload_n 2, 1) := by decide +kernel
theorem dX5_simulateTurn_25 : decode cX5_simulateTurn 25 = .ok (.i2l, 1) := by decide +kernel
theorem dX5_simulateTurn_26 : decode cX5_simulateTurn 26 = .ok (.invokevirtual 103, 3) := by decide +kernel
theorem dX5_simulateTurn_29 : decode cX5_simulateTurn 29 = .ok (.pop, 1) := by decide +kernel
theorem dX5_simulateTurn_30 : decode cX5_simulateTurn 30 = .ok (.return_, 1) := by decide +kernel
theorem dX5_simulateTurn_31 : decode cX5_simulateTurn 31 = .ok (.aload_n 0, 1) := by decide +kernel
theorem dX5_simulateTurn_32 : decode cX5_simulateTurn 32 = .ok (.getfield 23, 3) := by decide +kernel
theorem dX5_simulateTurn_35 : decode cX5_simulateTurn 35 = .ok (.invokevirtual 214, 3) := by decide +kernel
theorem dX5_simulateTurn_38 : decode cX5_simulateTurn 38 = .ok (.istore_n 3, 1) := by decide +kernel
theorem dX5_simulateTurn_39 : decode cX5_simulateTurn 39 = .ok (.iload_n 3, 1) := by decide +kernel
theorem dX5_simulateTurn_40 : decode cX5_simulateTurn 40 = .ok (.invokestatic 266, 3) := by decide +kernel
theorem dX5_simulateTurn_43 : decode cX5_simulateTurn 43 = .ok (.istore 4, 2) := by decide +kernel
theorem dX5_simulateTurn_45 : decode cX5_simulateTurn 45 = .ok (.iload 4, 2) := by decide +kernel
theorem dX5_simulateTurn_47 : decode cX5_simulateTurn 47 = .ok (.ifCond .le 37, 3) := by decide +kernel
theorem dX5_simulateTurn_50 : decode cX5_simulateTurn 50 = .ok (.aload_n 0, 1) := by decide +kernel
theorem dX5_simulateTurn_51 : decode cX5_simulateTurn 51 = .ok (.getfield 23, 3) := by decide +kernel
theorem dX5_simulateTurn_54 : decode cX5_simulateTurn 54 = .ok (.iload_n 3, 1) := by decide +kernel
theorem dX5_simulateTurn_55 : decode cX5_simulateTurn 55 = .ok (.iload_n 1, 1) := by decide +kernel
theorem dX5_simulateTurn_56 : decode cX5_simulateTurn 56 = .ok (.bipush 16, 2) := by decide +kernel
theorem dX5_simulateTurn_58 : decode cX5_simulateTurn 58 = .ok (.irem, 1) := by decide +kernel
theorem dX5_simulateTurn_59 : decode cX5_simulateTurn 59 = .ok (.iload 4, 2) := by decide +kernel
theorem dX5_simulateTurn_61 : decode cX5_simulateTurn 61 = .ok (.irem, 1) := by decide +kernel
theorem dX5_simulateTurn_62 : decode cX5_simulateTurn 62 = .ok (.invokestatic 271, 3) := by decide +kernel
theorem dX5_simulateTurn_65 : decode cX5_simulateTurn 65 = .ok (.iload_n 2, 1) := by decide +kernel
theorem dX5_simulateTurn_66 : decode cX5_simulateTurn 66 = .ok (.iconst 2, 1) := by decide +kernel
theorem dX5_simulateTurn_67 : decode cX5_simulateTurn 67 = .ok (.irem, 1) := by decide +kernel
theorem dX5_simulateTurn_68 : decode cX5_simulateTurn 68 = .ok (.iconst 1, 1) := by decide +kernel
theorem dX5_simulateTurn_69 : decode cX5_simulateTurn 69 = .ok (.if_icmp .ne 7, 3) := by decide +kernel
theorem dX5_simulateTurn_72 : decode cX5_simulateTurn 72 = .ok (.iconst 1, 1) := by decide +kernel
theorem dX5_simulateTurn_73 : decode cX5_simulateTurn 73 = .ok (.goto 4, 3) := by decide +kernel
theorem dX5_simulateTurn_76 : decode cX5_simulateTurn 76 = .ok (.iconst 0, 1) := by decide +kernel
theorem dX5_simulateTurn_77 : decode cX5_simulateTurn 77 = .ok (.invokevirtual 107, 3) := by decide +kernel
theorem dX5_simulateTurn_80 : decode cX5_simulateTurn 80 = .ok (.pop, 1) := by decide +kernel
theorem dX5_simulateTurn_81 : decode cX5_simulateTurn 81 = .ok (.goto 32, 3) := by decide +kernel
theorem dX5_simulateTurn_84 : decode cX5_simulateTurn 84 = .ok (.aload_n 0, 1) := by decide +kernel
theorem dX5_simulateTurn_85 : decode cX5_simulateTurn 85 = .ok (.getfield 23, 3) := by decide +kernel
theorem dX5_simulateTurn_88 : decode cX5_simulateTurn 88 = .ok (.invokevirtual 194, 3) := by decide +kernel
theorem dX5_simulateTurn_91 : decode cX5_simulateTurn 91 = .ok (.ifCond .eq 14, 3) := by decide +kernel
theorem dX5_simulateTurn_94 : decode cX5_simulateTurn 94 = .ok (.aload_n 0, 1) := by decide +kernel
theorem dX5_simulateTurn_95 : decode cX5_simulateTurn 95 = .ok (.getfield 23, 3) := by decide +kernel
theorem dX5_simulateTurn_98 : decode cX5_simulateTurn 98 = .ok (.invokevirtual 111, 3) := by decide +kernel
theorem dX5_simulateTurn_101 : decode cX5_simulateTurn 101 = .ok (.pop, 1) := by decide +kernel
theorem dX5_simulateTurn_102 : decode cX5_simulateTurn 102 = .ok (.goto 11, 3) := by decide +kernel
theorem dX5_simulateTurn_105 : decode cX5_simulateTurn 105 = .ok (.aload_n 0, 1) := by decide +kernel
theorem dX5_simulateTurn_106 : decode cX5_simulateTurn 106 = .ok (.getfield 23, 3) := by decide +kernel
theorem dX5_simulateTurn_109 : decode cX5_simulateTurn 109 = .ok (.invokevirtual 114, 3) := by decide +kernel
theorem dX5_simulateTurn_112 : decode cX5_simulateTurn 112 = .ok (.pop, 1) := by decide +kernel
theorem dX5_simulateTurn_113 : decode cX5_simulateTurn 113 = .ok (.return_, 1) := by decide +kernel
theorem dX5_memberOf_0 : decode cX5_memberOf 0 = .ok (.iload_n 1, 1) := by decide +kernel
theorem dX5_memberOf_1 : decode cX5_memberOf 1 = .ok (.istore_n 2, 1) := by decide +kernel
theorem dX5_memberOf_2 : decode cX5_memberOf 2 = .ok (.iconst 0, 1) := by decide +kernel
theorem dX5_memberOf_3 : decode cX5_memberOf 3 = .ok (.istore_n 3, 1) := by decide +kernel
theorem dX5_memberOf_4 : decode cX5_memberOf 4 = .ok (.iload_n 3, 1) := by decide +kernel
theorem dX5_memberOf_5 : decode cX5_memberOf 5 = .ok (.bipush 28, 2) := by decide +kernel
theorem dX5_memberOf_7 : decode cX5_memberOf 7 = .ok (.if_icmp .ge 26, 3) := by decide +kernel
theorem dX5_memberOf_10 : decode cX5_memberOf 10 = .ok (.iload_n 0, 1) := by decide +kernel
theorem dX5_memberOf_11 : decode cX5_memberOf 11 = .ok (.iload_n 3, 1) := by decide +kernel
theorem dX5_memberOf_12 : decode cX5_memberOf 12 = .ok (.iushr, 1) := by decide +kernel
theorem dX5_memberOf_13 : decode cX5_memberOf 13 = .ok (.iconst 1, 1) := by decide +kernel
theorem dX5_memberOf_14 : decode cX5_memberOf 14 = .ok (.iand, 1) := by decide +kernel
theorem dX5_memberOf_15 : decode cX5_memberOf 15 = .ok (.ifCond .eq 12, 3) := by decide +kernel
theorem dX5_memberOf_18 : decode cX5_memberOf 18 = .ok (.iload_n 2, 1) := by decide +kernel
theorem dX5_memberOf_19 : decode cX5_memberOf 19 = .ok (.ifCond .ne 5, 3) := by decide +kernel
theorem dX5_memberOf_22 : decode cX5_memberOf 22 = .ok (.iload_n 3, 1) := by decide +kernel
theorem dX5_memberOf_23 : decode cX5_memberOf 23 = .ok (.ireturn, 1) := by decide +kernel
theorem dX5_memberOf_24 : decode cX5_memberOf 24 = .ok (.iinc 2 (-1), 3) := by decide +kernel
theorem dX5_memberOf_27 : decode cX5_memberOf 27 = .ok (.iinc 3 1, 3) := by decide +kernel
theorem dX5_memberOf_30 : decode cX5_memberOf 30 = .ok (.goto (-26), 3) := by decide +kernel
theorem dX5_memberOf_33 : decode cX5_memberOf 33 = .ok (.iconst (-1), 1) := by decide +kernel
theorem dX5_memberOf_34 : decode cX5_memberOf 34 = .ok (.ireturn, 1) := by decide +kernel
theorem dX5_save_0 : decode cX5_save 0 = .ok (.iload_n 1, 1) := by decide +kernel
theorem dX5_save_1 : decode cX5_save 1 = .ok (.ifCond .lt 8, 3) := by decide +kernel
theorem dX5_save_4 : decode cX5_save 4 = .ok (.iload_n 1, 1) := by decide +kernel
theorem dX5_save_5 : decode cX5_save 5 = .ok (.iconst 2, 1) := by decide +kernel
theorem dX5_save_6 : decode cX5_save 6 = .ok (.if_icmp .lt 14, 3) := by decide +kernel
theorem dX5_save_9 : decode cX5_save 9 = .ok (.new 128, 3) := by decide +kernel
theorem dX5_save_12 : decode cX5_save 12 = .ok (.dup, 1) := by decide +kernel
theorem dX5_save_13 : decode cX5_save 13 = .ok (.ldc_w 274, 3) := by decide +kernel
theorem dX5_save_16 : decode cX5_save 16 = .ok (.invokespecial 132, 3) := by decide +kernel
theorem dX5_save_19 : decode cX5_save 19 = .ok (.athrow, 1) := by decide +kernel
theorem dX5_save_20 : decode cX5_save 20 = .ok (.aload_n 0, 1) := by decide +kernel
theorem dX5_save_21 : decode cX5_save 21 = .ok (.iload_n 1, 1) := by decide +kernel
theorem dX5_save_22 : decode cX5_save 22 = .ok (.invokevirtual 276, 3) := by decide +kernel
theorem dX5_save_25 : decode cX5_save 25 = .ok (.aload_n 0, 1) := by decide +kernel
theorem dX5_save_26 : decode cX5_save 26 = .ok (.getfield 19, 3) := by decide +kernel
theorem dX5_save_29 : decode cX5_save 29 = .ok (.invokevirtual 280, 3) := by decide +kernel
theorem dX5_save_32 : decode cX5_save 32 = .ok (.aload_n 0, 1) := by decide +kernel
theorem dX5_save_33 : decode cX5_save 33 = .ok (.getfield 19, 3) := by decide +kernel
theorem dX5_save_36 : decode cX5_save 36 = .ok (.invokevirtual 182, 3) := by decide +kernel
theorem dX5_save_39 : decode cX5_save 39 = .ok (.ireturn, 1) := by decide +kernel
theorem dX5_restore_0 : decode cX5_restore 0 = .ok (.iload_n 1, 1) := by decide +kernel
theorem dX5_restore_1 : decode cX5_restore 1 = .ok (.ifCond .lt 8, 3) := by decide +kernel
theorem dX5_restore_4 : decode cX5_restore 4 = .ok (.iload_n 1, 1) := by decide +kernel
theorem dX5_restore_5 : decode cX5_restore 5 = .ok (.iconst 2, 1) := by decide +kernel
theorem dX5_restore_6 : decode cX5_restore 6 = .ok (.if_icmp .lt 14, 3) := by decide +kernel
theorem dX5_restore_9 : decode cX5_restore 9 = .ok (.new 128, 3) := by decide +kernel
theorem dX5_restore_12 : decode cX5_restore 12 = .ok (.dup, 1) := by decide +kernel
theorem dX5_restore_13 : decode cX5_restore 13 = .ok (.ldc_w 274, 3) := by decide +kernel
theorem dX5_restore_16 : decode cX5_restore 16 = .ok (.invokespecial 132, 3) := by decide +kernel
theorem dX5_restore_19 : decode cX5_restore 19 = .ok (.athrow, 1) := by decide +kernel
theorem dX5_restore_20 : decode cX5_restore 20 = .ok (.aload_n 0, 1) := by decide +kernel
theorem dX5_restore_21 : decode cX5_restore 21 = .ok (.iload_n 1, 1) := by decide +kernel
theorem dX5_restore_22 : decode cX5_restore 22 = .ok (.invokevirtual 276, 3) := by decide +kernel
theorem dX5_restore_25 : decode cX5_restore 25 = .ok (.invokevirtual 283, 3) := by decide +kernel
theorem dX5_restore_28 : decode cX5_restore 28 = .ok (.ifCond .ne 14, 3) := by decide +kernel
theorem dX5_restore_31 : decode cX5_restore 31 = .ok (.new 54, 3) := by decide +kernel
theorem dX5_restore_34 : decode cX5_restore 34 = .ok (.dup, 1) := by decide +kernel
theorem dX5_restore_35 : decode cX5_restore 35 = .ok (.ldc_w 284, 3) := by decide +kernel
theorem dX5_restore_38 : decode cX5_restore 38 = .ok (.invokespecial 58, 3) := by decide +kernel
theorem dX5_restore_41 : decode cX5_restore 41 = .ok (.athrow, 1) := by decide +kernel
theorem dX5_restore_42 : decode cX5_restore 42 = .ok (.aload_n 0, 1) := by decide +kernel
theorem dX5_restore_43 : decode cX5_restore 43 = .ok (.iload_n 1, 1) := by decide +kernel
theorem dX5_restore_44 : decode cX5_restore 44 = .ok (.invokevirtual 276, 3) := by decide +kernel
theorem dX5_restore_47 : decode cX5_restore 47 = .ok (.aload_n 0, 1) := by decide +kernel
theorem dX5_restore_48 : decode cX5_restore 48 = .ok (.getfield 19, 3) := by decide +kernel
theorem dX5_restore_51 : decode cX5_restore 51 = .ok (.invokevirtual 286, 3) := by decide +kernel
theorem dX5_restore_54 : decode cX5_restore 54 = .ok (.aload_n 0, 1) := by decide +kernel
theorem dX5_restore_55 : decode cX5_restore 55 = .ok (.getfield 29, 3) := by decide +kernel
theorem dX5_restore_58 : decode cX5_restore 58 = .ok (.invokevirtual 75, 3) := by decide +kernel
theorem dX5_restore_61 : decode cX5_restore 61 = .ok (.aload_n 0, 1) := by decide +kernel
theorem dX5_restore_62 : decode cX5_restore 62 = .ok (.getfield 19, 3) := by decide +kernel
theorem dX5_restore_65 : decode cX5_restore 65 = .ok (.invokevirtual 182, 3) := by decide +kernel
theorem dX5_restore_68 : decode cX5_restore 68 = .ok (.ireturn, 1) := by decide +kernel
theorem dX5_slotOf_0 : decode cX5_slotOf 0 = .ok (.iload_n 1, 1) := by decide +kernel
theorem dX5_slotOf_1 : decode cX5_slotOf 1 = .ok (.ifCond .ne 10, 3) := by decide +kernel
theorem dX5_slotOf_4 : decode cX5_slotOf 4 = .ok (.aload_n 0, 1) := by decide +kernel
theorem dX5_slotOf_5 : decode cX5_slotOf 5 = .ok (.getfield 36, 3) := by decide +kernel
theorem dX5_slotOf_8 : decode cX5_slotOf 8 = .ok (.goto 7, 3) := by decide +kernel
theorem dX5_slotOf_11 : decode cX5_slotOf 11 = .ok (.aload_n 0, 1) := by decide +kernel
theorem dX5_slotOf_12 : decode cX5_slotOf 12 = .ok (.getfield 40, 3) := by decide +kernel
theorem dX5_slotOf_15 : decode cX5_slotOf 15 = .ok (.areturn, 1) := by decide +kernel
theorem dX5_isTile_0 : decode cX5_isTile 0 = .ok (.iload_n 0, 1) := by decide +kernel
theorem dX5_isTile_1 : decode cX5_isTile 1 = .ok (.ifCond .lt 13, 3) := by decide +kernel
theorem dX5_isTile_4 : decode cX5_isTile 4 = .ok (.iload_n 0, 1) := by decide +kernel
theorem dX5_isTile_5 : decode cX5_isTile 5 = .ok (.bipush 28, 2) := by decide +kernel
theorem dX5_isTile_7 : decode cX5_isTile 7 = .ok (.if_icmp .ge 7, 3) := by decide +kernel
theorem dX5_isTile_10 : decode cX5_isTile 10 = .ok (.iconst 1, 1) := by decide +kernel
theorem dX5_isTile_11 : decode cX5_isTile 11 = .ok (.goto 4, 3) := by decide +kernel
theorem dX5_isTile_14 : decode cX5_isTile 14 = .ok (.iconst 0, 1) := by decide +kernel
theorem dX5_isTile_15 : decode cX5_isTile 15 = .ok (.ireturn, 1) := by decide +kernel
theorem dX5_isPlayer_0 : decode cX5_isPlayer 0 = .ok (.iload_n 0, 1) := by decide +kernel
theorem dX5_isPlayer_1 : decode cX5_isPlayer 1 = .ok (.ifCond .lt 12, 3) := by decide +kernel
theorem dX5_isPlayer_4 : decode cX5_isPlayer 4 = .ok (.iload_n 0, 1) := by decide +kernel
theorem dX5_isPlayer_5 : decode cX5_isPlayer 5 = .ok (.iconst 4, 1) := by decide +kernel
theorem dX5_isPlayer_6 : decode cX5_isPlayer 6 = .ok (.if_icmp .ge 7, 3) := by decide +kernel
theorem dX5_isPlayer_9 : decode cX5_isPlayer 9 = .ok (.iconst 1, 1) := by decide +kernel
theorem dX5_isPlayer_10 : decode cX5_isPlayer 10 = .ok (.goto 4, 3) := by decide +kernel
theorem dX5_isPlayer_13 : decode cX5_isPlayer 13 = .ok (.iconst 0, 1) := by decide +kernel
theorem dX5_isPlayer_14 : decode cX5_isPlayer 14 = .ok (.ireturn, 1) := by decide +kernel
theorem dX5_isNumberOfPlayers_0 : decode cX5_isNumberOfPlayers 0 = .ok (.iload_n 0, 1) := by decide +kernel
theorem dX5_isNumberOfPlayers_1 : decode cX5_isNumberOfPlayers 1 = .ok (.iconst 2, 1) := by decide +kernel
theorem dX5_isNumberOfPlayers_2 : decode cX5_isNumberOfPlayers 2 = .ok (.if_icmp .lt 12, 3) := by decide +kernel
theorem dX5_isNumberOfPlayers_5 : decode cX5_isNumberOfPlayers 5 = .ok (.iload_n 0, 1) := by decide +kernel
theorem dX5_isNumberOfPlayers_6 : decode cX5_isNumberOfPlayers 6 = .ok (.iconst 4, 1) := by decide +kernel
theorem dX5_isNumberOfPlayers_7 : decode cX5_isNumberOfPlayers 7 = .ok (.if_icmp .gt 7, 3) := by decide +kernel
theorem dX5_isNumberOfPlayers_10 : decode cX5_isNumberOfPlayers 10 = .ok (.iconst 1, 1) := by decide +kernel
theorem dX5_isNumberOfPlayers_11 : decode cX5_isNumberOfPlayers 11 = .ok (.goto 4, 3) := by decide +kernel
theorem dX5_isNumberOfPlayers_14 : decode cX5_isNumberOfPlayers 14 = .ok (.iconst 0, 1) := by decide +kernel
theorem dX5_isNumberOfPlayers_15 : decode cX5_isNumberOfPlayers 15 = .ok (.ireturn, 1) := by decide +kernel
theorem dX5_isCell_0 : decode cX5_isCell 0 = .ok (.iload_n 0, 1) := by decide +kernel
theorem dX5_isCell_1 : decode cX5_isCell 1 = .ok (.ifCond .lt 23, 3) := by decide +kernel
theorem dX5_isCell_4 : decode cX5_isCell 4 = .ok (.iload_n 0, 1) := by decide +kernel
theorem dX5_isCell_5 : decode cX5_isCell 5 = .ok (.bipush 25, 2) := by decide +kernel
theorem dX5_isCell_7 : decode cX5_isCell 7 = .ok (.if_icmp .ge 17, 3) := by decide +kernel
theorem dX5_isCell_10 : decode cX5_isCell 10 = .ok (.iload_n 1, 1) := by decide +kernel
theorem dX5_isCell_11 : decode cX5_isCell 11 = .ok (.ifCond .lt 13, 3) := by decide +kernel
theorem dX5_isCell_14 : decode cX5_isCell 14 = .ok (.iload_n 1, 1) := by decide +kernel
theorem dX5_isCell_15 : decode cX5_isCell 15 = .ok (.bipush 25, 2) := by decide +kernel
theorem dX5_isCell_17 : decode cX5_isCell 17 = .ok (.if_icmp .ge 7, 3) := by decide +kernel
theorem dX5_isCell_20 : decode cX5_isCell 20 = .ok (.iconst 1, 1) := by decide +kernel
theorem dX5_isCell_21 : decode cX5_isCell 21 = .ok (.goto 4, 3) := by decide +kernel
theorem dX5_isCell_24 : decode cX5_isCell 24 = .ok (.iconst 0, 1) := by decide +kernel
theorem dX5_isCell_25 : decode cX5_isCell 25 = .ok (.ireturn, 1) := by decide +kernel
theorem dX5_lowOf_0 : decode cX5_lowOf 0 = .ok (.iload_n 0, 1) := by decide +kernel
theorem dX5_lowOf_1 : decode cX5_lowOf 1 = .ok (.ifCond .lt 17, 3) := by decide +kernel
theorem dX5_lowOf_4 : decode cX5_lowOf 4 = .ok (.iload_n 0, 1) := by decide +kernel
theorem dX5_lowOf_5 : decode cX5_lowOf 5 = .ok (.bipush 28, 2) := by decide +kernel
theorem dX5_lowOf_7 : decode cX5_lowOf 7 = .ok (.if_icmp .ge 11, 3) := by decide +kernel
theorem dX5_lowOf_10 : decode cX5_lowOf 10 = .ok (.getstatic 289, 3) := by decide +kernel
theorem dX5_lowOf_13 : decode cX5_lowOf 13 = .ok (.iload_n 0, 1) := by decide +kernel
theorem dX5_lowOf_14 : decode cX5_lowOf 14 = .ok (.iaload, 1) := by decide +kernel
theorem dX5_lowOf_15 : decode cX5_lowOf 15 = .ok (.goto 4, 3) := by decide +kernel
theorem dX5_lowOf_18 : decode cX5_lowOf 18 = .ok (.iconst 0, 1) := by decide +kernel
theorem dX5_lowOf_19 : decode cX5_lowOf 19 = .ok (.ireturn, 1) := by decide +kernel
theorem dX5_highOf_0 : decode cX5_highOf 0 = .ok (.iload_n 0, 1) := by decide +kernel
theorem dX5_highOf_1 : decode cX5_highOf 1 = .ok (.ifCond .lt 17, 3) := by decide +kernel
theorem dX5_highOf_4 : decode cX5_highOf 4 = .ok (.iload_n 0, 1) := by decide +kernel
theorem dX5_highOf_5 : decode cX5_highOf 5 = .ok (.bipush 28, 2) := by decide +kernel
theorem dX5_highOf_7 : decode cX5_highOf 7 = .ok (.if_icmp .ge 11, 3) := by decide +kernel
theorem dX5_highOf_10 : decode cX5_highOf 10 = .ok (.getstatic 293, 3) := by decide +kernel
theorem dX5_highOf_13 : decode cX5_highOf 13 = .ok (.iload_n 0, 1) := by decide +kernel
theorem dX5_highOf_14 : decode cX5_highOf 14 = .ok (.iaload, 1) := by decide +kernel
theorem dX5_highOf_15 : decode cX5_highOf 15 = .ok (.goto 4, 3) := by decide +kernel
theorem dX5_highOf_18 : decode cX5_highOf 18 = .ok (.iconst 0, 1) := by decide +kernel
theorem dX5_highOf_19 : decode cX5_highOf 19 = .ok (.ireturn, 1) := by decide +kernel
theorem dX5_pipsOn_0 : decode cX5_pipsOn 0 = .ok (.iload_n 0, 1) := by decide +kernel
theorem dX5_pipsOn_1 : decode cX5_pipsOn 1 = .ok (.ifCond .lt 23, 3) := by decide +kernel
theorem dX5_pipsOn_4 : decode cX5_pipsOn 4 = .ok (.iload_n 0, 1) := by decide +kernel
theorem dX5_pipsOn_5 : decode cX5_pipsOn 5 = .ok (.bipush 28, 2) := by decide +kernel
theorem dX5_pipsOn_7 : decode cX5_pipsOn 7 = .ok (.if_icmp .ge 17, 3) := by decide +kernel
theorem dX5_pipsOn_10 : decode cX5_pipsOn 10 = .ok (.getstatic 289, 3) := by decide +kernel
theorem dX5_pipsOn_13 : decode cX5_pipsOn 13 = .ok (.iload_n 0, 1) := by decide +kernel
theorem dX5_pipsOn_14 : decode cX5_pipsOn 14 = .ok (.iaload, 1) := by decide +kernel
theorem dX5_pipsOn_15 : decode cX5_pipsOn 15 = .ok (.getstatic 293, 3) := by decide +kernel
theorem dX5_pipsOn_18 : decode cX5_pipsOn 18 = .ok (.iload_n 0, 1) := by decide +kernel
theorem dX5_pipsOn_19 : decode cX5_pipsOn 19 = .ok (.iaload, 1) := by decide +kernel
theorem dX5_pipsOn_20 : decode cX5_pipsOn 20 = .ok (.iadd, 1) := by decide +kernel
theorem dX5_pipsOn_21 : decode cX5_pipsOn 21 = .ok (.goto 4, 3) := by decide +kernel
theorem dX5_pipsOn_24 : decode cX5_pipsOn 24 = .ok (.iconst 0, 1) := by decide +kernel
theorem dX5_pipsOn_25 : decode cX5_pipsOn 25 = .ok (.ireturn, 1) := by decide +kernel
theorem dX5_tileWith_0 : decode cX5_tileWith 0 = .ok (.iload_n 0, 1) := by decide +kernel
theorem dX5_tileWith_1 : decode cX5_tileWith 1 = .ok (.iload_n 1, 1) := by decide +kernel
theorem dX5_tileWith_2 : decode cX5_tileWith 2 = .ok (.invokestatic 296, 3) := by decide +kernel
theorem dX5_tileWith_5 : decode cX5_tileWith 5 = .ok (.istore_n 2, 1) := by decide +kernel
theorem dX5_tileWith_6 : decode cX5_tileWith 6 = .ok (.iload_n 2, 1) := by decide +kernel
theorem dX5_tileWith_7 : decode cX5_tileWith 7 = .ok (.bipush 15, 2) := by decide +kernel
theorem dX5_tileWith_9 : decode cX5_tileWith 9 = .ok (.iload_n 2, 1) := by decide +kernel
theorem dX5_tileWith_10 : decode cX5_tileWith 10 = .ok (.isub, 1) := by decide +kernel
theorem dX5_tileWith_11 : decode cX5_tileWith 11 = .ok (.imul, 1) := by decide +kernel
theorem dX5_tileWith_12 : decode cX5_tileWith 12 = .ok (.iconst 2, 1) := by decide +kernel
theorem dX5_tileWith_13 : decode cX5_tileWith 13 = .ok (.idiv, 1) := by decide +kernel
theorem dX5_tileWith_14 : decode cX5_tileWith 14 = .ok (.iload_n 0, 1) := by decide +kernel
theorem dX5_tileWith_15 : decode cX5_tileWith 15 = .ok (.iload_n 1, 1) := by decide +kernel
theorem dX5_tileWith_16 : decode cX5_tileWith 16 = .ok (.invokestatic 301, 3) := by decide +kernel
theorem dX5_tileWith_19 : decode cX5_tileWith 19 = .ok (.iadd, 1) := by decide +kernel
theorem dX5_tileWith_20 : decode cX5_tileWith 20 = .ok (.iload_n 2, 1) := by decide +kernel
theorem dX5_tileWith_21 : decode cX5_tileWith 21 = .ok (.isub, 1) := by decide +kernel
theorem dX5_tileWith_22 : decode cX5_tileWith 22 = .ok (.ireturn, 1) := by decide +kernel
theorem dX5_stepX_0 : decode cX5_stepX 0 = .ok (.iload_n 0, 1) := by decide +kernel
theorem dX5_stepX_1 : decode cX5_stepX 1 = .ok (.ifCond .ne 7, 3) := by decide +kernel
theorem dX5_stepX_4 : decode cX5_stepX 4 = .ok (.iconst 1, 1) := by decide +kernel
theorem dX5_stepX_5 : decode cX5_stepX 5 = .ok (.goto 13, 3) := by decide +kernel
theorem dX5_stepX_8 : decode cX5_stepX 8 = .ok (.iload_n 0, 1) := by decide +kernel
theorem dX5_stepX_9 : decode cX5_stepX 9 = .ok (.iconst 2, 1) := by decide +kernel
theorem dX5_stepX_10 : decode cX5_stepX 10 = .ok (.if_icmp .ne 7, 3) := by decide +kernel
theorem dX5_stepX_13 : decode cX5_stepX 13 = .ok (.iconst (-1), 1) := by decide +kernel
theorem dX5_stepX_14 : decode cX5_stepX 14 = .ok (.goto 4, 3) := by decide +kernel
theorem dX5_stepX_17 : decode cX5_stepX 17 = .ok (.iconst 0, 1) := by decide +kernel
theorem dX5_stepX_18 : decode cX5_stepX 18 = .ok (.ireturn, 1) := by decide +kernel
theorem dX5_stepY_0 : decode cX5_stepY 0 = .ok (.iload_n 0, 1) := by decide +kernel
theorem dX5_stepY_1 : decode cX5_stepY 1 = .ok (.iconst 1, 1) := by decide +kernel
theorem dX5_stepY_2 : decode cX5_stepY 2 = .ok (.if_icmp .ne 7, 3) := by decide +kernel
theorem dX5_stepY_5 : decode cX5_stepY 5 = .ok (.iconst 1, 1) := by decide +kernel
theorem dX5_stepY_6 : decode cX5_stepY 6 = .ok (.goto 13, 3) := by decide +kernel
theorem dX5_stepY_9 : decode cX5_stepY 9 = .ok (.iload_n 0, 1) := by decide +kernel
theorem dX5_stepY_10 : decode cX5_stepY 10 = .ok (.iconst 3, 1) := by decide +kernel
theorem dX5_stepY_11 : decode cX5_stepY 11 = .ok (.if_icmp .ne 7, 3) := by decide +kernel
theorem dX5_stepY_14 : decode cX5_stepY 14 = .ok (.iconst (-1), 1) := by decide +kernel
theorem dX5_stepY_15 : decode cX5_stepY 15 = .ok (.goto 4, 3) := by decide +kernel
theorem dX5_stepY_18 : decode cX5_stepY 18 = .ok (.iconst 0, 1) := by decide +kernel
theorem dX5_stepY_19 : decode cX5_stepY 19 = .ok (.ireturn, 1) := by decide +kernel
theorem dJ6_bitCount_0f7a4_0 : decode cJ6_bitCount_0f7a4 0 = .ok (.iload_n 0, 1) := by decide +kernel
theorem dJ6_bitCount_0f7a4_1 : decode cJ6_bitCount_0f7a4 1 = .ok (.iload_n 0, 1) := by decide +kernel
theorem dJ6_bitCount_0f7a4_2 : decode cJ6_bitCount_0f7a4 2 = .ok (.iconst 1, 1) := by decide +kernel
theorem dJ6_bitCount_0f7a4_3 : decode cJ6_bitCount_0f7a4 3 = .ok (.iushr, 1) := by decide +kernel
theorem dJ6_bitCount_0f7a4_4 : decode cJ6_bitCount_0f7a4 4 = .ok (.ldc_w 265, 3) := by decide +kernel
theorem dJ6_bitCount_0f7a4_7 : decode cJ6_bitCount_0f7a4 7 = .ok (.iand, 1) := by decide +kernel
theorem dJ6_bitCount_0f7a4_8 : decode cJ6_bitCount_0f7a4 8 = .ok (.isub, 1) := by decide +kernel
theorem dJ6_bitCount_0f7a4_9 : decode cJ6_bitCount_0f7a4 9 = .ok (.istore_n 0, 1) := by decide +kernel
theorem dJ6_bitCount_0f7a4_10 : decode cJ6_bitCount_0f7a4 10 = .ok (.iload_n 0, 1) := by decide +kernel
theorem dJ6_bitCount_0f7a4_11 : decode cJ6_bitCount_0f7a4 11 = .ok (.ldc_w 266, 3) := by decide +kernel
theorem dJ6_bitCount_0f7a4_14 : decode cJ6_bitCount_0f7a4 14 = .ok (.iand, 1) := by decide +kernel
theorem dJ6_bitCount_0f7a4_15 : decode cJ6_bitCount_0f7a4 15 = .ok (.iload_n 0, 1) := by decide +kernel
theorem dJ6_bitCount_0f7a4_16 : decode cJ6_bitCount_0f7a4 16 = .ok (.iconst 2, 1) := by decide +kernel
theorem dJ6_bitCount_0f7a4_17 : decode cJ6_bitCount_0f7a4 17 = .ok (.iushr, 1) := by decide +kernel
theorem dJ6_bitCount_0f7a4_18 : decode cJ6_bitCount_0f7a4 18 = .ok (.ldc_w 266, 3) := by decide +kernel
theorem dJ6_bitCount_0f7a4_21 : decode cJ6_bitCount_0f7a4 21 = .ok (.iand, 1) := by decide +kernel
theorem dJ6_bitCount_0f7a4_22 : decode cJ6_bitCount_0f7a4 22 = .ok (.iadd, 1) := by decide +kernel
theorem dJ6_bitCount_0f7a4_23 : decode cJ6_bitCount_0f7a4 23 = .ok (.istore_n 0, 1) := by decide +kernel
theorem dJ6_bitCount_0f7a4_24 : decode cJ6_bitCount_0f7a4 24 = .ok (.iload_n 0, 1) := by decide +kernel
theorem dJ6_bitCount_0f7a4_25 : decode cJ6_bitCount_0f7a4 25 = .ok (.iload_n 0, 1) := by decide +kernel
theorem dJ6_bitCount_0f7a4_26 : decode cJ6_bitCount_0f7a4 26 = .ok (.iconst 4, 1) := by decide +kernel
theorem dJ6_bitCount_0f7a4_27 : decode cJ6_bitCount_0f7a4 27 = .ok (.iushr, 1) := by decide +kernel
theorem dJ6_bitCount_0f7a4_28 : decode cJ6_bitCount_0f7a4 28 = .ok (.iadd, 1) := by decide +kernel
theorem dJ6_bitCount_0f7a4_29 : decode cJ6_bitCount_0f7a4 29 = .ok (.ldc_w 267, 3) := by decide +kernel
theorem dJ6_bitCount_0f7a4_32 : decode cJ6_bitCount_0f7a4 32 = .ok (.iand, 1) := by decide +kernel
theorem dJ6_bitCount_0f7a4_33 : decode cJ6_bitCount_0f7a4 33 = .ok (.istore_n 0, 1) := by decide +kernel
theorem dJ6_bitCount_0f7a4_34 : decode cJ6_bitCount_0f7a4 34 = .ok (.iload_n 0, 1) := by decide +kernel
theorem dJ6_bitCount_0f7a4_35 : decode cJ6_bitCount_0f7a4 35 = .ok (.iload_n 0, 1) := by decide +kernel
theorem dJ6_bitCount_0f7a4_36 : decode cJ6_bitCount_0f7a4 36 = .ok (.bipush 8, 2) := by decide +kernel
theorem dJ6_bitCount_0f7a4_38 : decode cJ6_bitCount_0f7a4 38 = .ok (.iushr, 1) := by decide +kernel
theorem dJ6_bitCount_0f7a4_39 : decode cJ6_bitCount_0f7a4 39 = .ok (.iadd, 1) := by decide +kernel
theorem dJ6_bitCount_0f7a4_40 : decode cJ6_bitCount_0f7a4 40 = .ok (.istore_n 0, 1) := by decide +kernel
theorem dJ6_bitCount_0f7a4_41 : decode cJ6_bitCount_0f7a4 41 = .ok (.iload_n 0, 1) := by decide +kernel
theorem dJ6_bitCount_0f7a4_42 : decode cJ6_bitCount_0f7a4 42 = .ok (.iload_n 0, 1) := by decide +kernel
theorem dJ6_bitCount_0f7a4_43 : decode cJ6_bitCount_0f7a4 43 = .ok (.bipush 16, 2) := by decide +kernel
theorem dJ6_bitCount_0f7a4_45 : decode cJ6_bitCount_0f7a4 45 = .ok (.iushr, 1) := by decide +kernel
theorem dJ6_bitCount_0f7a4_46 : decode cJ6_bitCount_0f7a4 46 = .ok (.iadd, 1) := by decide +kernel
theorem dJ6_bitCount_0f7a4_47 : decode cJ6_bitCount_0f7a4 47 = .ok (.istore_n 0, 1) := by decide +kernel
theorem dJ6_bitCount_0f7a4_48 : decode cJ6_bitCount_0f7a4 48 = .ok (.iload_n 0, 1) := by decide +kernel
theorem dJ6_bitCount_0f7a4_49 : decode cJ6_bitCount_0f7a4 49 = .ok (.bipush 63, 2) := by decide +kernel
theorem dJ6_bitCount_0f7a4_51 : decode cJ6_bitCount_0f7a4 51 = .ok (.iand, 1) := by decide +kernel
theorem dJ6_bitCount_0f7a4_52 : decode cJ6_bitCount_0f7a4 52 = .ok (.ireturn, 1) := by decide +kernel
theorem dJ9_floorMod_7cf53_0 : decode cJ9_floorMod_7cf53 0 = .ok (.iload_n 0, 1) := by decide +kernel
theorem dJ9_floorMod_7cf53_1 : decode cJ9_floorMod_7cf53 1 = .ok (.iload_n 1, 1) := by decide +kernel
theorem dJ9_floorMod_7cf53_2 : decode cJ9_floorMod_7cf53 2 = .ok (.irem, 1) := by decide +kernel
theorem dJ9_floorMod_7cf53_3 : decode cJ9_floorMod_7cf53 3 = .ok (.istore_n 2, 1) := by decide +kernel
theorem dJ9_floorMod_7cf53_4 : decode cJ9_floorMod_7cf53 4 = .ok (.iload_n 0, 1) := by decide +kernel
theorem dJ9_floorMod_7cf53_5 : decode cJ9_floorMod_7cf53 5 = .ok (.iload_n 1, 1) := by decide +kernel
theorem dJ9_floorMod_7cf53_6 : decode cJ9_floorMod_7cf53 6 = .ok (.ixor, 1) := by decide +kernel
theorem dJ9_floorMod_7cf53_7 : decode cJ9_floorMod_7cf53 7 = .ok (.ifCond .ge 11, 3) := by decide +kernel
theorem dJ9_floorMod_7cf53_10 : decode cJ9_floorMod_7cf53 10 = .ok (.iload_n 2, 1) := by decide +kernel
theorem dJ9_floorMod_7cf53_11 : decode cJ9_floorMod_7cf53 11 = .ok (.ifCond .eq 7, 3) := by decide +kernel
theorem dJ9_floorMod_7cf53_14 : decode cJ9_floorMod_7cf53 14 = .ok (.iload_n 2, 1) := by decide +kernel
theorem dJ9_floorMod_7cf53_15 : decode cJ9_floorMod_7cf53 15 = .ok (.iload_n 1, 1) := by decide +kernel
theorem dJ9_floorMod_7cf53_16 : decode cJ9_floorMod_7cf53 16 = .ok (.iadd, 1) := by decide +kernel
theorem dJ9_floorMod_7cf53_17 : decode cJ9_floorMod_7cf53 17 = .ok (.ireturn, 1) := by decide +kernel
theorem dJ9_floorMod_7cf53_18 : decode cJ9_floorMod_7cf53 18 = .ok (.iload_n 2, 1) := by decide +kernel
theorem dJ9_floorMod_7cf53_19 : decode cJ9_floorMod_7cf53 19 = .ok (.ireturn, 1) := by decide +kernel
theorem dJ9_max_7cf53_0 : decode cJ9_max_7cf53 0 = .ok (.iload_n 0, 1) := by decide +kernel
theorem dJ9_max_7cf53_1 : decode cJ9_max_7cf53 1 = .ok (.iload_n 1, 1) := by decide +kernel
theorem dJ9_max_7cf53_2 : decode cJ9_max_7cf53 2 = .ok (.if_icmp .lt 7, 3) := by decide +kernel
theorem dJ9_max_7cf53_5 : decode cJ9_max_7cf53 5 = .ok (.iload_n 0, 1) := by decide +kernel
theorem dJ9_max_7cf53_6 : decode cJ9_max_7cf53 6 = .ok (.goto 4, 3) := by decide +kernel
theorem dJ9_max_7cf53_9 : decode cJ9_max_7cf53 9 = .ok (.iload_n 1, 1) := by decide +kernel
theorem dJ9_max_7cf53_10 : decode cJ9_max_7cf53 10 = .ok (.ireturn, 1) := by decide +kernel
theorem dJ9_min_7cf53_0 : decode cJ9_min_7cf53 0 = .ok (.iload_n 0, 1) := by decide +kernel
theorem dJ9_min_7cf53_1 : decode cJ9_min_7cf53 1 = .ok (.iload_n 1, 1) := by decide +kernel
theorem dJ9_min_7cf53_2 : decode cJ9_min_7cf53 2 = .ok (.if_icmp .gt 7, 3) := by decide +kernel
theorem dJ9_min_7cf53_5 : decode cJ9_min_7cf53 5 = .ok (.iload_n 0, 1) := by decide +kernel
theorem dJ9_min_7cf53_6 : decode cJ9_min_7cf53 6 = .ok (.goto 4, 3) := by decide +kernel
theorem dJ9_min_7cf53_9 : decode cJ9_min_7cf53 9 = .ok (.iload_n 1, 1) := by decide +kernel
theorem dJ9_min_7cf53_10 : decode cJ9_min_7cf53 10 = .ok (.ireturn, 1) := by decide +kernel
theorem dJ7_fill_53178_0 : decode cJ7_fill_53178 0 = .ok (.iconst 0, 1) := by decide +kernel
theorem dJ7_fill_53178_1 : decode cJ7_fill_53178 1 = .ok (.istore_n 2, 1) := by decide +kernel
theorem dJ7_fill_53178_2 : decode cJ7_fill_53178 2 = .ok (.aload_n 0, 1) := by decide +kernel
theorem dJ7_fill_53178_3 : decode cJ7_fill_53178 3 = .ok (.arraylength, 1) := by decide +kernel
theorem dJ7_fill_53178_4 : decode cJ7_fill_53178 4 = .ok (.istore_n 3, 1) := by decide +kernel
theorem dJ7_fill_53178_5 : decode cJ7_fill_53178 5 = .ok (.iload_n 2, 1) := by decide +kernel
theorem dJ7_fill_53178_6 : decode cJ7_fill_53178 6 = .ok (.iload_n 3, 1) := by decide +kernel
theorem dJ7_fill_53178_7 : decode cJ7_fill_53178 7 = .ok (.if_icmp .ge 13, 3) := by decide +kernel
theorem dJ7_fill_53178_10 : decode cJ7_fill_53178 10 = .ok (.aload_n 0, 1) := by decide +kernel
theorem dJ7_fill_53178_11 : decode cJ7_fill_53178 11 = .ok (.iload_n 2, 1) := by decide +kernel
theorem dJ7_fill_53178_12 : decode cJ7_fill_53178 12 = .ok (.iload_n 1, 1) := by decide +kernel
theorem dJ7_fill_53178_13 : decode cJ7_fill_53178 13 = .ok (.iastore, 1) := by decide +kernel
theorem dJ7_fill_53178_14 : decode cJ7_fill_53178 14 = .ok (.iinc 2 1, 3) := by decide +kernel
theorem dJ7_fill_53178_17 : decode cJ7_fill_53178 17 = .ok (.goto (-12), 3) := by decide +kernel
theorem dJ7_fill_53178_20 : decode cJ7_fill_53178 20 = .ok (.return_, 1) := by decide +kernel

theorem dX7_talk_61 : decode cX7_talk 61 = .ok (.aload_n 0, 1) := by decide +kernel
theorem dX7_talk_62 : decode cX7_talk 62 = .ok (.getfield 7, 3) := by decide +kernel
theorem dX7_talk_65 : decode cX7_talk 65 = .ok (.bipush 61, 2) := by decide +kernel
theorem dX7_talk_67 : decode cX7_talk 67 = .ok (.iload 5, 2) := by decide +kernel
theorem dX7_talk_69 : decode cX7_talk 69 = .ok (.iadd, 1) := by decide +kernel
theorem dX7_talk_70 : decode cX7_talk 70 = .ok (.iaload, 1) := by decide +kernel
theorem dX7_talk_71 : decode cX7_talk 71 = .ok (.aload_n 0, 1) := by decide +kernel
theorem dX7_talk_72 : decode cX7_talk 72 = .ok (.getfield 7, 3) := by decide +kernel
theorem dX7_talk_75 : decode cX7_talk 75 = .ok (.bipush 37, 2) := by decide +kernel
theorem dX7_talk_77 : decode cX7_talk 77 = .ok (.iload 4, 2) := by decide +kernel
theorem dX7_talk_79 : decode cX7_talk 79 = .ok (.iadd, 1) := by decide +kernel
theorem dX7_talk_80 : decode cX7_talk 80 = .ok (.iaload, 1) := by decide +kernel
theorem dX7_talk_81 : decode cX7_talk 81 = .ok (.iconst (-1), 1) := by decide +kernel
theorem dX7_talk_82 : decode cX7_talk 82 = .ok (.ixor, 1) := by decide +kernel
theorem dX7_talk_83 : decode cX7_talk 83 = .ok (.iand, 1) := by decide +kernel
theorem dX7_talk_84 : decode cX7_talk 84 = .ok (.aload_n 0, 1) := by decide +kernel
theorem dX7_talk_85 : decode cX7_talk 85 = .ok (.getfield 7, 3) := by decide +kernel
theorem dX7_talk_88 : decode cX7_talk 88 = .ok (.bipush 61, 2) := by decide +kernel
theorem dX7_talk_90 : decode cX7_talk 90 = .ok (.iload 4, 2) := by decide +kernel
theorem dX7_talk_92 : decode cX7_talk 92 = .ok (.iadd, 1) := by decide +kernel
theorem dX7_talk_93 : decode cX7_talk 93 = .ok (.iaload, 1) := by decide +kernel
theorem dX7_talk_94 : decode cX7_talk 94 = .ok (.ior, 1) := by decide +kernel
theorem dX7_talk_95 : decode cX7_talk 95 = .ok (.iastore, 1) := by decide +kernel
theorem dX7_talk_96 : decode cX7_talk 96 = .ok (.aload_n 0, 1) := by decide +kernel
theorem dX7_talk_97 : decode cX7_talk 97 = .ok (.getfield 7, 3) := by decide +kernel
theorem dX7_talk_100 : decode cX7_talk 100 = .ok (.bipush 37, 2) := by decide +kernel
theorem dX7_talk_102 : decode cX7_talk 102 = .ok (.iload 5, 2) := by decide +kernel
theorem dX7_talk_104 : decode cX7_talk 104 = .ok (.iadd, 1) := by decide +kernel
theorem dX7_talk_105 : decode cX7_talk 105 = .ok (.dup2, 1) := by decide +kernel
theorem dX7_talk_106 : decode cX7_talk 106 = .ok (.iaload, 1) := by decide +kernel
theorem dX7_talk_107 : decode cX7_talk 107 = .ok (.aload_n 0, 1) := by decide +kernel
theorem dX7_talk_108 : decode cX7_talk 108 = .ok (.getfield 7, 3) := by decide +kernel
theorem dX7_talk_111 : decode cX7_talk 111 = .ok (.bipush 37, 2) := by decide +kernel
theorem dX7_talk_113 : decode cX7_talk 113 = .ok (.iload 4, 2) := by decide +kernel
theorem dX7_talk_115 : decode cX7_talk 115 = .ok (.iadd, 1) := by decide +kernel
theorem dX7_talk_116 : decode cX7_talk 116 = .ok (.iaload, 1) := by decide +kernel
theorem dX7_talk_117 : decode cX7_talk 117 = .ok (.ior, 1) := by decide +kernel
theorem dX7_talk_118 : decode cX7_talk 118 = .ok (.iastore, 1) := by decide +kernel
theorem dX7_talk_119 : decode cX7_talk 119 = .ok (.aload_n 0, 1) := by decide +kernel
theorem dX7_talk_120 : decode cX7_talk 120 = .ok (.getfield 7, 3) := by decide +kernel
theorem dX7_talk_123 : decode cX7_talk 123 = .ok (.bipush 37, 2) := by decide +kernel
theorem dX7_talk_125 : decode cX7_talk 125 = .ok (.iload 5, 2) := by decide +kernel
theorem dX7_talk_127 : decode cX7_talk 127 = .ok (.iadd, 1) := by decide +kernel
theorem dX7_talk_128 : decode cX7_talk 128 = .ok (.iaload, 1) := by decide +kernel
theorem dX7_talk_129 : decode cX7_talk 129 = .ok (.ireturn, 1) := by decide +kernel
theorem dX7_burn_0 : decode cX7_burn 0 = .ok (.aload_n 0, 1) := by decide +kernel
theorem dX7_burn_1 : decode cX7_burn 1 = .ok (.iload_n 1, 1) := by decide +kernel
theorem dX7_burn_2 : decode cX7_burn 2 = .ok (.invokevirtual 159, 3) := by decide +kernel
theorem dX7_burn_5 : decode cX7_burn 5 = .ok (.ifCond .eq 11, 3) := by decide +kernel
theorem dX7_burn_8 : decode cX7_burn 8 = .ok (.aload_n 0, 1) := by decide +kernel
theorem dX7_burn_9 : decode cX7_burn 9 = .ok (.iload_n 2, 1) := by decide +kernel
theorem dX7_burn_10 : decode cX7_burn 10 = .ok (.invokevirtual 144, 3) := by decide +kernel
theorem dX7_burn_13 : decode cX7_burn 13 = .ok (.ifCond .ne 6, 3) := by decide +kernel
theorem dX7_burn_16 : decode cX7_burn 16 = .ok (.bipush (-2), 2) := by decide +kernel
theorem dX7_burn_18 : decode cX7_burn 18 = .ok (.ireturn, 1) := by decide +kernel
theorem dX7_burn_19 : decode cX7_burn 19 = .ok (.bipush 6, 2) := by decide +kernel
theorem dX7_burn_21 : decode cX7_burn 21 = .ok (.iload_n 1, 1) := by decide +kernel
theorem dX7_burn_22 : decode cX7_burn 22 = .ok (.imul, 1) := by decide +kernel
theorem dX7_burn_23 : decode cX7_burn 23 = .ok (.iload_n 2, 1) := by decide +kernel
theorem dX7_burn_24 : decode cX7_burn 24 = .ok (.iadd, 1) := by decide +kernel
theorem dX7_burn_25 : decode cX7_burn 25 = .ok (.istore_n 3, 1) := by decide +kernel
theorem dX7_burn_26 : decode cX7_burn 26 = .ok (.aload_n 0, 1) := by decide +kernel
theorem dX7_burn_27 : decode cX7_burn 27 = .ok (.getfield 7, 3) := by decide +kernel
theorem dX7_burn_30 : decode cX7_burn 30 = .ok (.bipush 37, 2) := by decide +kernel
theorem dX7_burn_32 : decode cX7_burn 32 = .ok (.iload_n 3, 1) := by decide +kernel
theorem dX7_burn_33 : decode cX7_burn 33 = .ok (.iadd, 1) := by decide +kernel
theorem dX7_burn_34 : decode cX7_burn 34 = .ok (.iaload, 1) := by decide +kernel
theorem dX7_burn_35 : decode cX7_burn 35 = .ok (.invokestatic 178, 3) := by decide +kernel
theorem dX7_burn_38 : decode cX7_burn 38 = .ok (.istore 4, 2) := by decide +kernel
theorem dX7_burn_40 : decode cX7_burn 40 = .ok (.iload 4, 2) := by decide +kernel
theorem dX7_burn_42 : decode cX7_burn 42 = .ok (.ifCond .ne 6, 3) := by decide +kernel
theorem dX7_burn_45 : decode cX7_burn 45 = .ok (.bipush (-4), 2) := by decide +kernel
theorem dX7_burn_47 : decode cX7_burn 47 = .ok (.ireturn, 1) := by decide +kernel
theorem dX7_burn_48 : decode cX7_burn 48 = .ok (.aload_n 0, 1) := by decide +kernel
theorem dX7_burn_49 : decode cX7_burn 49 = .ok (.invokevirtual 171, 3) := by decide +kernel
theorem dX7_burn_52 : decode cX7_burn 52 = .ok (.aload_n 0, 1) := by decide +kernel
theorem dX7_burn_53 : decode cX7_burn 53 = .ok (.getfield 7, 3) := by decide +kernel
theorem dX7_burn_56 : decode cX7_burn 56 = .ok (.bipush 37, 2) := by decide +kernel
theorem dX7_burn_58 : decode cX7_burn 58 = .ok (.iload_n 3, 1) := by decide +kernel
theorem dX7_burn_59 : decode cX7_burn 59 = .ok (.iadd, 1) := by decide +kernel
theorem dX7_burn_60 : decode cX7_burn 60 = .ok (.iconst 0, 1) := by decide +kernel
theorem dX7_burn_61 : decode cX7_burn 61 = .ok (.iastore, 1) := by decide +kernel
theorem dX7_burn_62 : decode cX7_burn 62 = .ok (.aload_n 0, 1) := by decide +kernel
theorem dX7_burn_63 : decode cX7_burn 63 = .ok (.getfield 7, 3) := by decide +kernel
theorem dX7_burn_66 : decode cX7_burn 66 = .ok (.bipush 61, 2) := by decide +kernel
theorem dX7_burn_68 : decode cX7_burn 68 = .ok (.iload_n 3, 1) := by decide +kernel
theorem dX7_burn_69 : decode cX7_burn 69 = .ok (.iadd, 1) := by decide +kernel
theorem dX7_burn_70 : decode cX7_burn 70 = .ok (.iconst 0, 1) := by decide +kernel
theorem dX7_burn_71 : decode cX7_burn 71 = .ok (.iastore, 1) := by decide +kernel
theorem dX7_burn_72 : decode cX7_burn 72 = .ok (.iload 4, 2) := by decide +kernel
theorem dX7_burn_74 : decode cX7_burn 74 = .ok (.ireturn, 1) := by decide +kernel
theorem dX7_undo_0 : decode cX7_undo 0 = .ok (.aload_n 0, 1) := by decide +kernel
theorem dX7_undo_1 : decode cX7_undo 1 = .ok (.getfield 129, 3) := by decide +kernel
theorem dX7_undo_4 : decode cX7_undo 4 = .ok (.ifCond .ne 6, 3) := by decide +kernel
theorem dX7_undo_7 : decode cX7_undo 7 = .ok (.bipush (-4), 2) := by decide +kernel
theorem dX7_undo_9 : decode cX7_undo 9 = .ok (.ireturn, 1) := by decide +kernel
theorem dX7_undo_10 : decode cX7_undo 10 = .ok (.aload_n 0, 1) := by decide +kernel
theorem dX7_undo_11 : decode cX7_undo 11 = .ok (.dup, 1) := by decide +kernel
theorem dX7_undo_12 : decode cX7_undo 12 = .ok (.getfield 129, 3) := by decide +kernel
theorem dX7_undo_15 : decode cX7_undo 15 = .ok (.iconst 1, 1) := by decide +kernel
theorem dX7_undo_16 : decode cX7_undo 16 = .ok (.isub, 1) := by decide +kernel
theorem dX7_undo_17 : decode cX7_undo 17 = .ok (.putfield 129, 3) := by decide +kernel
theorem dX7_undo_20 : decode cX7_undo 20 = .ok (.aload_n 0, 1) := by decide +kernel
theorem dX7_undo_21 : decode cX7_undo 21 = .ok (.sipush 340, 3) := by decide +kernel
theorem dX7_undo_24 : decode cX7_undo 24 = .ok (.bipush 85, 2) := by decide +kernel
theorem dX7_undo_26 : decode cX7_undo 26 = .ok (.aload_n 0, 1) := by decide +kernel
theorem dX7_undo_27 : decode cX7_undo 27 = .ok (.getfield 129, 3) := by decide +kernel
theorem dX7_undo_30 : decode cX7_undo 30 = .ok (.imul, 1) := by decide +kernel
theorem dX7_undo_31 : decode cX7_undo 31 = .ok (.iadd, 1) := by decide +kernel
theorem dX7_undo_32 : decode cX7_undo 32 = .ok (.iconst 0, 1) := by decide +kernel
theorem dX7_undo_33 : decode cX7_undo 33 = .ok (.invokevirtual 167, 3) := by decide +kernel
theorem dX7_undo_36 : decode cX7_undo 36 = .ok (.aload_n 0, 1) := by decide +kernel
theorem dX7_undo_37 : decode cX7_undo 37 = .ok (.getfield 129, 3) := by decide +kernel
theorem dX7_undo_40 : decode cX7_undo 40 = .ok (.ireturn, 1) := by decide +kernel
theorem dX7_keep_0 : decode cX7_keep 0 = .ok (.iload_n 1, 1) := by decide +kernel
theorem dX7_keep_1 : decode cX7_keep 1 = .ok (.i2l, 1) := by decide +kernel
theorem dX7_keep_2 : decode cX7_keep 2 = .ok (.lconst 0, 1) := by decide +kernel
theorem dX7_keep_3 : decode cX7_keep 3 = .ok (.lconst 1, 1) := by decide +kernel
theorem dX7_keep_4 : decode cX7_keep 4 = .ok (.invokestatic 35, 3) := by decide +kernel
theorem dX7_keep_7 : decode cX7_keep 7 = .ok (.ifCond .ne 6, 3) := by decide +kernel
theorem dX7_keep_10 : decode cX7_keep 10 = .ok (.bipush (-2), 2) := by decide +kernel
theorem dX7_keep_12 : decode cX7_keep 12 = .ok (.ireturn, 1) := by decide +kernel
theorem dX7_keep_13 : decode cX7_keep 13 = .ok (.aload_n 0, 1) := by decide +kernel
theorem dX7_keep_14 : decode cX7_keep 14 = .ok (.iconst 0, 1) := by decide +kernel
theorem dX7_keep_15 : decode cX7_keep 15 = .ok (.bipush 85, 2) := by decide +kernel
theorem dX7_keep_17 : decode cX7_keep 17 = .ok (.bipush 85, 2) := by decide +kernel
theorem dX7_keep_19 : decode cX7_keep 19 = .ok (.iload_n 1, 1) := by decide +kernel
theorem dX7_keep_20 : decode cX7_keep 20 = .ok (.imul, 1) := by decide +kernel
theorem dX7_keep_21 : decode cX7_keep 21 = .ok (.iadd, 1) := by decide +kernel
theorem dX7_keep_22 : decode cX7_keep 22 = .ok (.invokevirtual 167, 3) := by decide +kernel
theorem dX7_keep_25 : decode cX7_keep 25 = .ok (.aload_n 0, 1) := by decide +kernel
theorem dX7_keep_26 : decode cX7_keep 26 = .ok (.getfield 19, 3) := by decide +kernel
theorem dX7_keep_29 : decode cX7_keep 29 = .ok (.iload_n 1, 1) := by decide +kernel
theorem dX7_keep_30 : decode cX7_keep 30 = .ok (.iconst 1, 1) := by decide +kernel
theorem dX7_keep_31 : decode cX7_keep 31 = .ok (.bastore, 1) := by decide +kernel
theorem dX7_keep_32 : decode cX7_keep 32 = .ok (.aload_n 0, 1) := by decide +kernel
theorem dX7_keep_33 : decode cX7_keep 33 = .ok (.getfield 7, 3) := by decide +kernel
theorem dX7_keep_36 : decode cX7_keep 36 = .ok (.iconst 0, 1) := by decide +kernel
theorem dX7_keep_37 : decode cX7_keep 37 = .ok (.iaload, 1) := by decide +kernel
theorem dX7_keep_38 : decode cX7_keep 38 = .ok (.ireturn, 1) := by decide +kernel
theorem dX7_back_0 : decode cX7_back 0 = .ok (.iload_n 1, 1) := by decide +kernel
theorem dX7_back_1 : decode cX7_back 1 = .ok (.i2l, 1) := by decide +kernel
theorem dX7_back_2 : decode cX7_back 2 = .ok (.lconst 0, 1) := by decide +kernel
theorem dX7_back_3 : decode cX7_back 3 = .ok (.lconst 1, 1) := by decide +kernel
theorem dX7_back_4 : decode cX7_back 4 = .ok (.invokestatic 35, 3) := by decide +kernel
theorem dX7_back_7 : decode cX7_back 7 = .ok (.ifCond .ne 6, 3) := by decide +kernel
theorem dX7_back_10 : decode cX7_back 10 = .ok (.bipush (-2), 2) := by decide +kernel
theorem dX7_back_12 : decode cX7_back 12 = .ok (.ireturn, 1) := by decide +kernel
theorem dX7_back_13 : decode cX7_back 13 = .ok (.aload_n 0, 1) := by decide +kernel
theorem dX7_back_14 : decode cX7_back 14 = .ok (.getfield 19, 3) := by decide +kernel
theorem dX7_back_17 : decode cX7_back 17 = .ok (.iload_n 1, 1) := by decide +kernel
theorem dX7_back_18 : decode cX7_back 18 = .ok (.baload, 1) := by decide +kernel
theorem dX7_back_19 : decode cX7_back 19 = .ok (.ifCond .ne 6, 3) := by decide +kernel
theorem dX7_back_22 : decode cX7_back 22 = .ok (.bipush (-4), 2) := by decide +kernel
theorem dX7_back_24 : decode cX7_back 24 = .ok (.ireturn, 1) := by decide +kernel
theorem dX7_back_25 : decode cX7_back 25 = .ok (.aload_n 0, 1) := by decide +kernel
theorem dX7_back_26 : decode cX7_back 26 = .ok (.bipush 85, 2) := by decide +kernel
theorem dX7_back_28 : decode cX7_back 28 = .ok (.bipush 85, 2) := by decide +kernel
theorem dX7_back_30 : decode cX7_back 30 = .ok (.iload_n 1, 1) := by decide +kernel
theorem dX7_back_31 : decode cX7_back 31 = .ok (.imul, 1) := by decide +kernel
theorem dX7_back_32 : decode cX7_back 32 = .ok (.iadd, 1) := by decide +kernel
theorem dX7_back_33 : decode cX7_back 33 = .ok (.iconst 0, 1) := by decide +kernel
theorem dX7_back_34 : decode cX7_back 34 = .ok (.invokevirtual 167, 3) := by decide +kernel
theorem dX7_back_37 : decode cX7_back 37 = .ok (.aload_n 0, 1) := by decide +kernel
theorem dX7_back_38 : decode cX7_back 38 = .ok (.iconst 0, 1) := by decide +kernel
theorem dX7_back_39 : decode cX7_back 39 = .ok (.putfield 129, 3) := by decide +kernel
theorem dX7_back_42 : decode cX7_back 42 = .ok (.aload_n 0, 1) := by decide +kernel
theorem dX7_back_43 : decode cX7_back 43 = .ok (.getfield 7, 3) := by decide +kernel
theorem dX7_back_46 : decode cX7_back 46 = .ok (.iconst 0, 1) := by decide +kernel
theorem dX7_back_47 : decode cX7_back 47 = .ok (.iaload, 1) := by decide +kernel
theorem dX7_back_48 : decode cX7_back 48 = .ok (.ireturn, 1) := by decide +kernel
theorem dX7_triesSet_0 : decode cX7_triesSet 0 = .ok (.aload_n 0, 1) := by decide +kernel
theorem dX7_triesSet_1 : decode cX7_triesSet 1 = .ok (.iconst 0, 1) := by decide +kernel
theorem dX7_triesSet_2 : decode cX7_triesSet 2 = .ok (.sipush 255, 3) := by decide +kernel
theorem dX7_triesSet_5 : decode cX7_triesSet 5 = .ok (.invokevirtual 167, 3) := by decide +kernel
theorem dX7_triesSet_8 : decode cX7_triesSet 8 = .ok (.iconst 0, 1) := by decide +kernel
theorem dX7_triesSet_9 : decode cX7_triesSet 9 = .ok (.istore 4, 2) := by decide +kernel
theorem dX7_triesSet_11 : decode cX7_triesSet 11 = .ok (.iload 4, 2) := by decide +kernel
theorem dX7_triesSet_13 : decode cX7_triesSet 13 = .ok (.bipush 6, 2) := by decide +kernel
theorem dX7_triesSet_15 : decode cX7_triesSet 15 = .ok (.if_icmp .ge 30, 3) := by decide +kernel
theorem dX7_triesSet_18 : decode cX7_triesSet 18 = .ok (.iload_n 3, 1) := by decide +kernel
theorem dX7_triesSet_19 : decode cX7_triesSet 19 = .ok (.iload 4, 2) := by decide +kernel
theorem dX7_triesSet_21 : decode cX7_triesSet 21 = .ok (.invokestatic 181, 3) := by decide +kernel
theorem dX7_triesSet_24 : decode cX7_triesSet 24 = .ok (.ifCond .eq 15, 3) := by decide +kernel
theorem dX7_triesSet_27 : decode cX7_triesSet 27 = .ok (.aload_n 0, 1) := by decide +kernel
theorem dX7_triesSet_28 : decode cX7_triesSet 28 = .ok (.sipush 255, 3) := by decide +kernel
theorem dX7_triesSet_31 : decode cX7_triesSet 31 = .ok (.iload_n 1, 1) := by decide +kernel
theorem dX7_triesSet_32 : decode cX7_triesSet 32 = .ok (.iload_n 2, 1) := by decide +kernel
theorem dX7_triesSet_33 : decode cX7_triesSet 33 = .ok (.iload 4, 2) := by decide +kernel
theorem dX7_triesSet_35 : decode cX7_triesSet 35 = .ok (.invokevirtual 174, 3) := by decide +kernel
theorem dX7_triesSet_38 : decode cX7_triesSet 38 = .ok (.pop, 1) := by decide +kernel
theorem dX7_triesSet_39 : decode cX7_triesSet 39 = .ok (.iinc 4 1, 3) := by decide +kernel
theorem dX7_triesSet_42 : decode cX7_triesSet 42 = .ok (.goto (-31), 3) := by decide +kernel
theorem dX7_triesSet_45 : decode cX7_triesSet 45 = .ok (.return_, 1) := by decide +kernel
theorem dX7_smooth_0 : decode cX7_smooth 0 = .ok (.aload_n 0, 1) := by decide +kernel
theorem dX7_smooth_1 : decode cX7_smooth 1 = .ok (.iload_n 1, 1) := by decide +kernel
theorem dX7_smooth_2 : decode cX7_smooth 2 = .ok (.invokevirtual 159, 3) := by decide +kernel
theorem dX7_smooth_5 : decode cX7_smooth 5 = .ok (.ifCond .eq 11, 3) := by decide +kernel
theorem dX7_smooth_8 : decode cX7_smooth 8 = .ok (.aload_n 0, 1) := by decide +kernel
theorem dX7_smooth_9 : decode cX7_smooth 9 = .ok (.iload_n 2, 1) := by decide +kernel
theorem dX7_smooth_10 : decode cX7_smooth 10 = .ok (.invokevirtual 144, 3) := by decide +kernel
theorem dX7_smooth_13 : decode cX7_smooth 13 = .ok (.ifCond .ne 6, 3) := by decide +kernel
theorem dX7_smooth_16 : decode cX7_smooth 16 = .ok (.bipush (-2), 2) := by decide +kernel
theorem dX7_smooth_18 : decode cX7_smooth 18 = .ok (.ireturn, 1) := by decide +kernel
theorem dX7_smooth_19 : decode cX7_smooth 19 = .ok (.iload_n 3, 1) := by decide +kernel
theorem dX7_smooth_20 : decode cX7_smooth 20 = .ok (.i2l, 1) := by decide +kernel
theorem dX7_smooth_21 : decode cX7_smooth 21 = .ok (.lconst 1, 1) := by decide +kernel
theorem dX7_smooth_22 : decode cX7_smooth 22 = .ok (.ldc2_w 184, 3) := by decide +kernel
theorem dX7_smooth_25 : decode cX7_smooth 25 = .ok (.invokestatic 35, 3) := by decide +kernel
theorem dX7_smooth_28 : decode cX7_smooth 28 = .ok (.ifCond .ne 6, 3) := by decide +kernel
theorem dX7_smooth_31 : decode cX7_smooth 31 = .ok (.bipush (-3), 2) := by decide +kernel
theorem dX7_smooth_33 : decode cX7_smooth 33 = .ok (.ireturn, 1) := by decide +kernel
theorem dX7_smooth_34 : decode cX7_smooth 34 = .ok (.iconst (-1), 1) := by decide +kernel
theorem dX7_smooth_35 : decode cX7_smooth 35 = .ok (.istore 4, 2) := by decide +kernel
theorem dX7_smooth_37 : decode cX7_smooth 37 = .ok (.iconst 0, 1) := by decide +kernel
theorem dX7_smooth_38 : decode cX7_smooth 38 = .ok (.istore 5, 2) := by decide +kernel
theorem dX7_smooth_40 : decode cX7_smooth 40 = .ok (.iload 5, 2) := by decide +kernel
theorem dX7_smooth_42 : decode cX7_smooth 42 = .ok (.bipush 64, 2) := by decide +kernel
theorem dX7_smooth_44 : decode cX7_smooth 44 = .ok (.if_icmp .ge 73, 3) := by decide +kernel
theorem dX7_smooth_47 : decode cX7_smooth 47 = .ok (.aload_n 0, 1) := by decide +kernel
theorem dX7_smooth_48 : decode cX7_smooth 48 = .ok (.iload_n 1, 1) := by decide +kernel
theorem dX7_smooth_49 : decode cX7_smooth 49 = .ok (.iload_n 2, 1) := by decide +kernel
theorem dX7_smooth_50 : decode cX7_smooth 50 = .ok (.iload 5, 2) := by decide +kernel
theorem dX7_smooth_52 : decode cX7_smooth 52 = .ok (.invokevirtual 186, 3) := by decide +kernel
theorem dX7_smooth_55 : decode cX7_smooth 55 = .ok (.aload_n 0, 1) := by decide +kernel
theorem dX7_smooth_56 : decode cX7_smooth 56 = .ok (.sipush 255, 3) := by decide +kernel
theorem dX7_smooth_59 : decode cX7_smooth 59 = .ok (.iload_n 1, 1) := by decide +kernel
theorem dX7_smooth_60 : decode cX7_smooth 60 = .ok (.iload_n 2, 1) := by decide +kernel
theorem dX7_smooth_61 : decode cX7_smooth 61 = .ok (.invokevirtual 162, 3) := by decide +kernel
theorem dX7_smooth_64 : decode cX7_smooth 64 = .ok (.invokestatic 190, 3) := by decide +kernel
theorem dX7_smooth_67 : decode cX7_smooth 67 = .ok (.iload_n 3, 1) := by decide +kernel
theorem dX7_smooth_68 : decode cX7_smooth 68 = .ok (.if_icmp .lt 7, 3) := by decide +kernel
theorem dX7_smooth_71 : decode cX7_smooth 71 = .ok (.iconst 1, 1) := by decide +kernel
theorem dX7_smooth_72 : decode cX7_smooth 72 = .ok (.goto 4, 3) := by decide +kernel
theorem dX7_smooth_75 : decode cX7_smooth 75 = .ok (.iconst 0, 1) := by decide +kernel
theorem dX7_smooth_76 : decode cX7_smooth 76 = .ok (.istore 6, 2) := by decide +kernel
theorem dX7_smooth_78 : decode cX7_smooth 78 = .ok (.iload 6, 2) := by decide +kernel
theorem dX7_smooth_80 : decode cX7_smooth 80 = .ok (.ifCond .eq 27, 3) := by decide +kernel
theorem dX7_smooth_83 : decode cX7_smooth 83 = .ok (.iload 4, 2) := by decide +kernel
theorem dX7_smooth_85 : decode cX7_smooth 85 = .ok (.iconst (-1), 1) := by decide +kernel
theorem dX7_smooth_86 : decode cX7_smooth 86 = .ok (.if_icmp .eq 16, 3) := by decide +kernel
theorem dX7_smooth_89 : decode cX7_smooth 89 = .ok (.iload 5, 2) := by decide +kernel
theorem dX7_smooth_91 : decode cX7_smooth 91 = .ok (.invokestatic 178, 3) := by decide +kernel
theorem dX7_smooth_94 : decode cX7_smooth 94 = .ok (.iload 4, 2) := by decide +kernel
theorem dX7_smooth_96 : decode cX7_smooth 96 = .ok (.invokestatic 178, 3) := by decide +kernel
theorem dX7_smooth_99 : decode cX7_smooth 99 = .ok (.if_icmp .le 8, 3) := by decide +kernel
theorem dX7_smooth_102 : decode cX7_smooth 102 = .ok (.iload 5, 2) := by decide +kernel
theorem dX7_smooth_104 : decode cX7_smooth 104 = .ok (.goto 5, 3) := by decide +kernel
theorem dX7_smooth_107 : decode cX7_smooth 107 = .ok (.iload 4, 2) := by decide +kernel
theorem dX7_smooth_109 : decode cX7_smooth 109 = .ok (.istore 4, 2) := by decide +kernel
theorem dX7_smooth_111 : decode cX7_smooth 111 = .ok (.iinc 5 1, 3) := by decide +kernel
theorem dX7_smooth_114 : decode cX7_smooth 114 = .ok (.goto (-74), 3) := by decide +kernel
theorem dX7_smooth_117 : decode cX7_smooth 117 = .ok (.iload 4, 2) := by decide +kernel
theorem dX7_smooth_119 : decode cX7_smooth 119 = .ok (.ireturn, 1) := by decide +kernel
theorem dX7_next_0 : decode cX7_next 0 = .ok (.aload_n 0, 1) := by decide +kernel
theorem dX7_next_1 : decode cX7_next 1 = .ok (.iload_n 1, 1) := by decide +kernel
theorem dX7_next_2 : decode cX7_next 2 = .ok (.invokevirtual 159, 3) := by decide +kernel
theorem dX7_next_5 : decode cX7_next 5 = .ok (.ifCond .eq 11, 3) := by decide +kernel
theorem dX7_next_8 : decode cX7_next 8 = .ok (.aload_n 0, 1) := by decide +kernel
theorem dX7_next_9 : decode cX7_next 9 = .ok (.iload_n 2, 1) := by decide +kernel
theorem dX7_next_10 : decode cX7_next 10 = .ok (.invokevirtual 144, 3) := by decide +kernel
theorem dX7_next_13 : decode cX7_next 13 = .ok (.ifCond .ne 6, 3) := by decide +kernel
theorem dX7_next_16 : decode cX7_next 16 = .ok (.bipush (-2), 2) := by decide +kernel
theorem dX7_next_18 : decode cX7_next 18 = .ok (.ireturn, 1) := by decide +kernel
theorem dX7_next_19 : decode cX7_next 19 = .ok (.aload_n 0, 1) := by decide +kernel
theorem dX7_next_20 : decode cX7_next 20 = .ok (.iconst 0, 1) := by decide +kernel
theorem dX7_next_21 : decode cX7_next 21 = .ok (.iload_n 1, 1) := by decide +kernel
theorem dX7_next_22 : decode cX7_next 22 = .ok (.iload_n 2, 1) := by decide +kernel
theorem dX7_next_23 : decode cX7_next 23 = .ok (.invokevirtual 162, 3) := by decide +kernel
theorem dX7_next_26 : decode cX7_next 26 = .ok (.istore_n 3, 1) := by decide +kernel
theorem dX7_next_27 : decode cX7_next 27 = .ok (.aload_n 0, 1) := by decide +kernel
theorem dX7_next_28 : decode cX7_next 28 = .ok (.getfield 7, 3) := by decide +kernel
theorem dX7_next_31 : decode cX7_next 31 = .ok (.bipush 37, 2) := by decide +kernel
theorem dX7_next_33 : decode cX7_next 33 = .ok (.bipush 6, 2) := by decide +kernel
theorem dX7_next_35 : decode cX7_next 35 = .ok (.iload_n 1, 1) := by decide +kernel
theorem dX7_next_36 : decode cX7_next 36 = .ok (.imul, 1) := by decide +kernel
theorem dX7_next_37 : decode cX7_next 37 = .ok (.iadd, 1) := by decide +kernel
theorem dX7_next_38 : decode cX7_next 38 = .ok (.iload_n 2, 1) := by decide +kernel
theorem dX7_next_39 : decode cX7_next 39 = .ok (.iadd, 1) := by decide +kernel
theorem dX7_next_40 : decode cX7_next 40 = .ok (.iaload, 1) := by decide +kernel
theorem dX7_next_41 : decode cX7_next 41 = .ok (.istore 4, 2) := by decide +kernel
theorem dX7_next_43 : decode cX7_next 43 = .ok (.iconst (-1), 1) := by decide +kernel
theorem dX7_next_44 : decode cX7_next 44 = .ok (.istore 5, 2) := by decide +kernel
theorem dX7_next_46 : decode cX7_next 46 = .ok (.bipush 9, 2) := by decide +kernel
theorem dX7_next_48 : decode cX7_next 48 = .ok (.istore 6, 2) := by decide +kernel
theorem dX7_next_50 : decode cX7_next 50 = .ok (.iconst 0, 1) := by decide +kernel
theorem dX7_next_51 : decode cX7_next 51 = .ok (.istore 7, 2) := by decide +kernel
theorem dX7_next_53 : decode cX7_next 53 = .ok (.iload 7, 2) := by decide +kernel
theorem dX7_next_55 : decode cX7_next 55 = .ok (.bipush 6, 2) := by decide +kernel
theorem dX7_next_57 : decode cX7_next 57 = .ok (.if_icmp .ge 151, 3) := by decide +kernel
theorem dX7_next_60 : decode cX7_next 60 = .ok (.iload_n 3, 1) := by decide +kernel
theorem dX7_next_61 : decode cX7_next 61 = .ok (.ifCond .eq 147, 3) := by decide +kernel
theorem dX7_next_64 : decode cX7_next 64 = .ok (.iconst 0, 1) := by decide +kernel
theorem dX7_next_65 : decode cX7_next 65 = .ok (.istore 8, 2) := by decide +kernel
theorem dX7_next_67 : decode cX7_next 67 = .ok (.iconst 0, 1) := by decide +kernel
theorem dX7_next_68 : decode cX7_next 68 = .ok (.istore 9, 2) := by decide +kernel
theorem dX7_next_70 : decode cX7_next 70 = .ok (.iload 9, 2) := by decide +kernel
theorem dX7_next_72 : decode cX7_next 72 = .ok (.aload_n 0, 1) := by decide +kernel
theorem dX7_next_73 : decode cX7_next 73 = .ok (.getfield 13, 3) := by decide +kernel
theorem dX7_next_76 : decode cX7_next 76 = .ok (.iconst 2, 1) := by decide +kernel
theorem dX7_next_77 : decode cX7_next 77 = .ok (.iaload, 1) := by decide +kernel
theorem dX7_next_78 : decode cX7_next 78 = .ok (.if_icmp .ge 46, 3) := by decide +kernel
theorem dX7_next_81 : decode cX7_next 81 = .ok (.iload 8, 2) := by decide +kernel
theorem dX7_next_83 : decode cX7_next 83 = .ok (.iload_n 3, 1) := by decide +kernel
theorem dX7_next_84 : decode cX7_next 84 = .ok (.iload 9, 2) := by decide +kernel
theorem dX7_next_86 : decode cX7_next 86 = .ok (.invokestatic 181, 3) := by decide +kernel
theorem dX7_next_89 : decode cX7_next 89 = .ok (.ifCond .eq 25, 3) := by decide +kernel
theorem dX7_next_92 : decode cX7_next 92 = .ok (.aload_n 0, 1) := by decide +kernel
theorem dX7_next_93 : decode cX7_next 93 = .ok (.getfield 13, 3) := by decide +kernel
theorem dX7_next_96 : decode cX7_next 96 = .ok (.bipush 51, 2) := by decide +kernel
theorem dX7_next_98 : decode cX7_next 98 = .ok (.iload 9, 2) := by decide +kernel
theorem dX7_next_100 : decode cX7_next 100 = .ok (.iadd, 1) := by decide +kernel
theorem dX7_next_101 : decode cX7_next 101 = .ok (.iaload, 1) := by decide +kernel
theorem dX7_next_102 : decode cX7_next 102 = .ok (.iload 7, 2) := by decide +kernel
theorem dX7_next_104 : decode cX7_next 104 = .ok (.invokestatic 181, 3) := by decide +kernel
theorem dX7_next_107 : decode cX7_next 107 = .ok (.ifCond .eq 7, 3) := by decide +kernel
theorem dX7_next_110 : decode cX7_next 110 = .ok (.iconst 1, 1) := by decide +kernel
theorem dX7_next_111 : decode cX7_next 111 = .ok (.goto 4, 3) := by decide +kernel
theorem dX7_next_114 : decode cX7_next 114 = .ok (.iconst 0, 1) := by decide +kernel
theorem dX7_next_115 : decode cX7_next 115 = .ok (.iadd, 1) := by decide +kernel
theorem dX7_next_116 : decode cX7_next 116 = .ok (.istore 8, 2) := by decide +kernel
theorem dX7_next_118 : decode cX7_next 118 = .ok (.iinc 9 1, 3) := by decide +kernel
theorem dX7_next_121 : decode cX7_next 121 = .ok (.goto (-51), 3) := by decide +kernel
theorem dX7_next_124 : decode cX7_next 124 = .ok (.iload 8, 2) := by decide +kernel
theorem dX7_next_126 : decode cX7_next 126 = .ok (.iload_n 3, 1) := by decide +kernel
theorem dX7_next_127 : decode cX7_next 127 = .ok (.invokestatic 190, 3) := by decide +kernel
theorem dX7_next_130 : decode cX7_next 130 = .ok (.iload 8, 2) := by decide +kernel
theorem dX7_next_132 : decode cX7_next 132 = .ok (.isub, 1) := by decide +kernel
theorem dX7_next_133 : decode cX7_next 133 = .ok (.if_icmp .le 8, 3) := by decide +kernel
theorem dX7_next_136 : decode cX7_next 136 = .ok (.iload 8, 2) := by decide +kernel
theorem dX7_next_138 : decode cX7_next 138 = .ok (.goto 10, 3) := by decide +kernel
theorem dX7_next_141 : decode cX7_next 141 = .ok (.iload_n 3, 1) := by decide +kernel
theorem dX7_next_142 : decode cX7_next 142 = .ok (.invokestatic 190, 3) := by decide +kernel
theorem dX7_next_145 : decode cX7_next 145 = .ok (.iload 8, 2) := by decide +kernel
theorem dX7_next_147 : decode cX7_next 147 = .ok (.isub, 1) := by decide +kernel
theorem dX7_next_148 : decode cX7_next 148 = .ok (.istore 9, 2) := by decide +kernel
theorem dX7_next_150 : decode cX7_next 150 = .ok (.iload 4, 2) := by decide +kernel
theorem dX7_next_152 : decode cX7_next 152 = .ok (.iload 7, 2) := by decide +kernel
theorem dX7_next_154 : decode cX7_next 154 = .ok (.invokestatic 181, 3) := by decide +kernel
theorem dX7_next_157 : decode cX7_next 157 = .ok (.ifCond .ne 14, 3) := by decide +kernel
theorem dX7_next_160 : decode cX7_next 160 = .ok (.iload 9, 2) := by decide +kernel
theorem dX7_next_162 : decode cX7_next 162 = .ok (.iload 6, 2) := by decide +kernel
theorem dX7_next_164 : decode cX7_next 164 = .ok (.if_icmp .ge 7, 3) := by decide +kernel
theorem dX7_next_167 : decode cX7_next 167 = .ok (.iconst 1, 1) := by decide +kernel
theorem dX7_next_168 : decode cX7_next 168 = .ok (.goto 4, 3) := by decide +kernel
theorem dX7_next_171 : decode cX7_next 171 = .ok (.iconst 0, 1) := by decide +kernel
theorem dX7_next_172 : decode cX7_next 172 = .ok (.istore 10, 2) := by decide +kernel
theorem dX7_next_174 : decode cX7_next 174 = .ok (.iload 10, 2) := by decide +kernel
theorem dX7_next_176 : decode cX7_next 176 = .ok (.ifCond .eq 8, 3) := by decide +kernel
theorem dX7_next_179 : decode cX7_next 179 = .ok (.iload 7, 2) := by decide +kernel
theorem dX7_next_181 : decode cX7_next 181 = .ok (.goto 5, 3) := by decide +kernel
theorem dX7_next_184 : decode cX7_next 184 = .ok (.iload 5, 2) := by decide +kernel
theorem dX7_next_186 : decode cX7_next 186 = .ok (.istore 5, 2) := by decide +kernel
theorem dX7_next_188 : decode cX7_next 188 = .ok (.iload 10, 2) := by decide +kernel
theorem dX7_next_190 : decode cX7_next 190 = .ok (.ifCond .eq 8, 3) := by decide +kernel
theorem dX7_next_193 : decode cX7_next 193 = .ok (.iload 9, 2) := by decide +kernel
theorem dX7_next_195 : decode cX7_next 195 = .ok (.goto 5, 3) := by decide +kernel
theorem dX7_next_198 : decode cX7_next 198 = .ok (.iload 6, 2) := by decide +kernel
theorem dX7_next_200 : decode cX7_next 200 = .ok (.istore 6, 2) := by decide +kernel
theorem dX7_next_202 : decode cX7_next 202 = .ok (.iinc 7 1, 3) := by decide +kernel
theorem dX7_next_205 : decode cX7_next 205 = .ok (.goto (-152), 3) := by decide +kernel
theorem dX7_next_208 : decode cX7_next 208 = .ok (.iload 5, 2) := by decide +kernel
theorem dX7_next_210 : decode cX7_next 210 = .ok (.ireturn, 1) := by decide +kernel
theorem dX7_meet_0 : decode cX7_meet 0 = .ok (.aload_n 0, 1) := by decide +kernel
theorem dX7_meet_1 : decode cX7_meet 1 = .ok (.iload_n 1, 1) := by decide +kernel
theorem dX7_meet_2 : decode cX7_meet 2 = .ok (.invokevirtual 144, 3) := by decide +kernel
theorem dX7_meet_5 : decode cX7_meet 5 = .ok (.ifCond .eq 11, 3) := by decide +kernel
theorem dX7_meet_8 : decode cX7_meet 8 = .ok (.aload_n 0, 1) := by decide +kernel
theorem dX7_meet_9 : decode cX7_meet 9 = .ok (.iload_n 2, 1) := by decide +kernel
theorem dX7_meet_10 : decode cX7_meet 10 = .ok (.invokevirtual 156, 3) := by decide +kernel
theorem dX7_meet_13 : decode cX7_meet 13 = .ok (.ifCond .ne 6, 3) := by decide +kernel
theorem dX7_meet_16 : decode cX7_meet 16 = .ok (.bipush (-2), 2) := by decide +kernel
theorem dX7_meet_18 : decode cX7_meet 18 = .ok (.ireturn, 1) := by decide +kernel
theorem dX7_meet_19 : decode cX7_meet 19 = .ok (.iconst (-1), 1) := by decide +kernel
theorem dX7_meet_20 : decode cX7_meet 20 = .ok (.istore_n 3, 1) := by decide +kernel
theorem dX7_meet_21 : decode cX7_meet 21 = .ok (.iconst 0, 1) := by decide +kernel
theorem dX7_meet_22 : decode cX7_meet 22 = .ok (.istore 4, 2) := by decide +kernel
theorem dX7_meet_24 : decode cX7_meet 24 = .ok (.iload 4, 2) := by decide +kernel
theorem dX7_meet_26 : decode cX7_meet 26 = .ok (.iconst 1, 1) := by decide +kernel
theorem dX7_meet_27 : decode cX7_meet 27 = .ok (.aload_n 0, 1) := by decide +kernel
theorem dX7_meet_28 : decode cX7_meet 28 = .ok (.getfield 13, 3) := by decide +kernel
theorem dX7_meet_31 : decode cX7_meet 31 = .ok (.iconst 0, 1) := by decide +kernel
theorem dX7_meet_32 : decode cX7_meet 32 = .ok (.iaload, 1) := by decide +kernel
theorem dX7_meet_33 : decode cX7_meet 33 = .ok (.ishl, 1) := by decide +kernel
theorem dX7_meet_34 : decode cX7_meet 34 = .ok (.if_icmp .ge 151, 3) := by decide +kernel
theorem dX7_meet_37 : decode cX7_meet 37 = .ok (.iconst 0, 1) := by decide +kernel
theorem dX7_meet_38 : decode cX7_meet 38 = .ok (.istore 5, 2) := by decide +kernel
theorem dX7_meet_40 : decode cX7_meet 40 = .ok (.iconst 0, 1) := by decide +kernel
theorem dX7_meet_41 : decode cX7_meet 41 = .ok (.istore 6, 2) := by decide +kernel
theorem dX7_meet_43 : decode cX7_meet 43 = .ok (.iconst 0, 1) := by decide +kernel
theorem dX7_meet_44 : decode cX7_meet 44 = .ok (.istore 7, 2) := by decide +kernel
theorem dX7_meet_46 : decode cX7_meet 46 = .ok (.iload 7, 2) := by decide +kernel
theorem dX7_meet_48 : decode cX7_meet 48 = .ok (.aload_n 0, 1) := by decide +kernel
theorem dX7_meet_49 : decode cX7_meet 49 = .ok (.getfield 13, 3) := by decide +kernel
theorem dX7_meet_52 : decode cX7_meet 52 = .ok (.iconst 0, 1) := by decide +kernel
theorem dX7_meet_53 : decode cX7_meet 53 = .ok (.iaload, 1) := by decide +kernel
theorem dX7_meet_54 : decode cX7_meet 54 = .ok (.if_icmp .ge 75, 3) := by decide +kernel
theorem dX7_meet_57 : decode cX7_meet 57 = .ok (.iload 4, 2) := by decide +kernel
theorem dX7_meet_59 : decode cX7_meet 59 = .ok (.iload 7, 2) := by decide +kernel
theorem dX7_meet_61 : decode cX7_meet 61 = .ok (.invokestatic 181, 3) := by decide +kernel
theorem dX7_meet_64 : decode cX7_meet 64 = .ok (.ifCond .eq 26, 3) := by decide +kernel
theorem dX7_meet_67 : decode cX7_meet 67 = .ok (.aload_n 0, 1) := by decide +kernel
theorem dX7_meet_68 : decode cX7_meet 68 = .ok (.getfield 7, 3) := by decide +kernel
theorem dX7_meet_71 : decode cX7_meet 71 = .ok (.bipush 37, 2) := by decide +kernel
theorem dX7_meet_73 : decode cX7_meet 73 = .ok (.bipush 6, 2) := by decide +kernel
theorem dX7_meet_75 : decode cX7_meet 75 = .ok (.iload 7, 2) := by decide +kernel
theorem dX7_meet_77 : decode cX7_meet 77 = .ok (.imul, 1) := by decide +kernel
theorem dX7_meet_78 : decode cX7_meet 78 = .ok (.iadd, 1) := by decide +kernel
theorem dX7_meet_79 : decode cX7_meet 79 = .ok (.iload_n 1, 1) := by decide +kernel
theorem dX7_meet_80 : decode cX7_meet 80 = .ok (.iadd, 1) := by decide +kernel
theorem dX7_meet_81 : decode cX7_meet 81 = .ok (.iaload, 1) := by decide +kernel
theorem dX7_meet_82 : decode cX7_meet 82 = .ok (.iload 5, 2) := by decide +kernel
theorem dX7_meet_84 : decode cX7_meet 84 = .ok (.iconst (-1), 1) := by decide +kernel
theorem dX7_meet_85 : decode cX7_meet 85 = .ok (.ixor, 1) := by decide +kernel
theorem dX7_meet_86 : decode cX7_meet 86 = .ok (.iand, 1) := by decide +kernel
theorem dX7_meet_87 : decode cX7_meet 87 = .ok (.goto 4, 3) := by decide +kernel
theorem dX7_meet_90 : decode cX7_meet 90 = .ok (.iconst 0, 1) := by decide +kernel
theorem dX7_meet_91 : decode cX7_meet 91 = .ok (.istore 8, 2) := by decide +kernel
theorem dX7_meet_93 : decode cX7_meet 93 = .ok (.iload 5, 2) := by decide +kernel
theorem dX7_meet_95 : decode cX7_meet 95 = .ok (.iload 8, 2) := by decide +kernel
theorem dX7_meet_97 : decode cX7_meet 97 = .ok (.ior, 1) := by decide +kernel
theorem dX7_meet_98 : decode cX7_meet 98 = .ok (.istore 5, 2) := by decide +kernel
theorem dX7_meet_100 : decode cX7_meet 100 = .ok (.iload 6, 2) := by decide +kernel
theorem dX7_meet_102 : decode cX7_meet 102 = .ok (.aload_n 0, 1) := by decide +kernel
theorem dX7_meet_103 : decode cX7_meet 103 = .ok (.getfield 7, 3) := by decide +kernel
theorem dX7_meet_106 : decode cX7_meet 106 = .ok (.bipush 61, 2) := by decide +kernel
theorem dX7_meet_108 : decode cX7_meet 108 = .ok (.bipush 6, 2) := by decide +kernel
theorem dX7_meet_110 : decode cX7_meet 110 = .ok (.iload 7, 2) := by decide +kernel
theorem dX7_meet_112 : decode cX7_meet 112 = .ok (.imul, 1) := by decide +kernel
theorem dX7_meet_113 : decode cX7_meet 113 = .ok (.iadd, 1) := by decide +kernel
theorem dX7_meet_114 : decode cX7_meet 114 = .ok (.iload_n 1, 1) := by decide +kernel
theorem dX7_meet_115 : decode cX7_meet 115 = .ok (.iadd, 1) := by decide +kernel
theorem dX7_meet_116 : decode cX7_meet 116 = .ok (.iaload, 1) := by decide +kernel
theorem dX7_meet_117 : decode cX7_meet 117 = .ok (.iload 8, 2) := by decide +kernel
theorem dX7_meet_119 : decode cX7_meet 119 = .ok (.iand, 1) := by decide +kernel
theorem dX7_meet_120 : decode cX7_meet 120 = .ok (.ior, 1) := by decide +kernel
theorem dX7_meet_121 : decode cX7_meet 121 = .ok (.istore 6, 2) := by decide +kernel
theorem dX7_meet_123 : decode cX7_meet 123 = .ok (.iinc 7 1, 3) := by decide +kernel
theorem dX7_meet_126 : decode cX7_meet 126 = .ok (.goto (-80), 3) := by decide +kernel
theorem dX7_meet_129 : decode cX7_meet 129 = .ok (.aload_n 0, 1) := by decide +kernel
theorem dX7_meet_130 : decode cX7_meet 130 = .ok (.iload 5, 2) := by decide +kernel
theorem dX7_meet_132 : decode cX7_meet 132 = .ok (.iload 6, 2) := by decide +kernel
theorem dX7_meet_134 : decode cX7_meet 134 = .ok (.invokevirtual 140, 3) := by decide +kernel
theorem dX7_meet_137 : decode cX7_meet 137 = .ok (.iconst 1, 1) := by decide +kernel
theorem dX7_meet_138 : decode cX7_meet 138 = .ok (.iload_n 2, 1) := by decide +kernel
theorem dX7_meet_139 : decode cX7_meet 139 = .ok (.ishl, 1) := by decide +kernel
theorem dX7_meet_140 : decode cX7_meet 140 = .ok (.if_icmp .ne 7, 3) := by decide +kernel
theorem dX7_meet_143 : decode cX7_meet 143 = .ok (.iconst 1, 1) := by decide +kernel
theorem dX7_meet_144 : decode cX7_meet 144 = .ok (.goto 4, 3) := by decide +kernel
theorem dX7_meet_147 : decode cX7_meet 147 = .ok (.iconst 0, 1) := by decide +kernel
theorem dX7_meet_148 : decode cX7_meet 148 = .ok (.istore 7, 2) := by decide +kernel
theorem dX7_meet_150 : decode cX7_meet 150 = .ok (.iload 7, 2) := by decide +kernel
theorem dX7_meet_152 : decode cX7_meet 152 = .ok (.ifCond .eq 25, 3) := by decide +kernel
theorem dX7_meet_155 : decode cX7_meet 155 = .ok (.iload_n 3, 1) := by decide +kernel
theorem dX7_meet_156 : decode cX7_meet 156 = .ok (.iconst (-1), 1) := by decide +kernel
theorem dX7_meet_157 : decode cX7_meet 157 = .ok (.if_icmp .eq 15, 3) := by decide +kernel
theorem dX7_meet_160 : decode cX7_meet 160 = .ok (.iload 4, 2) := by decide +kernel
theorem dX7_meet_162 : decode cX7_meet 162 = .ok (.invokestatic 178, 3) := by decide +kernel
theorem dX7_meet_165 : decode cX7_meet 165 = .ok (.iload_n 3, 1) := by decide +kernel
theorem dX7_meet_166 : decode cX7_meet 166 = .ok (.invokestatic 178, 3) := by decide +kernel
theorem dX7_meet_169 : decode cX7_meet 169 = .ok (.if_icmp .ge 8, 3) := by decide +kernel
theorem dX7_meet_172 : decode cX7_meet 172 = .ok (.iload 4, 2) := by decide +kernel
theorem dX7_meet_174 : decode cX7_meet 174 = .ok (.goto 4, 3) := by decide +kernel
theorem dX7_meet_177 : decode cX7_meet 177 = .ok (.iload_n 3, 1) := by decide +kernel
theorem dX7_meet_178 : decode cX7_meet 178 = .ok (.istore_n 3, 1) := by decide +kernel
theorem dX7_meet_179 : decode cX7_meet 179 = .ok (.iinc 4 1, 3) := by decide +kernel
theorem dX7_meet_182 : decode cX7_meet 182 = .ok (.goto (-158), 3) := by decide +kernel
theorem dX7_meet_185 : decode cX7_meet 185 = .ok (.iload_n 3, 1) := by decide +kernel
theorem dX7_meet_186 : decode cX7_meet 186 = .ok (.ireturn, 1) := by decide +kernel
theorem dX7_round_0 : decode cX7_round 0 = .ok (.aload_n 0, 1) := by decide +kernel
theorem dX7_round_1 : decode cX7_round 1 = .ok (.iload_n 1, 1) := by decide +kernel
theorem dX7_round_2 : decode cX7_round 2 = .ok (.invokevirtual 144, 3) := by decide +kernel
theorem dX7_round_5 : decode cX7_round 5 = .ok (.ifCond .eq 11, 3) := by decide +kernel
theorem dX7_round_8 : decode cX7_round 8 = .ok (.aload_n 0, 1) := by decide +kernel
theorem dX7_round_9 : decode cX7_round 9 = .ok (.iload_n 3, 1) := by decide +kernel
theorem dX7_round_10 : decode cX7_round 10 = .ok (.invokevirtual 159, 3) := by decide +kernel
theorem dX7_round_13 : decode cX7_round 13 = .ok (.ifCond .ne 6, 3) := by decide +kernel
theorem dX7_round_16 : decode cX7_round 16 = .ok (.bipush (-2), 2) := by decide +kernel
theorem dX7_round_18 : decode cX7_round 18 = .ok (.ireturn, 1) := by decide +kernel
theorem dX7_round_19 : decode cX7_round 19 = .ok (.iload_n 2, 1) := by decide +kernel
theorem dX7_round_20 : decode cX7_round 20 = .ok (.i2l, 1) := by decide +kernel
theorem dX7_round_21 : decode cX7_round 21 = .ok (.lconst 0, 1) := by decide +kernel
theorem dX7_round_22 : decode cX7_round 22 = .ok (.ldc2_w 39, 3) := by decide +kernel
theorem dX7_round_25 : decode cX7_round 25 = .ok (.invokestatic 35, 3) := by decide +kernel
theorem dX7_round_28 : decode cX7_round 28 = .ok (.ifCond .ne 6, 3) := by decide +kernel
theorem dX7_round_31 : decode cX7_round 31 = .ok (.bipush (-3), 2) := by decide +kernel
theorem dX7_round_33 : decode cX7_round 33 = .ok (.ireturn, 1) := by decide +kernel
theorem dX7_round_34 : decode cX7_round 34 = .ok (.aload_n 0, 1) := by decide +kernel
theorem dX7_round_35 : decode cX7_round 35 = .ok (.iconst 0, 1) := by decide +kernel
theorem dX7_round_36 : decode cX7_round 36 = .ok (.sipush 255, 3) := by decide +kernel
theorem dX7_round_39 : decode cX7_round 39 = .ok (.invokevirtual 167, 3) := by decide +kernel
theorem dX7_round_42 : decode cX7_round 42 = .ok (.iconst 0, 1) := by decide +kernel
theorem dX7_round_43 : decode cX7_round 43 = .ok (.istore 4, 2) := by decide +kernel
theorem dX7_round_45 : decode cX7_round 45 = .ok (.iload 4, 2) := by decide +kernel
theorem dX7_round_47 : decode cX7_round 47 = .ok (.bipush 6, 2) := by decide +kernel
theorem dX7_round_49 : decode cX7_round 49 = .ok (.if_icmp .ge 31, 3) := by decide +kernel
theorem dX7_round_52 : decode cX7_round 52 = .ok (.aload_n 0, 1) := by decide +kernel
theorem dX7_round_53 : decode cX7_round 53 = .ok (.sipush 255, 3) := by decide +kernel
theorem dX7_round_56 : decode cX7_round 56 = .ok (.iload 4, 2) := by decide +kernel
theorem dX7_round_58 : decode cX7_round 58 = .ok (.iload_n 2, 1) := by decide +kernel
theorem dX7_round_59 : decode cX7_round 59 = .ok (.iadd, 1) := by decide +kernel
theorem dX7_round_60 : decode cX7_round 60 = .ok (.aload_n 0, 1) := by decide +kernel
theorem dX7_round_61 : decode cX7_round 61 = .ok (.getfield 13, 3) := by decide +kernel
theorem dX7_round_64 : decode cX7_round 64 = .ok (.iconst 0, 1) := by decide +kernel
theorem dX7_round_65 : decode cX7_round 65 = .ok (.iaload, 1) := by decide +kernel
theorem dX7_round_66 : decode cX7_round 66 = .ok (.irem, 1) := by decide +kernel
theorem dX7_round_67 : decode cX7_round 67 = .ok (.iload_n 1, 1) := by decide +kernel
theorem dX7_round_68 : decode cX7_round 68 = .ok (.iload 4, 2) := by decide +kernel
theorem dX7_round_70 : decode cX7_round 70 = .ok (.invokevirtual 174, 3) := by decide +kernel
theorem dX7_round_73 : decode cX7_round 73 = .ok (.pop, 1) := by decide +kernel
theorem dX7_round_74 : decode cX7_round 74 = .ok (.iinc 4 1, 3) := by decide +kernel
theorem dX7_round_77 : decode cX7_round 77 = .ok (.goto (-32), 3) := by decide +kernel
theorem dX7_round_80 : decode cX7_round 80 = .ok (.aload_n 0, 1) := by decide +kernel
theorem dX7_round_81 : decode cX7_round 81 = .ok (.sipush 255, 3) := by decide +kernel
theorem dX7_round_84 : decode cX7_round 84 = .ok (.iload_n 3, 1) := by decide +kernel
theorem dX7_round_85 : decode cX7_round 85 = .ok (.iload_n 1, 1) := by decide +kernel
theorem dX7_round_86 : decode cX7_round 86 = .ok (.invokevirtual 162, 3) := by decide +kernel
theorem dX7_round_89 : decode cX7_round 89 = .ok (.invokestatic 190, 3) := by decide +kernel
theorem dX7_round_92 : decode cX7_round 92 = .ok (.ireturn, 1) := by decide +kernel
theorem dX7_seen_0 : decode cX7_seen 0 = .ok (.iload_n 1, 1) := by decide +kernel
theorem dX7_seen_1 : decode cX7_seen 1 = .ok (.invokestatic 153, 3) := by decide +kernel
theorem dX7_seen_4 : decode cX7_seen 4 = .ok (.ifCond .ne 6, 3) := by decide +kernel
theorem dX7_seen_7 : decode cX7_seen 7 = .ok (.bipush (-2), 2) := by decide +kernel
theorem dX7_seen_9 : decode cX7_seen 9 = .ok (.ireturn, 1) := by decide +kernel
theorem dX7_seen_10 : decode cX7_seen 10 = .ok (.iload_n 2, 1) := by decide +kernel
theorem dX7_seen_11 : decode cX7_seen 11 = .ok (.i2l, 1) := by decide +kernel
theorem dX7_seen_12 : decode cX7_seen 12 = .ok (.lconst 0, 1) := by decide +kernel
theorem dX7_seen_13 : decode cX7_seen 13 = .ok (.ldc2_w 193, 3) := by decide +kernel
theorem dX7_seen_16 : decode cX7_seen 16 = .ok (.invokestatic 35, 3) := by decide +kernel
theorem dX7_seen_19 : decode cX7_seen 19 = .ok (.ifCond .eq 15, 3) := by decide +kernel
theorem dX7_seen_22 : decode cX7_seen 22 = .ok (.iload_n 3, 1) := by decide +kernel
theorem dX7_seen_23 : decode cX7_seen 23 = .ok (.i2l, 1) := by decide +kernel
theorem dX7_seen_24 : decode cX7_seen 24 = .ok (.ldc2_w 195, 3) := by decide +kernel
theorem dX7_seen_27 : decode cX7_seen 27 = .ok (.lconst 1, 1) := by decide +kernel
theorem dX7_seen_28 : decode cX7_seen 28 = .ok (.invokestatic 35, 3) := by decide +kernel
theorem dX7_seen_31 : decode cX7_seen 31 = .ok (.ifCond .ne 6, 3) := by decide +kernel
theorem dX7_seen_34 : decode cX7_seen 34 = .ok (.bipush (-3), 2) := by decide +kernel
theorem dX7_seen_36 : decode cX7_seen 36 = .ok (.ireturn, 1) := by decide +kernel
theorem dX7_seen_37 : decode cX7_seen 37 = .ok (.aload_n 0, 1) := by decide +kernel
theorem dX7_seen_38 : decode cX7_seen 38 = .ok (.getfield 126, 3) := by decide +kernel
theorem dX7_seen_41 : decode cX7_seen 41 = .ok (.bipush 6, 2) := by decide +kernel
theorem dX7_seen_43 : decode cX7_seen 43 = .ok (.if_icmp .ne 6, 3) := by decide +kernel
theorem dX7_seen_46 : decode cX7_seen 46 = .ok (.bipush (-5), 2) := by decide +kernel
theorem dX7_seen_48 : decode cX7_seen 48 = .ok (.ireturn, 1) := by decide +kernel
theorem dX7_seen_49 : decode cX7_seen 49 = .ok (.aload_n 0, 1) := by decide +kernel
theorem dX7_seen_50 : decode cX7_seen 50 = .ok (.getfield 26, 3) := by decide +kernel
theorem dX7_seen_53 : decode cX7_seen 53 = .ok (.aload_n 0, 1) := by decide +kernel
theorem dX7_seen_54 : decode cX7_seen 54 = .ok (.getfield 126, 3) := by decide +kernel
theorem dX7_seen_57 : decode cX7_seen 57 = .ok (.iload_n 1, 1) := by decide +kernel
theorem dX7_seen_58 : decode cX7_seen 58 = .ok (.iastore, 1) := by decide +kernel
theorem dX7_seen_59 : decode cX7_seen 59 = .ok (.aload_n 0, 1) := by decide +kernel
theorem dX7_seen_60 : decode cX7_seen 60 = .ok (.getfield 29, 3) := by decide +kernel
theorem dX7_seen_63 : decode cX7_seen 63 = .ok (.aload_n 0, 1) := by decide +kernel
theorem dX7_seen_64 : decode cX7_seen 64 = .ok (.getfield 126, 3) := by decide +kernel
theorem dX7_seen_67 : decode cX7_seen 67 = .ok (.iload_n 2, 1) := by decide +kernel
theorem dX7_seen_68 : decode cX7_seen 68 = .ok (.iastore, 1) := by decide +kernel
theorem dX7_seen_69 : decode cX7_seen 69 = .ok (.aload_n 0, 1) := by decide +kernel
theorem dX7_seen_70 : decode cX7_seen 70 = .ok (.getfield 32, 3) := by decide +kernel
theorem dX7_seen_73 : decode cX7_seen 73 = .ok (.aload_n 0, 1) := by decide +kernel
theorem dX7_seen_74 : decode cX7_seen 74 = .ok (.getfield 126, 3) := by decide +kernel
theorem dX7_seen_77 : decode cX7_seen 77 = .ok (.iload_n 3, 1) := by decide +kernel
theorem dX7_seen_78 : decode cX7_seen 78 = .ok (.iastore, 1) := by decide +kernel
theorem dX7_seen_79 : decode cX7_seen 79 = .ok (.aload_n 0, 1) := by decide +kernel
theorem dX7_seen_80 : decode cX7_seen 80 = .ok (.dup, 1) := by decide +kernel
theorem dX7_seen_81 : decode cX7_seen 81 = .ok (.getfield 126, 3) := by decide +kernel
theorem dX7_seen_84 : decode cX7_seen 84 = .ok (.iconst 1, 1) := by decide +kernel
theorem dX7_seen_85 : decode cX7_seen 85 = .ok (.iadd, 1) := by decide +kernel
theorem dX7_seen_86 : decode cX7_seen 86 = .ok (.putfield 126, 3) := by decide +kernel
theorem dX7_seen_89 : decode cX7_seen 89 = .ok (.aload_n 0, 1) := by decide +kernel
theorem dX7_seen_90 : decode cX7_seen 90 = .ok (.getfield 126, 3) := by decide +kernel
theorem dX7_seen_93 : decode cX7_seen 93 = .ok (.ireturn, 1) := by decide +kernel
theorem dX7_forget_0 : decode cX7_forget 0 = .ok (.aload_n 0, 1) := by decide +kernel
theorem dX7_forget_1 : decode cX7_forget 1 = .ok (.getfield 126, 3) := by decide +kernel
theorem dX7_forget_4 : decode cX7_forget 4 = .ok (.istore_n 1, 1) := by decide +kernel
theorem dX7_forget_5 : decode cX7_forget 5 = .ok (.aload_n 0, 1) := by decide +kernel
theorem dX7_forget_6 : decode cX7_forget 6 = .ok (.iconst 0, 1) := by decide +kernel
theorem dX7_forget_7 : decode cX7_forget 7 = .ok (.putfield 126, 3) := by decide +kernel
theorem dX7_forget_10 : decode cX7_forget 10 = .ok (.iload_n 1, 1) := by decide +kernel
theorem dX7_forget_11 : decode cX7_forget 11 = .ok (.ireturn, 1) := by decide +kernel
theorem dX7_was_0 : decode cX7_was 0 = .ok (.iconst 0, 1) := by decide +kernel
theorem dX7_was_1 : decode cX7_was 1 = .ok (.istore_n 1, 1) := by decide +kernel
theorem dX7_was_2 : decode cX7_was 2 = .ok (.iconst 0, 1) := by decide +kernel
theorem dX7_was_3 : decode cX7_was 3 = .ok (.istore_n 2, 1) := by decide +kernel
theorem dX7_was_4 : decode cX7_was 4 = .ok (.iload_n 2, 1) := by decide +kernel
theorem dX7_was_5 : decode cX7_was 5 = .ok (.aload_n 0, 1) := by decide +kernel
theorem dX7_was_6 : decode cX7_was 6 = .ok (.getfield 13, 3) := by decide +kernel
theorem dX7_was_9 : decode cX7_was 9 = .ok (.iconst 1, 1) := by decide +kernel
theorem dX7_was_10 : decode cX7_was 10 = .ok (.iaload, 1) := by decide +kernel
theorem dX7_was_11 : decode cX7_was 11 = .ok (.if_icmp .ge 82, 3) := by decide +kernel
theorem dX7_was_14 : decode cX7_was 14 = .ok (.iconst 1, 1) := by decide +kernel
theorem dX7_was_15 : decode cX7_was 15 = .ok (.istore_n 3, 1) := by decide +kernel
theorem dX7_was_16 : decode cX7_was 16 = .ok (.iconst 0, 1) := by decide +kernel
theorem dX7_was_17 : decode cX7_was 17 = .ok (.istore 4, 2) := by decide +kernel
theorem dX7_was_19 : decode cX7_was 19 = .ok (.iload 4, 2) := by decide +kernel
theorem dX7_was_21 : decode cX7_was 21 = .ok (.aload_n 0, 1) := by decide +kernel
theorem dX7_was_22 : decode cX7_was 22 = .ok (.getfield 126, 3) := by decide +kernel
theorem dX7_was_25 : decode cX7_was 25 = .ok (.if_icmp .ge 48, 3) := by decide +kernel
theorem dX7_was_28 : decode cX7_was 28 = .ok (.iload_n 3, 1) := by decide +kernel
theorem dX7_was_29 : decode cX7_was 29 = .ok (.ifCond .eq 36, 3) := by decide +kernel
theorem dX7_was_32 : decode cX7_was 32 = .ok (.aload_n 0, 1) := by decide +kernel
theorem dX7_was_33 : decode cX7_was 33 = .ok (.iload_n 2, 1) := by decide +kernel
theorem dX7_was_34 : decode cX7_was 34 = .ok (.aload_n 0, 1) := by decide +kernel
theorem dX7_was_35 : decode cX7_was 35 = .ok (.getfield 26, 3) := by decide +kernel
theorem dX7_was_38 : decode cX7_was 38 = .ok (.iload 4, 2) := by decide +kernel
theorem dX7_was_40 : decode cX7_was 40 = .ok (.iaload, 1) := by decide +kernel
theorem dX7_was_41 : decode cX7_was 41 = .ok (.aload_n 0, 1) := by decide +kernel
theorem dX7_was_42 : decode cX7_was 42 = .ok (.getfield 29, 3) := by decide +kernel
theorem dX7_was_45 : decode cX7_was 45 = .ok (.iload 4, 2) := by decide +kernel
theorem dX7_was_47 : decode cX7_was 47 = .ok (.iaload, 1) := by decide +kernel
theorem dX7_was_48 : decode cX7_was 48 = .ok (.invokevirtual 132, 3) := by decide +kernel
theorem dX7_was_51 : decode cX7_was 51 = .ok (.aload_n 0, 1) := by decide +kernel
theorem dX7_was_52 : decode cX7_was 52 = .ok (.getfield 32, 3) := by decide +kernel
theorem dX7_was_55 : decode cX7_was 55 = .ok (.iload 4, 2) := by decide +kernel
theorem dX7_was_57 : decode cX7_was 57 = .ok (.iaload, 1) := by decide +kernel
theorem dX7_was_58 : decode cX7_was 58 = .ok (.if_icmp .ne 7, 3) := by decide +kernel
theorem dX7_was_61 : decode cX7_was 61 = .ok (.iconst 1, 1) := by decide +kernel
theorem dX7_was_62 : decode cX7_was 62 = .ok (.goto 4, 3) := by decide +kernel
theorem dX7_was_65 : decode cX7_was 65 = .ok (.iconst 0, 1) := by decide +kernel
theorem dX7_was_66 : decode cX7_was 66 = .ok (.istore_n 3, 1) := by decide +kernel
theorem dX7_was_67 : decode cX7_was 67 = .ok (.iinc 4 1, 3) := by decide +kernel
theorem dX7_was_70 : decode cX7_was 70 = .ok (.goto (-51), 3) := by decide +kernel
theorem dX7_was_73 : decode cX7_was 73 = .ok (.iload_n 1, 1) := by decide +kernel
theorem dX7_was_74 : decode cX7_was 74 = .ok (.iload_n 3, 1) := by decide +kernel
theorem dX7_was_75 : decode cX7_was 75 = .ok (.ifCond .eq 9, 3) := by decide +kernel
theorem dX7_was_78 : decode cX7_was 78 = .ok (.iconst 1, 1) := by decide +kernel
theorem dX7_was_79 : decode cX7_was 79 = .ok (.iload_n 2, 1) := by decide +kernel
theorem dX7_was_80 : decode cX7_was 80 = .ok (.ishl, 1) := by decide +kernel
theorem dX7_was_81 : decode cX7_was 81 = .ok (.goto 4, 3) := by decide +kernel
theorem dX7_was_84 : decode cX7_was 84 = .ok (.iconst 0, 1) := by decide +kernel
theorem dX7_was_85 : decode cX7_was 85 = .ok (.ior, 1) := by decide +kernel
theorem dX7_was_86 : decode cX7_was 86 = .ok (.istore_n 1, 1) := by decide +kernel
theorem dX7_was_87 : decode cX7_was 87 = .ok (.iinc 2 1, 3) := by decide +kernel
theorem dX7_was_90 : decode cX7_was 90 = .ok (.goto (-86), 3) := by decide +kernel
theorem dX7_was_93 : decode cX7_was 93 = .ok (.iload_n 1, 1) := by decide +kernel
theorem dX7_was_94 : decode cX7_was 94 = .ok (.ireturn, 1) := by decide +kernel
theorem dX7_stays_0 : decode cX7_stays 0 = .ok (.aload_n 0, 1) := by decide +kernel
theorem dX7_stays_1 : decode cX7_stays 1 = .ok (.iload_n 1, 1) := by decide +kernel
theorem dX7_stays_2 : decode cX7_stays 2 = .ok (.invokevirtual 159, 3) := by decide +kernel
theorem dX7_stays_5 : decode cX7_stays 5 = .ok (.ifCond .eq 11, 3) := by decide +kernel
theorem dX7_stays_8 : decode cX7_stays 8 = .ok (.aload_n 0, 1) := by decide +kernel
theorem dX7_stays_9 : decode cX7_stays 9 = .ok (.iload_n 2, 1) := by decide +kernel
theorem dX7_stays_10 : decode cX7_stays 10 = .ok (.invokevirtual 144, 3) := by decide +kernel
theorem dX7_stays_13 : decode cX7_stays 13 = .ok (.ifCond .ne 6, 3) := by decide +kernel
theorem dX7_stays_16 : decode cX7_stays 16 = .ok (.bipush (-2), 2) := by decide +kernel
theorem dX7_stays_18 : decode cX7_stays 18 = .ok (.ireturn, 1) := by decide +kernel
theorem dX7_stays_19 : decode cX7_stays 19 = .ok (.iload_n 3, 1) := by decide +kernel
theorem dX7_stays_20 : decode cX7_stays 20 = .ok (.i2l, 1) := by decide +kernel
theorem dX7_stays_21 : decode cX7_stays 21 = .ok (.lconst 0, 1) := by decide +kernel
theorem dX7_stays_22 : decode cX7_stays 22 = .ok (.ldc2_w 197, 3) := by decide +kernel
theorem dX7_stays_25 : decode cX7_stays 25 = .ok (.invokestatic 35, 3) := by decide +kernel
theorem dX7_stays_28 : decode cX7_stays 28 = .ok (.ifCond .eq 14, 3) := by decide +kernel
theorem dX7_stays_31 : decode cX7_stays 31 = .ok (.iload 4, 2) := by decide +kernel
theorem dX7_stays_33 : decode cX7_stays 33 = .ok (.i2l, 1) := by decide +kernel
theorem dX7_stays_34 : decode cX7_stays 34 = .ok (.lconst 0, 1) := by decide +kernel
theorem dX7_stays_35 : decode cX7_stays 35 = .ok (.lconst 1, 1) := by decide +kernel
theorem dX7_stays_36 : decode cX7_stays 36 = .ok (.invokestatic 35, 3) := by decide +kernel
theorem dX7_stays_39 : decode cX7_stays 39 = .ok (.ifCond .ne 6, 3) := by decide +kernel
theorem dX7_stays_42 : decode cX7_stays 42 = .ok (.bipush (-3), 2) := by decide +kernel
theorem dX7_stays_44 : decode cX7_stays 44 = .ok (.ireturn, 1) := by decide +kernel
theorem dX7_stays_45 : decode cX7_stays 45 = .ok (.iconst 0, 1) := by decide +kernel
theorem dX7_stays_46 : decode cX7_stays 46 = .ok (.istore 5, 2) := by decide +kernel
theorem dX7_stays_48 : decode cX7_stays 48 = .ok (.iconst 0, 1) := by decide +kernel
theorem dX7_stays_49 : decode cX7_stays 49 = .ok (.istore 6, 2) := by decide +kernel
theorem dX7_stays_51 : decode cX7_stays 51 = .ok (.iload 6, 2) := by decide +kernel
theorem dX7_stays_53 : decode cX7_stays 53 = .ok (.bipush 64, 2) := by decide +kernel
theorem dX7_stays_55 : decode cX7_stays 55 = .ok (.if_icmp .ge 86, 3) := by decide +kernel
theorem dX7_stays_58 : decode cX7_stays 58 = .ok (.iconst 1, 1) := by decide +kernel
theorem dX7_stays_59 : decode cX7_stays 59 = .ok (.istore 7, 2) := by decide +kernel
theorem dX7_stays_61 : decode cX7_stays 61 = .ok (.iconst 0, 1) := by decide +kernel
theorem dX7_stays_62 : decode cX7_stays 62 = .ok (.istore 8, 2) := by decide +kernel
theorem dX7_stays_64 : decode cX7_stays 64 = .ok (.iload 8, 2) := by decide +kernel
theorem dX7_stays_66 : decode cX7_stays 66 = .ok (.bipush 6, 2) := by decide +kernel
theorem dX7_stays_68 : decode cX7_stays 68 = .ok (.if_icmp .ge 32, 3) := by decide +kernel
theorem dX7_stays_71 : decode cX7_stays 71 = .ok (.iload 7, 2) := by decide +kernel
theorem dX7_stays_73 : decode cX7_stays 73 = .ok (.iload 6, 2) := by decide +kernel
theorem dX7_stays_75 : decode cX7_stays 75 = .ok (.iload 8, 2) := by decide +kernel
theorem dX7_stays_77 : decode cX7_stays 77 = .ok (.invokestatic 181, 3) := by decide +kernel
theorem dX7_stays_80 : decode cX7_stays 80 = .ok (.ifCond .eq 7, 3) := by decide +kernel
theorem dX7_stays_83 : decode cX7_stays 83 = .ok (.iload_n 3, 1) := by decide +kernel
theorem dX7_stays_84 : decode cX7_stays 84 = .ok (.goto 7, 3) := by decide +kernel
theorem dX7_stays_87 : decode cX7_stays 87 = .ok (.bipush 10, 2) := by decide +kernel
theorem dX7_stays_89 : decode cX7_stays 89 = .ok (.iload_n 3, 1) := by decide +kernel
theorem dX7_stays_90 : decode cX7_stays 90 = .ok (.isub, 1) := by decide +kernel
theorem dX7_stays_91 : decode cX7_stays 91 = .ok (.imul, 1) := by decide +kernel
theorem dX7_stays_92 : decode cX7_stays 92 = .ok (.istore 7, 2) := by decide +kernel
theorem dX7_stays_94 : decode cX7_stays 94 = .ok (.iinc 8 1, 3) := by decide +kernel
theorem dX7_stays_97 : decode cX7_stays 97 = .ok (.goto (-33), 3) := by decide +kernel
theorem dX7_stays_100 : decode cX7_stays 100 = .ok (.aload_n 0, 1) := by decide +kernel
theorem dX7_stays_101 : decode cX7_stays 101 = .ok (.iload_n 1, 1) := by decide +kernel
theorem dX7_stays_102 : decode cX7_stays 102 = .ok (.iload_n 2, 1) := by decide +kernel
theorem dX7_stays_103 : decode cX7_stays 103 = .ok (.iload 6, 2) := by decide +kernel
theorem dX7_stays_105 : decode cX7_stays 105 = .ok (.invokevirtual 186, 3) := by decide +kernel
theorem dX7_stays_108 : decode cX7_stays 108 = .ok (.iload 5, 2) := by decide +kernel
theorem dX7_stays_110 : decode cX7_stays 110 = .ok (.aload_n 0, 1) := by decide +kernel
theorem dX7_stays_111 : decode cX7_stays 111 = .ok (.sipush 255, 3) := by decide +kernel
theorem dX7_stays_114 : decode cX7_stays 114 = .ok (.iload_n 1, 1) := by decide +kernel
theorem dX7_stays_115 : decode cX7_stays 115 = .ok (.iload_n 2, 1) := by decide +kernel
theorem dX7_stays_116 : decode cX7_stays 116 = .ok (.invokevirtual 162, 3) := by decide +kernel
theorem dX7_stays_119 : decode cX7_stays 119 = .ok (.invokestatic 190, 3) := by decide +kernel
theorem dX7_stays_122 : decode cX7_stays 122 = .ok (.iconst 2, 1) := by decide +kernel
theorem dX7_stays_123 : decode cX7_stays 123 = .ok (.if_icmp .lt 8, 3) := by decide +kernel
theorem dX7_stays_126 : decode cX7_stays 126 = .ok (.iload 7, 2) := by decide +kernel
theorem dX7_stays_128 : decode cX7_stays 128 = .ok (.goto 4, 3) := by decide +kernel
theorem dX7_stays_131 : decode cX7_stays 131 = .ok (.iconst 0, 1) := by decide +kernel
theorem dX7_stays_132 : decode cX7_stays 132 = .ok (.iadd, 1) := by decide +kernel
theorem dX7_stays_133 : decode cX7_stays 133 = .ok (.istore 5, 2) := by decide +kernel
theorem dX7_stays_135 : decode cX7_stays 135 = .ok (.iinc 6 1, 3) := by decide +kernel
theorem dX7_stays_138 : decode cX7_stays 138 = .ok (.goto (-87), 3) := by decide +kernel
theorem dX7_stays_141 : decode cX7_stays 141 = .ok (.iload 5, 2) := by decide +kernel
theorem dX7_stays_143 : decode cX7_stays 143 = .ok (.istore 6, 2) := by decide +kernel
theorem dX7_stays_145 : decode cX7_stays 145 = .ok (.ldc 199, 2) := by decide +kernel
theorem dX7_stays_147 : decode cX7_stays 147 = .ok (.istore 7, 2) := by decide +kernel
theorem dX7_stays_149 : decode cX7_stays 149 = .ok (.iload 7, 2) := by decide +kernel
theorem dX7_stays_151 : decode cX7_stays 151 = .ok (.ifCond .eq 21, 3) := by decide +kernel
theorem dX7_stays_154 : decode cX7_stays 154 = .ok (.iload 6, 2) := by decide +kernel
theorem dX7_stays_156 : decode cX7_stays 156 = .ok (.iload 7, 2) := by decide +kernel
theorem dX7_stays_158 : decode cX7_stays 158 = .ok (.irem, 1) := by decide +kernel
theorem dX7_stays_159 : decode cX7_stays 159 = .ok (.istore 8, 2) := by decide +kernel
theorem dX7_stays_161 : decode cX7_stays 161 = .ok (.iload 7, 2) := by decide +kernel
theorem dX7_stays_163 : decode cX7_stays 163 = .ok (.istore 6, 2) := by decide +kernel
theorem dX7_stays_165 : decode cX7_stays 165 = .ok (.iload 8, 2) := by decide +kernel
theorem dX7_stays_167 : decode cX7_stays 167 = .ok (.istore 7, 2) := by decide +kernel
theorem dX7_stays_169 : decode cX7_stays 169 = .ok (.goto (-20), 3) := by decide +kernel
theorem dX7_stays_172 : decode cX7_stays 172 = .ok (.iload 4, 2) := by decide +kernel
theorem dX7_stays_174 : decode cX7_stays 174 = .ok (.ifCond .ne 11, 3) := by decide +kernel
theorem dX7_stays_177 : decode cX7_stays 177 = .ok (.iload 5, 2) := by decide +kernel
theorem dX7_stays_179 : decode cX7_stays 179 = .ok (.iload 6, 2) := by decide +kernel
theorem dX7_stays_181 : decode cX7_stays 181 = .ok (.idiv, 1) := by decide +kernel
theorem dX7_stays_182 : decode cX7_stays 182 = .ok (.goto 8, 3) := by decide +kernel
theorem dX7_stays_185 : decode cX7_stays 185 = .ok (.ldc 199, 2) := by decide +kernel
theorem dX7_stays_187 : decode cX7_stays 187 = .ok (.iload 6, 2) := by decide +kernel
theorem dX7_stays_189 : decode cX7_stays 189 = .ok (.idiv, 1) := by decide +kernel
theorem dX7_stays_190 : decode cX7_stays 190 = .ok (.ireturn, 1) := by decide +kernel
theorem dX7_beardsOfAll_0 : decode cX7_beardsOfAll 0 = .ok (.iconst 0, 1) := by decide +kernel
theorem dX7_beardsOfAll_1 : decode cX7_beardsOfAll 1 = .ok (.istore_n 1, 1) := by decide +kernel
theorem dX7_beardsOfAll_2 : decode cX7_beardsOfAll 2 = .ok (.iconst 0, 1) := by decide +kernel
theorem dX7_beardsOfAll_3 : decode cX7_beardsOfAll 3 = .ok (.istore_n 2, 1) := by decide +kernel
theorem dX7_beardsOfAll_4 : decode cX7_beardsOfAll 4 = .ok (.iload_n 2, 1) := by decide +kernel
theorem dX7_beardsOfAll_5 : decode cX7_beardsOfAll 5 = .ok (.aload_n 0, 1) := by decide +kernel
theorem dX7_beardsOfAll_6 : decode cX7_beardsOfAll 6 = .ok (.getfield 13, 3) := by decide +kernel
theorem dX7_beardsOfAll_9 : decode cX7_beardsOfAll 9 = .ok (.iconst 1, 1) := by decide +kernel
theorem dX7_beardsOfAll_10 : decode cX7_beardsOfAll 10 = .ok (.iaload, 1) := by decide +kernel
theorem dX7_beardsOfAll_11 : decode cX7_beardsOfAll 11 = .ok (.if_icmp .ge 17, 3) := by decide +kernel
theorem dX7_beardsOfAll_14 : decode cX7_beardsOfAll 14 = .ok (.iload_n 1, 1) := by decide +kernel
theorem dX7_beardsOfAll_15 : decode cX7_beardsOfAll 15 = .ok (.aload_n 0, 1) := by decide +kernel
theorem dX7_beardsOfAll_16 : decode cX7_beardsOfAll 16 = .ok (.iload_n 2, 1) := by decide +kernel
theorem dX7_beardsOfAll_17 : decode cX7_beardsOfAll 17 = .ok (.invokevirtual 150, 3) := by decide +kernel
theorem dX7_beardsOfAll_20 : decode cX7_beardsOfAll 20 = .ok (.iadd, 1) := by decide +kernel
theorem dX7_beardsOfAll_21 : decode cX7_beardsOfAll 21 = .ok (.istore_n 1, 1) := by decide +kernel
theorem dX7_beardsOfAll_22 : decode cX7_beardsOfAll 22 = .ok (.iinc 2 1, 3) := by decide +kernel
theorem dX7_beardsOfAll_25 : decode cX7_beardsOfAll 25 = .ok (.goto (-21), 3) := by decide +kernel
theorem dX7_beardsOfAll_28 : decode cX7_beardsOfAll 28 = .ok (.iload_n 1, 1) := by decide +kernel
theorem dX7_beardsOfAll_29 : decode cX7_beardsOfAll 29 = .ok (.ireturn, 1) := by decide +kernel
theorem dX7_knownOfAll_0 : decode cX7_knownOfAll 0 = .ok (.iconst 0, 1) := by decide +kernel
theorem dX7_knownOfAll_1 : decode cX7_knownOfAll 1 = .ok (.istore_n 1, 1) := by decide +kernel
theorem dX7_knownOfAll_2 : decode cX7_knownOfAll 2 = .ok (.iconst 0, 1) := by decide +kernel
theorem dX7_knownOfAll_3 : decode cX7_knownOfAll 3 = .ok (.istore_n 2, 1) := by decide +kernel
theorem dX7_knownOfAll_4 : decode cX7_knownOfAll 4 = .ok (.iload_n 2, 1) := by decide +kernel
theorem dX7_knownOfAll_5 : decode cX7_knownOfAll 5 = .ok (.bipush 24, 2) := by decide +kernel
theorem dX7_knownOfAll_7 : decode cX7_knownOfAll 7 = .ok (.if_icmp .ge 24, 3) := by decide +kernel
theorem dX7_knownOfAll_10 : decode cX7_knownOfAll 10 = .ok (.iload_n 1, 1) := by decide +kernel
theorem dX7_knownOfAll_11 : decode cX7_knownOfAll 11 = .ok (.aload_n 0, 1) := by decide +kernel
theorem dX7_knownOfAll_12 : decode cX7_knownOfAll 12 = .ok (.getfield 7, 3) := by decide +kernel
theorem dX7_knownOfAll_15 : decode cX7_knownOfAll 15 = .ok (.bipush 37, 2) := by decide +kernel
theorem dX7_knownOfAll_17 : decode cX7_knownOfAll 17 = .ok (.iload_n 2, 1) := by decide +kernel
theorem dX7_knownOfAll_18 : decode cX7_knownOfAll 18 = .ok (.iadd, 1) := by decide +kernel
theorem dX7_knownOfAll_19 : decode cX7_knownOfAll 19 = .ok (.iaload, 1) := by decide +kernel
theorem dX7_knownOfAll_20 : decode cX7_knownOfAll 20 = .ok (.invokestatic 178, 3) := by decide +kernel
theorem dX7_knownOfAll_23 : decode cX7_knownOfAll 23 = .ok (.iadd, 1) := by decide +kernel
theorem dX7_knownOfAll_24 : decode cX7_knownOfAll 24 = .ok (.istore_n 1, 1) := by decide +kernel
theorem dX7_knownOfAll_25 : decode cX7_knownOfAll 25 = .ok (.iinc 2 1, 3) := by decide +kernel
theorem dX7_knownOfAll_28 : decode cX7_knownOfAll 28 = .ok (.goto (-24), 3) := by decide +kernel
theorem dX7_knownOfAll_31 : decode cX7_knownOfAll 31 = .ok (.iload_n 1, 1) := by decide +kernel
theorem dX7_knownOfAll_32 : decode cX7_knownOfAll 32 = .ok (.ireturn, 1) := by decide +kernel
theorem dX7_count_0 : decode cX7_count 0 = .ok (.iload_n 1, 1) := by decide +kernel
theorem dX7_count_1 : decode cX7_count 1 = .ok (.tableswitch 104 0 8 #[51, 58, 65, 72, 79, 84, 89, 94, 99], 51) := by decide +kernel
theorem dX7_count_52 : decode cX7_count 52 = .ok (.aload_n 0, 1) := by decide +kernel
theorem dX7_count_53 : decode cX7_count 53 = .ok (.getfield 13, 3) := by decide +kernel
theorem dX7_count_56 : decode cX7_count 56 = .ok (.iconst 0, 1) := by decide +kernel
theorem dX7_count_57 : decode cX7_count 57 = .ok (.iaload, 1) := by decide +kernel
theorem dX7_count_58 : decode cX7_count 58 = .ok (.ireturn, 1) := by decide +kernel
theorem dX7_count_59 : decode cX7_count 59 = .ok (.aload_n 0, 1) := by decide +kernel
theorem dX7_count_60 : decode cX7_count 60 = .ok (.getfield 13, 3) := by decide +kernel
theorem dX7_count_63 : decode cX7_count 63 = .ok (.iconst 1, 1) := by decide +kernel
theorem dX7_count_64 : decode cX7_count 64 = .ok (.iaload, 1) := by decide +kernel
theorem dX7_count_65 : decode cX7_count 65 = .ok (.ireturn, 1) := by decide +kernel
theorem dX7_count_66 : decode cX7_count 66 = .ok (.aload_n 0, 1) := by decide +kernel
theorem dX7_count_67 : decode cX7_count 67 = .ok (.getfield 13, 3) := by decide +kernel
theorem dX7_count_70 : decode cX7_count 70 = .ok (.iconst 2, 1) := by decide +kernel
theorem dX7_count_71 : decode cX7_count 71 = .ok (.iaload, 1) := by decide +kernel
theorem dX7_count_72 : decode cX7_count 72 = .ok (.ireturn, 1) := by decide +kernel
theorem dX7_count_73 : decode cX7_count 73 = .ok (.aload_n 0, 1) := by decide +kernel
theorem dX7_count_74 : decode cX7_count 74 = .ok (.getfield 7, 3) := by decide +kernel
theorem dX7_count_77 : decode cX7_count 77 = .ok (.iconst 0, 1) := by decide +kernel
theorem dX7_count_78 : decode cX7_count 78 = .ok (.iaload, 1) := by decide +kernel
theorem dX7_count_79 : decode cX7_count 79 = .ok (.ireturn, 1) := by decide +kernel
theorem dX7_count_80 : decode cX7_count 80 = .ok (.aload_n 0, 1) := by decide +kernel
theorem dX7_count_81 : decode cX7_count 81 = .ok (.invokevirtual 200, 3) := by decide +kernel
theorem dX7_count_84 : decode cX7_count 84 = .ok (.ireturn, 1) := by decide +kernel
theorem dX7_count_85 : decode cX7_count 85 = .ok (.aload_n 0, 1) := by decide +kernel
theorem dX7_count_86 : decode cX7_count 86 = .ok (.invokevirtual 203, 3) := by decide +kernel
theorem dX7_count_89 : decode cX7_count 89 = .ok (.ireturn, 1) := by decide +kernel
theorem dX7_count_90 : decode cX7_count 90 = .ok (.aload_n 0, 1) := by decide +kernel
theorem dX7_count_91 : decode cX7_count 91 = .ok (.getfield 126, 3) := by decide +kernel
theorem dX7_count_94 : decode cX7_count 94 = .ok (.ireturn, 1) := by decide +kernel
theorem dX7_count_95 : decode cX7_count 95 = .ok (.aload_n 0, 1) := by decide +kernel
theorem dX7_count_96 : decode cX7_count 96 = .ok (.getfield 129, 3) := by decide +kernel
theorem dX7_count_99 : decode cX7_count 99 = .ok (.ireturn, 1) := by decide +kernel
theorem dX7_count_100 : decode cX7_count 100 = .ok (.aload_n 0, 1) := by decide +kernel
theorem dX7_count_101 : decode cX7_count 101 = .ok (.getfield 43, 3) := by decide +kernel
theorem dX7_count_104 : decode cX7_count 104 = .ok (.ireturn, 1) := by decide +kernel
theorem dX7_count_105 : decode cX7_count 105 = .ok (.bipush (-3), 2) := by decide +kernel
theorem dX7_count_107 : decode cX7_count 107 = .ok (.ireturn, 1) := by decide +kernel
theorem dJ6_bitCount_0f7a4_0 : decode cJ6_bitCount_0f7a4 0 = .ok (.iload_n 0, 1) := by decide +kernel
theorem dJ6_bitCount_0f7a4_1 : decode cJ6_bitCount_0f7a4 1 = .ok (.iload_n 0, 1) := by decide +kernel
theorem dJ6_bitCount_0f7a4_2 : decode cJ6_bitCount_0f7a4 2 = .ok (.iconst 1, 1) := by decide +kernel
theorem dJ6_bitCount_0f7a4_3 : decode cJ6_bitCount_0f7a4 3 = .ok (.iushr, 1) := by decide +kernel
theorem dJ6_bitCount_0f7a4_4 : decode cJ6_bitCount_0f7a4 4 = .ok (.ldc_w 265, 3) := by decide +kernel
theorem dJ6_bitCount_0f7a4_7 : decode cJ6_bitCount_0f7a4 7 = .ok (.iand, 1) := by decide +kernel
theorem dJ6_bitCount_0f7a4_8 : decode cJ6_bitCount_0f7a4 8 = .ok (.isub, 1) := by decide +kernel
theorem dJ6_bitCount_0f7a4_9 : decode cJ6_bitCount_0f7a4 9 = .ok (.istore_n 0, 1) := by decide +kernel
theorem dJ6_bitCount_0f7a4_10 : decode cJ6_bitCount_0f7a4 10 = .ok (.iload_n 0, 1) := by decide +kernel
theorem dJ6_bitCount_0f7a4_11 : decode cJ6_bitCount_0f7a4 11 = .ok (.ldc_w 266, 3) := by decide +kernel
theorem dJ6_bitCount_0f7a4_14 : decode cJ6_bitCount_0f7a4 14 = .ok (.iand, 1) := by decide +kernel
theorem dJ6_bitCount_0f7a4_15 : decode cJ6_bitCount_0f7a4 15 = .ok (.iload_n 0, 1) := by decide +kernel
theorem dJ6_bitCount_0f7a4_16 : decode cJ6_bitCount_0f7a4 16 = .ok (.iconst 2, 1) := by decide +kernel
theorem dJ6_bitCount_0f7a4_17 : decode cJ6_bitCount_0f7a4 17 = .ok (.iushr, 1) := by decide +kernel
theorem dJ6_bitCount_0f7a4_18 : decode cJ6_bitCount_0f7a4 18 = .ok (.ldc_w 266, 3) := by decide +kernel
theorem dJ6_bitCount_0f7a4_21 : decode cJ6_bitCount_0f7a4 21 = .ok (.iand, 1) := by decide +kernel
theorem dJ6_bitCount_0f7a4_22 : decode cJ6_bitCount_0f7a4 22 = .ok (.iadd, 1) := by decide +kernel
theorem dJ6_bitCount_0f7a4_23 : decode cJ6_bitCount_0f7a4 23 = .ok (.istore_n 0, 1) := by decide +kernel
theorem dJ6_bitCount_0f7a4_24 : decode cJ6_bitCount_0f7a4 24 = .ok (.iload_n 0, 1) := by decide +kernel
theorem dJ6_bitCount_0f7a4_25 : decode cJ6_bitCount_0f7a4 25 = .ok (.iload_n 0, 1) := by decide +kernel
theorem dJ6_bitCount_0f7a4_26 : decode cJ6_bitCount_0f7a4 26 = .ok (.iconst 4, 1) := by decide +kernel
theorem dJ6_bitCount_0f7a4_27 : decode cJ6_bitCount_0f7a4 27 = .ok (.iushr, 1) := by decide +kernel
theorem dJ6_bitCount_0f7a4_28 : decode cJ6_bitCount_0f7a4 28 = .ok (.iadd, 1) := by decide +kernel
theorem dJ6_bitCount_0f7a4_29 : decode cJ6_bitCount_0f7a4 29 = .ok (.ldc_w 267, 3) := by decide +kernel
theorem dJ6_bitCount_0f7a4_32 : decode cJ6_bitCount_0f7a4 32 = .ok (.iand, 1) := by decide +kernel
theorem dJ6_bitCount_0f7a4_33 : decode cJ6_bitCount_0f7a4 33 = .ok (.istore_n 0, 1) := by decide +kernel
theorem dJ6_bitCount_0f7a4_34 : decode cJ6_bitCount_0f7a4 34 = .ok (.iload_n 0, 1) := by decide +kernel
theorem dJ6_bitCount_0f7a4_35 : decode cJ6_bitCount_0f7a4 35 = .ok (.iload_n 0, 1) := by decide +kernel
theorem dJ6_bitCount_0f7a4_36 : decode cJ6_bitCount_0f7a4 36 = .ok (.bipush 8, 2) := by decide +kernel
theorem dJ6_bitCount_0f7a4_38 : decode cJ6_bitCount_0f7a4 38 = .ok (.iushr, 1) := by decide +kernel
theorem dJ6_bitCount_0f7a4_39 : decode cJ6_bitCount_0f7a4 39 = .ok (.iadd, 1) := by decide +kernel
theorem dJ6_bitCount_0f7a4_40 : decode cJ6_bitCount_0f7a4 40 = .ok (.istore_n 0, 1) := by decide +kernel
theorem dJ6_bitCount_0f7a4_41 : decode cJ6_bitCount_0f7a4 41 = .ok (.iload_n 0, 1) := by decide +kernel
theorem dJ6_bitCount_0f7a4_42 : decode cJ6_bitCount_0f7a4 42 = .ok (.iload_n 0, 1) := by decide +kernel
theorem dJ6_bitCount_0f7a4_43 : decode cJ6_bitCount_0f7a4 43 = .ok (.bipush 16, 2) := by decide +kernel
theorem dJ6_bitCount_0f7a4_45 : decode cJ6_bitCount_0f7a4 45 = .ok (.iushr, 1) := by decide +kernel
theorem dJ6_bitCount_0f7a4_46 : decode cJ6_bitCount_0f7a4 46 = .ok (.iadd, 1) := by decide +kernel
theorem dJ6_bitCount_0f7a4_47 : decode cJ6_bitCount_0f7a4 47 = .ok (.istore_n 0, 1) := by decide +kernel
theorem dJ6_bitCount_0f7a4_48 : decode cJ6_bitCount_0f7a4 48 = .ok (.iload_n 0, 1) := by decide +kernel
theorem dJ6_bitCount_0f7a4_49 : decode cJ6_bitCount_0f7a4 49 = .ok (.bipush 63, 2) := by decide +kernel
theorem dJ6_bitCount_0f7a4_51 : decode cJ6_bitCount_0f7a4 51 = .ok (.iand, 1) := by decide +kernel
theorem dJ6_bitCount_0f7a4_52 : decode cJ6_bitCount_0f7a4 52 = .ok (.ireturn, 1) := by decide +kernel
theorem dJ9_max_7cf53_0 : decode cJ9_max_7cf53 0 = .ok (.iload_n 0, 1) := by decide +kernel
theorem dJ9_max_7cf53_1 : decode cJ9_max_7cf53 1 = .ok (.iload_n 1, 1) := by decide +kernel
theorem dJ9_max_7cf53_2 : decode cJ9_max_7cf53 2 = .ok (.if_icmp .lt 7, 3) := by decide +kernel
theorem dJ9_max_7cf53_5 : decode cJ9_max_7cf53 5 = .ok (.iload_n 0, 1) := by decide +kernel
theorem dJ9_max_7cf53_6 : decode cJ9_max_7cf53 6 = .ok (.goto 4, 3) := by decide +kernel
theorem dJ9_max_7cf53_9 : decode cJ9_max_7cf53 9 = .ok (.iload_n 1, 1) := by decide +kernel
theorem dJ9_max_7cf53_10 : decode cJ9_max_7cf53 10 = .ok (.ireturn, 1) := by decide +kernel
theorem dJ9_min_7cf53_0 : decode cJ9_min_7cf53 0 = .ok (.iload_n 0, 1) := by decide +kernel
theorem dJ9_min_7cf53_1 : decode cJ9_min_7cf53 1 = .ok (.iload_n 1, 1) := by decide +kernel
theorem dJ9_min_7cf53_2 : decode cJ9_min_7cf53 2 = .ok (.if_icmp .gt 7, 3) := by decide +kernel
theorem dJ9_min_7cf53_5 : decode cJ9_min_7cf53 5 = .ok (.iload_n 0, 1) := by decide +kernel
theorem dJ9_min_7cf53_6 : decode cJ9_min_7cf53 6 = .ok (.goto 4, 3) := by decide +kernel
theorem dJ9_min_7cf53_9 : decode cJ9_min_7cf53 9 = .ok (.iload_n 1, 1) := by decide +kernel
theorem dJ9_min_7cf53_10 : decode cJ9_min_7cf53 10 = .ok (.ireturn, 1) := by decide +kernel
theorem dJ0_length_8abf5_0 : decode cJ0_length_8abf5 0 = .ok (.aload_n 0, 1) := by decide +kernel
theorem dJ0_length_8abf5_1 : decode cJ0_length_8abf5 1 = .ok (.getfield 9, 3) := by decide +kernel
theorem dJ0_length_8abf5_4 : decode cJ0_length_8abf5 4 = .ok (.arraylength, 1) := by decide +kernel
theorem dJ0_length_8abf5_5 : decode cJ0_length_8abf5 5 = .ok (.aload_n 0, 1) := by decide +kernel
theorem dJ0_length_8abf5_6 : decode cJ0_length_8abf5 6 = .ok (.invokevirtual 335, 3) := by decide +kernel
theorem dJ0_length_8abf5_9 : decode cJ0_length_8abf5 9 = .ok (.ishr, 1) := by decide +kernel
theorem dJ0_length_8abf5_10 : decode cJ0_length_8abf5 10 = .ok (.ireturn, 1) := by decide +kernel
theorem dJ0_charAt_5068e_0 : decode cJ0_charAt_5068e 0 = .ok (.aload_n 0, 1) := by decide +kernel
theorem dJ0_charAt_5068e_1 : decode cJ0_charAt_5068e 1 = .ok (.invokevirtual 492, 3) := by decide +kernel
theorem dJ0_charAt_5068e_4 : decode cJ0_charAt_5068e 4 = .ok (.ifCond .eq 12, 3) := by decide +kernel
theorem dJ0_charAt_5068e_7 : decode cJ0_charAt_5068e 7 = .ok (.aload_n 0, 1) := by decide +kernel
theorem dJ0_charAt_5068e_8 : decode cJ0_charAt_5068e 8 = .ok (.getfield 9, 3) := by decide +kernel
theorem dJ0_charAt_5068e_11 : decode cJ0_charAt_5068e 11 = .ok (.iload_n 1, 1) := by decide +kernel
theorem dJ0_charAt_5068e_12 : decode cJ0_charAt_5068e 12 = .ok (.invokestatic 495, 3) := by decide +kernel
theorem dJ0_charAt_5068e_15 : decode cJ0_charAt_5068e 15 = .ok (.ireturn, 1) := by decide +kernel
theorem dJ0_charAt_5068e_16 : decode cJ0_charAt_5068e 16 = .ok (.aload_n 0, 1) := by decide +kernel
theorem dJ0_charAt_5068e_17 : decode cJ0_charAt_5068e 17 = .ok (.getfield 9, 3) := by decide +kernel
theorem dJ0_charAt_5068e_20 : decode cJ0_charAt_5068e 20 = .ok (.iload_n 1, 1) := by decide +kernel
theorem dJ0_charAt_5068e_21 : decode cJ0_charAt_5068e 21 = .ok (.invokestatic 498, 3) := by decide +kernel
theorem dJ0_charAt_5068e_24 : decode cJ0_charAt_5068e 24 = .ok (.ireturn, 1) := by decide +kernel
theorem dJ0_coder_7d493_0 : decode cJ0_coder_7d493 0 = .ok (.getstatic 38, 3) := by decide +kernel
theorem dJ0_coder_7d493_3 : decode cJ0_coder_7d493 3 = .ok (.ifCond .eq 10, 3) := by decide +kernel
theorem dJ0_coder_7d493_6 : decode cJ0_coder_7d493 6 = .ok (.aload_n 0, 1) := by decide +kernel
theorem dJ0_coder_7d493_7 : decode cJ0_coder_7d493 7 = .ok (.getfield 15, 3) := by decide +kernel
theorem dJ0_coder_7d493_10 : decode cJ0_coder_7d493 10 = .ok (.goto 4, 3) := by decide +kernel
theorem dJ0_coder_7d493_13 : decode cJ0_coder_7d493 13 = .ok (.iconst 1, 1) := by decide +kernel
theorem dJ0_coder_7d493_14 : decode cJ0_coder_7d493 14 = .ok (.ireturn, 1) := by decide +kernel
theorem dJ0_isLatin1_aae02_0 : decode cJ0_isLatin1_aae02 0 = .ok (.getstatic 38, 3) := by decide +kernel
theorem dJ0_isLatin1_aae02_3 : decode cJ0_isLatin1_aae02 3 = .ok (.ifCond .eq 14, 3) := by decide +kernel
theorem dJ0_isLatin1_aae02_6 : decode cJ0_isLatin1_aae02 6 = .ok (.aload_n 0, 1) := by decide +kernel
theorem dJ0_isLatin1_aae02_7 : decode cJ0_isLatin1_aae02 7 = .ok (.getfield 15, 3) := by decide +kernel

theorem dX7_takesTown_26 : decode cX7_takesTown 26 = .ok (.iconst 0, 1) := by decide +kernel
theorem dX7_takesTown_27 : decode cX7_takesTown 27 = .ok (.iastore, 1) := by decide +kernel
theorem dX7_takesTown_28 : decode cX7_takesTown 28 = .ok (.aload_n 0, 1) := by decide +kernel
theorem dX7_takesTown_29 : decode cX7_takesTown 29 = .ok (.getfield 16, 3) := by decide +kernel
theorem dX7_takesTown_32 : decode cX7_takesTown 32 = .ok (.iconst 2, 1) := by decide +kernel
theorem dX7_takesTown_33 : decode cX7_takesTown 33 = .ok (.iconst 0, 1) := by decide +kernel
theorem dX7_takesTown_34 : decode cX7_takesTown 34 = .ok (.iastore, 1) := by decide +kernel
theorem dX7_takesTown_35 : decode cX7_takesTown 35 = .ok (.iconst 1, 1) := by decide +kernel
theorem dX7_takesTown_36 : decode cX7_takesTown 36 = .ok (.ireturn, 1) := by decide +kernel
theorem dX7_takesRumour_0 : decode cX7_takesRumour 0 = .ok (.aload_n 0, 1) := by decide +kernel
theorem dX7_takesRumour_1 : decode cX7_takesRumour 1 = .ok (.getfield 16, 3) := by decide +kernel
theorem dX7_takesRumour_4 : decode cX7_takesRumour 4 = .ok (.iconst 2, 1) := by decide +kernel
theorem dX7_takesRumour_5 : decode cX7_takesRumour 5 = .ok (.iaload, 1) := by decide +kernel
theorem dX7_takesRumour_6 : decode cX7_takesRumour 6 = .ok (.bipush 8, 2) := by decide +kernel
theorem dX7_takesRumour_8 : decode cX7_takesRumour 8 = .ok (.if_icmp .eq 13, 3) := by decide +kernel
theorem dX7_takesRumour_11 : decode cX7_takesRumour 11 = .ok (.aload_n 0, 1) := by decide +kernel
theorem dX7_takesRumour_12 : decode cX7_takesRumour 12 = .ok (.iconst 0, 1) := by decide +kernel
theorem dX7_takesRumour_13 : decode cX7_takesRumour 13 = .ok (.bipush 63, 2) := by decide +kernel
theorem dX7_takesRumour_15 : decode cX7_takesRumour 15 = .ok (.invokevirtual 82, 3) := by decide +kernel
theorem dX7_takesRumour_18 : decode cX7_takesRumour 18 = .ok (.ifCond .ne 5, 3) := by decide +kernel
theorem dX7_takesRumour_21 : decode cX7_takesRumour 21 = .ok (.iconst 0, 1) := by decide +kernel
theorem dX7_takesRumour_22 : decode cX7_takesRumour 22 = .ok (.ireturn, 1) := by decide +kernel
theorem dX7_takesRumour_23 : decode cX7_takesRumour 23 = .ok (.aload_n 0, 1) := by decide +kernel
theorem dX7_takesRumour_24 : decode cX7_takesRumour 24 = .ok (.getfield 16, 3) := by decide +kernel
theorem dX7_takesRumour_27 : decode cX7_takesRumour 27 = .ok (.bipush 51, 2) := by decide +kernel
theorem dX7_takesRumour_29 : decode cX7_takesRumour 29 = .ok (.aload_n 0, 1) := by decide +kernel
theorem dX7_takesRumour_30 : decode cX7_takesRumour 30 = .ok (.getfield 16, 3) := by decide +kernel
theorem dX7_takesRumour_33 : decode cX7_takesRumour 33 = .ok (.iconst 2, 1) := by decide +kernel
theorem dX7_takesRumour_34 : decode cX7_takesRumour 34 = .ok (.iaload, 1) := by decide +kernel
theorem dX7_takesRumour_35 : decode cX7_takesRumour 35 = .ok (.iadd, 1) := by decide +kernel
theorem dX7_takesRumour_36 : decode cX7_takesRumour 36 = .ok (.aload_n 0, 1) := by decide +kernel
theorem dX7_takesRumour_37 : decode cX7_takesRumour 37 = .ok (.getfield 76, 3) := by decide +kernel
theorem dX7_takesRumour_40 : decode cX7_takesRumour 40 = .ok (.iastore, 1) := by decide +kernel
theorem dX7_takesRumour_41 : decode cX7_takesRumour 41 = .ok (.aload_n 0, 1) := by decide +kernel
theorem dX7_takesRumour_42 : decode cX7_takesRumour 42 = .ok (.getfield 16, 3) := by decide +kernel
theorem dX7_takesRumour_45 : decode cX7_takesRumour 45 = .ok (.iconst 2, 1) := by decide +kernel
theorem dX7_takesRumour_46 : decode cX7_takesRumour 46 = .ok (.dup2, 1) := by decide +kernel
theorem dX7_takesRumour_47 : decode cX7_takesRumour 47 = .ok (.iaload, 1) := by decide +kernel
theorem dX7_takesRumour_48 : decode cX7_takesRumour 48 = .ok (.iconst 1, 1) := by decide +kernel
theorem dX7_takesRumour_49 : decode cX7_takesRumour 49 = .ok (.iadd, 1) := by decide +kernel
theorem dX7_takesRumour_50 : decode cX7_takesRumour 50 = .ok (.iastore, 1) := by decide +kernel
theorem dX7_takesRumour_51 : decode cX7_takesRumour 51 = .ok (.iconst 1, 1) := by decide +kernel
theorem dX7_takesRumour_52 : decode cX7_takesRumour 52 = .ok (.ireturn, 1) := by decide +kernel
theorem dX7_takesBeard_0 : decode cX7_takesBeard 0 = .ok (.aload_n 0, 1) := by decide +kernel
theorem dX7_takesBeard_1 : decode cX7_takesBeard 1 = .ok (.iconst 0, 1) := by decide +kernel
theorem dX7_takesBeard_2 : decode cX7_takesBeard 2 = .ok (.aload_n 0, 1) := by decide +kernel
theorem dX7_takesBeard_3 : decode cX7_takesBeard 3 = .ok (.getfield 16, 3) := by decide +kernel
theorem dX7_takesBeard_6 : decode cX7_takesBeard 6 = .ok (.iconst 1, 1) := by decide +kernel
theorem dX7_takesBeard_7 : decode cX7_takesBeard 7 = .ok (.iaload, 1) := by decide +kernel
theorem dX7_takesBeard_8 : decode cX7_takesBeard 8 = .ok (.iconst 1, 1) := by decide +kernel
theorem dX7_takesBeard_9 : decode cX7_takesBeard 9 = .ok (.isub, 1) := by decide +kernel
theorem dX7_takesBeard_10 : decode cX7_takesBeard 10 = .ok (.invokevirtual 82, 3) := by decide +kernel
theorem dX7_takesBeard_13 : decode cX7_takesBeard 13 = .ok (.ifCond .ne 5, 3) := by decide +kernel
theorem dX7_takesBeard_16 : decode cX7_takesBeard 16 = .ok (.iconst 0, 1) := by decide +kernel
theorem dX7_takesBeard_17 : decode cX7_takesBeard 17 = .ok (.ireturn, 1) := by decide +kernel
theorem dX7_takesBeard_18 : decode cX7_takesBeard 18 = .ok (.aload_n 0, 1) := by decide +kernel
theorem dX7_takesBeard_19 : decode cX7_takesBeard 19 = .ok (.getfield 76, 3) := by decide +kernel
theorem dX7_takesBeard_22 : decode cX7_takesBeard 22 = .ok (.istore_n 1, 1) := by decide +kernel
theorem dX7_takesBeard_23 : decode cX7_takesBeard 23 = .ok (.aload_n 0, 1) := by decide +kernel
theorem dX7_takesBeard_24 : decode cX7_takesBeard 24 = .ok (.iconst 0, 1) := by decide +kernel
theorem dX7_takesBeard_25 : decode cX7_takesBeard 25 = .ok (.iconst 5, 1) := by decide +kernel
theorem dX7_takesBeard_26 : decode cX7_takesBeard 26 = .ok (.invokevirtual 82, 3) := by decide +kernel
theorem dX7_takesBeard_29 : decode cX7_takesBeard 29 = .ok (.ifCond .ne 5, 3) := by decide +kernel
theorem dX7_takesBeard_32 : decode cX7_takesBeard 32 = .ok (.iconst 0, 1) := by decide +kernel
theorem dX7_takesBeard_33 : decode cX7_takesBeard 33 = .ok (.ireturn, 1) := by decide +kernel
theorem dX7_takesBeard_34 : decode cX7_takesBeard 34 = .ok (.aload_n 0, 1) := by decide +kernel
theorem dX7_takesBeard_35 : decode cX7_takesBeard 35 = .ok (.getfield 76, 3) := by decide +kernel
theorem dX7_takesBeard_38 : decode cX7_takesBeard 38 = .ok (.istore_n 2, 1) := by decide +kernel
theorem dX7_takesBeard_39 : decode cX7_takesBeard 39 = .ok (.aload_n 0, 1) := by decide +kernel
theorem dX7_takesBeard_40 : decode cX7_takesBeard 40 = .ok (.iconst 0, 1) := by decide +kernel
theorem dX7_takesBeard_41 : decode cX7_takesBeard 41 = .ok (.bipush 9, 2) := by decide +kernel
theorem dX7_takesBeard_43 : decode cX7_takesBeard 43 = .ok (.invokevirtual 82, 3) := by decide +kernel
theorem dX7_takesBeard_46 : decode cX7_takesBeard 46 = .ok (.ifCond .ne 5, 3) := by decide +kernel
theorem dX7_takesBeard_49 : decode cX7_takesBeard 49 = .ok (.iconst 0, 1) := by decide +kernel
theorem dX7_takesBeard_50 : decode cX7_takesBeard 50 = .ok (.ireturn, 1) := by decide +kernel
theorem dX7_takesBeard_51 : decode cX7_takesBeard 51 = .ok (.aload_n 0, 1) := by decide +kernel
theorem dX7_takesBeard_52 : decode cX7_takesBeard 52 = .ok (.getfield 16, 3) := by decide +kernel
theorem dX7_takesBeard_55 : decode cX7_takesBeard 55 = .ok (.bipush 15, 2) := by decide +kernel
theorem dX7_takesBeard_57 : decode cX7_takesBeard 57 = .ok (.bipush 6, 2) := by decide +kernel
theorem dX7_takesBeard_59 : decode cX7_takesBeard 59 = .ok (.iload_n 1, 1) := by decide +kernel
theorem dX7_takesBeard_60 : decode cX7_takesBeard 60 = .ok (.imul, 1) := by decide +kernel
theorem dX7_takesBeard_61 : decode cX7_takesBeard 61 = .ok (.iadd, 1) := by decide +kernel
theorem dX7_takesBeard_62 : decode cX7_takesBeard 62 = .ok (.iload_n 2, 1) := by decide +kernel
theorem dX7_takesBeard_63 : decode cX7_takesBeard 63 = .ok (.iadd, 1) := by decide +kernel
theorem dX7_takesBeard_64 : decode cX7_takesBeard 64 = .ok (.aload_n 0, 1) := by decide +kernel
theorem dX7_takesBeard_65 : decode cX7_takesBeard 65 = .ok (.getfield 76, 3) := by decide +kernel
theorem dX7_takesBeard_68 : decode cX7_takesBeard 68 = .ok (.iastore, 1) := by decide +kernel
theorem dX7_takesBeard_69 : decode cX7_takesBeard 69 = .ok (.iconst 1, 1) := by decide +kernel
theorem dX7_takesBeard_70 : decode cX7_takesBeard 70 = .ok (.ireturn, 1) := by decide +kernel
theorem dX7_takesClause_0 : decode cX7_takesClause 0 = .ok (.aload_n 0, 1) := by decide +kernel
theorem dX7_takesClause_1 : decode cX7_takesClause 1 = .ok (.invokevirtual 86, 3) := by decide +kernel
theorem dX7_takesClause_4 : decode cX7_takesClause 4 = .ok (.aload_n 0, 1) := by decide +kernel
theorem dX7_takesClause_5 : decode cX7_takesClause 5 = .ok (.getfield 68, 3) := by decide +kernel
theorem dX7_takesClause_8 : decode cX7_takesClause 8 = .ok (.ldc2_w 89, 3) := by decide +kernel
theorem dX7_takesClause_11 : decode cX7_takesClause 11 = .ok (.lcmp, 1) := by decide +kernel
theorem dX7_takesClause_12 : decode cX7_takesClause 12 = .ok (.ifCond .ne 8, 3) := by decide +kernel
theorem dX7_takesClause_15 : decode cX7_takesClause 15 = .ok (.aload_n 0, 1) := by decide +kernel
theorem dX7_takesClause_16 : decode cX7_takesClause 16 = .ok (.invokevirtual 91, 3) := by decide +kernel
theorem dX7_takesClause_19 : decode cX7_takesClause 19 = .ok (.ireturn, 1) := by decide +kernel
theorem dX7_takesClause_20 : decode cX7_takesClause 20 = .ok (.aload_n 0, 1) := by decide +kernel
theorem dX7_takesClause_21 : decode cX7_takesClause 21 = .ok (.getfield 68, 3) := by decide +kernel
theorem dX7_takesClause_24 : decode cX7_takesClause 24 = .ok (.ldc2_w 95, 3) := by decide +kernel
theorem dX7_takesClause_27 : decode cX7_takesClause 27 = .ok (.lcmp, 1) := by decide +kernel
theorem dX7_takesClause_28 : decode cX7_takesClause 28 = .ok (.ifCond .ne 9, 3) := by decide +kernel
theorem dX7_takesClause_31 : decode cX7_takesClause 31 = .ok (.aload_n 0, 1) := by decide +kernel
theorem dX7_takesClause_32 : decode cX7_takesClause 32 = .ok (.iconst 0, 1) := by decide +kernel
theorem dX7_takesClause_33 : decode cX7_takesClause 33 = .ok (.invokevirtual 97, 3) := by decide +kernel
theorem dX7_takesClause_36 : decode cX7_takesClause 36 = .ok (.ireturn, 1) := by decide +kernel
theorem dX7_takesClause_37 : decode cX7_takesClause 37 = .ok (.aload_n 0, 1) := by decide +kernel
theorem dX7_takesClause_38 : decode cX7_takesClause 38 = .ok (.getfield 68, 3) := by decide +kernel
theorem dX7_takesClause_41 : decode cX7_takesClause 41 = .ok (.ldc2_w 100, 3) := by decide +kernel
theorem dX7_takesClause_44 : decode cX7_takesClause 44 = .ok (.lcmp, 1) := by decide +kernel
theorem dX7_takesClause_45 : decode cX7_takesClause 45 = .ok (.ifCond .ne 9, 3) := by decide +kernel
theorem dX7_takesClause_48 : decode cX7_takesClause 48 = .ok (.aload_n 0, 1) := by decide +kernel
theorem dX7_takesClause_49 : decode cX7_takesClause 49 = .ok (.iconst 1, 1) := by decide +kernel
theorem dX7_takesClause_50 : decode cX7_takesClause 50 = .ok (.invokevirtual 97, 3) := by decide +kernel
theorem dX7_takesClause_53 : decode cX7_takesClause 53 = .ok (.ireturn, 1) := by decide +kernel
theorem dX7_takesClause_54 : decode cX7_takesClause 54 = .ok (.aload_n 0, 1) := by decide +kernel
theorem dX7_takesClause_55 : decode cX7_takesClause 55 = .ok (.getfield 68, 3) := by decide +kernel
theorem dX7_takesClause_58 : decode cX7_takesClause 58 = .ok (.ldc2_w 102, 3) := by decide +kernel
theorem dX7_takesClause_61 : decode cX7_takesClause 61 = .ok (.lcmp, 1) := by decide +kernel
theorem dX7_takesClause_62 : decode cX7_takesClause 62 = .ok (.ifCond .ne 9, 3) := by decide +kernel
theorem dX7_takesClause_65 : decode cX7_takesClause 65 = .ok (.aload_n 0, 1) := by decide +kernel
theorem dX7_takesClause_66 : decode cX7_takesClause 66 = .ok (.iconst 2, 1) := by decide +kernel
theorem dX7_takesClause_67 : decode cX7_takesClause 67 = .ok (.invokevirtual 97, 3) := by decide +kernel
theorem dX7_takesClause_70 : decode cX7_takesClause 70 = .ok (.ireturn, 1) := by decide +kernel
theorem dX7_takesClause_71 : decode cX7_takesClause 71 = .ok (.aload_n 0, 1) := by decide +kernel
theorem dX7_takesClause_72 : decode cX7_takesClause 72 = .ok (.getfield 68, 3) := by decide +kernel
theorem dX7_takesClause_75 : decode cX7_takesClause 75 = .ok (.ldc2_w 104, 3) := by decide +kernel
theorem dX7_takesClause_78 : decode cX7_takesClause 78 = .ok (.lcmp, 1) := by decide +kernel
theorem dX7_takesClause_79 : decode cX7_takesClause 79 = .ok (.ifCond .ne 9, 3) := by decide +kernel
theorem dX7_takesClause_82 : decode cX7_takesClause 82 = .ok (.aload_n 0, 1) := by decide +kernel
theorem dX7_takesClause_83 : decode cX7_takesClause 83 = .ok (.iconst 3, 1) := by decide +kernel
theorem dX7_takesClause_84 : decode cX7_takesClause 84 = .ok (.invokevirtual 97, 3) := by decide +kernel
theorem dX7_takesClause_87 : decode cX7_takesClause 87 = .ok (.ireturn, 1) := by decide +kernel
theorem dX7_takesClause_88 : decode cX7_takesClause 88 = .ok (.aload_n 0, 1) := by decide +kernel
theorem dX7_takesClause_89 : decode cX7_takesClause 89 = .ok (.getfield 68, 3) := by decide +kernel
theorem dX7_takesClause_92 : decode cX7_takesClause 92 = .ok (.ldc2_w 106, 3) := by decide +kernel
theorem dX7_takesClause_95 : decode cX7_takesClause 95 = .ok (.lcmp, 1) := by decide +kernel
theorem dX7_takesClause_96 : decode cX7_takesClause 96 = .ok (.ifCond .ne 8, 3) := by decide +kernel
theorem dX7_takesClause_99 : decode cX7_takesClause 99 = .ok (.aload_n 0, 1) := by decide +kernel
theorem dX7_takesClause_100 : decode cX7_takesClause 100 = .ok (.invokevirtual 108, 3) := by decide +kernel
theorem dX7_takesClause_103 : decode cX7_takesClause 103 = .ok (.ireturn, 1) := by decide +kernel
theorem dX7_takesClause_104 : decode cX7_takesClause 104 = .ok (.aload_n 0, 1) := by decide +kernel
theorem dX7_takesClause_105 : decode cX7_takesClause 105 = .ok (.getfield 68, 3) := by decide +kernel
theorem dX7_takesClause_108 : decode cX7_takesClause 108 = .ok (.ldc2_w 111, 3) := by decide +kernel
theorem dX7_takesClause_111 : decode cX7_takesClause 111 = .ok (.lcmp, 1) := by decide +kernel
theorem dX7_takesClause_112 : decode cX7_takesClause 112 = .ok (.ifCond .ne 14, 3) := by decide +kernel
theorem dX7_takesClause_115 : decode cX7_takesClause 115 = .ok (.aload_n 0, 1) := by decide +kernel
theorem dX7_takesClause_116 : decode cX7_takesClause 116 = .ok (.invokevirtual 113, 3) := by decide +kernel
theorem dX7_takesClause_119 : decode cX7_takesClause 119 = .ok (.ifCond .eq 7, 3) := by decide +kernel
theorem dX7_takesClause_122 : decode cX7_takesClause 122 = .ok (.iconst 1, 1) := by decide +kernel
theorem dX7_takesClause_123 : decode cX7_takesClause 123 = .ok (.goto 4, 3) := by decide +kernel
theorem dX7_takesClause_126 : decode cX7_takesClause 126 = .ok (.iconst 0, 1) := by decide +kernel
theorem dX7_takesClause_127 : decode cX7_takesClause 127 = .ok (.ireturn, 1) := by decide +kernel
theorem dX7_reads_0 : decode cX7_reads 0 = .ok (.iconst 0, 1) := by decide +kernel
theorem dX7_reads_1 : decode cX7_reads 1 = .ok (.istore_n 1, 1) := by decide +kernel
theorem dX7_reads_2 : decode cX7_reads 2 = .ok (.iload_n 1, 1) := by decide +kernel
theorem dX7_reads_3 : decode cX7_reads 3 = .ok (.bipush 59, 2) := by decide +kernel
theorem dX7_reads_5 : decode cX7_reads 5 = .ok (.if_icmp .ge 21, 3) := by decide +kernel
theorem dX7_reads_8 : decode cX7_reads 8 = .ok (.aload_n 0, 1) := by decide +kernel
theorem dX7_reads_9 : decode cX7_reads 9 = .ok (.getfield 16, 3) := by decide +kernel
theorem dX7_reads_12 : decode cX7_reads 12 = .ok (.iload_n 1, 1) := by decide +kernel
theorem dX7_reads_13 : decode cX7_reads 13 = .ok (.aload_n 0, 1) := by decide +kernel
theorem dX7_reads_14 : decode cX7_reads 14 = .ok (.getfield 13, 3) := by decide +kernel
theorem dX7_reads_17 : decode cX7_reads 17 = .ok (.iload_n 1, 1) := by decide +kernel
theorem dX7_reads_18 : decode cX7_reads 18 = .ok (.iaload, 1) := by decide +kernel
theorem dX7_reads_19 : decode cX7_reads 19 = .ok (.iastore, 1) := by decide +kernel
theorem dX7_reads_20 : decode cX7_reads 20 = .ok (.iinc 1 1, 3) := by decide +kernel
theorem dX7_reads_23 : decode cX7_reads 23 = .ok (.goto (-21), 3) := by decide +kernel
theorem dX7_reads_26 : decode cX7_reads 26 = .ok (.aload_n 0, 1) := by decide +kernel
theorem dX7_reads_27 : decode cX7_reads 27 = .ok (.iconst 0, 1) := by decide +kernel
theorem dX7_reads_28 : decode cX7_reads 28 = .ok (.putfield 59, 3) := by decide +kernel
theorem dX7_reads_31 : decode cX7_reads 31 = .ok (.aload_n 0, 1) := by decide +kernel
theorem dX7_reads_32 : decode cX7_reads 32 = .ok (.iconst 0, 1) := by decide +kernel
theorem dX7_reads_33 : decode cX7_reads 33 = .ok (.putfield 116, 3) := by decide +kernel
theorem dX7_reads_36 : decode cX7_reads 36 = .ok (.aload_n 0, 1) := by decide +kernel
theorem dX7_reads_37 : decode cX7_reads 37 = .ok (.invokevirtual 119, 3) := by decide +kernel
theorem dX7_reads_40 : decode cX7_reads 40 = .ok (.ifCond .ne 8, 3) := by decide +kernel
theorem dX7_reads_43 : decode cX7_reads 43 = .ok (.aload_n 0, 1) := by decide +kernel
theorem dX7_reads_44 : decode cX7_reads 44 = .ok (.getfield 62, 3) := by decide +kernel
theorem dX7_reads_47 : decode cX7_reads 47 = .ok (.ireturn, 1) := by decide +kernel
theorem dX7_reads_48 : decode cX7_reads 48 = .ok (.aload_n 0, 1) := by decide +kernel
theorem dX7_reads_49 : decode cX7_reads 49 = .ok (.dup, 1) := by decide +kernel
theorem dX7_reads_50 : decode cX7_reads 50 = .ok (.getfield 116, 3) := by decide +kernel
theorem dX7_reads_53 : decode cX7_reads 53 = .ok (.iconst 1, 1) := by decide +kernel
theorem dX7_reads_54 : decode cX7_reads 54 = .ok (.iadd, 1) := by decide +kernel
theorem dX7_reads_55 : decode cX7_reads 55 = .ok (.putfield 116, 3) := by decide +kernel
theorem dX7_reads_58 : decode cX7_reads 58 = .ok (.aload_n 0, 1) := by decide +kernel
theorem dX7_reads_59 : decode cX7_reads 59 = .ok (.invokevirtual 65, 3) := by decide +kernel
theorem dX7_reads_62 : decode cX7_reads 62 = .ok (.aload_n 0, 1) := by decide +kernel
theorem dX7_reads_63 : decode cX7_reads 63 = .ok (.getfield 59, 3) := by decide +kernel
theorem dX7_reads_66 : decode cX7_reads 66 = .ok (.aload_n 0, 1) := by decide +kernel
theorem dX7_reads_67 : decode cX7_reads 67 = .ok (.getfield 43, 3) := by decide +kernel
theorem dX7_reads_70 : decode cX7_reads 70 = .ok (.if_icmp .ne 5, 3) := by decide +kernel
theorem dX7_reads_73 : decode cX7_reads 73 = .ok (.iconst (-1), 1) := by decide +kernel
theorem dX7_reads_74 : decode cX7_reads 74 = .ok (.ireturn, 1) := by decide +kernel
theorem dX7_reads_75 : decode cX7_reads 75 = .ok (.aload_n 0, 1) := by decide +kernel
theorem dX7_reads_76 : decode cX7_reads 76 = .ok (.aload_n 0, 1) := by decide +kernel
theorem dX7_reads_77 : decode cX7_reads 77 = .ok (.getfield 59, 3) := by decide +kernel
theorem dX7_reads_80 : decode cX7_reads 80 = .ok (.invokevirtual 47, 3) := by decide +kernel
theorem dX7_reads_83 : decode cX7_reads 83 = .ok (.bipush 59, 2) := by decide +kernel
theorem dX7_reads_85 : decode cX7_reads 85 = .ok (.if_icmp .ne 12, 3) := by decide +kernel
theorem dX7_reads_88 : decode cX7_reads 88 = .ok (.aload_n 0, 1) := by decide +kernel
theorem dX7_reads_89 : decode cX7_reads 89 = .ok (.getfield 116, 3) := by decide +kernel
theorem dX7_reads_92 : decode cX7_reads 92 = .ok (.bipush 14, 2) := by decide +kernel
theorem dX7_reads_94 : decode cX7_reads 94 = .ok (.if_icmp .ne 8, 3) := by decide +kernel
theorem dX7_reads_97 : decode cX7_reads 97 = .ok (.aload_n 0, 1) := by decide +kernel
theorem dX7_reads_98 : decode cX7_reads 98 = .ok (.getfield 62, 3) := by decide +kernel
theorem dX7_reads_101 : decode cX7_reads 101 = .ok (.ireturn, 1) := by decide +kernel
theorem dX7_reads_102 : decode cX7_reads 102 = .ok (.aload_n 0, 1) := by decide +kernel
theorem dX7_reads_103 : decode cX7_reads 103 = .ok (.dup, 1) := by decide +kernel
theorem dX7_reads_104 : decode cX7_reads 104 = .ok (.getfield 59, 3) := by decide +kernel
theorem dX7_reads_107 : decode cX7_reads 107 = .ok (.iconst 1, 1) := by decide +kernel
theorem dX7_reads_108 : decode cX7_reads 108 = .ok (.iadd, 1) := by decide +kernel
theorem dX7_reads_109 : decode cX7_reads 109 = .ok (.putfield 59, 3) := by decide +kernel
theorem dX7_reads_112 : decode cX7_reads 112 = .ok (.goto (-76), 3) := by decide +kernel
theorem dX7_fault_0 : decode cX7_fault 0 = .ok (.aload_n 0, 1) := by decide +kernel
theorem dX7_fault_1 : decode cX7_fault 1 = .ok (.invokevirtual 122, 3) := by decide +kernel
theorem dX7_fault_4 : decode cX7_fault 4 = .ok (.ireturn, 1) := by decide +kernel
theorem dX7_town_0 : decode cX7_town 0 = .ok (.aload_n 0, 1) := by decide +kernel
theorem dX7_town_1 : decode cX7_town 1 = .ok (.invokevirtual 122, 3) := by decide +kernel
theorem dX7_town_4 : decode cX7_town 4 = .ok (.iconst (-1), 1) := by decide +kernel
theorem dX7_town_5 : decode cX7_town 5 = .ok (.if_icmp .eq 6, 3) := by decide +kernel
theorem dX7_town_8 : decode cX7_town 8 = .ok (.bipush (-4), 2) := by decide +kernel
theorem dX7_town_10 : decode cX7_town 10 = .ok (.ireturn, 1) := by decide +kernel
theorem dX7_town_11 : decode cX7_town 11 = .ok (.aload_n 0, 1) := by decide +kernel
theorem dX7_town_12 : decode cX7_town 12 = .ok (.iconst 0, 1) := by decide +kernel
theorem dX7_town_13 : decode cX7_town 13 = .ok (.putfield 43, 3) := by decide +kernel
theorem dX7_town_16 : decode cX7_town 16 = .ok (.iconst 0, 1) := by decide +kernel
theorem dX7_town_17 : decode cX7_town 17 = .ok (.istore_n 1, 1) := by decide +kernel
theorem dX7_town_18 : decode cX7_town 18 = .ok (.iload_n 1, 1) := by decide +kernel
theorem dX7_town_19 : decode cX7_town 19 = .ok (.bipush 59, 2) := by decide +kernel
theorem dX7_town_21 : decode cX7_town 21 = .ok (.if_icmp .ge 21, 3) := by decide +kernel
theorem dX7_town_24 : decode cX7_town 24 = .ok (.aload_n 0, 1) := by decide +kernel
theorem dX7_town_25 : decode cX7_town 25 = .ok (.getfield 13, 3) := by decide +kernel
theorem dX7_town_28 : decode cX7_town 28 = .ok (.iload_n 1, 1) := by decide +kernel
theorem dX7_town_29 : decode cX7_town 29 = .ok (.aload_n 0, 1) := by decide +kernel
theorem dX7_town_30 : decode cX7_town 30 = .ok (.getfield 16, 3) := by decide +kernel
theorem dX7_town_33 : decode cX7_town 33 = .ok (.iload_n 1, 1) := by decide +kernel
theorem dX7_town_34 : decode cX7_town 34 = .ok (.iaload, 1) := by decide +kernel
theorem dX7_town_35 : decode cX7_town 35 = .ok (.iastore, 1) := by decide +kernel
theorem dX7_town_36 : decode cX7_town 36 = .ok (.iinc 1 1, 3) := by decide +kernel
theorem dX7_town_39 : decode cX7_town 39 = .ok (.goto (-21), 3) := by decide +kernel
theorem dX7_town_42 : decode cX7_town 42 = .ok (.iconst 0, 1) := by decide +kernel
theorem dX7_town_43 : decode cX7_town 43 = .ok (.istore_n 1, 1) := by decide +kernel
theorem dX7_town_44 : decode cX7_town 44 = .ok (.iload_n 1, 1) := by decide +kernel
theorem dX7_town_45 : decode cX7_town 45 = .ok (.bipush 85, 2) := by decide +kernel
theorem dX7_town_47 : decode cX7_town 47 = .ok (.if_icmp .ge 16, 3) := by decide +kernel
theorem dX7_town_50 : decode cX7_town 50 = .ok (.aload_n 0, 1) := by decide +kernel
theorem dX7_town_51 : decode cX7_town 51 = .ok (.getfield 7, 3) := by decide +kernel
theorem dX7_town_54 : decode cX7_town 54 = .ok (.iload_n 1, 1) := by decide +kernel
theorem dX7_town_55 : decode cX7_town 55 = .ok (.iconst 0, 1) := by decide +kernel
theorem dX7_town_56 : decode cX7_town 56 = .ok (.iastore, 1) := by decide +kernel
theorem dX7_town_57 : decode cX7_town 57 = .ok (.iinc 1 1, 3) := by decide +kernel
theorem dX7_town_60 : decode cX7_town 60 = .ok (.goto (-16), 3) := by decide +kernel
theorem dX7_town_63 : decode cX7_town 63 = .ok (.iconst 0, 1) := by decide +kernel
theorem dX7_town_64 : decode cX7_town 64 = .ok (.istore_n 1, 1) := by decide +kernel
theorem dX7_town_65 : decode cX7_town 65 = .ok (.iload_n 1, 1) := by decide +kernel
theorem dX7_town_66 : decode cX7_town 66 = .ok (.bipush 36, 2) := by decide +kernel
theorem dX7_town_68 : decode cX7_town 68 = .ok (.if_icmp .ge 26, 3) := by decide +kernel
theorem dX7_town_71 : decode cX7_town 71 = .ok (.aload_n 0, 1) := by decide +kernel
theorem dX7_town_72 : decode cX7_town 72 = .ok (.getfield 7, 3) := by decide +kernel
theorem dX7_town_75 : decode cX7_town 75 = .ok (.iconst 1, 1) := by decide +kernel
theorem dX7_town_76 : decode cX7_town 76 = .ok (.iload_n 1, 1) := by decide +kernel
theorem dX7_town_77 : decode cX7_town 77 = .ok (.iadd, 1) := by decide +kernel
theorem dX7_town_78 : decode cX7_town 78 = .ok (.aload_n 0, 1) := by decide +kernel
theorem dX7_town_79 : decode cX7_town 79 = .ok (.getfield 13, 3) := by decide +kernel
theorem dX7_town_82 : decode cX7_town 82 = .ok (.bipush 15, 2) := by decide +kernel
theorem dX7_town_84 : decode cX7_town 84 = .ok (.iload_n 1, 1) := by decide +kernel
theorem dX7_town_85 : decode cX7_town 85 = .ok (.iadd, 1) := by decide +kernel
theorem dX7_town_86 : decode cX7_town 86 = .ok (.iaload, 1) := by decide +kernel
theorem dX7_town_87 : decode cX7_town 87 = .ok (.iastore, 1) := by decide +kernel
theorem dX7_town_88 : decode cX7_town 88 = .ok (.iinc 1 1, 3) := by decide +kernel
theorem dX7_town_91 : decode cX7_town 91 = .ok (.goto (-26), 3) := by decide +kernel
theorem dX7_town_94 : decode cX7_town 94 = .ok (.aload_n 0, 1) := by decide +kernel
theorem dX7_town_95 : decode cX7_town 95 = .ok (.iconst 0, 1) := by decide +kernel
theorem dX7_town_96 : decode cX7_town 96 = .ok (.putfield 126, 3) := by decide +kernel
theorem dX7_town_99 : decode cX7_town 99 = .ok (.aload_n 0, 1) := by decide +kernel
theorem dX7_town_100 : decode cX7_town 100 = .ok (.iconst 0, 1) := by decide +kernel
theorem dX7_town_101 : decode cX7_town 101 = .ok (.putfield 129, 3) := by decide +kernel
theorem dX7_town_104 : decode cX7_town 104 = .ok (.aload_n 0, 1) := by decide +kernel
theorem dX7_town_105 : decode cX7_town 105 = .ok (.getfield 19, 3) := by decide +kernel
theorem dX7_town_108 : decode cX7_town 108 = .ok (.iconst 0, 1) := by decide +kernel
theorem dX7_town_109 : decode cX7_town 109 = .ok (.iconst 0, 1) := by decide +kernel
theorem dX7_town_110 : decode cX7_town 110 = .ok (.bastore, 1) := by decide +kernel
theorem dX7_town_111 : decode cX7_town 111 = .ok (.aload_n 0, 1) := by decide +kernel
theorem dX7_town_112 : decode cX7_town 112 = .ok (.getfield 19, 3) := by decide +kernel
theorem dX7_town_115 : decode cX7_town 115 = .ok (.iconst 1, 1) := by decide +kernel
theorem dX7_town_116 : decode cX7_town 116 = .ok (.iconst 0, 1) := by decide +kernel
theorem dX7_town_117 : decode cX7_town 117 = .ok (.bastore, 1) := by decide +kernel
theorem dX7_town_118 : decode cX7_town 118 = .ok (.aload_n 0, 1) := by decide +kernel
theorem dX7_town_119 : decode cX7_town 119 = .ok (.getfield 116, 3) := by decide +kernel
theorem dX7_town_122 : decode cX7_town 122 = .ok (.ireturn, 1) := by decide +kernel
theorem dX7_tells_0 : decode cX7_tells 0 = .ok (.aload_n 0, 1) := by decide +kernel
theorem dX7_tells_1 : decode cX7_tells 1 = .ok (.getfield 13, 3) := by decide +kernel
theorem dX7_tells_4 : decode cX7_tells 4 = .ok (.bipush 9, 2) := by decide +kernel
theorem dX7_tells_6 : decode cX7_tells 6 = .ok (.iload_n 1, 1) := by decide +kernel
theorem dX7_tells_7 : decode cX7_tells 7 = .ok (.iadd, 1) := by decide +kernel
theorem dX7_tells_8 : decode cX7_tells 8 = .ok (.iaload, 1) := by decide +kernel
theorem dX7_tells_9 : decode cX7_tells 9 = .ok (.iload_n 2, 1) := by decide +kernel
theorem dX7_tells_10 : decode cX7_tells 10 = .ok (.ishr, 1) := by decide +kernel
theorem dX7_tells_11 : decode cX7_tells 11 = .ok (.iconst 1, 1) := by decide +kernel
theorem dX7_tells_12 : decode cX7_tells 12 = .ok (.iand, 1) := by decide +kernel
theorem dX7_tells_13 : decode cX7_tells 13 = .ok (.istore 4, 2) := by decide +kernel
theorem dX7_tells_15 : decode cX7_tells 15 = .ok (.aload_n 0, 1) := by decide +kernel
theorem dX7_tells_16 : decode cX7_tells 16 = .ok (.getfield 13, 3) := by decide +kernel
theorem dX7_tells_19 : decode cX7_tells 19 = .ok (.iconst 3, 1) := by decide +kernel
theorem dX7_tells_20 : decode cX7_tells 20 = .ok (.iload_n 1, 1) := by decide +kernel
theorem dX7_tells_21 : decode cX7_tells 21 = .ok (.iadd, 1) := by decide +kernel
theorem dX7_tells_22 : decode cX7_tells 22 = .ok (.iaload, 1) := by decide +kernel
theorem dX7_tells_23 : decode cX7_tells 23 = .ok (.tableswitch 64 1 3 #[25, 37, 49], 25) := by decide +kernel
theorem dX7_tells_48 : decode cX7_tells 48 = .ok (.iload_n 3, 1) := by decide +kernel
theorem dX7_tells_49 : decode cX7_tells 49 = .ok (.iconst 3, 1) := by decide +kernel
theorem dX7_tells_50 : decode cX7_tells 50 = .ok (.if_icmp .ge 7, 3) := by decide +kernel
theorem dX7_tells_53 : decode cX7_tells 53 = .ok (.iconst (-1), 1) := by decide +kernel
theorem dX7_tells_54 : decode cX7_tells 54 = .ok (.goto 5, 3) := by decide +kernel
theorem dX7_tells_57 : decode cX7_tells 57 = .ok (.iload 4, 2) := by decide +kernel
theorem dX7_tells_59 : decode cX7_tells 59 = .ok (.ireturn, 1) := by decide +kernel
theorem dX7_tells_60 : decode cX7_tells 60 = .ok (.iload_n 2, 1) := by decide +kernel
theorem dX7_tells_61 : decode cX7_tells 61 = .ok (.iconst 2, 1) := by decide +kernel
theorem dX7_tells_62 : decode cX7_tells 62 = .ok (.if_icmp .ne 7, 3) := by decide +kernel
theorem dX7_tells_65 : decode cX7_tells 65 = .ok (.iconst (-1), 1) := by decide +kernel
theorem dX7_tells_66 : decode cX7_tells 66 = .ok (.goto 5, 3) := by decide +kernel
theorem dX7_tells_69 : decode cX7_tells 69 = .ok (.iload 4, 2) := by decide +kernel
theorem dX7_tells_71 : decode cX7_tells 71 = .ok (.ireturn, 1) := by decide +kernel
theorem dX7_tells_72 : decode cX7_tells 72 = .ok (.iload_n 3, 1) := by decide +kernel
theorem dX7_tells_73 : decode cX7_tells 73 = .ok (.iconst 5, 1) := by decide +kernel
theorem dX7_tells_74 : decode cX7_tells 74 = .ok (.if_icmp .ge 8, 3) := by decide +kernel
theorem dX7_tells_77 : decode cX7_tells 77 = .ok (.iload 4, 2) := by decide +kernel
theorem dX7_tells_79 : decode cX7_tells 79 = .ok (.goto 7, 3) := by decide +kernel
theorem dX7_tells_82 : decode cX7_tells 82 = .ok (.iconst 1, 1) := by decide +kernel
theorem dX7_tells_83 : decode cX7_tells 83 = .ok (.iload 4, 2) := by decide +kernel
theorem dX7_tells_85 : decode cX7_tells 85 = .ok (.isub, 1) := by decide +kernel
theorem dX7_tells_86 : decode cX7_tells 86 = .ok (.ireturn, 1) := by decide +kernel
theorem dX7_tells_87 : decode cX7_tells 87 = .ok (.iload 4, 2) := by decide +kernel
theorem dX7_tells_89 : decode cX7_tells 89 = .ok (.ireturn, 1) := by decide +kernel
theorem dX7_knowsPart_0 : decode cX7_knowsPart 0 = .ok (.bipush 6, 2) := by decide +kernel
theorem dX7_knowsPart_2 : decode cX7_knowsPart 2 = .ok (.iload_n 2, 1) := by decide +kernel
theorem dX7_knowsPart_3 : decode cX7_knowsPart 3 = .ok (.imul, 1) := by decide +kernel
theorem dX7_knowsPart_4 : decode cX7_knowsPart 4 = .ok (.iload_n 3, 1) := by decide +kernel
theorem dX7_knowsPart_5 : decode cX7_knowsPart 5 = .ok (.iadd, 1) := by decide +kernel
theorem dX7_knowsPart_6 : decode cX7_knowsPart 6 = .ok (.istore 6, 2) := by decide +kernel
theorem dX7_knowsPart_8 : decode cX7_knowsPart 8 = .ok (.aload_n 0, 1) := by decide +kernel
theorem dX7_knowsPart_9 : decode cX7_knowsPart 9 = .ok (.getfield 7, 3) := by decide +kernel
theorem dX7_knowsPart_12 : decode cX7_knowsPart 12 = .ok (.iload_n 1, 1) := by decide +kernel
theorem dX7_knowsPart_13 : decode cX7_knowsPart 13 = .ok (.bipush 37, 2) := by decide +kernel
theorem dX7_knowsPart_15 : decode cX7_knowsPart 15 = .ok (.iadd, 1) := by decide +kernel
theorem dX7_knowsPart_16 : decode cX7_knowsPart 16 = .ok (.iload 6, 2) := by decide +kernel
theorem dX7_knowsPart_18 : decode cX7_knowsPart 18 = .ok (.iadd, 1) := by decide +kernel
theorem dX7_knowsPart_19 : decode cX7_knowsPart 19 = .ok (.dup2, 1) := by decide +kernel
theorem dX7_knowsPart_20 : decode cX7_knowsPart 20 = .ok (.iaload, 1) := by decide +kernel
theorem dX7_knowsPart_21 : decode cX7_knowsPart 21 = .ok (.iconst 1, 1) := by decide +kernel
theorem dX7_knowsPart_22 : decode cX7_knowsPart 22 = .ok (.iload 4, 2) := by decide +kernel
theorem dX7_knowsPart_24 : decode cX7_knowsPart 24 = .ok (.ishl, 1) := by decide +kernel
theorem dX7_knowsPart_25 : decode cX7_knowsPart 25 = .ok (.ior, 1) := by decide +kernel
theorem dX7_knowsPart_26 : decode cX7_knowsPart 26 = .ok (.iastore, 1) := by decide +kernel
theorem dX7_knowsPart_27 : decode cX7_knowsPart 27 = .ok (.aload_n 0, 1) := by decide +kernel
theorem dX7_knowsPart_28 : decode cX7_knowsPart 28 = .ok (.getfield 7, 3) := by decide +kernel
theorem dX7_knowsPart_31 : decode cX7_knowsPart 31 = .ok (.iload_n 1, 1) := by decide +kernel
theorem dX7_knowsPart_32 : decode cX7_knowsPart 32 = .ok (.bipush 61, 2) := by decide +kernel
theorem dX7_knowsPart_34 : decode cX7_knowsPart 34 = .ok (.iadd, 1) := by decide +kernel
theorem dX7_knowsPart_35 : decode cX7_knowsPart 35 = .ok (.iload 6, 2) := by decide +kernel
theorem dX7_knowsPart_37 : decode cX7_knowsPart 37 = .ok (.iadd, 1) := by decide +kernel
theorem dX7_knowsPart_38 : decode cX7_knowsPart 38 = .ok (.iload 5, 2) := by decide +kernel
theorem dX7_knowsPart_40 : decode cX7_knowsPart 40 = .ok (.iconst 1, 1) := by decide +kernel
theorem dX7_knowsPart_41 : decode cX7_knowsPart 41 = .ok (.if_icmp .ne 23, 3) := by decide +kernel
theorem dX7_knowsPart_44 : decode cX7_knowsPart 44 = .ok (.aload_n 0, 1) := by decide +kernel
theorem dX7_knowsPart_45 : decode cX7_knowsPart 45 = .ok (.getfield 7, 3) := by decide +kernel
theorem dX7_knowsPart_48 : decode cX7_knowsPart 48 = .ok (.iload_n 1, 1) := by decide +kernel
theorem dX7_knowsPart_49 : decode cX7_knowsPart 49 = .ok (.bipush 61, 2) := by decide +kernel
theorem dX7_knowsPart_51 : decode cX7_knowsPart 51 = .ok (.iadd, 1) := by decide +kernel
theorem dX7_knowsPart_52 : decode cX7_knowsPart 52 = .ok (.iload 6, 2) := by decide +kernel
theorem dX7_knowsPart_54 : decode cX7_knowsPart 54 = .ok (.iadd, 1) := by decide +kernel
theorem dX7_knowsPart_55 : decode cX7_knowsPart 55 = .ok (.iaload, 1) := by decide +kernel
theorem dX7_knowsPart_56 : decode cX7_knowsPart 56 = .ok (.iconst 1, 1) := by decide +kernel
theorem dX7_knowsPart_57 : decode cX7_knowsPart 57 = .ok (.iload 4, 2) := by decide +kernel
theorem dX7_knowsPart_59 : decode cX7_knowsPart 59 = .ok (.ishl, 1) := by decide +kernel
theorem dX7_knowsPart_60 : decode cX7_knowsPart 60 = .ok (.ior, 1) := by decide +kernel
theorem dX7_knowsPart_61 : decode cX7_knowsPart 61 = .ok (.goto 22, 3) := by decide +kernel
theorem dX7_knowsPart_64 : decode cX7_knowsPart 64 = .ok (.aload_n 0, 1) := by decide +kernel
theorem dX7_knowsPart_65 : decode cX7_knowsPart 65 = .ok (.getfield 7, 3) := by decide +kernel
theorem dX7_knowsPart_68 : decode cX7_knowsPart 68 = .ok (.iload_n 1, 1) := by decide +kernel
theorem dX7_knowsPart_69 : decode cX7_knowsPart 69 = .ok (.bipush 61, 2) := by decide +kernel
theorem dX7_knowsPart_71 : decode cX7_knowsPart 71 = .ok (.iadd, 1) := by decide +kernel
theorem dX7_knowsPart_72 : decode cX7_knowsPart 72 = .ok (.iload 6, 2) := by decide +kernel
theorem dX7_knowsPart_74 : decode cX7_knowsPart 74 = .ok (.iadd, 1) := by decide +kernel
theorem dX7_knowsPart_75 : decode cX7_knowsPart 75 = .ok (.iaload, 1) := by decide +kernel
theorem dX7_knowsPart_76 : decode cX7_knowsPart 76 = .ok (.iconst 1, 1) := by decide +kernel
theorem dX7_knowsPart_77 : decode cX7_knowsPart 77 = .ok (.iload 4, 2) := by decide +kernel
theorem dX7_knowsPart_79 : decode cX7_knowsPart 79 = .ok (.ishl, 1) := by decide +kernel
theorem dX7_knowsPart_80 : decode cX7_knowsPart 80 = .ok (.iconst (-1), 1) := by decide +kernel
theorem dX7_knowsPart_81 : decode cX7_knowsPart 81 = .ok (.ixor, 1) := by decide +kernel
theorem dX7_knowsPart_82 : decode cX7_knowsPart 82 = .ok (.iand, 1) := by decide +kernel
theorem dX7_knowsPart_83 : decode cX7_knowsPart 83 = .ok (.iastore, 1) := by decide +kernel
theorem dX7_knowsPart_84 : decode cX7_knowsPart 84 = .ok (.return_, 1) := by decide +kernel
theorem dX7_shaves_0 : decode cX7_shaves 0 = .ok (.aload_n 0, 1) := by decide +kernel
theorem dX7_shaves_1 : decode cX7_shaves 1 = .ok (.iload_n 3, 1) := by decide +kernel
theorem dX7_shaves_2 : decode cX7_shaves 2 = .ok (.iload 4, 2) := by decide +kernel
theorem dX7_shaves_4 : decode cX7_shaves 4 = .ok (.aload_n 0, 1) := by decide +kernel
theorem dX7_shaves_5 : decode cX7_shaves 5 = .ok (.getfield 7, 3) := by decide +kernel
theorem dX7_shaves_8 : decode cX7_shaves 8 = .ok (.iload_n 1, 1) := by decide +kernel
theorem dX7_shaves_9 : decode cX7_shaves 9 = .ok (.iconst 1, 1) := by decide +kernel
theorem dX7_shaves_10 : decode cX7_shaves 10 = .ok (.iadd, 1) := by decide +kernel
theorem dX7_shaves_11 : decode cX7_shaves 11 = .ok (.bipush 6, 2) := by decide +kernel
theorem dX7_shaves_13 : decode cX7_shaves 13 = .ok (.iload_n 3, 1) := by decide +kernel
theorem dX7_shaves_14 : decode cX7_shaves 14 = .ok (.imul, 1) := by decide +kernel
theorem dX7_shaves_15 : decode cX7_shaves 15 = .ok (.iadd, 1) := by decide +kernel
theorem dX7_shaves_16 : decode cX7_shaves 16 = .ok (.iload 4, 2) := by decide +kernel
theorem dX7_shaves_18 : decode cX7_shaves 18 = .ok (.iadd, 1) := by decide +kernel
theorem dX7_shaves_19 : decode cX7_shaves 19 = .ok (.iaload, 1) := by decide +kernel
theorem dX7_shaves_20 : decode cX7_shaves 20 = .ok (.invokevirtual 132, 3) := by decide +kernel
theorem dX7_shaves_23 : decode cX7_shaves 23 = .ok (.istore 5, 2) := by decide +kernel
theorem dX7_shaves_25 : decode cX7_shaves 25 = .ok (.iload 5, 2) := by decide +kernel
theorem dX7_shaves_27 : decode cX7_shaves 27 = .ok (.iconst (-1), 1) := by decide +kernel
theorem dX7_shaves_28 : decode cX7_shaves 28 = .ok (.if_icmp .eq 14, 3) := by decide +kernel
theorem dX7_shaves_31 : decode cX7_shaves 31 = .ok (.aload_n 0, 1) := by decide +kernel
theorem dX7_shaves_32 : decode cX7_shaves 32 = .ok (.iload_n 1, 1) := by decide +kernel
theorem dX7_shaves_33 : decode cX7_shaves 33 = .ok (.iload_n 2, 1) := by decide +kernel
theorem dX7_shaves_34 : decode cX7_shaves 34 = .ok (.iload_n 3, 1) := by decide +kernel
theorem dX7_shaves_35 : decode cX7_shaves 35 = .ok (.iload 4, 2) := by decide +kernel
theorem dX7_shaves_37 : decode cX7_shaves 37 = .ok (.iload 5, 2) := by decide +kernel
theorem dX7_shaves_39 : decode cX7_shaves 39 = .ok (.invokevirtual 136, 3) := by decide +kernel
theorem dX7_shaves_42 : decode cX7_shaves 42 = .ok (.aload_n 0, 1) := by decide +kernel
theorem dX7_shaves_43 : decode cX7_shaves 43 = .ok (.getfield 7, 3) := by decide +kernel
theorem dX7_shaves_46 : decode cX7_shaves 46 = .ok (.iload_n 1, 1) := by decide +kernel
theorem dX7_shaves_47 : decode cX7_shaves 47 = .ok (.iconst 1, 1) := by decide +kernel
theorem dX7_shaves_48 : decode cX7_shaves 48 = .ok (.iadd, 1) := by decide +kernel
theorem dX7_shaves_49 : decode cX7_shaves 49 = .ok (.bipush 6, 2) := by decide +kernel
theorem dX7_shaves_51 : decode cX7_shaves 51 = .ok (.iload_n 3, 1) := by decide +kernel
theorem dX7_shaves_52 : decode cX7_shaves 52 = .ok (.imul, 1) := by decide +kernel
theorem dX7_shaves_53 : decode cX7_shaves 53 = .ok (.iadd, 1) := by decide +kernel
theorem dX7_shaves_54 : decode cX7_shaves 54 = .ok (.iload 4, 2) := by decide +kernel
theorem dX7_shaves_56 : decode cX7_shaves 56 = .ok (.iadd, 1) := by decide +kernel
theorem dX7_shaves_57 : decode cX7_shaves 57 = .ok (.iconst 0, 1) := by decide +kernel
theorem dX7_shaves_58 : decode cX7_shaves 58 = .ok (.iastore, 1) := by decide +kernel
theorem dX7_shaves_59 : decode cX7_shaves 59 = .ok (.iload 5, 2) := by decide +kernel
theorem dX7_shaves_61 : decode cX7_shaves 61 = .ok (.ireturn, 1) := by decide +kernel
theorem dX7_fitsBy_0 : decode cX7_fitsBy 0 = .ok (.iconst 0, 1) := by decide +kernel
theorem dX7_fitsBy_1 : decode cX7_fitsBy 1 = .ok (.istore_n 3, 1) := by decide +kernel
theorem dX7_fitsBy_2 : decode cX7_fitsBy 2 = .ok (.iconst 0, 1) := by decide +kernel
theorem dX7_fitsBy_3 : decode cX7_fitsBy 3 = .ok (.istore 4, 2) := by decide +kernel
theorem dX7_fitsBy_5 : decode cX7_fitsBy 5 = .ok (.iload 4, 2) := by decide +kernel
theorem dX7_fitsBy_7 : decode cX7_fitsBy 7 = .ok (.aload_n 0, 1) := by decide +kernel
theorem dX7_fitsBy_8 : decode cX7_fitsBy 8 = .ok (.getfield 13, 3) := by decide +kernel
theorem dX7_fitsBy_11 : decode cX7_fitsBy 11 = .ok (.iconst 2, 1) := by decide +kernel
theorem dX7_fitsBy_12 : decode cX7_fitsBy 12 = .ok (.iaload, 1) := by decide +kernel
theorem dX7_fitsBy_13 : decode cX7_fitsBy 13 = .ok (.if_icmp .ge 36, 3) := by decide +kernel
theorem dX7_fitsBy_16 : decode cX7_fitsBy 16 = .ok (.iload_n 3, 1) := by decide +kernel
theorem dX7_fitsBy_17 : decode cX7_fitsBy 17 = .ok (.aload_n 0, 1) := by decide +kernel
theorem dX7_fitsBy_18 : decode cX7_fitsBy 18 = .ok (.getfield 13, 3) := by decide +kernel
theorem dX7_fitsBy_21 : decode cX7_fitsBy 21 = .ok (.bipush 51, 2) := by decide +kernel
theorem dX7_fitsBy_23 : decode cX7_fitsBy 23 = .ok (.iload 4, 2) := by decide +kernel
theorem dX7_fitsBy_25 : decode cX7_fitsBy 25 = .ok (.iadd, 1) := by decide +kernel
theorem dX7_fitsBy_26 : decode cX7_fitsBy 26 = .ok (.iaload, 1) := by decide +kernel
theorem dX7_fitsBy_27 : decode cX7_fitsBy 27 = .ok (.iload_n 1, 1) := by decide +kernel
theorem dX7_fitsBy_28 : decode cX7_fitsBy 28 = .ok (.iand, 1) := by decide +kernel
theorem dX7_fitsBy_29 : decode cX7_fitsBy 29 = .ok (.iload_n 2, 1) := by decide +kernel
theorem dX7_fitsBy_30 : decode cX7_fitsBy 30 = .ok (.if_icmp .ne 10, 3) := by decide +kernel
theorem dX7_fitsBy_33 : decode cX7_fitsBy 33 = .ok (.iconst 1, 1) := by decide +kernel
theorem dX7_fitsBy_34 : decode cX7_fitsBy 34 = .ok (.iload 4, 2) := by decide +kernel
theorem dX7_fitsBy_36 : decode cX7_fitsBy 36 = .ok (.ishl, 1) := by decide +kernel
theorem dX7_fitsBy_37 : decode cX7_fitsBy 37 = .ok (.goto 4, 3) := by decide +kernel
theorem dX7_fitsBy_40 : decode cX7_fitsBy 40 = .ok (.iconst 0, 1) := by decide +kernel
theorem dX7_fitsBy_41 : decode cX7_fitsBy 41 = .ok (.ior, 1) := by decide +kernel
theorem dX7_fitsBy_42 : decode cX7_fitsBy 42 = .ok (.istore_n 3, 1) := by decide +kernel
theorem dX7_fitsBy_43 : decode cX7_fitsBy 43 = .ok (.iinc 4 1, 3) := by decide +kernel
theorem dX7_fitsBy_46 : decode cX7_fitsBy 46 = .ok (.goto (-41), 3) := by decide +kernel
theorem dX7_fitsBy_49 : decode cX7_fitsBy 49 = .ok (.iload_n 3, 1) := by decide +kernel
theorem dX7_fitsBy_50 : decode cX7_fitsBy 50 = .ok (.ireturn, 1) := by decide +kernel
theorem dX7_many_0 : decode cX7_many 0 = .ok (.iconst 0, 1) := by decide +kernel
theorem dX7_many_1 : decode cX7_many 1 = .ok (.istore_n 1, 1) := by decide +kernel
theorem dX7_many_2 : decode cX7_many 2 = .ok (.iconst 0, 1) := by decide +kernel
theorem dX7_many_3 : decode cX7_many 3 = .ok (.istore_n 2, 1) := by decide +kernel
theorem dX7_many_4 : decode cX7_many 4 = .ok (.iload_n 2, 1) := by decide +kernel
theorem dX7_many_5 : decode cX7_many 5 = .ok (.bipush 8, 2) := by decide +kernel
theorem dX7_many_7 : decode cX7_many 7 = .ok (.if_icmp .ge 17, 3) := by decide +kernel
theorem dX7_many_10 : decode cX7_many 10 = .ok (.iload_n 1, 1) := by decide +kernel
theorem dX7_many_11 : decode cX7_many 11 = .ok (.iload_n 0, 1) := by decide +kernel
theorem dX7_many_12 : decode cX7_many 12 = .ok (.iload_n 2, 1) := by decide +kernel
theorem dX7_many_13 : decode cX7_many 13 = .ok (.ishr, 1) := by decide +kernel
theorem dX7_many_14 : decode cX7_many 14 = .ok (.iconst 1, 1) := by decide +kernel
theorem dX7_many_15 : decode cX7_many 15 = .ok (.iand, 1) := by decide +kernel
theorem dX7_many_16 : decode cX7_many 16 = .ok (.iadd, 1) := by decide +kernel
theorem dX7_many_17 : decode cX7_many 17 = .ok (.istore_n 1, 1) := by decide +kernel
theorem dX7_many_18 : decode cX7_many 18 = .ok (.iinc 2 1, 3) := by decide +kernel
theorem dX7_many_21 : decode cX7_many 21 = .ok (.goto (-17), 3) := by decide +kernel
theorem dX7_many_24 : decode cX7_many 24 = .ok (.iload_n 1, 1) := by decide +kernel
theorem dX7_many_25 : decode cX7_many 25 = .ok (.ireturn, 1) := by decide +kernel
theorem dX7_fitsOf_0 : decode cX7_fitsOf 0 = .ok (.bipush 6, 2) := by decide +kernel
theorem dX7_fitsOf_2 : decode cX7_fitsOf 2 = .ok (.iload_n 2, 1) := by decide +kernel
theorem dX7_fitsOf_3 : decode cX7_fitsOf 3 = .ok (.imul, 1) := by decide +kernel
theorem dX7_fitsOf_4 : decode cX7_fitsOf 4 = .ok (.iload_n 3, 1) := by decide +kernel
theorem dX7_fitsOf_5 : decode cX7_fitsOf 5 = .ok (.iadd, 1) := by decide +kernel
theorem dX7_fitsOf_6 : decode cX7_fitsOf 6 = .ok (.istore 4, 2) := by decide +kernel
theorem dX7_fitsOf_8 : decode cX7_fitsOf 8 = .ok (.aload_n 0, 1) := by decide +kernel
theorem dX7_fitsOf_9 : decode cX7_fitsOf 9 = .ok (.aload_n 0, 1) := by decide +kernel
theorem dX7_fitsOf_10 : decode cX7_fitsOf 10 = .ok (.getfield 7, 3) := by decide +kernel
theorem dX7_fitsOf_13 : decode cX7_fitsOf 13 = .ok (.iload_n 1, 1) := by decide +kernel
theorem dX7_fitsOf_14 : decode cX7_fitsOf 14 = .ok (.bipush 37, 2) := by decide +kernel
theorem dX7_fitsOf_16 : decode cX7_fitsOf 16 = .ok (.iadd, 1) := by decide +kernel
theorem dX7_fitsOf_17 : decode cX7_fitsOf 17 = .ok (.iload 4, 2) := by decide +kernel
theorem dX7_fitsOf_19 : decode cX7_fitsOf 19 = .ok (.iadd, 1) := by decide +kernel
theorem dX7_fitsOf_20 : decode cX7_fitsOf 20 = .ok (.iaload, 1) := by decide +kernel
theorem dX7_fitsOf_21 : decode cX7_fitsOf 21 = .ok (.aload_n 0, 1) := by decide +kernel
theorem dX7_fitsOf_22 : decode cX7_fitsOf 22 = .ok (.getfield 7, 3) := by decide +kernel
theorem dX7_fitsOf_25 : decode cX7_fitsOf 25 = .ok (.iload_n 1, 1) := by decide +kernel
theorem dX7_fitsOf_26 : decode cX7_fitsOf 26 = .ok (.bipush 61, 2) := by decide +kernel
theorem dX7_fitsOf_28 : decode cX7_fitsOf 28 = .ok (.iadd, 1) := by decide +kernel
theorem dX7_fitsOf_29 : decode cX7_fitsOf 29 = .ok (.iload 4, 2) := by decide +kernel
theorem dX7_fitsOf_31 : decode cX7_fitsOf 31 = .ok (.iadd, 1) := by decide +kernel
theorem dX7_fitsOf_32 : decode cX7_fitsOf 32 = .ok (.iaload, 1) := by decide +kernel
theorem dX7_fitsOf_33 : decode cX7_fitsOf 33 = .ok (.invokevirtual 140, 3) := by decide +kernel
theorem dX7_fitsOf_36 : decode cX7_fitsOf 36 = .ok (.ireturn, 1) := by decide +kernel
theorem dX7_beardsOf_0 : decode cX7_beardsOf 0 = .ok (.iconst 0, 1) := by decide +kernel
theorem dX7_beardsOf_1 : decode cX7_beardsOf 1 = .ok (.istore_n 2, 1) := by decide +kernel
theorem dX7_beardsOf_2 : decode cX7_beardsOf 2 = .ok (.iconst 0, 1) := by decide +kernel
theorem dX7_beardsOf_3 : decode cX7_beardsOf 3 = .ok (.istore_n 3, 1) := by decide +kernel
theorem dX7_beardsOf_4 : decode cX7_beardsOf 4 = .ok (.iload_n 3, 1) := by decide +kernel
theorem dX7_beardsOf_5 : decode cX7_beardsOf 5 = .ok (.bipush 6, 2) := by decide +kernel
theorem dX7_beardsOf_7 : decode cX7_beardsOf 7 = .ok (.if_icmp .ge 25, 3) := by decide +kernel
theorem dX7_beardsOf_10 : decode cX7_beardsOf 10 = .ok (.iload_n 2, 1) := by decide +kernel
theorem dX7_beardsOf_11 : decode cX7_beardsOf 11 = .ok (.aload_n 0, 1) := by decide +kernel
theorem dX7_beardsOf_12 : decode cX7_beardsOf 12 = .ok (.getfield 7, 3) := by decide +kernel
theorem dX7_beardsOf_15 : decode cX7_beardsOf 15 = .ok (.iconst 1, 1) := by decide +kernel
theorem dX7_beardsOf_16 : decode cX7_beardsOf 16 = .ok (.bipush 6, 2) := by decide +kernel
theorem dX7_beardsOf_18 : decode cX7_beardsOf 18 = .ok (.iload_n 1, 1) := by decide +kernel
theorem dX7_beardsOf_19 : decode cX7_beardsOf 19 = .ok (.imul, 1) := by decide +kernel
theorem dX7_beardsOf_20 : decode cX7_beardsOf 20 = .ok (.iadd, 1) := by decide +kernel
theorem dX7_beardsOf_21 : decode cX7_beardsOf 21 = .ok (.iload_n 3, 1) := by decide +kernel
theorem dX7_beardsOf_22 : decode cX7_beardsOf 22 = .ok (.iadd, 1) := by decide +kernel
theorem dX7_beardsOf_23 : decode cX7_beardsOf 23 = .ok (.iaload, 1) := by decide +kernel
theorem dX7_beardsOf_24 : decode cX7_beardsOf 24 = .ok (.iadd, 1) := by decide +kernel
theorem dX7_beardsOf_25 : decode cX7_beardsOf 25 = .ok (.istore_n 2, 1) := by decide +kernel
theorem dX7_beardsOf_26 : decode cX7_beardsOf 26 = .ok (.iinc 3 1, 3) := by decide +kernel
theorem dX7_beardsOf_29 : decode cX7_beardsOf 29 = .ok (.goto (-25), 3) := by decide +kernel
theorem dX7_beardsOf_32 : decode cX7_beardsOf 32 = .ok (.iload_n 2, 1) := by decide +kernel
theorem dX7_beardsOf_33 : decode cX7_beardsOf 33 = .ok (.ireturn, 1) := by decide +kernel
theorem dX7_smoothOf_0 : decode cX7_smoothOf 0 = .ok (.iconst 0, 1) := by decide +kernel
theorem dX7_smoothOf_1 : decode cX7_smoothOf 1 = .ok (.istore_n 2, 1) := by decide +kernel
theorem dX7_smoothOf_2 : decode cX7_smoothOf 2 = .ok (.iconst 0, 1) := by decide +kernel
theorem dX7_smoothOf_3 : decode cX7_smoothOf 3 = .ok (.istore_n 3, 1) := by decide +kernel
theorem dX7_smoothOf_4 : decode cX7_smoothOf 4 = .ok (.iload_n 3, 1) := by decide +kernel
theorem dX7_smoothOf_5 : decode cX7_smoothOf 5 = .ok (.bipush 6, 2) := by decide +kernel
theorem dX7_smoothOf_7 : decode cX7_smoothOf 7 = .ok (.if_icmp .ge 35, 3) := by decide +kernel
theorem dX7_smoothOf_10 : decode cX7_smoothOf 10 = .ok (.iload_n 2, 1) := by decide +kernel
theorem dX7_smoothOf_11 : decode cX7_smoothOf 11 = .ok (.aload_n 0, 1) := by decide +kernel
theorem dX7_smoothOf_12 : decode cX7_smoothOf 12 = .ok (.getfield 7, 3) := by decide +kernel
theorem dX7_smoothOf_15 : decode cX7_smoothOf 15 = .ok (.iconst 1, 1) := by decide +kernel
theorem dX7_smoothOf_16 : decode cX7_smoothOf 16 = .ok (.bipush 6, 2) := by decide +kernel
theorem dX7_smoothOf_18 : decode cX7_smoothOf 18 = .ok (.iload_n 1, 1) := by decide +kernel
theorem dX7_smoothOf_19 : decode cX7_smoothOf 19 = .ok (.imul, 1) := by decide +kernel
theorem dX7_smoothOf_20 : decode cX7_smoothOf 20 = .ok (.iadd, 1) := by decide +kernel
theorem dX7_smoothOf_21 : decode cX7_smoothOf 21 = .ok (.iload_n 3, 1) := by decide +kernel
theorem dX7_smoothOf_22 : decode cX7_smoothOf 22 = .ok (.iadd, 1) := by decide +kernel
theorem dX7_smoothOf_23 : decode cX7_smoothOf 23 = .ok (.iaload, 1) := by decide +kernel
theorem dX7_smoothOf_24 : decode cX7_smoothOf 24 = .ok (.ifCond .ne 9, 3) := by decide +kernel
theorem dX7_smoothOf_27 : decode cX7_smoothOf 27 = .ok (.iconst 1, 1) := by decide +kernel
theorem dX7_smoothOf_28 : decode cX7_smoothOf 28 = .ok (.iload_n 3, 1) := by decide +kernel
theorem dX7_smoothOf_29 : decode cX7_smoothOf 29 = .ok (.ishl, 1) := by decide +kernel
theorem dX7_smoothOf_30 : decode cX7_smoothOf 30 = .ok (.goto 4, 3) := by decide +kernel
theorem dX7_smoothOf_33 : decode cX7_smoothOf 33 = .ok (.iconst 0, 1) := by decide +kernel
theorem dX7_smoothOf_34 : decode cX7_smoothOf 34 = .ok (.ior, 1) := by decide +kernel
theorem dX7_smoothOf_35 : decode cX7_smoothOf 35 = .ok (.istore_n 2, 1) := by decide +kernel
theorem dX7_smoothOf_36 : decode cX7_smoothOf 36 = .ok (.iinc 3 1, 3) := by decide +kernel
theorem dX7_smoothOf_39 : decode cX7_smoothOf 39 = .ok (.goto (-35), 3) := by decide +kernel
theorem dX7_smoothOf_42 : decode cX7_smoothOf 42 = .ok (.iload_n 2, 1) := by decide +kernel
theorem dX7_smoothOf_43 : decode cX7_smoothOf 43 = .ok (.ireturn, 1) := by decide +kernel
theorem dX7_person_0 : decode cX7_person 0 = .ok (.aload_n 0, 1) := by decide +kernel
theorem dX7_person_1 : decode cX7_person 1 = .ok (.iload_n 1, 1) := by decide +kernel
theorem dX7_person_2 : decode cX7_person 2 = .ok (.invokevirtual 144, 3) := by decide +kernel
theorem dX7_person_5 : decode cX7_person 5 = .ok (.ifCond .ne 6, 3) := by decide +kernel
theorem dX7_person_8 : decode cX7_person 8 = .ok (.bipush (-2), 2) := by decide +kernel
theorem dX7_person_10 : decode cX7_person 10 = .ok (.ireturn, 1) := by decide +kernel
theorem dX7_person_11 : decode cX7_person 11 = .ok (.iload_n 2, 1) := by decide +kernel
theorem dX7_person_12 : decode cX7_person 12 = .ok (.tableswitch 63 0 3 #[32, 41, 51, 57], 32) := by decide +kernel
theorem dX7_person_44 : decode cX7_person 44 = .ok (.aload_n 0, 1) := by decide +kernel
theorem dX7_person_45 : decode cX7_person 45 = .ok (.getfield 13, 3) := by decide +kernel
theorem dX7_person_48 : decode cX7_person 48 = .ok (.iconst 3, 1) := by decide +kernel
theorem dX7_person_49 : decode cX7_person 49 = .ok (.iload_n 1, 1) := by decide +kernel
theorem dX7_person_50 : decode cX7_person 50 = .ok (.iadd, 1) := by decide +kernel
theorem dX7_person_51 : decode cX7_person 51 = .ok (.iaload, 1) := by decide +kernel
theorem dX7_person_52 : decode cX7_person 52 = .ok (.ireturn, 1) := by decide +kernel
theorem dX7_person_53 : decode cX7_person 53 = .ok (.aload_n 0, 1) := by decide +kernel
theorem dX7_person_54 : decode cX7_person 54 = .ok (.getfield 13, 3) := by decide +kernel
theorem dX7_person_57 : decode cX7_person 57 = .ok (.bipush 9, 2) := by decide +kernel
theorem dX7_person_59 : decode cX7_person 59 = .ok (.iload_n 1, 1) := by decide +kernel
theorem dX7_person_60 : decode cX7_person 60 = .ok (.iadd, 1) := by decide +kernel
theorem dX7_person_61 : decode cX7_person 61 = .ok (.iaload, 1) := by decide +kernel
theorem dX7_person_62 : decode cX7_person 62 = .ok (.ireturn, 1) := by decide +kernel
theorem dX7_person_63 : decode cX7_person 63 = .ok (.aload_n 0, 1) := by decide +kernel
theorem dX7_person_64 : decode cX7_person 64 = .ok (.iload_n 1, 1) := by decide +kernel
theorem dX7_person_65 : decode cX7_person 65 = .ok (.invokevirtual 147, 3) := by decide +kernel
theorem dX7_person_68 : decode cX7_person 68 = .ok (.ireturn, 1) := by decide +kernel
theorem dX7_person_69 : decode cX7_person 69 = .ok (.aload_n 0, 1) := by decide +kernel
theorem dX7_person_70 : decode cX7_person 70 = .ok (.iload_n 1, 1) := by decide +kernel
theorem dX7_person_71 : decode cX7_person 71 = .ok (.invokevirtual 150, 3) := by decide +kernel
theorem dX7_person_74 : decode cX7_person 74 = .ok (.ireturn, 1) := by decide +kernel
theorem dX7_person_75 : decode cX7_person 75 = .ok (.bipush (-3), 2) := by decide +kernel
theorem dX7_person_77 : decode cX7_person 77 = .ok (.ireturn, 1) := by decide +kernel
theorem dX7_beard_0 : decode cX7_beard 0 = .ok (.aload_n 0, 1) := by decide +kernel
theorem dX7_beard_1 : decode cX7_beard 1 = .ok (.iload_n 1, 1) := by decide +kernel
theorem dX7_beard_2 : decode cX7_beard 2 = .ok (.invokevirtual 144, 3) := by decide +kernel
theorem dX7_beard_5 : decode cX7_beard 5 = .ok (.ifCond .eq 26, 3) := by decide +kernel
theorem dX7_beard_8 : decode cX7_beard 8 = .ok (.iload_n 2, 1) := by decide +kernel
theorem dX7_beard_9 : decode cX7_beard 9 = .ok (.invokestatic 153, 3) := by decide +kernel
theorem dX7_beard_12 : decode cX7_beard 12 = .ok (.ifCond .eq 19, 3) := by decide +kernel
theorem dX7_beard_15 : decode cX7_beard 15 = .ok (.aload_n 0, 1) := by decide +kernel
theorem dX7_beard_16 : decode cX7_beard 16 = .ok (.getfield 7, 3) := by decide +kernel
theorem dX7_beard_19 : decode cX7_beard 19 = .ok (.iconst 1, 1) := by decide +kernel
theorem dX7_beard_20 : decode cX7_beard 20 = .ok (.bipush 6, 2) := by decide +kernel
theorem dX7_beard_22 : decode cX7_beard 22 = .ok (.iload_n 1, 1) := by decide +kernel
theorem dX7_beard_23 : decode cX7_beard 23 = .ok (.imul, 1) := by decide +kernel
theorem dX7_beard_24 : decode cX7_beard 24 = .ok (.iadd, 1) := by decide +kernel
theorem dX7_beard_25 : decode cX7_beard 25 = .ok (.iload_n 2, 1) := by decide +kernel
theorem dX7_beard_26 : decode cX7_beard 26 = .ok (.iadd, 1) := by decide +kernel
theorem dX7_beard_27 : decode cX7_beard 27 = .ok (.iaload, 1) := by decide +kernel
theorem dX7_beard_28 : decode cX7_beard 28 = .ok (.goto 5, 3) := by decide +kernel
theorem dX7_beard_31 : decode cX7_beard 31 = .ok (.bipush (-2), 2) := by decide +kernel
theorem dX7_beard_33 : decode cX7_beard 33 = .ok (.ireturn, 1) := by decide +kernel
theorem dX7_rumour_0 : decode cX7_rumour 0 = .ok (.aload_n 0, 1) := by decide +kernel
theorem dX7_rumour_1 : decode cX7_rumour 1 = .ok (.iload_n 1, 1) := by decide +kernel
theorem dX7_rumour_2 : decode cX7_rumour 2 = .ok (.invokevirtual 156, 3) := by decide +kernel
theorem dX7_rumour_5 : decode cX7_rumour 5 = .ok (.ifCond .eq 15, 3) := by decide +kernel
theorem dX7_rumour_8 : decode cX7_rumour 8 = .ok (.aload_n 0, 1) := by decide +kernel
theorem dX7_rumour_9 : decode cX7_rumour 9 = .ok (.getfield 13, 3) := by decide +kernel
theorem dX7_rumour_12 : decode cX7_rumour 12 = .ok (.bipush 51, 2) := by decide +kernel
theorem dX7_rumour_14 : decode cX7_rumour 14 = .ok (.iload_n 1, 1) := by decide +kernel
theorem dX7_rumour_15 : decode cX7_rumour 15 = .ok (.iadd, 1) := by decide +kernel
theorem dX7_rumour_16 : decode cX7_rumour 16 = .ok (.iaload, 1) := by decide +kernel
theorem dX7_rumour_17 : decode cX7_rumour 17 = .ok (.goto 5, 3) := by decide +kernel
theorem dX7_rumour_20 : decode cX7_rumour 20 = .ok (.bipush (-2), 2) := by decide +kernel
theorem dX7_rumour_22 : decode cX7_rumour 22 = .ok (.ireturn, 1) := by decide +kernel
theorem dX7_knows_0 : decode cX7_knows 0 = .ok (.aload_n 0, 1) := by decide +kernel
theorem dX7_knows_1 : decode cX7_knows 1 = .ok (.iload_n 1, 1) := by decide +kernel
theorem dX7_knows_2 : decode cX7_knows 2 = .ok (.invokevirtual 159, 3) := by decide +kernel
theorem dX7_knows_5 : decode cX7_knows 5 = .ok (.ifCond .eq 11, 3) := by decide +kernel
theorem dX7_knows_8 : decode cX7_knows 8 = .ok (.aload_n 0, 1) := by decide +kernel
theorem dX7_knows_9 : decode cX7_knows 9 = .ok (.iload_n 2, 1) := by decide +kernel
theorem dX7_knows_10 : decode cX7_knows 10 = .ok (.invokevirtual 144, 3) := by decide +kernel
theorem dX7_knows_13 : decode cX7_knows 13 = .ok (.ifCond .ne 6, 3) := by decide +kernel
theorem dX7_knows_16 : decode cX7_knows 16 = .ok (.bipush (-2), 2) := by decide +kernel
theorem dX7_knows_18 : decode cX7_knows 18 = .ok (.ireturn, 1) := by decide +kernel
theorem dX7_knows_19 : decode cX7_knows 19 = .ok (.bipush 6, 2) := by decide +kernel
theorem dX7_knows_21 : decode cX7_knows 21 = .ok (.iload_n 1, 1) := by decide +kernel
theorem dX7_knows_22 : decode cX7_knows 22 = .ok (.imul, 1) := by decide +kernel
theorem dX7_knows_23 : decode cX7_knows 23 = .ok (.iload_n 2, 1) := by decide +kernel
theorem dX7_knows_24 : decode cX7_knows 24 = .ok (.iadd, 1) := by decide +kernel
theorem dX7_knows_25 : decode cX7_knows 25 = .ok (.istore 4, 2) := by decide +kernel
theorem dX7_knows_27 : decode cX7_knows 27 = .ok (.iload_n 3, 1) := by decide +kernel
theorem dX7_knows_28 : decode cX7_knows 28 = .ok (.ifCond .ne 16, 3) := by decide +kernel
theorem dX7_knows_31 : decode cX7_knows 31 = .ok (.aload_n 0, 1) := by decide +kernel
theorem dX7_knows_32 : decode cX7_knows 32 = .ok (.getfield 7, 3) := by decide +kernel
theorem dX7_knows_35 : decode cX7_knows 35 = .ok (.bipush 37, 2) := by decide +kernel
theorem dX7_knows_37 : decode cX7_knows 37 = .ok (.iload 4, 2) := by decide +kernel
theorem dX7_knows_39 : decode cX7_knows 39 = .ok (.iadd, 1) := by decide +kernel
theorem dX7_knows_40 : decode cX7_knows 40 = .ok (.iaload, 1) := by decide +kernel
theorem dX7_knows_41 : decode cX7_knows 41 = .ok (.goto 38, 3) := by decide +kernel
theorem dX7_knows_44 : decode cX7_knows 44 = .ok (.iload_n 3, 1) := by decide +kernel
theorem dX7_knows_45 : decode cX7_knows 45 = .ok (.iconst 1, 1) := by decide +kernel
theorem dX7_knows_46 : decode cX7_knows 46 = .ok (.if_icmp .ne 16, 3) := by decide +kernel
theorem dX7_knows_49 : decode cX7_knows 49 = .ok (.aload_n 0, 1) := by decide +kernel
theorem dX7_knows_50 : decode cX7_knows 50 = .ok (.getfield 7, 3) := by decide +kernel
theorem dX7_knows_53 : decode cX7_knows 53 = .ok (.bipush 61, 2) := by decide +kernel
theorem dX7_knows_55 : decode cX7_knows 55 = .ok (.iload 4, 2) := by decide +kernel
theorem dX7_knows_57 : decode cX7_knows 57 = .ok (.iadd, 1) := by decide +kernel
theorem dX7_knows_58 : decode cX7_knows 58 = .ok (.iaload, 1) := by decide +kernel
theorem dX7_knows_59 : decode cX7_knows 59 = .ok (.goto 20, 3) := by decide +kernel
theorem dX7_knows_62 : decode cX7_knows 62 = .ok (.iload_n 3, 1) := by decide +kernel
theorem dX7_knows_63 : decode cX7_knows 63 = .ok (.iconst 2, 1) := by decide +kernel
theorem dX7_knows_64 : decode cX7_knows 64 = .ok (.if_icmp .ne 13, 3) := by decide +kernel
theorem dX7_knows_67 : decode cX7_knows 67 = .ok (.aload_n 0, 1) := by decide +kernel
theorem dX7_knows_68 : decode cX7_knows 68 = .ok (.iconst 0, 1) := by decide +kernel
theorem dX7_knows_69 : decode cX7_knows 69 = .ok (.iload_n 1, 1) := by decide +kernel
theorem dX7_knows_70 : decode cX7_knows 70 = .ok (.iload_n 2, 1) := by decide +kernel
theorem dX7_knows_71 : decode cX7_knows 71 = .ok (.invokevirtual 162, 3) := by decide +kernel
theorem dX7_knows_74 : decode cX7_knows 74 = .ok (.goto 5, 3) := by decide +kernel
theorem dX7_knows_77 : decode cX7_knows 77 = .ok (.bipush (-3), 2) := by decide +kernel
theorem dX7_knows_79 : decode cX7_knows 79 = .ok (.ireturn, 1) := by decide +kernel
theorem dX7_as_0 : decode cX7_as 0 = .ok (.aload_n 0, 1) := by decide +kernel
theorem dX7_as_1 : decode cX7_as 1 = .ok (.iload_n 1, 1) := by decide +kernel
theorem dX7_as_2 : decode cX7_as 2 = .ok (.invokevirtual 144, 3) := by decide +kernel
theorem dX7_as_5 : decode cX7_as 5 = .ok (.ifCond .ne 6, 3) := by decide +kernel
theorem dX7_as_8 : decode cX7_as 8 = .ok (.bipush (-2), 2) := by decide +kernel
theorem dX7_as_10 : decode cX7_as 10 = .ok (.ireturn, 1) := by decide +kernel
theorem dX7_as_11 : decode cX7_as 11 = .ok (.iload_n 2, 1) := by decide +kernel
theorem dX7_as_12 : decode cX7_as 12 = .ok (.i2l, 1) := by decide +kernel
theorem dX7_as_13 : decode cX7_as 13 = .ok (.lconst 0, 1) := by decide +kernel
theorem dX7_as_14 : decode cX7_as 14 = .ok (.ldc2_w 165, 3) := by decide +kernel
theorem dX7_as_17 : decode cX7_as 17 = .ok (.invokestatic 35, 3) := by decide +kernel
theorem dX7_as_20 : decode cX7_as 20 = .ok (.ifCond .ne 6, 3) := by decide +kernel
theorem dX7_as_23 : decode cX7_as 23 = .ok (.bipush (-3), 2) := by decide +kernel
theorem dX7_as_25 : decode cX7_as 25 = .ok (.ireturn, 1) := by decide +kernel
theorem dX7_as_26 : decode cX7_as 26 = .ok (.aload_n 0, 1) := by decide +kernel
theorem dX7_as_27 : decode cX7_as 27 = .ok (.getfield 13, 3) := by decide +kernel
theorem dX7_as_30 : decode cX7_as 30 = .ok (.iconst 3, 1) := by decide +kernel
theorem dX7_as_31 : decode cX7_as 31 = .ok (.iload_n 1, 1) := by decide +kernel
theorem dX7_as_32 : decode cX7_as 32 = .ok (.iadd, 1) := by decide +kernel
theorem dX7_as_33 : decode cX7_as 33 = .ok (.iaload, 1) := by decide +kernel
theorem dX7_as_34 : decode cX7_as 34 = .ok (.iconst 1, 1) := by decide +kernel
theorem dX7_as_35 : decode cX7_as 35 = .ok (.iadd, 1) := by decide +kernel
theorem dX7_as_36 : decode cX7_as 36 = .ok (.istore_n 3, 1) := by decide +kernel
theorem dX7_as_37 : decode cX7_as 37 = .ok (.iload_n 2, 1) := by decide +kernel
theorem dX7_as_38 : decode cX7_as 38 = .ok (.ifCond .eq 18, 3) := by decide +kernel
theorem dX7_as_41 : decode cX7_as 41 = .ok (.iload_n 2, 1) := by decide +kernel
theorem dX7_as_42 : decode cX7_as 42 = .ok (.iload_n 3, 1) := by decide +kernel
theorem dX7_as_43 : decode cX7_as 43 = .ok (.if_icmp .eq 13, 3) := by decide +kernel
theorem dX7_as_46 : decode cX7_as 46 = .ok (.iload_n 2, 1) := by decide +kernel
theorem dX7_as_47 : decode cX7_as 47 = .ok (.iconst 1, 1) := by decide +kernel
theorem dX7_as_48 : decode cX7_as 48 = .ok (.if_icmp .ne 12, 3) := by decide +kernel
theorem dX7_as_51 : decode cX7_as 51 = .ok (.iload_n 3, 1) := by decide +kernel
theorem dX7_as_52 : decode cX7_as 52 = .ok (.iconst 4, 1) := by decide +kernel
theorem dX7_as_53 : decode cX7_as 53 = .ok (.if_icmp .ge 7, 3) := by decide +kernel
theorem dX7_as_56 : decode cX7_as 56 = .ok (.iconst 1, 1) := by decide +kernel
theorem dX7_as_57 : decode cX7_as 57 = .ok (.goto 4, 3) := by decide +kernel
theorem dX7_as_60 : decode cX7_as 60 = .ok (.iconst 0, 1) := by decide +kernel
theorem dX7_as_61 : decode cX7_as 61 = .ok (.istore 4, 2) := by decide +kernel
theorem dX7_as_63 : decode cX7_as 63 = .ok (.iload 4, 2) := by decide +kernel
theorem dX7_as_65 : decode cX7_as 65 = .ok (.ifCond .eq 25, 3) := by decide +kernel
theorem dX7_as_68 : decode cX7_as 68 = .ok (.aload_n 0, 1) := by decide +kernel
theorem dX7_as_69 : decode cX7_as 69 = .ok (.iload_n 1, 1) := by decide +kernel
theorem dX7_as_70 : decode cX7_as 70 = .ok (.iconst 2, 1) := by decide +kernel
theorem dX7_as_71 : decode cX7_as 71 = .ok (.aload_n 0, 1) := by decide +kernel
theorem dX7_as_72 : decode cX7_as 72 = .ok (.getfield 7, 3) := by decide +kernel
theorem dX7_as_75 : decode cX7_as 75 = .ok (.iconst 1, 1) := by decide +kernel
theorem dX7_as_76 : decode cX7_as 76 = .ok (.bipush 6, 2) := by decide +kernel
theorem dX7_as_78 : decode cX7_as 78 = .ok (.iload_n 1, 1) := by decide +kernel
theorem dX7_as_79 : decode cX7_as 79 = .ok (.imul, 1) := by decide +kernel
theorem dX7_as_80 : decode cX7_as 80 = .ok (.iadd, 1) := by decide +kernel
theorem dX7_as_81 : decode cX7_as 81 = .ok (.iconst 2, 1) := by decide +kernel
theorem dX7_as_82 : decode cX7_as 82 = .ok (.iadd, 1) := by decide +kernel
theorem dX7_as_83 : decode cX7_as 83 = .ok (.iaload, 1) := by decide +kernel
theorem dX7_as_84 : decode cX7_as 84 = .ok (.invokevirtual 132, 3) := by decide +kernel
theorem dX7_as_87 : decode cX7_as 87 = .ok (.goto 5, 3) := by decide +kernel
theorem dX7_as_90 : decode cX7_as 90 = .ok (.bipush (-4), 2) := by decide +kernel
theorem dX7_as_92 : decode cX7_as 92 = .ok (.ireturn, 1) := by decide +kernel
theorem dX7_minds_0 : decode cX7_minds 0 = .ok (.aload_n 0, 1) := by decide +kernel
theorem dX7_minds_1 : decode cX7_minds 1 = .ok (.getfield 129, 3) := by decide +kernel
theorem dX7_minds_4 : decode cX7_minds 4 = .ok (.bipush 8, 2) := by decide +kernel
theorem dX7_minds_6 : decode cX7_minds 6 = .ok (.if_icmp .ne 51, 3) := by decide +kernel
theorem dX7_minds_9 : decode cX7_minds 9 = .ok (.iconst 0, 1) := by decide +kernel
theorem dX7_minds_10 : decode cX7_minds 10 = .ok (.istore_n 1, 1) := by decide +kernel
theorem dX7_minds_11 : decode cX7_minds 11 = .ok (.iload_n 1, 1) := by decide +kernel
theorem dX7_minds_12 : decode cX7_minds 12 = .ok (.sipush 595, 3) := by decide +kernel
theorem dX7_minds_15 : decode cX7_minds 15 = .ok (.if_icmp .ge 32, 3) := by decide +kernel
theorem dX7_minds_18 : decode cX7_minds 18 = .ok (.aload_n 0, 1) := by decide +kernel
theorem dX7_minds_19 : decode cX7_minds 19 = .ok (.getfield 7, 3) := by decide +kernel
theorem dX7_minds_22 : decode cX7_minds 22 = .ok (.sipush 340, 3) := by decide +kernel
theorem dX7_minds_25 : decode cX7_minds 25 = .ok (.iload_n 1, 1) := by decide +kernel
theorem dX7_minds_26 : decode cX7_minds 26 = .ok (.iadd, 1) := by decide +kernel
theorem dX7_minds_27 : decode cX7_minds 27 = .ok (.aload_n 0, 1) := by decide +kernel
theorem dX7_minds_28 : decode cX7_minds 28 = .ok (.getfield 7, 3) := by decide +kernel
theorem dX7_minds_31 : decode cX7_minds 31 = .ok (.sipush 340, 3) := by decide +kernel
theorem dX7_minds_34 : decode cX7_minds 34 = .ok (.iload_n 1, 1) := by decide +kernel
theorem dX7_minds_35 : decode cX7_minds 35 = .ok (.iadd, 1) := by decide +kernel
theorem dX7_minds_36 : decode cX7_minds 36 = .ok (.bipush 85, 2) := by decide +kernel
theorem dX7_minds_38 : decode cX7_minds 38 = .ok (.iadd, 1) := by decide +kernel
theorem dX7_minds_39 : decode cX7_minds 39 = .ok (.iaload, 1) := by decide +kernel
theorem dX7_minds_40 : decode cX7_minds 40 = .ok (.iastore, 1) := by decide +kernel
theorem dX7_minds_41 : decode cX7_minds 41 = .ok (.iinc 1 1, 3) := by decide +kernel
theorem dX7_minds_44 : decode cX7_minds 44 = .ok (.goto (-33), 3) := by decide +kernel
theorem dX7_minds_47 : decode cX7_minds 47 = .ok (.aload_n 0, 1) := by decide +kernel
theorem dX7_minds_48 : decode cX7_minds 48 = .ok (.dup, 1) := by decide +kernel
theorem dX7_minds_49 : decode cX7_minds 49 = .ok (.getfield 129, 3) := by decide +kernel
theorem dX7_minds_52 : decode cX7_minds 52 = .ok (.iconst 1, 1) := by decide +kernel
theorem dX7_minds_53 : decode cX7_minds 53 = .ok (.isub, 1) := by decide +kernel
theorem dX7_minds_54 : decode cX7_minds 54 = .ok (.putfield 129, 3) := by decide +kernel
theorem dX7_minds_57 : decode cX7_minds 57 = .ok (.aload_n 0, 1) := by decide +kernel
theorem dX7_minds_58 : decode cX7_minds 58 = .ok (.iconst 0, 1) := by decide +kernel
theorem dX7_minds_59 : decode cX7_minds 59 = .ok (.sipush 340, 3) := by decide +kernel
theorem dX7_minds_62 : decode cX7_minds 62 = .ok (.bipush 85, 2) := by decide +kernel
theorem dX7_minds_64 : decode cX7_minds 64 = .ok (.aload_n 0, 1) := by decide +kernel
theorem dX7_minds_65 : decode cX7_minds 65 = .ok (.getfield 129, 3) := by decide +kernel
theorem dX7_minds_68 : decode cX7_minds 68 = .ok (.imul, 1) := by decide +kernel
theorem dX7_minds_69 : decode cX7_minds 69 = .ok (.iadd, 1) := by decide +kernel
theorem dX7_minds_70 : decode cX7_minds 70 = .ok (.invokevirtual 167, 3) := by decide +kernel
theorem dX7_minds_73 : decode cX7_minds 73 = .ok (.aload_n 0, 1) := by decide +kernel
theorem dX7_minds_74 : decode cX7_minds 74 = .ok (.dup, 1) := by decide +kernel
theorem dX7_minds_75 : decode cX7_minds 75 = .ok (.getfield 129, 3) := by decide +kernel
theorem dX7_minds_78 : decode cX7_minds 78 = .ok (.iconst 1, 1) := by decide +kernel
theorem dX7_minds_79 : decode cX7_minds 79 = .ok (.iadd, 1) := by decide +kernel
theorem dX7_minds_80 : decode cX7_minds 80 = .ok (.putfield 129, 3) := by decide +kernel
theorem dX7_minds_83 : decode cX7_minds 83 = .ok (.return_, 1) := by decide +kernel
theorem dX7_shave_0 : decode cX7_shave 0 = .ok (.aload_n 0, 1) := by decide +kernel
theorem dX7_shave_1 : decode cX7_shave 1 = .ok (.iload_n 1, 1) := by decide +kernel
theorem dX7_shave_2 : decode cX7_shave 2 = .ok (.invokevirtual 159, 3) := by decide +kernel
theorem dX7_shave_5 : decode cX7_shave 5 = .ok (.ifCond .eq 18, 3) := by decide +kernel
theorem dX7_shave_8 : decode cX7_shave 8 = .ok (.aload_n 0, 1) := by decide +kernel
theorem dX7_shave_9 : decode cX7_shave 9 = .ok (.iload_n 2, 1) := by decide +kernel
theorem dX7_shave_10 : decode cX7_shave 10 = .ok (.invokevirtual 144, 3) := by decide +kernel
theorem dX7_shave_13 : decode cX7_shave 13 = .ok (.ifCond .eq 10, 3) := by decide +kernel
theorem dX7_shave_16 : decode cX7_shave 16 = .ok (.iload_n 3, 1) := by decide +kernel
theorem dX7_shave_17 : decode cX7_shave 17 = .ok (.invokestatic 153, 3) := by decide +kernel
theorem dX7_shave_20 : decode cX7_shave 20 = .ok (.ifCond .ne 6, 3) := by decide +kernel
theorem dX7_shave_23 : decode cX7_shave 23 = .ok (.bipush (-2), 2) := by decide +kernel
theorem dX7_shave_25 : decode cX7_shave 25 = .ok (.ireturn, 1) := by decide +kernel
theorem dX7_shave_26 : decode cX7_shave 26 = .ok (.aload_n 0, 1) := by decide +kernel
theorem dX7_shave_27 : decode cX7_shave 27 = .ok (.invokevirtual 171, 3) := by decide +kernel
theorem dX7_shave_30 : decode cX7_shave 30 = .ok (.aload_n 0, 1) := by decide +kernel
theorem dX7_shave_31 : decode cX7_shave 31 = .ok (.iconst 0, 1) := by decide +kernel
theorem dX7_shave_32 : decode cX7_shave 32 = .ok (.iload_n 1, 1) := by decide +kernel
theorem dX7_shave_33 : decode cX7_shave 33 = .ok (.iload_n 2, 1) := by decide +kernel
theorem dX7_shave_34 : decode cX7_shave 34 = .ok (.iload_n 3, 1) := by decide +kernel
theorem dX7_shave_35 : decode cX7_shave 35 = .ok (.invokevirtual 174, 3) := by decide +kernel
theorem dX7_shave_38 : decode cX7_shave 38 = .ok (.ireturn, 1) := by decide +kernel
theorem dX7_day_0 : decode cX7_day 0 = .ok (.aload_n 0, 1) := by decide +kernel
theorem dX7_day_1 : decode cX7_day 1 = .ok (.getfield 7, 3) := by decide +kernel
theorem dX7_day_4 : decode cX7_day 4 = .ok (.iconst 0, 1) := by decide +kernel
theorem dX7_day_5 : decode cX7_day 5 = .ok (.iaload, 1) := by decide +kernel
theorem dX7_day_6 : decode cX7_day 6 = .ok (.sipush 999, 3) := by decide +kernel
theorem dX7_day_9 : decode cX7_day 9 = .ok (.if_icmp .ne 6, 3) := by decide +kernel
theorem dX7_day_12 : decode cX7_day 12 = .ok (.bipush (-5), 2) := by decide +kernel
theorem dX7_day_14 : decode cX7_day 14 = .ok (.ireturn, 1) := by decide +kernel
theorem dX7_day_15 : decode cX7_day 15 = .ok (.aload_n 0, 1) := by decide +kernel
theorem dX7_day_16 : decode cX7_day 16 = .ok (.invokevirtual 171, 3) := by decide +kernel
theorem dX7_day_19 : decode cX7_day 19 = .ok (.aload_n 0, 1) := by decide +kernel
theorem dX7_day_20 : decode cX7_day 20 = .ok (.getfield 7, 3) := by decide +kernel
theorem dX7_day_23 : decode cX7_day 23 = .ok (.iconst 0, 1) := by decide +kernel
theorem dX7_day_24 : decode cX7_day 24 = .ok (.dup2, 1) := by decide +kernel
theorem dX7_day_25 : decode cX7_day 25 = .ok (.iaload, 1) := by decide +kernel
theorem dX7_day_26 : decode cX7_day 26 = .ok (.iconst 1, 1) := by decide +kernel
theorem dX7_day_27 : decode cX7_day 27 = .ok (.iadd, 1) := by decide +kernel
theorem dX7_day_28 : decode cX7_day 28 = .ok (.iastore, 1) := by decide +kernel
theorem dX7_day_29 : decode cX7_day 29 = .ok (.iconst 0, 1) := by decide +kernel
theorem dX7_day_30 : decode cX7_day 30 = .ok (.istore_n 1, 1) := by decide +kernel
theorem dX7_day_31 : decode cX7_day 31 = .ok (.iload_n 1, 1) := by decide +kernel
theorem dX7_day_32 : decode cX7_day 32 = .ok (.bipush 6, 2) := by decide +kernel
theorem dX7_day_34 : decode cX7_day 34 = .ok (.aload_n 0, 1) := by decide +kernel
theorem dX7_day_35 : decode cX7_day 35 = .ok (.getfield 13, 3) := by decide +kernel
theorem dX7_day_38 : decode cX7_day 38 = .ok (.iconst 1, 1) := by decide +kernel
theorem dX7_day_39 : decode cX7_day 39 = .ok (.iaload, 1) := by decide +kernel
theorem dX7_day_40 : decode cX7_day 40 = .ok (.imul, 1) := by decide +kernel
theorem dX7_day_41 : decode cX7_day 41 = .ok (.if_icmp .ge 45, 3) := by decide +kernel
theorem dX7_day_44 : decode cX7_day 44 = .ok (.aload_n 0, 1) := by decide +kernel
theorem dX7_day_45 : decode cX7_day 45 = .ok (.getfield 7, 3) := by decide +kernel
theorem dX7_day_48 : decode cX7_day 48 = .ok (.iconst 1, 1) := by decide +kernel
theorem dX7_day_49 : decode cX7_day 49 = .ok (.iload_n 1, 1) := by decide +kernel
theorem dX7_day_50 : decode cX7_day 50 = .ok (.iadd, 1) := by decide +kernel
theorem dX7_day_51 : decode cX7_day 51 = .ok (.aload_n 0, 1) := by decide +kernel
theorem dX7_day_52 : decode cX7_day 52 = .ok (.getfield 7, 3) := by decide +kernel
theorem dX7_day_55 : decode cX7_day 55 = .ok (.iconst 1, 1) := by decide +kernel
theorem dX7_day_56 : decode cX7_day 56 = .ok (.iload_n 1, 1) := by decide +kernel
theorem dX7_day_57 : decode cX7_day 57 = .ok (.iadd, 1) := by decide +kernel
theorem dX7_day_58 : decode cX7_day 58 = .ok (.iaload, 1) := by decide +kernel
theorem dX7_day_59 : decode cX7_day 59 = .ok (.bipush 9, 2) := by decide +kernel
theorem dX7_day_61 : decode cX7_day 61 = .ok (.if_icmp .ge 16, 3) := by decide +kernel
theorem dX7_day_64 : decode cX7_day 64 = .ok (.aload_n 0, 1) := by decide +kernel
theorem dX7_day_65 : decode cX7_day 65 = .ok (.getfield 7, 3) := by decide +kernel
theorem dX7_day_68 : decode cX7_day 68 = .ok (.iconst 1, 1) := by decide +kernel
theorem dX7_day_69 : decode cX7_day 69 = .ok (.iload_n 1, 1) := by decide +kernel
theorem dX7_day_70 : decode cX7_day 70 = .ok (.iadd, 1) := by decide +kernel
theorem dX7_day_71 : decode cX7_day 71 = .ok (.iaload, 1) := by decide +kernel
theorem dX7_day_72 : decode cX7_day 72 = .ok (.iconst 1, 1) := by decide +kernel
theorem dX7_day_73 : decode cX7_day 73 = .ok (.iadd, 1) := by decide +kernel
theorem dX7_day_74 : decode cX7_day 74 = .ok (.goto 5, 3) := by decide +kernel
theorem dX7_day_77 : decode cX7_day 77 = .ok (.bipush 9, 2) := by decide +kernel
theorem dX7_day_79 : decode cX7_day 79 = .ok (.iastore, 1) := by decide +kernel
theorem dX7_day_80 : decode cX7_day 80 = .ok (.iinc 1 1, 3) := by decide +kernel
theorem dX7_day_83 : decode cX7_day 83 = .ok (.goto (-52), 3) := by decide +kernel
theorem dX7_day_86 : decode cX7_day 86 = .ok (.aload_n 0, 1) := by decide +kernel
theorem dX7_day_87 : decode cX7_day 87 = .ok (.getfield 7, 3) := by decide +kernel
theorem dX7_day_90 : decode cX7_day 90 = .ok (.iconst 0, 1) := by decide +kernel
theorem dX7_day_91 : decode cX7_day 91 = .ok (.iaload, 1) := by decide +kernel
theorem dX7_day_92 : decode cX7_day 92 = .ok (.ireturn, 1) := by decide +kernel
theorem dX7_talk_0 : decode cX7_talk 0 = .ok (.aload_n 0, 1) := by decide +kernel
theorem dX7_talk_1 : decode cX7_talk 1 = .ok (.iload_n 1, 1) := by decide +kernel
theorem dX7_talk_2 : decode cX7_talk 2 = .ok (.invokevirtual 159, 3) := by decide +kernel
theorem dX7_talk_5 : decode cX7_talk 5 = .ok (.ifCond .eq 24, 3) := by decide +kernel
theorem dX7_talk_8 : decode cX7_talk 8 = .ok (.aload_n 0, 1) := by decide +kernel
theorem dX7_talk_9 : decode cX7_talk 9 = .ok (.iload_n 2, 1) := by decide +kernel
theorem dX7_talk_10 : decode cX7_talk 10 = .ok (.invokevirtual 159, 3) := by decide +kernel
theorem dX7_talk_13 : decode cX7_talk 13 = .ok (.ifCond .eq 16, 3) := by decide +kernel
theorem dX7_talk_16 : decode cX7_talk 16 = .ok (.iload_n 1, 1) := by decide +kernel
theorem dX7_talk_17 : decode cX7_talk 17 = .ok (.iload_n 2, 1) := by decide +kernel
theorem dX7_talk_18 : decode cX7_talk 18 = .ok (.if_icmp .eq 11, 3) := by decide +kernel
theorem dX7_talk_21 : decode cX7_talk 21 = .ok (.aload_n 0, 1) := by decide +kernel
theorem dX7_talk_22 : decode cX7_talk 22 = .ok (.iload_n 3, 1) := by decide +kernel
theorem dX7_talk_23 : decode cX7_talk 23 = .ok (.invokevirtual 144, 3) := by decide +kernel
theorem dX7_talk_26 : decode cX7_talk 26 = .ok (.ifCond .ne 6, 3) := by decide +kernel
theorem dX7_talk_29 : decode cX7_talk 29 = .ok (.bipush (-2), 2) := by decide +kernel
theorem dX7_talk_31 : decode cX7_talk 31 = .ok (.ireturn, 1) := by decide +kernel
theorem dX7_talk_32 : decode cX7_talk 32 = .ok (.aload_n 0, 1) := by decide +kernel
theorem dX7_talk_33 : decode cX7_talk 33 = .ok (.invokevirtual 171, 3) := by decide +kernel
theorem dX7_talk_36 : decode cX7_talk 36 = .ok (.bipush 6, 2) := by decide +kernel
theorem dX7_talk_38 : decode cX7_talk 38 = .ok (.iload_n 1, 1) := by decide +kernel
theorem dX7_talk_39 : decode cX7_talk 39 = .ok (.imul, 1) := by decide +kernel
theorem dX7_talk_40 : decode cX7_talk 40 = .ok (.iload_n 3, 1) := by decide +kernel
theorem dX7_talk_41 : decode cX7_talk 41 = .ok (.iadd, 1) := by decide +kernel
theorem dX7_talk_42 : decode cX7_talk 42 = .ok (.istore 4, 2) := by decide +kernel
theorem dX7_talk_44 : decode cX7_talk 44 = .ok (.bipush 6, 2) := by decide +kernel
theorem dX7_talk_46 : decode cX7_talk 46 = .ok (.iload_n 2, 1) := by decide +kernel
theorem dX7_talk_47 : decode cX7_talk 47 = .ok (.imul, 1) := by decide +kernel
theorem dX7_talk_48 : decode cX7_talk 48 = .ok (.iload_n 3, 1) := by decide +kernel
theorem dX7_talk_49 : decode cX7_talk 49 = .ok (.iadd, 1) := by decide +kernel
theorem dX7_talk_50 : decode cX7_talk 50 = .ok (.istore 5, 2) := by decide +kernel
theorem dX7_talk_52 : decode cX7_talk 52 = .ok (.aload_n 0, 1) := by decide +kernel
theorem dX7_talk_53 : decode cX7_talk 53 = .ok (.getfield 7, 3) := by decide +kernel
theorem dX7_talk_56 : decode cX7_talk 56 = .ok (.bipush 61, 2) := by decide +kernel
theorem dX7_talk_58 : decode cX7_talk 58 = .ok (.iload 5, 2) := by decide +kernel
theorem dX7_talk_60 : decode cX7_talk 60 = .ok (.iadd, 1) := by decide +kernel

theorem dX6_stays_0 : decode cX6_stays 0 = .ok (.aload_n 0, 1) := by decide +kernel
theorem dX6_stays_1 : decode cX6_stays 1 = .ok (.iload_n 1, 1) := by decide +kernel
theorem dX6_stays_2 : decode cX6_stays 2 = .ok (.invokevirtual 127, 3) := by decide +kernel
theorem dX6_stays_5 : decode cX6_stays 5 = .ok (.ifCond .eq 11, 3) := by decide +kernel
theorem dX6_stays_8 : decode cX6_stays 8 = .ok (.aload_n 0, 1) := by decide +kernel
theorem dX6_stays_9 : decode cX6_stays 9 = .ok (.iload_n 2, 1) := by decide +kernel
theorem dX6_stays_10 : decode cX6_stays 10 = .ok (.invokevirtual 99, 3) := by decide +kernel
theorem dX6_stays_13 : decode cX6_stays 13 = .ok (.ifCond .ne 6, 3) := by decide +kernel
theorem dX6_stays_16 : decode cX6_stays 16 = .ok (.bipush (-2), 2) := by decide +kernel
theorem dX6_stays_18 : decode cX6_stays 18 = .ok (.ireturn, 1) := by decide +kernel
theorem dX6_stays_19 : decode cX6_stays 19 = .ok (.iload_n 3, 1) := by decide +kernel
theorem dX6_stays_20 : decode cX6_stays 20 = .ok (.ifCond .lt 20, 3) := by decide +kernel
theorem dX6_stays_23 : decode cX6_stays 23 = .ok (.iload_n 3, 1) := by decide +kernel
theorem dX6_stays_24 : decode cX6_stays 24 = .ok (.bipush 10, 2) := by decide +kernel
theorem dX6_stays_26 : decode cX6_stays 26 = .ok (.if_icmp .gt 14, 3) := by decide +kernel
theorem dX6_stays_29 : decode cX6_stays 29 = .ok (.iload 4, 2) := by decide +kernel
theorem dX6_stays_31 : decode cX6_stays 31 = .ok (.ifCond .lt 9, 3) := by decide +kernel
theorem dX6_stays_34 : decode cX6_stays 34 = .ok (.iload 4, 2) := by decide +kernel
theorem dX6_stays_36 : decode cX6_stays 36 = .ok (.iconst 1, 1) := by decide +kernel
theorem dX6_stays_37 : decode cX6_stays 37 = .ok (.if_icmp .le 6, 3) := by decide +kernel
theorem dX6_stays_40 : decode cX6_stays 40 = .ok (.bipush (-3), 2) := by decide +kernel
theorem dX6_stays_42 : decode cX6_stays 42 = .ok (.ireturn, 1) := by decide +kernel
theorem dX6_stays_43 : decode cX6_stays 43 = .ok (.aload_n 0, 1) := by decide +kernel
theorem dX6_stays_44 : decode cX6_stays 44 = .ok (.iload_n 2, 1) := by decide +kernel
theorem dX6_stays_45 : decode cX6_stays 45 = .ok (.invokevirtual 181, 3) := by decide +kernel
theorem dX6_stays_48 : decode cX6_stays 48 = .ok (.istore 5, 2) := by decide +kernel
theorem dX6_stays_50 : decode cX6_stays 50 = .ok (.aload_n 0, 1) := by decide +kernel
theorem dX6_stays_51 : decode cX6_stays 51 = .ok (.iload_n 2, 1) := by decide +kernel
theorem dX6_stays_52 : decode cX6_stays 52 = .ok (.invokevirtual 184, 3) := by decide +kernel
theorem dX6_stays_55 : decode cX6_stays 55 = .ok (.istore 6, 2) := by decide +kernel
theorem dX6_stays_57 : decode cX6_stays 57 = .ok (.iconst 0, 1) := by decide +kernel
theorem dX6_stays_58 : decode cX6_stays 58 = .ok (.istore 7, 2) := by decide +kernel
theorem dX6_stays_60 : decode cX6_stays 60 = .ok (.iconst 0, 1) := by decide +kernel
theorem dX6_stays_61 : decode cX6_stays 61 = .ok (.istore 8, 2) := by decide +kernel
theorem dX6_stays_63 : decode cX6_stays 63 = .ok (.iload 8, 2) := by decide +kernel
theorem dX6_stays_65 : decode cX6_stays 65 = .ok (.bipush 64, 2) := by decide +kernel
theorem dX6_stays_67 : decode cX6_stays 67 = .ok (.if_icmp .ge 37, 3) := by decide +kernel
theorem dX6_stays_70 : decode cX6_stays 70 = .ok (.aload_n 0, 1) := by decide +kernel
theorem dX6_stays_71 : decode cX6_stays 71 = .ok (.iload_n 1, 1) := by decide +kernel
theorem dX6_stays_72 : decode cX6_stays 72 = .ok (.iload_n 2, 1) := by decide +kernel
theorem dX6_stays_73 : decode cX6_stays 73 = .ok (.iload 8, 2) := by decide +kernel
theorem dX6_stays_75 : decode cX6_stays 75 = .ok (.iload 5, 2) := by decide +kernel
theorem dX6_stays_77 : decode cX6_stays 77 = .ok (.iand, 1) := by decide +kernel
theorem dX6_stays_78 : decode cX6_stays 78 = .ok (.iload 6, 2) := by decide +kernel
theorem dX6_stays_80 : decode cX6_stays 80 = .ok (.invokevirtual 187, 3) := by decide +kernel
theorem dX6_stays_83 : decode cX6_stays 83 = .ok (.iconst 2, 1) := by decide +kernel
theorem dX6_stays_84 : decode cX6_stays 84 = .ok (.if_icmp .lt 14, 3) := by decide +kernel
theorem dX6_stays_87 : decode cX6_stays 87 = .ok (.iload 7, 2) := by decide +kernel
theorem dX6_stays_89 : decode cX6_stays 89 = .ok (.iload 8, 2) := by decide +kernel
theorem dX6_stays_91 : decode cX6_stays 91 = .ok (.iload_n 3, 1) := by decide +kernel
theorem dX6_stays_92 : decode cX6_stays 92 = .ok (.invokestatic 215, 3) := by decide +kernel
theorem dX6_stays_95 : decode cX6_stays 95 = .ok (.iadd, 1) := by decide +kernel
theorem dX6_stays_96 : decode cX6_stays 96 = .ok (.istore 7, 2) := by decide +kernel
theorem dX6_stays_98 : decode cX6_stays 98 = .ok (.iinc 8 1, 3) := by decide +kernel
theorem dX6_stays_101 : decode cX6_stays 101 = .ok (.goto (-38), 3) := by decide +kernel
theorem dX6_stays_104 : decode cX6_stays 104 = .ok (.bipush 10, 2) := by decide +kernel
theorem dX6_stays_106 : decode cX6_stays 106 = .ok (.bipush 6, 2) := by decide +kernel
theorem dX6_stays_108 : decode cX6_stays 108 = .ok (.invokestatic 218, 3) := by decide +kernel
theorem dX6_stays_111 : decode cX6_stays 111 = .ok (.istore 8, 2) := by decide +kernel
theorem dX6_stays_113 : decode cX6_stays 113 = .ok (.iconst 1, 1) := by decide +kernel
theorem dX6_stays_114 : decode cX6_stays 114 = .ok (.iload 7, 2) := by decide +kernel
theorem dX6_stays_116 : decode cX6_stays 116 = .ok (.iload 8, 2) := by decide +kernel
theorem dX6_stays_118 : decode cX6_stays 118 = .ok (.invokestatic 221, 3) := by decide +kernel
theorem dX6_stays_121 : decode cX6_stays 121 = .ok (.invokestatic 200, 3) := by decide +kernel
theorem dX6_stays_124 : decode cX6_stays 124 = .ok (.istore 9, 2) := by decide +kernel
theorem dX6_stays_126 : decode cX6_stays 126 = .ok (.iload 4, 2) := by decide +kernel
theorem dX6_stays_128 : decode cX6_stays 128 = .ok (.ifCond .ne 11, 3) := by decide +kernel
theorem dX6_stays_131 : decode cX6_stays 131 = .ok (.iload 7, 2) := by decide +kernel
theorem dX6_stays_133 : decode cX6_stays 133 = .ok (.iload 9, 2) := by decide +kernel
theorem dX6_stays_135 : decode cX6_stays 135 = .ok (.idiv, 1) := by decide +kernel
theorem dX6_stays_136 : decode cX6_stays 136 = .ok (.goto 8, 3) := by decide +kernel
theorem dX6_stays_139 : decode cX6_stays 139 = .ok (.iload 8, 2) := by decide +kernel
theorem dX6_stays_141 : decode cX6_stays 141 = .ok (.iload 9, 2) := by decide +kernel
theorem dX6_stays_143 : decode cX6_stays 143 = .ok (.idiv, 1) := by decide +kernel
theorem dX6_stays_144 : decode cX6_stays 144 = .ok (.ireturn, 1) := by decide +kernel
theorem dX6_count_0 : decode cX6_count 0 = .ok (.iload_n 1, 1) := by decide +kernel
theorem dX6_count_1 : decode cX6_count 1 = .ok (.tableswitch 114 0 8 #[51, 59, 67, 75, 83, 88, 93, 101, 106], 51) := by decide +kernel
theorem dX6_count_52 : decode cX6_count 52 = .ok (.aload_n 0, 1) := by decide +kernel
theorem dX6_count_53 : decode cX6_count 53 = .ok (.getfield 19, 3) := by decide +kernel
theorem dX6_count_56 : decode cX6_count 56 = .ok (.getfield 194, 3) := by decide +kernel
theorem dX6_count_59 : decode cX6_count 59 = .ok (.ireturn, 1) := by decide +kernel
theorem dX6_count_60 : decode cX6_count 60 = .ok (.aload_n 0, 1) := by decide +kernel
theorem dX6_count_61 : decode cX6_count 61 = .ok (.getfield 19, 3) := by decide +kernel
theorem dX6_count_64 : decode cX6_count 64 = .ok (.getfield 68, 3) := by decide +kernel
theorem dX6_count_67 : decode cX6_count 67 = .ok (.ireturn, 1) := by decide +kernel
theorem dX6_count_68 : decode cX6_count 68 = .ok (.aload_n 0, 1) := by decide +kernel
theorem dX6_count_69 : decode cX6_count 69 = .ok (.getfield 19, 3) := by decide +kernel
theorem dX6_count_72 : decode cX6_count 72 = .ok (.getfield 71, 3) := by decide +kernel
theorem dX6_count_75 : decode cX6_count 75 = .ok (.ireturn, 1) := by decide +kernel
theorem dX6_count_76 : decode cX6_count 76 = .ok (.aload_n 0, 1) := by decide +kernel
theorem dX6_count_77 : decode cX6_count 77 = .ok (.getfield 26, 3) := by decide +kernel
theorem dX6_count_80 : decode cX6_count 80 = .ok (.invokevirtual 156, 3) := by decide +kernel
theorem dX6_count_83 : decode cX6_count 83 = .ok (.ireturn, 1) := by decide +kernel
theorem dX6_count_84 : decode cX6_count 84 = .ok (.aload_n 0, 1) := by decide +kernel
theorem dX6_count_85 : decode cX6_count 85 = .ok (.invokevirtual 224, 3) := by decide +kernel
theorem dX6_count_88 : decode cX6_count 88 = .ok (.ireturn, 1) := by decide +kernel
theorem dX6_count_89 : decode cX6_count 89 = .ok (.aload_n 0, 1) := by decide +kernel
theorem dX6_count_90 : decode cX6_count 90 = .ok (.invokevirtual 227, 3) := by decide +kernel
theorem dX6_count_93 : decode cX6_count 93 = .ok (.ireturn, 1) := by decide +kernel
theorem dX6_count_94 : decode cX6_count 94 = .ok (.aload_n 0, 1) := by decide +kernel
theorem dX6_count_95 : decode cX6_count 95 = .ok (.getfield 33, 3) := by decide +kernel
theorem dX6_count_98 : decode cX6_count 98 = .ok (.getfield 205, 3) := by decide +kernel
theorem dX6_count_101 : decode cX6_count 101 = .ok (.ireturn, 1) := by decide +kernel
theorem dX6_count_102 : decode cX6_count 102 = .ok (.aload_n 0, 1) := by decide +kernel
theorem dX6_count_103 : decode cX6_count 103 = .ok (.getfield 53, 3) := by decide +kernel
theorem dX6_count_106 : decode cX6_count 106 = .ok (.ireturn, 1) := by decide +kernel
theorem dX6_count_107 : decode cX6_count 107 = .ok (.aload_n 0, 1) := by decide +kernel
theorem dX6_count_108 : decode cX6_count 108 = .ok (.getfield 10, 3) := by decide +kernel
theorem dX6_count_111 : decode cX6_count 111 = .ok (.getfield 59, 3) := by decide +kernel
theorem dX6_count_114 : decode cX6_count 114 = .ok (.ireturn, 1) := by decide +kernel
theorem dX6_count_115 : decode cX6_count 115 = .ok (.bipush (-3), 2) := by decide +kernel
theorem dX6_count_117 : decode cX6_count 117 = .ok (.ireturn, 1) := by decide +kernel
theorem dX6_isPerson_0 : decode cX6_isPerson 0 = .ok (.iload_n 1, 1) := by decide +kernel
theorem dX6_isPerson_1 : decode cX6_isPerson 1 = .ok (.ifCond .lt 18, 3) := by decide +kernel
theorem dX6_isPerson_4 : decode cX6_isPerson 4 = .ok (.iload_n 1, 1) := by decide +kernel
theorem dX6_isPerson_5 : decode cX6_isPerson 5 = .ok (.aload_n 0, 1) := by decide +kernel
theorem dX6_isPerson_6 : decode cX6_isPerson 6 = .ok (.getfield 19, 3) := by decide +kernel
theorem dX6_isPerson_9 : decode cX6_isPerson 9 = .ok (.getfield 68, 3) := by decide +kernel
theorem dX6_isPerson_12 : decode cX6_isPerson 12 = .ok (.if_icmp .ge 7, 3) := by decide +kernel
theorem dX6_isPerson_15 : decode cX6_isPerson 15 = .ok (.iconst 1, 1) := by decide +kernel
theorem dX6_isPerson_16 : decode cX6_isPerson 16 = .ok (.goto 4, 3) := by decide +kernel
theorem dX6_isPerson_19 : decode cX6_isPerson 19 = .ok (.iconst 0, 1) := by decide +kernel
theorem dX6_isPerson_20 : decode cX6_isPerson 20 = .ok (.ireturn, 1) := by decide +kernel
theorem dX6_isBarber_0 : decode cX6_isBarber 0 = .ok (.iload_n 1, 1) := by decide +kernel
theorem dX6_isBarber_1 : decode cX6_isBarber 1 = .ok (.ifCond .lt 18, 3) := by decide +kernel
theorem dX6_isBarber_4 : decode cX6_isBarber 4 = .ok (.iload_n 1, 1) := by decide +kernel
theorem dX6_isBarber_5 : decode cX6_isBarber 5 = .ok (.aload_n 0, 1) := by decide +kernel
theorem dX6_isBarber_6 : decode cX6_isBarber 6 = .ok (.getfield 19, 3) := by decide +kernel
theorem dX6_isBarber_9 : decode cX6_isBarber 9 = .ok (.getfield 194, 3) := by decide +kernel
theorem dX6_isBarber_12 : decode cX6_isBarber 12 = .ok (.if_icmp .ge 7, 3) := by decide +kernel
theorem dX6_isBarber_15 : decode cX6_isBarber 15 = .ok (.iconst 1, 1) := by decide +kernel
theorem dX6_isBarber_16 : decode cX6_isBarber 16 = .ok (.goto 4, 3) := by decide +kernel
theorem dX6_isBarber_19 : decode cX6_isBarber 19 = .ok (.iconst 0, 1) := by decide +kernel
theorem dX6_isBarber_20 : decode cX6_isBarber 20 = .ok (.ireturn, 1) := by decide +kernel
theorem dX6_isRumour_0 : decode cX6_isRumour 0 = .ok (.iload_n 1, 1) := by decide +kernel
theorem dX6_isRumour_1 : decode cX6_isRumour 1 = .ok (.ifCond .lt 18, 3) := by decide +kernel
theorem dX6_isRumour_4 : decode cX6_isRumour 4 = .ok (.iload_n 1, 1) := by decide +kernel
theorem dX6_isRumour_5 : decode cX6_isRumour 5 = .ok (.aload_n 0, 1) := by decide +kernel
theorem dX6_isRumour_6 : decode cX6_isRumour 6 = .ok (.getfield 19, 3) := by decide +kernel
theorem dX6_isRumour_9 : decode cX6_isRumour 9 = .ok (.getfield 71, 3) := by decide +kernel
theorem dX6_isRumour_12 : decode cX6_isRumour 12 = .ok (.if_icmp .ge 7, 3) := by decide +kernel
theorem dX6_isRumour_15 : decode cX6_isRumour 15 = .ok (.iconst 1, 1) := by decide +kernel
theorem dX6_isRumour_16 : decode cX6_isRumour 16 = .ok (.goto 4, 3) := by decide +kernel
theorem dX6_isRumour_19 : decode cX6_isRumour 19 = .ok (.iconst 0, 1) := by decide +kernel
theorem dX6_isRumour_20 : decode cX6_isRumour 20 = .ok (.ireturn, 1) := by decide +kernel
theorem dX6_isStrip_0 : decode cX6_isStrip 0 = .ok (.iload_n 0, 1) := by decide +kernel
theorem dX6_isStrip_1 : decode cX6_isStrip 1 = .ok (.ifCond .lt 13, 3) := by decide +kernel
theorem dX6_isStrip_4 : decode cX6_isStrip 4 = .ok (.iload_n 0, 1) := by decide +kernel
theorem dX6_isStrip_5 : decode cX6_isStrip 5 = .ok (.bipush 6, 2) := by decide +kernel
theorem dX6_isStrip_7 : decode cX6_isStrip 7 = .ok (.if_icmp .ge 7, 3) := by decide +kernel
theorem dX6_isStrip_10 : decode cX6_isStrip 10 = .ok (.iconst 1, 1) := by decide +kernel
theorem dX6_isStrip_11 : decode cX6_isStrip 11 = .ok (.goto 4, 3) := by decide +kernel
theorem dX6_isStrip_14 : decode cX6_isStrip 14 = .ok (.iconst 0, 1) := by decide +kernel
theorem dX6_isStrip_15 : decode cX6_isStrip 15 = .ok (.ireturn, 1) := by decide +kernel
theorem dX6_isSuch_0 : decode cX6_isSuch 0 = .ok (.iload_n 1, 1) := by decide +kernel
theorem dX6_isSuch_1 : decode cX6_isSuch 1 = .ok (.ifCond .ne 5, 3) := by decide +kernel
theorem dX6_isSuch_4 : decode cX6_isSuch 4 = .ok (.iconst 1, 1) := by decide +kernel
theorem dX6_isSuch_5 : decode cX6_isSuch 5 = .ok (.ireturn, 1) := by decide +kernel
theorem dX6_isSuch_6 : decode cX6_isSuch 6 = .ok (.iload_n 1, 1) := by decide +kernel
theorem dX6_isSuch_7 : decode cX6_isSuch 7 = .ok (.iconst 1, 1) := by decide +kernel
theorem dX6_isSuch_8 : decode cX6_isSuch 8 = .ok (.if_icmp .ne 14, 3) := by decide +kernel
theorem dX6_isSuch_11 : decode cX6_isSuch 11 = .ok (.iload_n 0, 1) := by decide +kernel
theorem dX6_isSuch_12 : decode cX6_isSuch 12 = .ok (.iconst 3, 1) := by decide +kernel
theorem dX6_isSuch_13 : decode cX6_isSuch 13 = .ok (.if_icmp .eq 7, 3) := by decide +kernel
theorem dX6_isSuch_16 : decode cX6_isSuch 16 = .ok (.iconst 1, 1) := by decide +kernel
theorem dX6_isSuch_17 : decode cX6_isSuch 17 = .ok (.goto 4, 3) := by decide +kernel
theorem dX6_isSuch_20 : decode cX6_isSuch 20 = .ok (.iconst 0, 1) := by decide +kernel
theorem dX6_isSuch_21 : decode cX6_isSuch 21 = .ok (.ireturn, 1) := by decide +kernel
theorem dX6_isSuch_22 : decode cX6_isSuch 22 = .ok (.iload_n 0, 1) := by decide +kernel
theorem dX6_isSuch_23 : decode cX6_isSuch 23 = .ok (.iload_n 1, 1) := by decide +kernel
theorem dX6_isSuch_24 : decode cX6_isSuch 24 = .ok (.iconst 1, 1) := by decide +kernel
theorem dX6_isSuch_25 : decode cX6_isSuch 25 = .ok (.isub, 1) := by decide +kernel
theorem dX6_isSuch_26 : decode cX6_isSuch 26 = .ok (.if_icmp .ne 7, 3) := by decide +kernel
theorem dX6_isSuch_29 : decode cX6_isSuch 29 = .ok (.iconst 1, 1) := by decide +kernel
theorem dX6_isSuch_30 : decode cX6_isSuch 30 = .ok (.goto 4, 3) := by decide +kernel
theorem dX6_isSuch_33 : decode cX6_isSuch 33 = .ok (.iconst 0, 1) := by decide +kernel
theorem dX6_isSuch_34 : decode cX6_isSuch 34 = .ok (.ireturn, 1) := by decide +kernel
theorem dX6_allBeards_0 : decode cX6_allBeards 0 = .ok (.iconst 0, 1) := by decide +kernel
theorem dX6_allBeards_1 : decode cX6_allBeards 1 = .ok (.istore_n 1, 1) := by decide +kernel
theorem dX6_allBeards_2 : decode cX6_allBeards 2 = .ok (.iconst 0, 1) := by decide +kernel
theorem dX6_allBeards_3 : decode cX6_allBeards 3 = .ok (.istore_n 2, 1) := by decide +kernel
theorem dX6_allBeards_4 : decode cX6_allBeards 4 = .ok (.iload_n 2, 1) := by decide +kernel
theorem dX6_allBeards_5 : decode cX6_allBeards 5 = .ok (.aload_n 0, 1) := by decide +kernel
theorem dX6_allBeards_6 : decode cX6_allBeards 6 = .ok (.getfield 19, 3) := by decide +kernel
theorem dX6_allBeards_9 : decode cX6_allBeards 9 = .ok (.getfield 68, 3) := by decide +kernel
theorem dX6_allBeards_12 : decode cX6_allBeards 12 = .ok (.if_icmp .ge 20, 3) := by decide +kernel
theorem dX6_allBeards_15 : decode cX6_allBeards 15 = .ok (.iload_n 1, 1) := by decide +kernel
theorem dX6_allBeards_16 : decode cX6_allBeards 16 = .ok (.aload_n 0, 1) := by decide +kernel
theorem dX6_allBeards_17 : decode cX6_allBeards 17 = .ok (.getfield 26, 3) := by decide +kernel
theorem dX6_allBeards_20 : decode cX6_allBeards 20 = .ok (.iload_n 2, 1) := by decide +kernel
theorem dX6_allBeards_21 : decode cX6_allBeards 21 = .ok (.invokevirtual 112, 3) := by decide +kernel
theorem dX6_allBeards_24 : decode cX6_allBeards 24 = .ok (.iadd, 1) := by decide +kernel
theorem dX6_allBeards_25 : decode cX6_allBeards 25 = .ok (.istore_n 1, 1) := by decide +kernel
theorem dX6_allBeards_26 : decode cX6_allBeards 26 = .ok (.iinc 2 1, 3) := by decide +kernel
theorem dX6_allBeards_29 : decode cX6_allBeards 29 = .ok (.goto (-25), 3) := by decide +kernel
theorem dX6_allBeards_32 : decode cX6_allBeards 32 = .ok (.iload_n 1, 1) := by decide +kernel
theorem dX6_allBeards_33 : decode cX6_allBeards 33 = .ok (.ireturn, 1) := by decide +kernel
theorem dX6_allStripsKnown_0 : decode cX6_allStripsKnown 0 = .ok (.iconst 0, 1) := by decide +kernel
theorem dX6_allStripsKnown_1 : decode cX6_allStripsKnown 1 = .ok (.istore_n 1, 1) := by decide +kernel
theorem dX6_allStripsKnown_2 : decode cX6_allStripsKnown 2 = .ok (.iconst 0, 1) := by decide +kernel
theorem dX6_allStripsKnown_3 : decode cX6_allStripsKnown 3 = .ok (.istore_n 2, 1) := by decide +kernel
theorem dX6_allStripsKnown_4 : decode cX6_allStripsKnown 4 = .ok (.iload_n 2, 1) := by decide +kernel
theorem dX6_allStripsKnown_5 : decode cX6_allStripsKnown 5 = .ok (.aload_n 0, 1) := by decide +kernel
theorem dX6_allStripsKnown_6 : decode cX6_allStripsKnown 6 = .ok (.getfield 19, 3) := by decide +kernel
theorem dX6_allStripsKnown_9 : decode cX6_allStripsKnown 9 = .ok (.getfield 194, 3) := by decide +kernel
theorem dX6_allStripsKnown_12 : decode cX6_allStripsKnown 12 = .ok (.if_icmp .ge 43, 3) := by decide +kernel
theorem dX6_allStripsKnown_15 : decode cX6_allStripsKnown 15 = .ok (.iconst 0, 1) := by decide +kernel
theorem dX6_allStripsKnown_16 : decode cX6_allStripsKnown 16 = .ok (.istore_n 3, 1) := by decide +kernel
theorem dX6_allStripsKnown_17 : decode cX6_allStripsKnown 17 = .ok (.iload_n 3, 1) := by decide +kernel
theorem dX6_allStripsKnown_18 : decode cX6_allStripsKnown 18 = .ok (.aload_n 0, 1) := by decide +kernel
theorem dX6_allStripsKnown_19 : decode cX6_allStripsKnown 19 = .ok (.getfield 19, 3) := by decide +kernel
theorem dX6_allStripsKnown_22 : decode cX6_allStripsKnown 22 = .ok (.getfield 68, 3) := by decide +kernel
theorem dX6_allStripsKnown_25 : decode cX6_allStripsKnown 25 = .ok (.if_icmp .ge 24, 3) := by decide +kernel
theorem dX6_allStripsKnown_28 : decode cX6_allStripsKnown 28 = .ok (.iload_n 1, 1) := by decide +kernel
theorem dX6_allStripsKnown_29 : decode cX6_allStripsKnown 29 = .ok (.aload_n 0, 1) := by decide +kernel
theorem dX6_allStripsKnown_30 : decode cX6_allStripsKnown 30 = .ok (.getfield 26, 3) := by decide +kernel
theorem dX6_allStripsKnown_33 : decode cX6_allStripsKnown 33 = .ok (.iload_n 2, 1) := by decide +kernel
theorem dX6_allStripsKnown_34 : decode cX6_allStripsKnown 34 = .ok (.iload_n 3, 1) := by decide +kernel
theorem dX6_allStripsKnown_35 : decode cX6_allStripsKnown 35 = .ok (.invokevirtual 130, 3) := by decide +kernel
theorem dX6_allStripsKnown_38 : decode cX6_allStripsKnown 38 = .ok (.invokestatic 163, 3) := by decide +kernel
theorem dX6_allStripsKnown_41 : decode cX6_allStripsKnown 41 = .ok (.iadd, 1) := by decide +kernel
theorem dX6_allStripsKnown_42 : decode cX6_allStripsKnown 42 = .ok (.istore_n 1, 1) := by decide +kernel
theorem dX6_allStripsKnown_43 : decode cX6_allStripsKnown 43 = .ok (.iinc 3 1, 3) := by decide +kernel
theorem dX6_allStripsKnown_46 : decode cX6_allStripsKnown 46 = .ok (.goto (-29), 3) := by decide +kernel
theorem dX6_allStripsKnown_49 : decode cX6_allStripsKnown 49 = .ok (.iinc 2 1, 3) := by decide +kernel
theorem dX6_allStripsKnown_52 : decode cX6_allStripsKnown 52 = .ok (.goto (-48), 3) := by decide +kernel
theorem dX6_allStripsKnown_55 : decode cX6_allStripsKnown 55 = .ok (.iload_n 1, 1) := by decide +kernel
theorem dX6_allStripsKnown_56 : decode cX6_allStripsKnown 56 = .ok (.ireturn, 1) := by decide +kernel
theorem dX6_telling_0 : decode cX6_telling 0 = .ok (.iload_n 0, 1) := by decide +kernel
theorem dX6_telling_1 : decode cX6_telling 1 = .ok (.tableswitch 62 1 3 #[27, 38, 49], 27) := by decide +kernel
theorem dX6_telling_28 : decode cX6_telling 28 = .ok (.iload_n 2, 1) := by decide +kernel
theorem dX6_telling_29 : decode cX6_telling 29 = .ok (.iconst 3, 1) := by decide +kernel
theorem dX6_telling_30 : decode cX6_telling 30 = .ok (.if_icmp .ge 7, 3) := by decide +kernel
theorem dX6_telling_33 : decode cX6_telling 33 = .ok (.iconst (-1), 1) := by decide +kernel
theorem dX6_telling_34 : decode cX6_telling 34 = .ok (.goto 4, 3) := by decide +kernel
theorem dX6_telling_37 : decode cX6_telling 37 = .ok (.iload_n 3, 1) := by decide +kernel
theorem dX6_telling_38 : decode cX6_telling 38 = .ok (.ireturn, 1) := by decide +kernel
theorem dX6_telling_39 : decode cX6_telling 39 = .ok (.iload_n 1, 1) := by decide +kernel
theorem dX6_telling_40 : decode cX6_telling 40 = .ok (.iconst 2, 1) := by decide +kernel
theorem dX6_telling_41 : decode cX6_telling 41 = .ok (.if_icmp .ne 7, 3) := by decide +kernel
theorem dX6_telling_44 : decode cX6_telling 44 = .ok (.iconst (-1), 1) := by decide +kernel
theorem dX6_telling_45 : decode cX6_telling 45 = .ok (.goto 4, 3) := by decide +kernel
theorem dX6_telling_48 : decode cX6_telling 48 = .ok (.iload_n 3, 1) := by decide +kernel
theorem dX6_telling_49 : decode cX6_telling 49 = .ok (.ireturn, 1) := by decide +kernel
theorem dX6_telling_50 : decode cX6_telling 50 = .ok (.iload_n 2, 1) := by decide +kernel
theorem dX6_telling_51 : decode cX6_telling 51 = .ok (.iconst 5, 1) := by decide +kernel
theorem dX6_telling_52 : decode cX6_telling 52 = .ok (.if_icmp .ge 7, 3) := by decide +kernel
theorem dX6_telling_55 : decode cX6_telling 55 = .ok (.iload_n 3, 1) := by decide +kernel
theorem dX6_telling_56 : decode cX6_telling 56 = .ok (.goto 6, 3) := by decide +kernel
theorem dX6_telling_59 : decode cX6_telling 59 = .ok (.iconst 1, 1) := by decide +kernel
theorem dX6_telling_60 : decode cX6_telling 60 = .ok (.iload_n 3, 1) := by decide +kernel
theorem dX6_telling_61 : decode cX6_telling 61 = .ok (.isub, 1) := by decide +kernel
theorem dX6_telling_62 : decode cX6_telling 62 = .ok (.ireturn, 1) := by decide +kernel
theorem dX6_telling_63 : decode cX6_telling 63 = .ok (.iload_n 3, 1) := by decide +kernel
theorem dX6_telling_64 : decode cX6_telling 64 = .ok (.ireturn, 1) := by decide +kernel
theorem dX6_tellsNow_0 : decode cX6_tellsNow 0 = .ok (.aload_n 0, 1) := by decide +kernel
theorem dX6_tellsNow_1 : decode cX6_tellsNow 1 = .ok (.getfield 19, 3) := by decide +kernel
theorem dX6_tellsNow_4 : decode cX6_tellsNow 4 = .ok (.iload_n 1, 1) := by decide +kernel
theorem dX6_tellsNow_5 : decode cX6_tellsNow 5 = .ok (.iload_n 2, 1) := by decide +kernel
theorem dX6_tellsNow_6 : decode cX6_tellsNow 6 = .ok (.aload_n 0, 1) := by decide +kernel
theorem dX6_tellsNow_7 : decode cX6_tellsNow 7 = .ok (.getfield 26, 3) := by decide +kernel
theorem dX6_tellsNow_10 : decode cX6_tellsNow 10 = .ok (.iload_n 1, 1) := by decide +kernel
theorem dX6_tellsNow_11 : decode cX6_tellsNow 11 = .ok (.iload_n 2, 1) := by decide +kernel
theorem dX6_tellsNow_12 : decode cX6_tellsNow 12 = .ok (.invokevirtual 118, 3) := by decide +kernel
theorem dX6_tellsNow_15 : decode cX6_tellsNow 15 = .ok (.invokevirtual 230, 3) := by decide +kernel
theorem dX6_tellsNow_18 : decode cX6_tellsNow 18 = .ok (.ireturn, 1) := by decide +kernel
theorem dX6_stripsTelling_0 : decode cX6_stripsTelling 0 = .ok (.iconst 0, 1) := by decide +kernel
theorem dX6_stripsTelling_1 : decode cX6_stripsTelling 1 = .ok (.istore_n 2, 1) := by decide +kernel
theorem dX6_stripsTelling_2 : decode cX6_stripsTelling 2 = .ok (.iconst 0, 1) := by decide +kernel
theorem dX6_stripsTelling_3 : decode cX6_stripsTelling 3 = .ok (.istore_n 3, 1) := by decide +kernel
theorem dX6_stripsTelling_4 : decode cX6_stripsTelling 4 = .ok (.iload_n 3, 1) := by decide +kernel
theorem dX6_stripsTelling_5 : decode cX6_stripsTelling 5 = .ok (.bipush 6, 2) := by decide +kernel
theorem dX6_stripsTelling_7 : decode cX6_stripsTelling 7 = .ok (.if_icmp .ge 25, 3) := by decide +kernel
theorem dX6_stripsTelling_10 : decode cX6_stripsTelling 10 = .ok (.aload_n 0, 1) := by decide +kernel
theorem dX6_stripsTelling_11 : decode cX6_stripsTelling 11 = .ok (.iload_n 1, 1) := by decide +kernel
theorem dX6_stripsTelling_12 : decode cX6_stripsTelling 12 = .ok (.iload_n 3, 1) := by decide +kernel
theorem dX6_stripsTelling_13 : decode cX6_stripsTelling 13 = .ok (.invokevirtual 143, 3) := by decide +kernel
theorem dX6_stripsTelling_16 : decode cX6_stripsTelling 16 = .ok (.iconst (-1), 1) := by decide +kernel
theorem dX6_stripsTelling_17 : decode cX6_stripsTelling 17 = .ok (.if_icmp .eq 9, 3) := by decide +kernel
theorem dX6_stripsTelling_20 : decode cX6_stripsTelling 20 = .ok (.iload_n 2, 1) := by decide +kernel
theorem dX6_stripsTelling_21 : decode cX6_stripsTelling 21 = .ok (.iconst 1, 1) := by decide +kernel
theorem dX6_stripsTelling_22 : decode cX6_stripsTelling 22 = .ok (.iload_n 3, 1) := by decide +kernel
theorem dX6_stripsTelling_23 : decode cX6_stripsTelling 23 = .ok (.ishl, 1) := by decide +kernel
theorem dX6_stripsTelling_24 : decode cX6_stripsTelling 24 = .ok (.ior, 1) := by decide +kernel
theorem dX6_stripsTelling_25 : decode cX6_stripsTelling 25 = .ok (.istore_n 2, 1) := by decide +kernel
theorem dX6_stripsTelling_26 : decode cX6_stripsTelling 26 = .ok (.iinc 3 1, 3) := by decide +kernel
theorem dX6_stripsTelling_29 : decode cX6_stripsTelling 29 = .ok (.goto (-25), 3) := by decide +kernel
theorem dX6_stripsTelling_32 : decode cX6_stripsTelling 32 = .ok (.iload_n 2, 1) := by decide +kernel
theorem dX6_stripsTelling_33 : decode cX6_stripsTelling 33 = .ok (.ireturn, 1) := by decide +kernel
theorem dX6_partsTold_0 : decode cX6_partsTold 0 = .ok (.iconst 0, 1) := by decide +kernel
theorem dX6_partsTold_1 : decode cX6_partsTold 1 = .ok (.istore_n 2, 1) := by decide +kernel
theorem dX6_partsTold_2 : decode cX6_partsTold 2 = .ok (.iconst 0, 1) := by decide +kernel
theorem dX6_partsTold_3 : decode cX6_partsTold 3 = .ok (.istore_n 3, 1) := by decide +kernel
theorem dX6_partsTold_4 : decode cX6_partsTold 4 = .ok (.iload_n 3, 1) := by decide +kernel
theorem dX6_partsTold_5 : decode cX6_partsTold 5 = .ok (.bipush 6, 2) := by decide +kernel
theorem dX6_partsTold_7 : decode cX6_partsTold 7 = .ok (.if_icmp .ge 25, 3) := by decide +kernel
theorem dX6_partsTold_10 : decode cX6_partsTold 10 = .ok (.aload_n 0, 1) := by decide +kernel
theorem dX6_partsTold_11 : decode cX6_partsTold 11 = .ok (.iload_n 1, 1) := by decide +kernel
theorem dX6_partsTold_12 : decode cX6_partsTold 12 = .ok (.iload_n 3, 1) := by decide +kernel
theorem dX6_partsTold_13 : decode cX6_partsTold 13 = .ok (.invokevirtual 143, 3) := by decide +kernel
theorem dX6_partsTold_16 : decode cX6_partsTold 16 = .ok (.iconst 1, 1) := by decide +kernel
theorem dX6_partsTold_17 : decode cX6_partsTold 17 = .ok (.if_icmp .ne 9, 3) := by decide +kernel
theorem dX6_partsTold_20 : decode cX6_partsTold 20 = .ok (.iload_n 2, 1) := by decide +kernel
theorem dX6_partsTold_21 : decode cX6_partsTold 21 = .ok (.iconst 1, 1) := by decide +kernel
theorem dX6_partsTold_22 : decode cX6_partsTold 22 = .ok (.iload_n 3, 1) := by decide +kernel
theorem dX6_partsTold_23 : decode cX6_partsTold 23 = .ok (.ishl, 1) := by decide +kernel
theorem dX6_partsTold_24 : decode cX6_partsTold 24 = .ok (.ior, 1) := by decide +kernel
theorem dX6_partsTold_25 : decode cX6_partsTold 25 = .ok (.istore_n 2, 1) := by decide +kernel
theorem dX6_partsTold_26 : decode cX6_partsTold 26 = .ok (.iinc 3 1, 3) := by decide +kernel
theorem dX6_partsTold_29 : decode cX6_partsTold 29 = .ok (.goto (-25), 3) := by decide +kernel
theorem dX6_partsTold_32 : decode cX6_partsTold 32 = .ok (.iload_n 2, 1) := by decide +kernel
theorem dX6_partsTold_33 : decode cX6_partsTold 33 = .ok (.ireturn, 1) := by decide +kernel
theorem dX6_fittingBehind_0 : decode cX6_fittingBehind 0 = .ok (.aload_n 0, 1) := by decide +kernel
theorem dX6_fittingBehind_1 : decode cX6_fittingBehind 1 = .ok (.getfield 26, 3) := by decide +kernel
theorem dX6_fittingBehind_4 : decode cX6_fittingBehind 4 = .ok (.iload_n 1, 1) := by decide +kernel
theorem dX6_fittingBehind_5 : decode cX6_fittingBehind 5 = .ok (.iload_n 2, 1) := by decide +kernel
theorem dX6_fittingBehind_6 : decode cX6_fittingBehind 6 = .ok (.invokevirtual 130, 3) := by decide +kernel
theorem dX6_fittingBehind_9 : decode cX6_fittingBehind 9 = .ok (.iload_n 3, 1) := by decide +kernel
theorem dX6_fittingBehind_10 : decode cX6_fittingBehind 10 = .ok (.ior, 1) := by decide +kernel
theorem dX6_fittingBehind_11 : decode cX6_fittingBehind 11 = .ok (.istore 5, 2) := by decide +kernel
theorem dX6_fittingBehind_13 : decode cX6_fittingBehind 13 = .ok (.aload_n 0, 1) := by decide +kernel
theorem dX6_fittingBehind_14 : decode cX6_fittingBehind 14 = .ok (.getfield 26, 3) := by decide +kernel
theorem dX6_fittingBehind_17 : decode cX6_fittingBehind 17 = .ok (.iload_n 1, 1) := by decide +kernel
theorem dX6_fittingBehind_18 : decode cX6_fittingBehind 18 = .ok (.iload_n 2, 1) := by decide +kernel
theorem dX6_fittingBehind_19 : decode cX6_fittingBehind 19 = .ok (.invokevirtual 133, 3) := by decide +kernel
theorem dX6_fittingBehind_22 : decode cX6_fittingBehind 22 = .ok (.iload_n 3, 1) := by decide +kernel
theorem dX6_fittingBehind_23 : decode cX6_fittingBehind 23 = .ok (.iload 4, 2) := by decide +kernel
theorem dX6_fittingBehind_25 : decode cX6_fittingBehind 25 = .ok (.invokestatic 234, 3) := by decide +kernel
theorem dX6_fittingBehind_28 : decode cX6_fittingBehind 28 = .ok (.istore 6, 2) := by decide +kernel
theorem dX6_fittingBehind_30 : decode cX6_fittingBehind 30 = .ok (.aload_n 0, 1) := by decide +kernel
theorem dX6_fittingBehind_31 : decode cX6_fittingBehind 31 = .ok (.getfield 19, 3) := by decide +kernel
theorem dX6_fittingBehind_34 : decode cX6_fittingBehind 34 = .ok (.iload 5, 2) := by decide +kernel
theorem dX6_fittingBehind_36 : decode cX6_fittingBehind 36 = .ok (.iload 6, 2) := by decide +kernel
theorem dX6_fittingBehind_38 : decode cX6_fittingBehind 38 = .ok (.invokevirtual 136, 3) := by decide +kernel
theorem dX6_fittingBehind_41 : decode cX6_fittingBehind 41 = .ok (.invokestatic 163, 3) := by decide +kernel
theorem dX6_fittingBehind_44 : decode cX6_fittingBehind 44 = .ok (.ireturn, 1) := by decide +kernel
theorem dX6_fittingTogether_0 : decode cX6_fittingTogether 0 = .ok (.iconst 0, 1) := by decide +kernel
theorem dX6_fittingTogether_1 : decode cX6_fittingTogether 1 = .ok (.istore_n 3, 1) := by decide +kernel
theorem dX6_fittingTogether_2 : decode cX6_fittingTogether 2 = .ok (.iconst 0, 1) := by decide +kernel
theorem dX6_fittingTogether_3 : decode cX6_fittingTogether 3 = .ok (.istore 4, 2) := by decide +kernel
theorem dX6_fittingTogether_5 : decode cX6_fittingTogether 5 = .ok (.iconst 0, 1) := by decide +kernel
theorem dX6_fittingTogether_6 : decode cX6_fittingTogether 6 = .ok (.istore 5, 2) := by decide +kernel
theorem dX6_fittingTogether_8 : decode cX6_fittingTogether 8 = .ok (.iload 5, 2) := by decide +kernel
theorem dX6_fittingTogether_10 : decode cX6_fittingTogether 10 = .ok (.aload_n 0, 1) := by decide +kernel
theorem dX6_fittingTogether_11 : decode cX6_fittingTogether 11 = .ok (.getfield 19, 3) := by decide +kernel
theorem dX6_fittingTogether_14 : decode cX6_fittingTogether 14 = .ok (.getfield 194, 3) := by decide +kernel
theorem dX6_fittingTogether_17 : decode cX6_fittingTogether 17 = .ok (.if_icmp .ge 58, 3) := by decide +kernel
theorem dX6_fittingTogether_20 : decode cX6_fittingTogether 20 = .ok (.iload_n 1, 1) := by decide +kernel
theorem dX6_fittingTogether_21 : decode cX6_fittingTogether 21 = .ok (.iload 5, 2) := by decide +kernel
theorem dX6_fittingTogether_23 : decode cX6_fittingTogether 23 = .ok (.invokestatic 178, 3) := by decide +kernel
theorem dX6_fittingTogether_26 : decode cX6_fittingTogether 26 = .ok (.ifCond .eq 43, 3) := by decide +kernel
theorem dX6_fittingTogether_29 : decode cX6_fittingTogether 29 = .ok (.aload_n 0, 1) := by decide +kernel
theorem dX6_fittingTogether_30 : decode cX6_fittingTogether 30 = .ok (.getfield 26, 3) := by decide +kernel
theorem dX6_fittingTogether_33 : decode cX6_fittingTogether 33 = .ok (.iload 5, 2) := by decide +kernel
theorem dX6_fittingTogether_35 : decode cX6_fittingTogether 35 = .ok (.iload_n 2, 1) := by decide +kernel
theorem dX6_fittingTogether_36 : decode cX6_fittingTogether 36 = .ok (.invokevirtual 130, 3) := by decide +kernel
theorem dX6_fittingTogether_39 : decode cX6_fittingTogether 39 = .ok (.iload_n 3, 1) := by decide +kernel
theorem dX6_fittingTogether_40 : decode cX6_fittingTogether 40 = .ok (.iconst (-1), 1) := by decide +kernel
theorem dX6_fittingTogether_41 : decode cX6_fittingTogether 41 = .ok (.ixor, 1) := by decide +kernel
theorem dX6_fittingTogether_42 : decode cX6_fittingTogether 42 = .ok (.iand, 1) := by decide +kernel
theorem dX6_fittingTogether_43 : decode cX6_fittingTogether 43 = .ok (.istore 6, 2) := by decide +kernel
theorem dX6_fittingTogether_45 : decode cX6_fittingTogether 45 = .ok (.iload 4, 2) := by decide +kernel
theorem dX6_fittingTogether_47 : decode cX6_fittingTogether 47 = .ok (.iload 6, 2) := by decide +kernel
theorem dX6_fittingTogether_49 : decode cX6_fittingTogether 49 = .ok (.aload_n 0, 1) := by decide +kernel
theorem dX6_fittingTogether_50 : decode cX6_fittingTogether 50 = .ok (.getfield 26, 3) := by decide +kernel
theorem dX6_fittingTogether_53 : decode cX6_fittingTogether 53 = .ok (.iload 5, 2) := by decide +kernel
theorem dX6_fittingTogether_55 : decode cX6_fittingTogether 55 = .ok (.iload_n 2, 1) := by decide +kernel
theorem dX6_fittingTogether_56 : decode cX6_fittingTogether 56 = .ok (.invokevirtual 133, 3) := by decide +kernel
theorem dX6_fittingTogether_59 : decode cX6_fittingTogether 59 = .ok (.invokestatic 234, 3) := by decide +kernel
theorem dX6_fittingTogether_62 : decode cX6_fittingTogether 62 = .ok (.istore 4, 2) := by decide +kernel
theorem dX6_fittingTogether_64 : decode cX6_fittingTogether 64 = .ok (.iload_n 3, 1) := by decide +kernel
theorem dX6_fittingTogether_65 : decode cX6_fittingTogether 65 = .ok (.iload 6, 2) := by decide +kernel
theorem dX6_fittingTogether_67 : decode cX6_fittingTogether 67 = .ok (.ior, 1) := by decide +kernel
theorem dX6_fittingTogether_68 : decode cX6_fittingTogether 68 = .ok (.istore_n 3, 1) := by decide +kernel
theorem dX6_fittingTogether_69 : decode cX6_fittingTogether 69 = .ok (.iinc 5 1, 3) := by decide +kernel
theorem dX6_fittingTogether_72 : decode cX6_fittingTogether 72 = .ok (.goto (-64), 3) := by decide +kernel
theorem dX6_fittingTogether_75 : decode cX6_fittingTogether 75 = .ok (.aload_n 0, 1) := by decide +kernel
theorem dX6_fittingTogether_76 : decode cX6_fittingTogether 76 = .ok (.getfield 19, 3) := by decide +kernel
theorem dX6_fittingTogether_79 : decode cX6_fittingTogether 79 = .ok (.iload_n 3, 1) := by decide +kernel
theorem dX6_fittingTogether_80 : decode cX6_fittingTogether 80 = .ok (.iload 4, 2) := by decide +kernel
theorem dX6_fittingTogether_82 : decode cX6_fittingTogether 82 = .ok (.invokevirtual 136, 3) := by decide +kernel
theorem dX6_fittingTogether_85 : decode cX6_fittingTogether 85 = .ok (.ireturn, 1) := by decide +kernel
theorem dX6_rememberForUndo_0 : decode cX6_rememberForUndo 0 = .ok (.aload_n 0, 1) := by decide +kernel
theorem dX6_rememberForUndo_1 : decode cX6_rememberForUndo 1 = .ok (.aload_n 0, 1) := by decide +kernel
theorem dX6_rememberForUndo_2 : decode cX6_rememberForUndo 2 = .ok (.getfield 49, 3) := by decide +kernel
theorem dX6_rememberForUndo_5 : decode cX6_rememberForUndo 5 = .ok (.bipush 7, 2) := by decide +kernel
theorem dX6_rememberForUndo_7 : decode cX6_rememberForUndo 7 = .ok (.if_icmp .lt 7, 3) := by decide +kernel
theorem dX6_rememberForUndo_10 : decode cX6_rememberForUndo 10 = .ok (.iconst 0, 1) := by decide +kernel
theorem dX6_rememberForUndo_11 : decode cX6_rememberForUndo 11 = .ok (.goto 9, 3) := by decide +kernel
theorem dX6_rememberForUndo_14 : decode cX6_rememberForUndo 14 = .ok (.aload_n 0, 1) := by decide +kernel
theorem dX6_rememberForUndo_15 : decode cX6_rememberForUndo 15 = .ok (.getfield 49, 3) := by decide +kernel
theorem dX6_rememberForUndo_18 : decode cX6_rememberForUndo 18 = .ok (.iconst 1, 1) := by decide +kernel
theorem dX6_rememberForUndo_19 : decode cX6_rememberForUndo 19 = .ok (.iadd, 1) := by decide +kernel
theorem dX6_rememberForUndo_20 : decode cX6_rememberForUndo 20 = .ok (.putfield 49, 3) := by decide +kernel
theorem dX6_rememberForUndo_23 : decode cX6_rememberForUndo 23 = .ok (.aload_n 0, 1) := by decide +kernel
theorem dX6_rememberForUndo_24 : decode cX6_rememberForUndo 24 = .ok (.getfield 42, 3) := by decide +kernel
theorem dX6_rememberForUndo_27 : decode cX6_rememberForUndo 27 = .ok (.aload_n 0, 1) := by decide +kernel
theorem dX6_rememberForUndo_28 : decode cX6_rememberForUndo 28 = .ok (.getfield 49, 3) := by decide +kernel
theorem dX6_rememberForUndo_31 : decode cX6_rememberForUndo 31 = .ok (.aload_n 0, 1) := by decide +kernel
theorem dX6_rememberForUndo_32 : decode cX6_rememberForUndo 32 = .ok (.getfield 26, 3) := by decide +kernel
theorem dX6_rememberForUndo_35 : decode cX6_rememberForUndo 35 = .ok (.invokevirtual 175, 3) := by decide +kernel
theorem dX6_rememberForUndo_38 : decode cX6_rememberForUndo 38 = .ok (.aload_n 0, 1) := by decide +kernel
theorem dX6_rememberForUndo_39 : decode cX6_rememberForUndo 39 = .ok (.bipush 8, 2) := by decide +kernel
theorem dX6_rememberForUndo_41 : decode cX6_rememberForUndo 41 = .ok (.aload_n 0, 1) := by decide +kernel
theorem dX6_rememberForUndo_42 : decode cX6_rememberForUndo 42 = .ok (.getfield 53, 3) := by decide +kernel
theorem dX6_rememberForUndo_45 : decode cX6_rememberForUndo 45 = .ok (.iconst 1, 1) := by decide +kernel
theorem dX6_rememberForUndo_46 : decode cX6_rememberForUndo 46 = .ok (.iadd, 1) := by decide +kernel
theorem dX6_rememberForUndo_47 : decode cX6_rememberForUndo 47 = .ok (.invokestatic 237, 3) := by decide +kernel
theorem dX6_rememberForUndo_50 : decode cX6_rememberForUndo 50 = .ok (.putfield 53, 3) := by decide +kernel
theorem dX6_rememberForUndo_53 : decode cX6_rememberForUndo 53 = .ok (.return_, 1) := by decide +kernel
theorem dX6_has_0 : decode cX6_has 0 = .ok (.iload_n 0, 1) := by decide +kernel
theorem dX6_has_1 : decode cX6_has 1 = .ok (.iload_n 1, 1) := by decide +kernel
theorem dX6_has_2 : decode cX6_has 2 = .ok (.ishr, 1) := by decide +kernel
theorem dX6_has_3 : decode cX6_has 3 = .ok (.iconst 1, 1) := by decide +kernel
theorem dX6_has_4 : decode cX6_has 4 = .ok (.iand, 1) := by decide +kernel
theorem dX6_has_5 : decode cX6_has 5 = .ok (.iconst 1, 1) := by decide +kernel
theorem dX6_has_6 : decode cX6_has 6 = .ok (.if_icmp .ne 7, 3) := by decide +kernel
theorem dX6_has_9 : decode cX6_has 9 = .ok (.iconst 1, 1) := by decide +kernel
theorem dX6_has_10 : decode cX6_has 10 = .ok (.goto 4, 3) := by decide +kernel
theorem dX6_has_13 : decode cX6_has 13 = .ok (.iconst 0, 1) := by decide +kernel
theorem dX6_has_14 : decode cX6_has 14 = .ok (.ireturn, 1) := by decide +kernel
theorem dX6_replaced_0 : decode cX6_replaced 0 = .ok (.iload_n 0, 1) := by decide +kernel
theorem dX6_replaced_1 : decode cX6_replaced 1 = .ok (.iload_n 1, 1) := by decide +kernel
theorem dX6_replaced_2 : decode cX6_replaced 2 = .ok (.iconst (-1), 1) := by decide +kernel
theorem dX6_replaced_3 : decode cX6_replaced 3 = .ok (.ixor, 1) := by decide +kernel
theorem dX6_replaced_4 : decode cX6_replaced 4 = .ok (.iand, 1) := by decide +kernel
theorem dX6_replaced_5 : decode cX6_replaced 5 = .ok (.iload_n 2, 1) := by decide +kernel
theorem dX6_replaced_6 : decode cX6_replaced 6 = .ok (.iload_n 1, 1) := by decide +kernel
theorem dX6_replaced_7 : decode cX6_replaced 7 = .ok (.iand, 1) := by decide +kernel
theorem dX6_replaced_8 : decode cX6_replaced 8 = .ok (.ior, 1) := by decide +kernel
theorem dX6_replaced_9 : decode cX6_replaced 9 = .ok (.ireturn, 1) := by decide +kernel
theorem dX6_weight_0 : decode cX6_weight 0 = .ok (.iload_n 0, 1) := by decide +kernel
theorem dX6_weight_1 : decode cX6_weight 1 = .ok (.invokestatic 163, 3) := by decide +kernel
theorem dX6_weight_4 : decode cX6_weight 4 = .ok (.istore_n 2, 1) := by decide +kernel
theorem dX6_weight_5 : decode cX6_weight 5 = .ok (.iload_n 1, 1) := by decide +kernel
theorem dX6_weight_6 : decode cX6_weight 6 = .ok (.iload_n 2, 1) := by decide +kernel
theorem dX6_weight_7 : decode cX6_weight 7 = .ok (.invokestatic 218, 3) := by decide +kernel
theorem dX6_weight_10 : decode cX6_weight 10 = .ok (.bipush 10, 2) := by decide +kernel
theorem dX6_weight_12 : decode cX6_weight 12 = .ok (.iload_n 1, 1) := by decide +kernel
theorem dX6_weight_13 : decode cX6_weight 13 = .ok (.isub, 1) := by decide +kernel
theorem dX6_weight_14 : decode cX6_weight 14 = .ok (.bipush 6, 2) := by decide +kernel
theorem dX6_weight_16 : decode cX6_weight 16 = .ok (.iload_n 2, 1) := by decide +kernel
theorem dX6_weight_17 : decode cX6_weight 17 = .ok (.isub, 1) := by decide +kernel
theorem dX6_weight_18 : decode cX6_weight 18 = .ok (.invokestatic 218, 3) := by decide +kernel
theorem dX6_weight_21 : decode cX6_weight 21 = .ok (.imul, 1) := by decide +kernel
theorem dX6_weight_22 : decode cX6_weight 22 = .ok (.ireturn, 1) := by decide +kernel
theorem dX6_power_0 : decode cX6_power 0 = .ok (.iconst 1, 1) := by decide +kernel
theorem dX6_power_1 : decode cX6_power 1 = .ok (.istore_n 2, 1) := by decide +kernel
theorem dX6_power_2 : decode cX6_power 2 = .ok (.iconst 0, 1) := by decide +kernel
theorem dX6_power_3 : decode cX6_power 3 = .ok (.istore_n 3, 1) := by decide +kernel
theorem dX6_power_4 : decode cX6_power 4 = .ok (.iload_n 3, 1) := by decide +kernel
theorem dX6_power_5 : decode cX6_power 5 = .ok (.iload_n 1, 1) := by decide +kernel
theorem dX6_power_6 : decode cX6_power 6 = .ok (.if_icmp .ge 13, 3) := by decide +kernel
theorem dX6_power_9 : decode cX6_power 9 = .ok (.iload_n 2, 1) := by decide +kernel
theorem dX6_power_10 : decode cX6_power 10 = .ok (.iload_n 0, 1) := by decide +kernel
theorem dX6_power_11 : decode cX6_power 11 = .ok (.imul, 1) := by decide +kernel
theorem dX6_power_12 : decode cX6_power 12 = .ok (.istore_n 2, 1) := by decide +kernel
theorem dX6_power_13 : decode cX6_power 13 = .ok (.iinc 3 1, 3) := by decide +kernel
theorem dX6_power_16 : decode cX6_power 16 = .ok (.goto (-12), 3) := by decide +kernel
theorem dX6_power_19 : decode cX6_power 19 = .ok (.iload_n 2, 1) := by decide +kernel
theorem dX6_power_20 : decode cX6_power 20 = .ok (.ireturn, 1) := by decide +kernel
theorem dX6_commonDivisor_0 : decode cX6_commonDivisor 0 = .ok (.iload_n 0, 1) := by decide +kernel
theorem dX6_commonDivisor_1 : decode cX6_commonDivisor 1 = .ok (.istore_n 2, 1) := by decide +kernel
theorem dX6_commonDivisor_2 : decode cX6_commonDivisor 2 = .ok (.iload_n 1, 1) := by decide +kernel
theorem dX6_commonDivisor_3 : decode cX6_commonDivisor 3 = .ok (.istore_n 3, 1) := by decide +kernel
theorem dX6_commonDivisor_4 : decode cX6_commonDivisor 4 = .ok (.iconst 0, 1) := by decide +kernel
theorem dX6_commonDivisor_5 : decode cX6_commonDivisor 5 = .ok (.istore 4, 2) := by decide +kernel
theorem dX6_commonDivisor_7 : decode cX6_commonDivisor 7 = .ok (.iload 4, 2) := by decide +kernel
theorem dX6_commonDivisor_9 : decode cX6_commonDivisor 9 = .ok (.bipush 64, 2) := by decide +kernel
theorem dX6_commonDivisor_11 : decode cX6_commonDivisor 11 = .ok (.if_icmp .ge 23, 3) := by decide +kernel
theorem dX6_commonDivisor_14 : decode cX6_commonDivisor 14 = .ok (.iload_n 3, 1) := by decide +kernel
theorem dX6_commonDivisor_15 : decode cX6_commonDivisor 15 = .ok (.ifCond .eq 19, 3) := by decide +kernel
theorem dX6_commonDivisor_18 : decode cX6_commonDivisor 18 = .ok (.iload_n 2, 1) := by decide +kernel
theorem dX6_commonDivisor_19 : decode cX6_commonDivisor 19 = .ok (.iload_n 3, 1) := by decide +kernel
theorem dX6_commonDivisor_20 : decode cX6_commonDivisor 20 = .ok (.irem, 1) := by decide +kernel
theorem dX6_commonDivisor_21 : decode cX6_commonDivisor 21 = .ok (.istore 5, 2) := by decide +kernel
theorem dX6_commonDivisor_23 : decode cX6_commonDivisor 23 = .ok (.iload_n 3, 1) := by decide +kernel
theorem dX6_commonDivisor_24 : decode cX6_commonDivisor 24 = .ok (.istore_n 2, 1) := by decide +kernel
theorem dX6_commonDivisor_25 : decode cX6_commonDivisor 25 = .ok (.iload 5, 2) := by decide +kernel
theorem dX6_commonDivisor_27 : decode cX6_commonDivisor 27 = .ok (.istore_n 3, 1) := by decide +kernel
theorem dX6_commonDivisor_28 : decode cX6_commonDivisor 28 = .ok (.iinc 4 1, 3) := by decide +kernel
theorem dX6_commonDivisor_31 : decode cX6_commonDivisor 31 = .ok (.goto (-24), 3) := by decide +kernel
theorem dX6_commonDivisor_34 : decode cX6_commonDivisor 34 = .ok (.iload_n 2, 1) := by decide +kernel
theorem dX6_commonDivisor_35 : decode cX6_commonDivisor 35 = .ok (.ireturn, 1) := by decide +kernel
theorem dX7_init_0 : decode cX7_init 0 = .ok (.aload_n 0, 1) := by decide +kernel
theorem dX7_init_1 : decode cX7_init 1 = .ok (.invokespecial 1, 3) := by decide +kernel
theorem dX7_init_4 : decode cX7_init 4 = .ok (.aload_n 0, 1) := by decide +kernel
theorem dX7_init_5 : decode cX7_init 5 = .ok (.sipush 1020, 3) := by decide +kernel
theorem dX7_init_8 : decode cX7_init 8 = .ok (.newarray .int, 2) := by decide +kernel
theorem dX7_init_10 : decode cX7_init 10 = .ok (.putfield 7, 3) := by decide +kernel
theorem dX7_init_13 : decode cX7_init 13 = .ok (.aload_n 0, 1) := by decide +kernel
theorem dX7_init_14 : decode cX7_init 14 = .ok (.bipush 59, 2) := by decide +kernel
theorem dX7_init_16 : decode cX7_init 16 = .ok (.newarray .int, 2) := by decide +kernel
theorem dX7_init_18 : decode cX7_init 18 = .ok (.putfield 13, 3) := by decide +kernel
theorem dX7_init_21 : decode cX7_init 21 = .ok (.aload_n 0, 1) := by decide +kernel
theorem dX7_init_22 : decode cX7_init 22 = .ok (.bipush 59, 2) := by decide +kernel
theorem dX7_init_24 : decode cX7_init 24 = .ok (.newarray .int, 2) := by decide +kernel
theorem dX7_init_26 : decode cX7_init 26 = .ok (.putfield 16, 3) := by decide +kernel
theorem dX7_init_29 : decode cX7_init 29 = .ok (.aload_n 0, 1) := by decide +kernel
theorem dX7_init_30 : decode cX7_init 30 = .ok (.iconst 2, 1) := by decide +kernel
theorem dX7_init_31 : decode cX7_init 31 = .ok (.newarray .boolean, 2) := by decide +kernel
theorem dX7_init_33 : decode cX7_init 33 = .ok (.putfield 19, 3) := by decide +kernel
theorem dX7_init_36 : decode cX7_init 36 = .ok (.aload_n 0, 1) := by decide +kernel
theorem dX7_init_37 : decode cX7_init 37 = .ok (.sipush 160, 3) := by decide +kernel
theorem dX7_init_40 : decode cX7_init 40 = .ok (.newarray .int, 2) := by decide +kernel
theorem dX7_init_42 : decode cX7_init 42 = .ok (.putfield 23, 3) := by decide +kernel
theorem dX7_init_45 : decode cX7_init 45 = .ok (.aload_n 0, 1) := by decide +kernel
theorem dX7_init_46 : decode cX7_init 46 = .ok (.bipush 6, 2) := by decide +kernel
theorem dX7_init_48 : decode cX7_init 48 = .ok (.newarray .int, 2) := by decide +kernel
theorem dX7_init_50 : decode cX7_init 50 = .ok (.putfield 26, 3) := by decide +kernel
theorem dX7_init_53 : decode cX7_init 53 = .ok (.aload_n 0, 1) := by decide +kernel
theorem dX7_init_54 : decode cX7_init 54 = .ok (.bipush 6, 2) := by decide +kernel
theorem dX7_init_56 : decode cX7_init 56 = .ok (.newarray .int, 2) := by decide +kernel
theorem dX7_init_58 : decode cX7_init 58 = .ok (.putfield 29, 3) := by decide +kernel
theorem dX7_init_61 : decode cX7_init 61 = .ok (.aload_n 0, 1) := by decide +kernel
theorem dX7_init_62 : decode cX7_init 62 = .ok (.bipush 6, 2) := by decide +kernel
theorem dX7_init_64 : decode cX7_init 64 = .ok (.newarray .int, 2) := by decide +kernel
theorem dX7_init_66 : decode cX7_init 66 = .ok (.putfield 32, 3) := by decide +kernel
theorem dX7_init_69 : decode cX7_init 69 = .ok (.aload_n 0, 1) := by decide +kernel
theorem dX7_init_70 : decode cX7_init 70 = .ok (.getfield 13, 3) := by decide +kernel
theorem dX7_init_73 : decode cX7_init 73 = .ok (.iconst 0, 1) := by decide +kernel
theorem dX7_init_74 : decode cX7_init 74 = .ok (.iconst 2, 1) := by decide +kernel
theorem dX7_init_75 : decode cX7_init 75 = .ok (.iastore, 1) := by decide +kernel
theorem dX7_init_76 : decode cX7_init 76 = .ok (.return_, 1) := by decide +kernel
theorem dX7_in_0 : decode cX7_in 0 = .ok (.lload_n 0, 1) := by decide +kernel
theorem dX7_in_1 : decode cX7_in 1 = .ok (.lload_n 2, 1) := by decide +kernel
theorem dX7_in_2 : decode cX7_in 2 = .ok (.lcmp, 1) := by decide +kernel
theorem dX7_in_3 : decode cX7_in 3 = .ok (.ifCond .lt 14, 3) := by decide +kernel
theorem dX7_in_6 : decode cX7_in 6 = .ok (.lload_n 0, 1) := by decide +kernel
theorem dX7_in_7 : decode cX7_in 7 = .ok (.lload 4, 2) := by decide +kernel
theorem dX7_in_9 : decode cX7_in 9 = .ok (.lcmp, 1) := by decide +kernel
theorem dX7_in_10 : decode cX7_in 10 = .ok (.ifCond .gt 7, 3) := by decide +kernel
theorem dX7_in_13 : decode cX7_in 13 = .ok (.iconst 1, 1) := by decide +kernel
theorem dX7_in_14 : decode cX7_in 14 = .ok (.goto 4, 3) := by decide +kernel
theorem dX7_in_17 : decode cX7_in 17 = .ok (.iconst 0, 1) := by decide +kernel
theorem dX7_in_18 : decode cX7_in 18 = .ok (.ireturn, 1) := by decide +kernel
theorem dX7_has_0 : decode cX7_has 0 = .ok (.iload_n 0, 1) := by decide +kernel
theorem dX7_has_1 : decode cX7_has 1 = .ok (.iload_n 1, 1) := by decide +kernel
theorem dX7_has_2 : decode cX7_has 2 = .ok (.ishr, 1) := by decide +kernel
theorem dX7_has_3 : decode cX7_has 3 = .ok (.iconst 1, 1) := by decide +kernel
theorem dX7_has_4 : decode cX7_has 4 = .ok (.iand, 1) := by decide +kernel
theorem dX7_has_5 : decode cX7_has 5 = .ok (.iconst 1, 1) := by decide +kernel
theorem dX7_has_6 : decode cX7_has 6 = .ok (.if_icmp .ne 7, 3) := by decide +kernel
theorem dX7_has_9 : decode cX7_has 9 = .ok (.iconst 1, 1) := by decide +kernel
theorem dX7_has_10 : decode cX7_has 10 = .ok (.goto 4, 3) := by decide +kernel
theorem dX7_has_13 : decode cX7_has 13 = .ok (.iconst 0, 1) := by decide +kernel
theorem dX7_has_14 : decode cX7_has 14 = .ok (.ireturn, 1) := by decide +kernel
theorem dX7_ones_0 : decode cX7_ones 0 = .ok (.iconst 0, 1) := by decide +kernel
theorem dX7_ones_1 : decode cX7_ones 1 = .ok (.istore_n 1, 1) := by decide +kernel
theorem dX7_ones_2 : decode cX7_ones 2 = .ok (.iconst 0, 1) := by decide +kernel
theorem dX7_ones_3 : decode cX7_ones 3 = .ok (.istore_n 2, 1) := by decide +kernel
theorem dX7_ones_4 : decode cX7_ones 4 = .ok (.iload_n 2, 1) := by decide +kernel
theorem dX7_ones_5 : decode cX7_ones 5 = .ok (.bipush 6, 2) := by decide +kernel
theorem dX7_ones_7 : decode cX7_ones 7 = .ok (.if_icmp .ge 17, 3) := by decide +kernel
theorem dX7_ones_10 : decode cX7_ones 10 = .ok (.iload_n 1, 1) := by decide +kernel
theorem dX7_ones_11 : decode cX7_ones 11 = .ok (.iload_n 0, 1) := by decide +kernel
theorem dX7_ones_12 : decode cX7_ones 12 = .ok (.iload_n 2, 1) := by decide +kernel
theorem dX7_ones_13 : decode cX7_ones 13 = .ok (.ishr, 1) := by decide +kernel
theorem dX7_ones_14 : decode cX7_ones 14 = .ok (.iconst 1, 1) := by decide +kernel
theorem dX7_ones_15 : decode cX7_ones 15 = .ok (.iand, 1) := by decide +kernel
theorem dX7_ones_16 : decode cX7_ones 16 = .ok (.iadd, 1) := by decide +kernel
theorem dX7_ones_17 : decode cX7_ones 17 = .ok (.istore_n 1, 1) := by decide +kernel
theorem dX7_ones_18 : decode cX7_ones 18 = .ok (.iinc 2 1, 3) := by decide +kernel
theorem dX7_ones_21 : decode cX7_ones 21 = .ok (.goto (-17), 3) := by decide +kernel
theorem dX7_ones_24 : decode cX7_ones 24 = .ok (.iload_n 1, 1) := by decide +kernel
theorem dX7_ones_25 : decode cX7_ones 25 = .ok (.ireturn, 1) := by decide +kernel
theorem dX7_copy_0 : decode cX7_copy 0 = .ok (.iconst 0, 1) := by decide +kernel
theorem dX7_copy_1 : decode cX7_copy 1 = .ok (.istore_n 3, 1) := by decide +kernel
theorem dX7_copy_2 : decode cX7_copy 2 = .ok (.iload_n 3, 1) := by decide +kernel
theorem dX7_copy_3 : decode cX7_copy 3 = .ok (.bipush 85, 2) := by decide +kernel
theorem dX7_copy_5 : decode cX7_copy 5 = .ok (.if_icmp .ge 25, 3) := by decide +kernel
theorem dX7_copy_8 : decode cX7_copy 8 = .ok (.aload_n 0, 1) := by decide +kernel
theorem dX7_copy_9 : decode cX7_copy 9 = .ok (.getfield 7, 3) := by decide +kernel
theorem dX7_copy_12 : decode cX7_copy 12 = .ok (.iload_n 2, 1) := by decide +kernel
theorem dX7_copy_13 : decode cX7_copy 13 = .ok (.iload_n 3, 1) := by decide +kernel
theorem dX7_copy_14 : decode cX7_copy 14 = .ok (.iadd, 1) := by decide +kernel
theorem dX7_copy_15 : decode cX7_copy 15 = .ok (.aload_n 0, 1) := by decide +kernel
theorem dX7_copy_16 : decode cX7_copy 16 = .ok (.getfield 7, 3) := by decide +kernel
theorem dX7_copy_19 : decode cX7_copy 19 = .ok (.iload_n 1, 1) := by decide +kernel
theorem dX7_copy_20 : decode cX7_copy 20 = .ok (.iload_n 3, 1) := by decide +kernel
theorem dX7_copy_21 : decode cX7_copy 21 = .ok (.iadd, 1) := by decide +kernel
theorem dX7_copy_22 : decode cX7_copy 22 = .ok (.iaload, 1) := by decide +kernel
theorem dX7_copy_23 : decode cX7_copy 23 = .ok (.iastore, 1) := by decide +kernel
theorem dX7_copy_24 : decode cX7_copy 24 = .ok (.iinc 3 1, 3) := by decide +kernel
theorem dX7_copy_27 : decode cX7_copy 27 = .ok (.goto (-25), 3) := by decide +kernel
theorem dX7_copy_30 : decode cX7_copy 30 = .ok (.return_, 1) := by decide +kernel
theorem dX7_isPerson_0 : decode cX7_isPerson 0 = .ok (.iload_n 1, 1) := by decide +kernel
theorem dX7_isPerson_1 : decode cX7_isPerson 1 = .ok (.i2l, 1) := by decide +kernel
theorem dX7_isPerson_2 : decode cX7_isPerson 2 = .ok (.lconst 0, 1) := by decide +kernel
theorem dX7_isPerson_3 : decode cX7_isPerson 3 = .ok (.aload_n 0, 1) := by decide +kernel
theorem dX7_isPerson_4 : decode cX7_isPerson 4 = .ok (.getfield 13, 3) := by decide +kernel
theorem dX7_isPerson_7 : decode cX7_isPerson 7 = .ok (.iconst 1, 1) := by decide +kernel
theorem dX7_isPerson_8 : decode cX7_isPerson 8 = .ok (.iaload, 1) := by decide +kernel
theorem dX7_isPerson_9 : decode cX7_isPerson 9 = .ok (.iconst 1, 1) := by decide +kernel
theorem dX7_isPerson_10 : decode cX7_isPerson 10 = .ok (.isub, 1) := by decide +kernel
theorem dX7_isPerson_11 : decode cX7_isPerson 11 = .ok (.i2l, 1) := by decide +kernel
theorem dX7_isPerson_12 : decode cX7_isPerson 12 = .ok (.invokestatic 35, 3) := by decide +kernel
theorem dX7_isPerson_15 : decode cX7_isPerson 15 = .ok (.ireturn, 1) := by decide +kernel
theorem dX7_isBarber_0 : decode cX7_isBarber 0 = .ok (.iload_n 1, 1) := by decide +kernel
theorem dX7_isBarber_1 : decode cX7_isBarber 1 = .ok (.i2l, 1) := by decide +kernel
theorem dX7_isBarber_2 : decode cX7_isBarber 2 = .ok (.lconst 0, 1) := by decide +kernel
theorem dX7_isBarber_3 : decode cX7_isBarber 3 = .ok (.aload_n 0, 1) := by decide +kernel
theorem dX7_isBarber_4 : decode cX7_isBarber 4 = .ok (.getfield 13, 3) := by decide +kernel
theorem dX7_isBarber_7 : decode cX7_isBarber 7 = .ok (.iconst 0, 1) := by decide +kernel
theorem dX7_isBarber_8 : decode cX7_isBarber 8 = .ok (.iaload, 1) := by decide +kernel
theorem dX7_isBarber_9 : decode cX7_isBarber 9 = .ok (.iconst 1, 1) := by decide +kernel
theorem dX7_isBarber_10 : decode cX7_isBarber 10 = .ok (.isub, 1) := by decide +kernel
theorem dX7_isBarber_11 : decode cX7_isBarber 11 = .ok (.i2l, 1) := by decide +kernel
theorem dX7_isBarber_12 : decode cX7_isBarber 12 = .ok (.invokestatic 35, 3) := by decide +kernel
theorem dX7_isBarber_15 : decode cX7_isBarber 15 = .ok (.ireturn, 1) := by decide +kernel
theorem dX7_isRumour_0 : decode cX7_isRumour 0 = .ok (.iload_n 1, 1) := by decide +kernel
theorem dX7_isRumour_1 : decode cX7_isRumour 1 = .ok (.i2l, 1) := by decide +kernel
theorem dX7_isRumour_2 : decode cX7_isRumour 2 = .ok (.lconst 0, 1) := by decide +kernel
theorem dX7_isRumour_3 : decode cX7_isRumour 3 = .ok (.aload_n 0, 1) := by decide +kernel
theorem dX7_isRumour_4 : decode cX7_isRumour 4 = .ok (.getfield 13, 3) := by decide +kernel
theorem dX7_isRumour_7 : decode cX7_isRumour 7 = .ok (.iconst 2, 1) := by decide +kernel
theorem dX7_isRumour_8 : decode cX7_isRumour 8 = .ok (.iaload, 1) := by decide +kernel
theorem dX7_isRumour_9 : decode cX7_isRumour 9 = .ok (.iconst 1, 1) := by decide +kernel
theorem dX7_isRumour_10 : decode cX7_isRumour 10 = .ok (.isub, 1) := by decide +kernel
theorem dX7_isRumour_11 : decode cX7_isRumour 11 = .ok (.i2l, 1) := by decide +kernel
theorem dX7_isRumour_12 : decode cX7_isRumour 12 = .ok (.invokestatic 35, 3) := by decide +kernel
theorem dX7_isRumour_15 : decode cX7_isRumour 15 = .ok (.ireturn, 1) := by decide +kernel
theorem dX7_isStrip_0 : decode cX7_isStrip 0 = .ok (.iload_n 0, 1) := by decide +kernel
theorem dX7_isStrip_1 : decode cX7_isStrip 1 = .ok (.i2l, 1) := by decide +kernel
theorem dX7_isStrip_2 : decode cX7_isStrip 2 = .ok (.lconst 0, 1) := by decide +kernel
theorem dX7_isStrip_3 : decode cX7_isStrip 3 = .ok (.ldc2_w 39, 3) := by decide +kernel
theorem dX7_isStrip_6 : decode cX7_isStrip 6 = .ok (.invokestatic 35, 3) := by decide +kernel
theorem dX7_isStrip_9 : decode cX7_isStrip 9 = .ok (.ireturn, 1) := by decide +kernel
theorem dX7_write_0 : decode cX7_write 0 = .ok (.iload_n 1, 1) := by decide +kernel
theorem dX7_write_1 : decode cX7_write 1 = .ok (.i2l, 1) := by decide +kernel
theorem dX7_write_2 : decode cX7_write 2 = .ok (.lconst 0, 1) := by decide +kernel
theorem dX7_write_3 : decode cX7_write 3 = .ok (.ldc2_w 41, 3) := by decide +kernel
theorem dX7_write_6 : decode cX7_write 6 = .ok (.invokestatic 35, 3) := by decide +kernel
theorem dX7_write_9 : decode cX7_write 9 = .ok (.ifCond .ne 6, 3) := by decide +kernel
theorem dX7_write_12 : decode cX7_write 12 = .ok (.bipush (-3), 2) := by decide +kernel
theorem dX7_write_14 : decode cX7_write 14 = .ok (.ireturn, 1) := by decide +kernel
theorem dX7_write_15 : decode cX7_write 15 = .ok (.aload_n 0, 1) := by decide +kernel
theorem dX7_write_16 : decode cX7_write 16 = .ok (.getfield 43, 3) := by decide +kernel
theorem dX7_write_19 : decode cX7_write 19 = .ok (.sipush 160, 3) := by decide +kernel
theorem dX7_write_22 : decode cX7_write 22 = .ok (.if_icmp .ne 6, 3) := by decide +kernel
theorem dX7_write_25 : decode cX7_write 25 = .ok (.bipush (-5), 2) := by decide +kernel
theorem dX7_write_27 : decode cX7_write 27 = .ok (.ireturn, 1) := by decide +kernel
theorem dX7_write_28 : decode cX7_write 28 = .ok (.aload_n 0, 1) := by decide +kernel
theorem dX7_write_29 : decode cX7_write 29 = .ok (.getfield 23, 3) := by decide +kernel
theorem dX7_write_32 : decode cX7_write 32 = .ok (.aload_n 0, 1) := by decide +kernel
theorem dX7_write_33 : decode cX7_write 33 = .ok (.getfield 43, 3) := by decide +kernel
theorem dX7_write_36 : decode cX7_write 36 = .ok (.iload_n 1, 1) := by decide +kernel
theorem dX7_write_37 : decode cX7_write 37 = .ok (.iastore, 1) := by decide +kernel
theorem dX7_write_38 : decode cX7_write 38 = .ok (.aload_n 0, 1) := by decide +kernel
theorem dX7_write_39 : decode cX7_write 39 = .ok (.dup, 1) := by decide +kernel
theorem dX7_write_40 : decode cX7_write 40 = .ok (.getfield 43, 3) := by decide +kernel
theorem dX7_write_43 : decode cX7_write 43 = .ok (.iconst 1, 1) := by decide +kernel
theorem dX7_write_44 : decode cX7_write 44 = .ok (.iadd, 1) := by decide +kernel
theorem dX7_write_45 : decode cX7_write 45 = .ok (.putfield 43, 3) := by decide +kernel
theorem dX7_write_48 : decode cX7_write 48 = .ok (.aload_n 0, 1) := by decide +kernel
theorem dX7_write_49 : decode cX7_write 49 = .ok (.getfield 43, 3) := by decide +kernel
theorem dX7_write_52 : decode cX7_write 52 = .ok (.ireturn, 1) := by decide +kernel
theorem dX7_erase_0 : decode cX7_erase 0 = .ok (.aload_n 0, 1) := by decide +kernel
theorem dX7_erase_1 : decode cX7_erase 1 = .ok (.getfield 43, 3) := by decide +kernel
theorem dX7_erase_4 : decode cX7_erase 4 = .ok (.istore_n 1, 1) := by decide +kernel
theorem dX7_erase_5 : decode cX7_erase 5 = .ok (.aload_n 0, 1) := by decide +kernel
theorem dX7_erase_6 : decode cX7_erase 6 = .ok (.iconst 0, 1) := by decide +kernel
theorem dX7_erase_7 : decode cX7_erase 7 = .ok (.putfield 43, 3) := by decide +kernel
theorem dX7_erase_10 : decode cX7_erase 10 = .ok (.iload_n 1, 1) := by decide +kernel
theorem dX7_erase_11 : decode cX7_erase 11 = .ok (.ireturn, 1) := by decide +kernel
theorem dX7_letterAt_0 : decode cX7_letterAt 0 = .ok (.iload_n 1, 1) := by decide +kernel
theorem dX7_letterAt_1 : decode cX7_letterAt 1 = .ok (.aload_n 0, 1) := by decide +kernel
theorem dX7_letterAt_2 : decode cX7_letterAt 2 = .ok (.getfield 43, 3) := by decide +kernel
theorem dX7_letterAt_5 : decode cX7_letterAt 5 = .ok (.if_icmp .ge 12, 3) := by decide +kernel
theorem dX7_letterAt_8 : decode cX7_letterAt 8 = .ok (.aload_n 0, 1) := by decide +kernel
theorem dX7_letterAt_9 : decode cX7_letterAt 9 = .ok (.getfield 23, 3) := by decide +kernel
theorem dX7_letterAt_12 : decode cX7_letterAt 12 = .ok (.iload_n 1, 1) := by decide +kernel
theorem dX7_letterAt_13 : decode cX7_letterAt 13 = .ok (.iaload, 1) := by decide +kernel
theorem dX7_letterAt_14 : decode cX7_letterAt 14 = .ok (.goto 4, 3) := by decide +kernel
theorem dX7_letterAt_17 : decode cX7_letterAt 17 = .ok (.iconst (-1), 1) := by decide +kernel
theorem dX7_letterAt_18 : decode cX7_letterAt 18 = .ok (.ireturn, 1) := by decide +kernel
theorem dX7_isSmall_0 : decode cX7_isSmall 0 = .ok (.aload_n 0, 1) := by decide +kernel
theorem dX7_isSmall_1 : decode cX7_isSmall 1 = .ok (.iload_n 1, 1) := by decide +kernel
theorem dX7_isSmall_2 : decode cX7_isSmall 2 = .ok (.invokevirtual 47, 3) := by decide +kernel
theorem dX7_isSmall_5 : decode cX7_isSmall 5 = .ok (.i2l, 1) := by decide +kernel
theorem dX7_isSmall_6 : decode cX7_isSmall 6 = .ok (.ldc2_w 51, 3) := by decide +kernel
theorem dX7_isSmall_9 : decode cX7_isSmall 9 = .ok (.ldc2_w 53, 3) := by decide +kernel
theorem dX7_isSmall_12 : decode cX7_isSmall 12 = .ok (.invokestatic 35, 3) := by decide +kernel
theorem dX7_isSmall_15 : decode cX7_isSmall 15 = .ok (.ireturn, 1) := by decide +kernel
theorem dX7_isDigit_0 : decode cX7_isDigit 0 = .ok (.aload_n 0, 1) := by decide +kernel
theorem dX7_isDigit_1 : decode cX7_isDigit 1 = .ok (.iload_n 1, 1) := by decide +kernel
theorem dX7_isDigit_2 : decode cX7_isDigit 2 = .ok (.invokevirtual 47, 3) := by decide +kernel
theorem dX7_isDigit_5 : decode cX7_isDigit 5 = .ok (.i2l, 1) := by decide +kernel
theorem dX7_isDigit_6 : decode cX7_isDigit 6 = .ok (.ldc2_w 55, 3) := by decide +kernel
theorem dX7_isDigit_9 : decode cX7_isDigit 9 = .ok (.ldc2_w 57, 3) := by decide +kernel
theorem dX7_isDigit_12 : decode cX7_isDigit 12 = .ok (.invokestatic 35, 3) := by decide +kernel
theorem dX7_isDigit_15 : decode cX7_isDigit 15 = .ok (.ireturn, 1) := by decide +kernel
theorem dX7_begins_0 : decode cX7_begins 0 = .ok (.aload_n 0, 1) := by decide +kernel
theorem dX7_begins_1 : decode cX7_begins 1 = .ok (.aload_n 0, 1) := by decide +kernel
theorem dX7_begins_2 : decode cX7_begins 2 = .ok (.getfield 59, 3) := by decide +kernel
theorem dX7_begins_5 : decode cX7_begins 5 = .ok (.invokevirtual 47, 3) := by decide +kernel
theorem dX7_begins_8 : decode cX7_begins 8 = .ok (.bipush 32, 2) := by decide +kernel
theorem dX7_begins_10 : decode cX7_begins 10 = .ok (.if_icmp .ne 16, 3) := by decide +kernel
theorem dX7_begins_13 : decode cX7_begins 13 = .ok (.aload_n 0, 1) := by decide +kernel
theorem dX7_begins_14 : decode cX7_begins 14 = .ok (.dup, 1) := by decide +kernel
theorem dX7_begins_15 : decode cX7_begins 15 = .ok (.getfield 59, 3) := by decide +kernel
theorem dX7_begins_18 : decode cX7_begins 18 = .ok (.iconst 1, 1) := by decide +kernel
theorem dX7_begins_19 : decode cX7_begins 19 = .ok (.iadd, 1) := by decide +kernel
theorem dX7_begins_20 : decode cX7_begins 20 = .ok (.putfield 59, 3) := by decide +kernel
theorem dX7_begins_23 : decode cX7_begins 23 = .ok (.goto (-23), 3) := by decide +kernel
theorem dX7_begins_26 : decode cX7_begins 26 = .ok (.aload_n 0, 1) := by decide +kernel
theorem dX7_begins_27 : decode cX7_begins 27 = .ok (.aload_n 0, 1) := by decide +kernel
theorem dX7_begins_28 : decode cX7_begins 28 = .ok (.getfield 59, 3) := by decide +kernel
theorem dX7_begins_31 : decode cX7_begins 31 = .ok (.putfield 62, 3) := by decide +kernel
theorem dX7_begins_34 : decode cX7_begins 34 = .ok (.return_, 1) := by decide +kernel
theorem dX7_takesWord_0 : decode cX7_takesWord 0 = .ok (.aload_n 0, 1) := by decide +kernel
theorem dX7_takesWord_1 : decode cX7_takesWord 1 = .ok (.invokevirtual 65, 3) := by decide +kernel
theorem dX7_takesWord_4 : decode cX7_takesWord 4 = .ok (.aload_n 0, 1) := by decide +kernel
theorem dX7_takesWord_5 : decode cX7_takesWord 5 = .ok (.lconst 0, 1) := by decide +kernel
theorem dX7_takesWord_6 : decode cX7_takesWord 6 = .ok (.putfield 68, 3) := by decide +kernel
theorem dX7_takesWord_9 : decode cX7_takesWord 9 = .ok (.aload_n 0, 1) := by decide +kernel
theorem dX7_takesWord_10 : decode cX7_takesWord 10 = .ok (.aload_n 0, 1) := by decide +kernel
theorem dX7_takesWord_11 : decode cX7_takesWord 11 = .ok (.getfield 59, 3) := by decide +kernel
theorem dX7_takesWord_14 : decode cX7_takesWord 14 = .ok (.invokevirtual 72, 3) := by decide +kernel
theorem dX7_takesWord_17 : decode cX7_takesWord 17 = .ok (.ifCond .eq 55, 3) := by decide +kernel
theorem dX7_takesWord_20 : decode cX7_takesWord 20 = .ok (.aload_n 0, 1) := by decide +kernel
theorem dX7_takesWord_21 : decode cX7_takesWord 21 = .ok (.aload_n 0, 1) := by decide +kernel
theorem dX7_takesWord_22 : decode cX7_takesWord 22 = .ok (.getfield 59, 3) := by decide +kernel
theorem dX7_takesWord_25 : decode cX7_takesWord 25 = .ok (.aload_n 0, 1) := by decide +kernel
theorem dX7_takesWord_26 : decode cX7_takesWord 26 = .ok (.getfield 62, 3) := by decide +kernel
theorem dX7_takesWord_29 : decode cX7_takesWord 29 = .ok (.isub, 1) := by decide +kernel
theorem dX7_takesWord_30 : decode cX7_takesWord 30 = .ok (.bipush 8, 2) := by decide +kernel
theorem dX7_takesWord_32 : decode cX7_takesWord 32 = .ok (.if_icmp .ge 23, 3) := by decide +kernel
theorem dX7_takesWord_35 : decode cX7_takesWord 35 = .ok (.aload_n 0, 1) := by decide +kernel
theorem dX7_takesWord_36 : decode cX7_takesWord 36 = .ok (.getfield 68, 3) := by decide +kernel
theorem dX7_takesWord_39 : decode cX7_takesWord 39 = .ok (.bipush 8, 2) := by decide +kernel
theorem dX7_takesWord_41 : decode cX7_takesWord 41 = .ok (.lshl, 1) := by decide +kernel
theorem dX7_takesWord_42 : decode cX7_takesWord 42 = .ok (.aload_n 0, 1) := by decide +kernel
theorem dX7_takesWord_43 : decode cX7_takesWord 43 = .ok (.aload_n 0, 1) := by decide +kernel
theorem dX7_takesWord_44 : decode cX7_takesWord 44 = .ok (.getfield 59, 3) := by decide +kernel
theorem dX7_takesWord_47 : decode cX7_takesWord 47 = .ok (.invokevirtual 47, 3) := by decide +kernel
theorem dX7_takesWord_50 : decode cX7_takesWord 50 = .ok (.i2l, 1) := by decide +kernel
theorem dX7_takesWord_51 : decode cX7_takesWord 51 = .ok (.lor, 1) := by decide +kernel
theorem dX7_takesWord_52 : decode cX7_takesWord 52 = .ok (.goto 4, 3) := by decide +kernel
theorem dX7_takesWord_55 : decode cX7_takesWord 55 = .ok (.lconst 0, 1) := by decide +kernel
theorem dX7_takesWord_56 : decode cX7_takesWord 56 = .ok (.putfield 68, 3) := by decide +kernel
theorem dX7_takesWord_59 : decode cX7_takesWord 59 = .ok (.aload_n 0, 1) := by decide +kernel
theorem dX7_takesWord_60 : decode cX7_takesWord 60 = .ok (.dup, 1) := by decide +kernel
theorem dX7_takesWord_61 : decode cX7_takesWord 61 = .ok (.getfield 59, 3) := by decide +kernel
theorem dX7_takesWord_64 : decode cX7_takesWord 64 = .ok (.iconst 1, 1) := by decide +kernel
theorem dX7_takesWord_65 : decode cX7_takesWord 65 = .ok (.iadd, 1) := by decide +kernel
theorem dX7_takesWord_66 : decode cX7_takesWord 66 = .ok (.putfield 59, 3) := by decide +kernel
theorem dX7_takesWord_69 : decode cX7_takesWord 69 = .ok (.goto (-60), 3) := by decide +kernel
theorem dX7_takesWord_72 : decode cX7_takesWord 72 = .ok (.aload_n 0, 1) := by decide +kernel
theorem dX7_takesWord_73 : decode cX7_takesWord 73 = .ok (.aload_n 0, 1) := by decide +kernel
theorem dX7_takesWord_74 : decode cX7_takesWord 74 = .ok (.getfield 59, 3) := by decide +kernel
theorem dX7_takesWord_77 : decode cX7_takesWord 77 = .ok (.aload_n 0, 1) := by decide +kernel
theorem dX7_takesWord_78 : decode cX7_takesWord 78 = .ok (.getfield 62, 3) := by decide +kernel
theorem dX7_takesWord_81 : decode cX7_takesWord 81 = .ok (.isub, 1) := by decide +kernel
theorem dX7_takesWord_82 : decode cX7_takesWord 82 = .ok (.bipush 8, 2) := by decide +kernel
theorem dX7_takesWord_84 : decode cX7_takesWord 84 = .ok (.if_icmp .le 7, 3) := by decide +kernel
theorem dX7_takesWord_87 : decode cX7_takesWord 87 = .ok (.lconst 0, 1) := by decide +kernel
theorem dX7_takesWord_88 : decode cX7_takesWord 88 = .ok (.goto 7, 3) := by decide +kernel
theorem dX7_takesWord_91 : decode cX7_takesWord 91 = .ok (.aload_n 0, 1) := by decide +kernel
theorem dX7_takesWord_92 : decode cX7_takesWord 92 = .ok (.getfield 68, 3) := by decide +kernel
theorem dX7_takesWord_95 : decode cX7_takesWord 95 = .ok (.putfield 68, 3) := by decide +kernel
theorem dX7_takesWord_98 : decode cX7_takesWord 98 = .ok (.return_, 1) := by decide +kernel
theorem dX7_takesNumber_0 : decode cX7_takesNumber 0 = .ok (.aload_n 0, 1) := by decide +kernel
theorem dX7_takesNumber_1 : decode cX7_takesNumber 1 = .ok (.invokevirtual 65, 3) := by decide +kernel
theorem dX7_takesNumber_4 : decode cX7_takesNumber 4 = .ok (.aload_n 0, 1) := by decide +kernel
theorem dX7_takesNumber_5 : decode cX7_takesNumber 5 = .ok (.iconst 0, 1) := by decide +kernel
theorem dX7_takesNumber_6 : decode cX7_takesNumber 6 = .ok (.putfield 76, 3) := by decide +kernel
theorem dX7_takesNumber_9 : decode cX7_takesNumber 9 = .ok (.aload_n 0, 1) := by decide +kernel
theorem dX7_takesNumber_10 : decode cX7_takesNumber 10 = .ok (.aload_n 0, 1) := by decide +kernel
theorem dX7_takesNumber_11 : decode cX7_takesNumber 11 = .ok (.getfield 59, 3) := by decide +kernel
theorem dX7_takesNumber_14 : decode cX7_takesNumber 14 = .ok (.invokevirtual 79, 3) := by decide +kernel
theorem dX7_takesNumber_17 : decode cX7_takesNumber 17 = .ok (.ifCond .eq 55, 3) := by decide +kernel
theorem dX7_takesNumber_20 : decode cX7_takesNumber 20 = .ok (.aload_n 0, 1) := by decide +kernel
theorem dX7_takesNumber_21 : decode cX7_takesNumber 21 = .ok (.aload_n 0, 1) := by decide +kernel
theorem dX7_takesNumber_22 : decode cX7_takesNumber 22 = .ok (.getfield 76, 3) := by decide +kernel
theorem dX7_takesNumber_25 : decode cX7_takesNumber 25 = .ok (.sipush 1000, 3) := by decide +kernel
theorem dX7_takesNumber_28 : decode cX7_takesNumber 28 = .ok (.if_icmp .ge 25, 3) := by decide +kernel
theorem dX7_takesNumber_31 : decode cX7_takesNumber 31 = .ok (.bipush 10, 2) := by decide +kernel
theorem dX7_takesNumber_33 : decode cX7_takesNumber 33 = .ok (.aload_n 0, 1) := by decide +kernel
theorem dX7_takesNumber_34 : decode cX7_takesNumber 34 = .ok (.getfield 76, 3) := by decide +kernel
theorem dX7_takesNumber_37 : decode cX7_takesNumber 37 = .ok (.imul, 1) := by decide +kernel
theorem dX7_takesNumber_38 : decode cX7_takesNumber 38 = .ok (.aload_n 0, 1) := by decide +kernel
theorem dX7_takesNumber_39 : decode cX7_takesNumber 39 = .ok (.aload_n 0, 1) := by decide +kernel
theorem dX7_takesNumber_40 : decode cX7_takesNumber 40 = .ok (.getfield 59, 3) := by decide +kernel
theorem dX7_takesNumber_43 : decode cX7_takesNumber 43 = .ok (.invokevirtual 47, 3) := by decide +kernel
theorem dX7_takesNumber_46 : decode cX7_takesNumber 46 = .ok (.iadd, 1) := by decide +kernel
theorem dX7_takesNumber_47 : decode cX7_takesNumber 47 = .ok (.bipush 48, 2) := by decide +kernel
theorem dX7_takesNumber_49 : decode cX7_takesNumber 49 = .ok (.isub, 1) := by decide +kernel
theorem dX7_takesNumber_50 : decode cX7_takesNumber 50 = .ok (.goto 6, 3) := by decide +kernel
theorem dX7_takesNumber_53 : decode cX7_takesNumber 53 = .ok (.sipush 1000, 3) := by decide +kernel
theorem dX7_takesNumber_56 : decode cX7_takesNumber 56 = .ok (.putfield 76, 3) := by decide +kernel
theorem dX7_takesNumber_59 : decode cX7_takesNumber 59 = .ok (.aload_n 0, 1) := by decide +kernel
theorem dX7_takesNumber_60 : decode cX7_takesNumber 60 = .ok (.dup, 1) := by decide +kernel
theorem dX7_takesNumber_61 : decode cX7_takesNumber 61 = .ok (.getfield 59, 3) := by decide +kernel
theorem dX7_takesNumber_64 : decode cX7_takesNumber 64 = .ok (.iconst 1, 1) := by decide +kernel
theorem dX7_takesNumber_65 : decode cX7_takesNumber 65 = .ok (.iadd, 1) := by decide +kernel
theorem dX7_takesNumber_66 : decode cX7_takesNumber 66 = .ok (.putfield 59, 3) := by decide +kernel
theorem dX7_takesNumber_69 : decode cX7_takesNumber 69 = .ok (.goto (-60), 3) := by decide +kernel
theorem dX7_takesNumber_72 : decode cX7_takesNumber 72 = .ok (.aload_n 0, 1) := by decide +kernel
theorem dX7_takesNumber_73 : decode cX7_takesNumber 73 = .ok (.getfield 59, 3) := by decide +kernel
theorem dX7_takesNumber_76 : decode cX7_takesNumber 76 = .ok (.aload_n 0, 1) := by decide +kernel
theorem dX7_takesNumber_77 : decode cX7_takesNumber 77 = .ok (.getfield 62, 3) := by decide +kernel
theorem dX7_takesNumber_80 : decode cX7_takesNumber 80 = .ok (.if_icmp .le 35, 3) := by decide +kernel
theorem dX7_takesNumber_83 : decode cX7_takesNumber 83 = .ok (.aload_n 0, 1) := by decide +kernel
theorem dX7_takesNumber_84 : decode cX7_takesNumber 84 = .ok (.getfield 59, 3) := by decide +kernel
theorem dX7_takesNumber_87 : decode cX7_takesNumber 87 = .ok (.aload_n 0, 1) := by decide +kernel
theorem dX7_takesNumber_88 : decode cX7_takesNumber 88 = .ok (.getfield 62, 3) := by decide +kernel
theorem dX7_takesNumber_91 : decode cX7_takesNumber 91 = .ok (.isub, 1) := by decide +kernel
theorem dX7_takesNumber_92 : decode cX7_takesNumber 92 = .ok (.iconst 3, 1) := by decide +kernel
theorem dX7_takesNumber_93 : decode cX7_takesNumber 93 = .ok (.if_icmp .ge 22, 3) := by decide +kernel
theorem dX7_takesNumber_96 : decode cX7_takesNumber 96 = .ok (.aload_n 0, 1) := by decide +kernel
theorem dX7_takesNumber_97 : decode cX7_takesNumber 97 = .ok (.getfield 76, 3) := by decide +kernel
theorem dX7_takesNumber_100 : decode cX7_takesNumber 100 = .ok (.i2l, 1) := by decide +kernel
theorem dX7_takesNumber_101 : decode cX7_takesNumber 101 = .ok (.iload_n 1, 1) := by decide +kernel
theorem dX7_takesNumber_102 : decode cX7_takesNumber 102 = .ok (.i2l, 1) := by decide +kernel
theorem dX7_takesNumber_103 : decode cX7_takesNumber 103 = .ok (.iload_n 2, 1) := by decide +kernel
theorem dX7_takesNumber_104 : decode cX7_takesNumber 104 = .ok (.i2l, 1) := by decide +kernel
theorem dX7_takesNumber_105 : decode cX7_takesNumber 105 = .ok (.invokestatic 35, 3) := by decide +kernel
theorem dX7_takesNumber_108 : decode cX7_takesNumber 108 = .ok (.ifCond .eq 7, 3) := by decide +kernel
theorem dX7_takesNumber_111 : decode cX7_takesNumber 111 = .ok (.iconst 1, 1) := by decide +kernel
theorem dX7_takesNumber_112 : decode cX7_takesNumber 112 = .ok (.goto 4, 3) := by decide +kernel
theorem dX7_takesNumber_115 : decode cX7_takesNumber 115 = .ok (.iconst 0, 1) := by decide +kernel
theorem dX7_takesNumber_116 : decode cX7_takesNumber 116 = .ok (.ireturn, 1) := by decide +kernel
theorem dX7_takesOne_0 : decode cX7_takesOne 0 = .ok (.aload_n 0, 1) := by decide +kernel
theorem dX7_takesOne_1 : decode cX7_takesOne 1 = .ok (.getfield 16, 3) := by decide +kernel
theorem dX7_takesOne_4 : decode cX7_takesOne 4 = .ok (.iconst 1, 1) := by decide +kernel
theorem dX7_takesOne_5 : decode cX7_takesOne 5 = .ok (.iaload, 1) := by decide +kernel
theorem dX7_takesOne_6 : decode cX7_takesOne 6 = .ok (.bipush 6, 2) := by decide +kernel
theorem dX7_takesOne_8 : decode cX7_takesOne 8 = .ok (.if_icmp .eq 13, 3) := by decide +kernel
theorem dX7_takesOne_11 : decode cX7_takesOne 11 = .ok (.aload_n 0, 1) := by decide +kernel
theorem dX7_takesOne_12 : decode cX7_takesOne 12 = .ok (.iconst 0, 1) := by decide +kernel
theorem dX7_takesOne_13 : decode cX7_takesOne 13 = .ok (.bipush 63, 2) := by decide +kernel
theorem dX7_takesOne_15 : decode cX7_takesOne 15 = .ok (.invokevirtual 82, 3) := by decide +kernel
theorem dX7_takesOne_18 : decode cX7_takesOne 18 = .ok (.ifCond .ne 5, 3) := by decide +kernel
theorem dX7_takesOne_21 : decode cX7_takesOne 21 = .ok (.iconst 0, 1) := by decide +kernel
theorem dX7_takesOne_22 : decode cX7_takesOne 22 = .ok (.ireturn, 1) := by decide +kernel
theorem dX7_takesOne_23 : decode cX7_takesOne 23 = .ok (.aload_n 0, 1) := by decide +kernel
theorem dX7_takesOne_24 : decode cX7_takesOne 24 = .ok (.getfield 16, 3) := by decide +kernel
theorem dX7_takesOne_27 : decode cX7_takesOne 27 = .ok (.iconst 1, 1) := by decide +kernel
theorem dX7_takesOne_28 : decode cX7_takesOne 28 = .ok (.iaload, 1) := by decide +kernel
theorem dX7_takesOne_29 : decode cX7_takesOne 29 = .ok (.istore_n 2, 1) := by decide +kernel
theorem dX7_takesOne_30 : decode cX7_takesOne 30 = .ok (.aload_n 0, 1) := by decide +kernel
theorem dX7_takesOne_31 : decode cX7_takesOne 31 = .ok (.getfield 16, 3) := by decide +kernel
theorem dX7_takesOne_34 : decode cX7_takesOne 34 = .ok (.iconst 3, 1) := by decide +kernel
theorem dX7_takesOne_35 : decode cX7_takesOne 35 = .ok (.iload_n 2, 1) := by decide +kernel
theorem dX7_takesOne_36 : decode cX7_takesOne 36 = .ok (.iadd, 1) := by decide +kernel
theorem dX7_takesOne_37 : decode cX7_takesOne 37 = .ok (.iload_n 1, 1) := by decide +kernel
theorem dX7_takesOne_38 : decode cX7_takesOne 38 = .ok (.iastore, 1) := by decide +kernel
theorem dX7_takesOne_39 : decode cX7_takesOne 39 = .ok (.aload_n 0, 1) := by decide +kernel
theorem dX7_takesOne_40 : decode cX7_takesOne 40 = .ok (.getfield 16, 3) := by decide +kernel
theorem dX7_takesOne_43 : decode cX7_takesOne 43 = .ok (.bipush 9, 2) := by decide +kernel
theorem dX7_takesOne_45 : decode cX7_takesOne 45 = .ok (.iload_n 2, 1) := by decide +kernel
theorem dX7_takesOne_46 : decode cX7_takesOne 46 = .ok (.iadd, 1) := by decide +kernel
theorem dX7_takesOne_47 : decode cX7_takesOne 47 = .ok (.aload_n 0, 1) := by decide +kernel
theorem dX7_takesOne_48 : decode cX7_takesOne 48 = .ok (.getfield 76, 3) := by decide +kernel
theorem dX7_takesOne_51 : decode cX7_takesOne 51 = .ok (.iastore, 1) := by decide +kernel
theorem dX7_takesOne_52 : decode cX7_takesOne 52 = .ok (.iconst 0, 1) := by decide +kernel
theorem dX7_takesOne_53 : decode cX7_takesOne 53 = .ok (.istore_n 3, 1) := by decide +kernel
theorem dX7_takesOne_54 : decode cX7_takesOne 54 = .ok (.iload_n 3, 1) := by decide +kernel
theorem dX7_takesOne_55 : decode cX7_takesOne 55 = .ok (.bipush 6, 2) := by decide +kernel
theorem dX7_takesOne_57 : decode cX7_takesOne 57 = .ok (.if_icmp .ge 24, 3) := by decide +kernel
theorem dX7_takesOne_60 : decode cX7_takesOne 60 = .ok (.aload_n 0, 1) := by decide +kernel
theorem dX7_takesOne_61 : decode cX7_takesOne 61 = .ok (.getfield 16, 3) := by decide +kernel
theorem dX7_takesOne_64 : decode cX7_takesOne 64 = .ok (.bipush 15, 2) := by decide +kernel
theorem dX7_takesOne_66 : decode cX7_takesOne 66 = .ok (.bipush 6, 2) := by decide +kernel
theorem dX7_takesOne_68 : decode cX7_takesOne 68 = .ok (.iload_n 2, 1) := by decide +kernel
theorem dX7_takesOne_69 : decode cX7_takesOne 69 = .ok (.imul, 1) := by decide +kernel
theorem dX7_takesOne_70 : decode cX7_takesOne 70 = .ok (.iadd, 1) := by decide +kernel
theorem dX7_takesOne_71 : decode cX7_takesOne 71 = .ok (.iload_n 3, 1) := by decide +kernel
theorem dX7_takesOne_72 : decode cX7_takesOne 72 = .ok (.iadd, 1) := by decide +kernel
theorem dX7_takesOne_73 : decode cX7_takesOne 73 = .ok (.iconst 0, 1) := by decide +kernel
theorem dX7_takesOne_74 : decode cX7_takesOne 74 = .ok (.iastore, 1) := by decide +kernel
theorem dX7_takesOne_75 : decode cX7_takesOne 75 = .ok (.iinc 3 1, 3) := by decide +kernel
theorem dX7_takesOne_78 : decode cX7_takesOne 78 = .ok (.goto (-24), 3) := by decide +kernel
theorem dX7_takesOne_81 : decode cX7_takesOne 81 = .ok (.aload_n 0, 1) := by decide +kernel
theorem dX7_takesOne_82 : decode cX7_takesOne 82 = .ok (.getfield 16, 3) := by decide +kernel
theorem dX7_takesOne_85 : decode cX7_takesOne 85 = .ok (.iconst 1, 1) := by decide +kernel
theorem dX7_takesOne_86 : decode cX7_takesOne 86 = .ok (.dup2, 1) := by decide +kernel
theorem dX7_takesOne_87 : decode cX7_takesOne 87 = .ok (.iaload, 1) := by decide +kernel
theorem dX7_takesOne_88 : decode cX7_takesOne 88 = .ok (.iconst 1, 1) := by decide +kernel
theorem dX7_takesOne_89 : decode cX7_takesOne 89 = .ok (.iadd, 1) := by decide +kernel
theorem dX7_takesOne_90 : decode cX7_takesOne 90 = .ok (.iastore, 1) := by decide +kernel
theorem dX7_takesOne_91 : decode cX7_takesOne 91 = .ok (.iconst 1, 1) := by decide +kernel
theorem dX7_takesOne_92 : decode cX7_takesOne 92 = .ok (.ireturn, 1) := by decide +kernel
theorem dX7_takesTown_0 : decode cX7_takesTown 0 = .ok (.aload_n 0, 1) := by decide +kernel
theorem dX7_takesTown_1 : decode cX7_takesTown 1 = .ok (.iconst 1, 1) := by decide +kernel
theorem dX7_takesTown_2 : decode cX7_takesTown 2 = .ok (.iconst 4, 1) := by decide +kernel
theorem dX7_takesTown_3 : decode cX7_takesTown 3 = .ok (.invokevirtual 82, 3) := by decide +kernel
theorem dX7_takesTown_6 : decode cX7_takesTown 6 = .ok (.ifCond .ne 5, 3) := by decide +kernel
theorem dX7_takesTown_9 : decode cX7_takesTown 9 = .ok (.iconst 0, 1) := by decide +kernel
theorem dX7_takesTown_10 : decode cX7_takesTown 10 = .ok (.ireturn, 1) := by decide +kernel
theorem dX7_takesTown_11 : decode cX7_takesTown 11 = .ok (.aload_n 0, 1) := by decide +kernel
theorem dX7_takesTown_12 : decode cX7_takesTown 12 = .ok (.getfield 16, 3) := by decide +kernel
theorem dX7_takesTown_15 : decode cX7_takesTown 15 = .ok (.iconst 0, 1) := by decide +kernel
theorem dX7_takesTown_16 : decode cX7_takesTown 16 = .ok (.aload_n 0, 1) := by decide +kernel
theorem dX7_takesTown_17 : decode cX7_takesTown 17 = .ok (.getfield 76, 3) := by decide +kernel
theorem dX7_takesTown_20 : decode cX7_takesTown 20 = .ok (.iastore, 1) := by decide +kernel
theorem dX7_takesTown_21 : decode cX7_takesTown 21 = .ok (.aload_n 0, 1) := by decide +kernel
theorem dX7_takesTown_22 : decode cX7_takesTown 22 = .ok (.getfield 16, 3) := by decide +kernel
theorem dX7_takesTown_25 : decode cX7_takesTown 25 = .ok (.iconst 1, 1) := by decide +kernel

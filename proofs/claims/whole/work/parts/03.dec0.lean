theorem dX0_init_0 : decode cX0_init 0 = .ok (.aload_n 0, 1) := by decide +kernel
theorem dX0_init_1 : decode cX0_init 1 = .ok (.invokespecial 1, 3) := by decide +kernel
theorem dX0_init_4 : decode cX0_init 4 = .ok (.aload_n 0, 1) := by decide +kernel
theorem dX0_init_5 : decode cX0_init 5 = .ok (.iconst 0, 1) := by decide +kernel
theorem dX0_init_6 : decode cX0_init 6 = .ok (.iload_n 1, 1) := by decide +kernel
theorem dX0_init_7 : decode cX0_init 7 = .ok (.invokestatic 7, 3) := by decide +kernel
theorem dX0_init_10 : decode cX0_init 10 = .ok (.newarray .int, 2) := by decide +kernel
theorem dX0_init_12 : decode cX0_init 12 = .ok (.putfield 13, 3) := by decide +kernel
theorem dX0_init_15 : decode cX0_init 15 = .ok (.return_, 1) := by decide +kernel
theorem dX0_at_0 : decode cX0_at 0 = .ok (.iload_n 1, 1) := by decide +kernel
theorem dX0_at_1 : decode cX0_at 1 = .ok (.ifCond .lt 21, 3) := by decide +kernel
theorem dX0_at_4 : decode cX0_at 4 = .ok (.iload_n 1, 1) := by decide +kernel
theorem dX0_at_5 : decode cX0_at 5 = .ok (.aload_n 0, 1) := by decide +kernel
theorem dX0_at_6 : decode cX0_at 6 = .ok (.getfield 13, 3) := by decide +kernel
theorem dX0_at_9 : decode cX0_at 9 = .ok (.arraylength, 1) := by decide +kernel
theorem dX0_at_10 : decode cX0_at 10 = .ok (.if_icmp .ge 12, 3) := by decide +kernel
theorem dX0_at_13 : decode cX0_at 13 = .ok (.aload_n 0, 1) := by decide +kernel
theorem dX0_at_14 : decode cX0_at 14 = .ok (.getfield 13, 3) := by decide +kernel
theorem dX0_at_17 : decode cX0_at 17 = .ok (.iload_n 1, 1) := by decide +kernel
theorem dX0_at_18 : decode cX0_at 18 = .ok (.iaload, 1) := by decide +kernel
theorem dX0_at_19 : decode cX0_at 19 = .ok (.goto 4, 3) := by decide +kernel
theorem dX0_at_22 : decode cX0_at 22 = .ok (.iconst 0, 1) := by decide +kernel
theorem dX0_at_23 : decode cX0_at 23 = .ok (.ireturn, 1) := by decide +kernel
theorem dX0_put_0 : decode cX0_put 0 = .ok (.iload_n 1, 1) := by decide +kernel
theorem dX0_put_1 : decode cX0_put 1 = .ok (.ifCond .lt 19, 3) := by decide +kernel
theorem dX0_put_4 : decode cX0_put 4 = .ok (.iload_n 1, 1) := by decide +kernel
theorem dX0_put_5 : decode cX0_put 5 = .ok (.aload_n 0, 1) := by decide +kernel
theorem dX0_put_6 : decode cX0_put 6 = .ok (.getfield 13, 3) := by decide +kernel
theorem dX0_put_9 : decode cX0_put 9 = .ok (.arraylength, 1) := by decide +kernel
theorem dX0_put_10 : decode cX0_put 10 = .ok (.if_icmp .ge 10, 3) := by decide +kernel
theorem dX0_put_13 : decode cX0_put 13 = .ok (.aload_n 0, 1) := by decide +kernel
theorem dX0_put_14 : decode cX0_put 14 = .ok (.getfield 13, 3) := by decide +kernel
theorem dX0_put_17 : decode cX0_put 17 = .ok (.iload_n 1, 1) := by decide +kernel
theorem dX0_put_18 : decode cX0_put 18 = .ok (.iload_n 2, 1) := by decide +kernel
theorem dX0_put_19 : decode cX0_put 19 = .ok (.iastore, 1) := by decide +kernel
theorem dX0_put_20 : decode cX0_put 20 = .ok (.return_, 1) := by decide +kernel
theorem dX0_zero_0 : decode cX0_zero 0 = .ok (.iconst 0, 1) := by decide +kernel
theorem dX0_zero_1 : decode cX0_zero 1 = .ok (.istore_n 1, 1) := by decide +kernel
theorem dX0_zero_2 : decode cX0_zero 2 = .ok (.iload_n 1, 1) := by decide +kernel
theorem dX0_zero_3 : decode cX0_zero 3 = .ok (.aload_n 0, 1) := by decide +kernel
theorem dX0_zero_4 : decode cX0_zero 4 = .ok (.getfield 13, 3) := by decide +kernel
theorem dX0_zero_7 : decode cX0_zero 7 = .ok (.arraylength, 1) := by decide +kernel
theorem dX0_zero_8 : decode cX0_zero 8 = .ok (.if_icmp .ge 16, 3) := by decide +kernel
theorem dX0_zero_11 : decode cX0_zero 11 = .ok (.aload_n 0, 1) := by decide +kernel
theorem dX0_zero_12 : decode cX0_zero 12 = .ok (.getfield 13, 3) := by decide +kernel
theorem dX0_zero_15 : decode cX0_zero 15 = .ok (.iload_n 1, 1) := by decide +kernel
theorem dX0_zero_16 : decode cX0_zero 16 = .ok (.iconst 0, 1) := by decide +kernel
theorem dX0_zero_17 : decode cX0_zero 17 = .ok (.iastore, 1) := by decide +kernel
theorem dX0_zero_18 : decode cX0_zero 18 = .ok (.iinc 1 1, 3) := by decide +kernel
theorem dX0_zero_21 : decode cX0_zero 21 = .ok (.goto (-19), 3) := by decide +kernel
theorem dX0_zero_24 : decode cX0_zero 24 = .ok (.return_, 1) := by decide +kernel
theorem dX0_take_0 : decode cX0_take 0 = .ok (.iload_n 2, 1) := by decide +kernel
theorem dX0_take_1 : decode cX0_take 1 = .ok (.ifCond .lt 12, 3) := by decide +kernel
theorem dX0_take_4 : decode cX0_take 4 = .ok (.iload_n 3, 1) := by decide +kernel
theorem dX0_take_5 : decode cX0_take 5 = .ok (.ifCond .lt 8, 3) := by decide +kernel
theorem dX0_take_8 : decode cX0_take 8 = .ok (.iload 4, 2) := by decide +kernel
theorem dX0_take_10 : decode cX0_take 10 = .ok (.ifCond .ge 4, 3) := by decide +kernel
theorem dX0_take_13 : decode cX0_take 13 = .ok (.return_, 1) := by decide +kernel
theorem dX0_take_14 : decode cX0_take 14 = .ok (.iload_n 2, 1) := by decide +kernel
theorem dX0_take_15 : decode cX0_take 15 = .ok (.aload_n 1, 1) := by decide +kernel
theorem dX0_take_16 : decode cX0_take 16 = .ok (.getfield 13, 3) := by decide +kernel
theorem dX0_take_19 : decode cX0_take 19 = .ok (.arraylength, 1) := by decide +kernel
theorem dX0_take_20 : decode cX0_take 20 = .ok (.iload 4, 2) := by decide +kernel
theorem dX0_take_22 : decode cX0_take 22 = .ok (.isub, 1) := by decide +kernel
theorem dX0_take_23 : decode cX0_take 23 = .ok (.if_icmp .gt 15, 3) := by decide +kernel
theorem dX0_take_26 : decode cX0_take 26 = .ok (.iload_n 3, 1) := by decide +kernel
theorem dX0_take_27 : decode cX0_take 27 = .ok (.aload_n 0, 1) := by decide +kernel
theorem dX0_take_28 : decode cX0_take 28 = .ok (.getfield 13, 3) := by decide +kernel
theorem dX0_take_31 : decode cX0_take 31 = .ok (.arraylength, 1) := by decide +kernel
theorem dX0_take_32 : decode cX0_take 32 = .ok (.iload 4, 2) := by decide +kernel
theorem dX0_take_34 : decode cX0_take 34 = .ok (.isub, 1) := by decide +kernel
theorem dX0_take_35 : decode cX0_take 35 = .ok (.if_icmp .le 4, 3) := by decide +kernel
theorem dX0_take_38 : decode cX0_take 38 = .ok (.return_, 1) := by decide +kernel
theorem dX0_take_39 : decode cX0_take 39 = .ok (.aload_n 1, 1) := by decide +kernel
theorem dX0_take_40 : decode cX0_take 40 = .ok (.getfield 13, 3) := by decide +kernel
theorem dX0_take_43 : decode cX0_take 43 = .ok (.iload_n 2, 1) := by decide +kernel
theorem dX0_take_44 : decode cX0_take 44 = .ok (.aload_n 0, 1) := by decide +kernel
theorem dX0_take_45 : decode cX0_take 45 = .ok (.getfield 13, 3) := by decide +kernel
theorem dX0_take_48 : decode cX0_take 48 = .ok (.iload_n 3, 1) := by decide +kernel
theorem dX0_take_49 : decode cX0_take 49 = .ok (.iload 4, 2) := by decide +kernel
theorem dX0_take_51 : decode cX0_take 51 = .ok (.invokestatic 19, 3) := by decide +kernel
theorem dX0_take_54 : decode cX0_take 54 = .ok (.return_, 1) := by decide +kernel
theorem dX1_init_0 : decode cX1_init 0 = .ok (.aload_n 0, 1) := by decide +kernel
theorem dX1_init_1 : decode cX1_init 1 = .ok (.invokespecial 3, 3) := by decide +kernel
theorem dX1_init_4 : decode cX1_init 4 = .ok (.aload_n 0, 1) := by decide +kernel
theorem dX1_init_5 : decode cX1_init 5 = .ok (.new 9, 3) := by decide +kernel
theorem dX1_init_8 : decode cX1_init 8 = .ok (.dup, 1) := by decide +kernel
theorem dX1_init_9 : decode cX1_init 9 = .ok (.sipush 160, 3) := by decide +kernel
theorem dX1_init_12 : decode cX1_init 12 = .ok (.invokespecial 11, 3) := by decide +kernel
theorem dX1_init_15 : decode cX1_init 15 = .ok (.putfield 14, 3) := by decide +kernel
theorem dX1_init_18 : decode cX1_init 18 = .ok (.aload_n 0, 1) := by decide +kernel
theorem dX1_init_19 : decode cX1_init 19 = .ok (.new 9, 3) := by decide +kernel
theorem dX1_init_22 : decode cX1_init 22 = .ok (.dup, 1) := by decide +kernel
theorem dX1_init_23 : decode cX1_init 23 = .ok (.bipush 14, 2) := by decide +kernel
theorem dX1_init_25 : decode cX1_init 25 = .ok (.invokespecial 11, 3) := by decide +kernel
theorem dX1_init_28 : decode cX1_init 28 = .ok (.putfield 20, 3) := by decide +kernel
theorem dX1_init_31 : decode cX1_init 31 = .ok (.aload_n 0, 1) := by decide +kernel
theorem dX1_init_32 : decode cX1_init 32 = .ok (.new 9, 3) := by decide +kernel
theorem dX1_init_35 : decode cX1_init 35 = .ok (.dup, 1) := by decide +kernel
theorem dX1_init_36 : decode cX1_init 36 = .ok (.bipush 42, 2) := by decide +kernel
theorem dX1_init_38 : decode cX1_init 38 = .ok (.invokespecial 11, 3) := by decide +kernel
theorem dX1_init_41 : decode cX1_init 41 = .ok (.putfield 23, 3) := by decide +kernel
theorem dX1_init_44 : decode cX1_init 44 = .ok (.return_, 1) := by decide +kernel
theorem dX1_addLetter_0 : decode cX1_addLetter 0 = .ok (.aload_n 0, 1) := by decide +kernel
theorem dX1_addLetter_1 : decode cX1_addLetter 1 = .ok (.getfield 14, 3) := by decide +kernel
theorem dX1_addLetter_4 : decode cX1_addLetter 4 = .ok (.aload_n 0, 1) := by decide +kernel
theorem dX1_addLetter_5 : decode cX1_addLetter 5 = .ok (.getfield 26, 3) := by decide +kernel
theorem dX1_addLetter_8 : decode cX1_addLetter 8 = .ok (.iload_n 1, 1) := by decide +kernel
theorem dX1_addLetter_9 : decode cX1_addLetter 9 = .ok (.invokevirtual 30, 3) := by decide +kernel
theorem dX1_addLetter_12 : decode cX1_addLetter 12 = .ok (.aload_n 0, 1) := by decide +kernel
theorem dX1_addLetter_13 : decode cX1_addLetter 13 = .ok (.sipush 160, 3) := by decide +kernel
theorem dX1_addLetter_16 : decode cX1_addLetter 16 = .ok (.aload_n 0, 1) := by decide +kernel
theorem dX1_addLetter_17 : decode cX1_addLetter 17 = .ok (.getfield 26, 3) := by decide +kernel
theorem dX1_addLetter_20 : decode cX1_addLetter 20 = .ok (.iconst 1, 1) := by decide +kernel
theorem dX1_addLetter_21 : decode cX1_addLetter 21 = .ok (.iadd, 1) := by decide +kernel
theorem dX1_addLetter_22 : decode cX1_addLetter 22 = .ok (.invokestatic 34, 3) := by decide +kernel
theorem dX1_addLetter_25 : decode cX1_addLetter 25 = .ok (.putfield 26, 3) := by decide +kernel
theorem dX1_addLetter_28 : decode cX1_addLetter 28 = .ok (.return_, 1) := by decide +kernel
theorem dX1_empty_0 : decode cX1_empty 0 = .ok (.aload_n 0, 1) := by decide +kernel
theorem dX1_empty_1 : decode cX1_empty 1 = .ok (.iconst 0, 1) := by decide +kernel
theorem dX1_empty_2 : decode cX1_empty 2 = .ok (.putfield 26, 3) := by decide +kernel
theorem dX1_empty_5 : decode cX1_empty 5 = .ok (.return_, 1) := by decide +kernel
theorem dX1_wordOf_0 : decode cX1_wordOf 0 = .ok (.aload_n 0, 1) := by decide +kernel
theorem dX1_wordOf_1 : decode cX1_wordOf 1 = .ok (.getfield 20, 3) := by decide +kernel
theorem dX1_wordOf_4 : decode cX1_wordOf 4 = .ok (.iload_n 1, 1) := by decide +kernel
theorem dX1_wordOf_5 : decode cX1_wordOf 5 = .ok (.invokevirtual 40, 3) := by decide +kernel
theorem dX1_wordOf_8 : decode cX1_wordOf 8 = .ok (.ireturn, 1) := by decide +kernel
theorem dX1_numberOf_0 : decode cX1_numberOf 0 = .ok (.aload_n 0, 1) := by decide +kernel
theorem dX1_numberOf_1 : decode cX1_numberOf 1 = .ok (.getfield 23, 3) := by decide +kernel
theorem dX1_numberOf_4 : decode cX1_numberOf 4 = .ok (.iload_n 1, 1) := by decide +kernel
theorem dX1_numberOf_5 : decode cX1_numberOf 5 = .ok (.iconst 3, 1) := by decide +kernel
theorem dX1_numberOf_6 : decode cX1_numberOf 6 = .ok (.imul, 1) := by decide +kernel
theorem dX1_numberOf_7 : decode cX1_numberOf 7 = .ok (.iload_n 2, 1) := by decide +kernel
theorem dX1_numberOf_8 : decode cX1_numberOf 8 = .ok (.iadd, 1) := by decide +kernel
theorem dX1_numberOf_9 : decode cX1_numberOf 9 = .ok (.invokevirtual 40, 3) := by decide +kernel
theorem dX1_numberOf_12 : decode cX1_numberOf 12 = .ok (.ireturn, 1) := by decide +kernel
theorem dX1_readAll_0 : decode cX1_readAll 0 = .ok (.aload_n 0, 1) := by decide +kernel
theorem dX1_readAll_1 : decode cX1_readAll 1 = .ok (.iload_n 1, 1) := by decide +kernel
theorem dX1_readAll_2 : decode cX1_readAll 2 = .ok (.putfield 44, 3) := by decide +kernel
theorem dX1_readAll_5 : decode cX1_readAll 5 = .ok (.aload_n 0, 1) := by decide +kernel
theorem dX1_readAll_6 : decode cX1_readAll 6 = .ok (.iload_n 2, 1) := by decide +kernel
theorem dX1_readAll_7 : decode cX1_readAll 7 = .ok (.putfield 47, 3) := by decide +kernel
theorem dX1_readAll_10 : decode cX1_readAll 10 = .ok (.aload_n 0, 1) := by decide +kernel
theorem dX1_readAll_11 : decode cX1_readAll 11 = .ok (.iconst 0, 1) := by decide +kernel
theorem dX1_readAll_12 : decode cX1_readAll 12 = .ok (.putfield 50, 3) := by decide +kernel
theorem dX1_readAll_15 : decode cX1_readAll 15 = .ok (.aload_n 0, 1) := by decide +kernel
theorem dX1_readAll_16 : decode cX1_readAll 16 = .ok (.iconst 0, 1) := by decide +kernel
theorem dX1_readAll_17 : decode cX1_readAll 17 = .ok (.putfield 53, 3) := by decide +kernel
theorem dX1_readAll_20 : decode cX1_readAll 20 = .ok (.aload_n 0, 1) := by decide +kernel
theorem dX1_readAll_21 : decode cX1_readAll 21 = .ok (.invokevirtual 56, 3) := by decide +kernel
theorem dX1_readAll_24 : decode cX1_readAll 24 = .ok (.aload_n 0, 1) := by decide +kernel
theorem dX1_readAll_25 : decode cX1_readAll 25 = .ok (.invokevirtual 59, 3) := by decide +kernel
theorem dX1_readAll_28 : decode cX1_readAll 28 = .ok (.ifCond .ne 8, 3) := by decide +kernel
theorem dX1_readAll_31 : decode cX1_readAll 31 = .ok (.aload_n 0, 1) := by decide +kernel
theorem dX1_readAll_32 : decode cX1_readAll 32 = .ok (.getfield 63, 3) := by decide +kernel
theorem dX1_readAll_35 : decode cX1_readAll 35 = .ok (.ireturn, 1) := by decide +kernel
theorem dX1_readAll_36 : decode cX1_readAll 36 = .ok (.aload_n 0, 1) := by decide +kernel
theorem dX1_readAll_37 : decode cX1_readAll 37 = .ok (.dup, 1) := by decide +kernel
theorem dX1_readAll_38 : decode cX1_readAll 38 = .ok (.getfield 50, 3) := by decide +kernel
theorem dX1_readAll_41 : decode cX1_readAll 41 = .ok (.iconst 1, 1) := by decide +kernel
theorem dX1_readAll_42 : decode cX1_readAll 42 = .ok (.iadd, 1) := by decide +kernel
theorem dX1_readAll_43 : decode cX1_readAll 43 = .ok (.putfield 50, 3) := by decide +kernel
theorem dX1_readAll_46 : decode cX1_readAll 46 = .ok (.aload_n 0, 1) := by decide +kernel
theorem dX1_readAll_47 : decode cX1_readAll 47 = .ok (.invokevirtual 56, 3) := by decide +kernel
theorem dX1_readAll_50 : decode cX1_readAll 50 = .ok (.aload_n 0, 1) := by decide +kernel
theorem dX1_readAll_51 : decode cX1_readAll 51 = .ok (.getfield 63, 3) := by decide +kernel
theorem dX1_readAll_54 : decode cX1_readAll 54 = .ok (.aload_n 0, 1) := by decide +kernel
theorem dX1_readAll_55 : decode cX1_readAll 55 = .ok (.getfield 26, 3) := by decide +kernel
theorem dX1_readAll_58 : decode cX1_readAll 58 = .ok (.if_icmp .lt 5, 3) := by decide +kernel
theorem dX1_readAll_61 : decode cX1_readAll 61 = .ok (.iconst (-1), 1) := by decide +kernel
theorem dX1_readAll_62 : decode cX1_readAll 62 = .ok (.ireturn, 1) := by decide +kernel
theorem dX1_readAll_63 : decode cX1_readAll 63 = .ok (.aload_n 0, 1) := by decide +kernel
theorem dX1_readAll_64 : decode cX1_readAll 64 = .ok (.getfield 50, 3) := by decide +kernel
theorem dX1_readAll_67 : decode cX1_readAll 67 = .ok (.bipush 14, 2) := by decide +kernel
theorem dX1_readAll_69 : decode cX1_readAll 69 = .ok (.if_icmp .ge 19, 3) := by decide +kernel
theorem dX1_readAll_72 : decode cX1_readAll 72 = .ok (.aload_n 0, 1) := by decide +kernel
theorem dX1_readAll_73 : decode cX1_readAll 73 = .ok (.getfield 14, 3) := by decide +kernel
theorem dX1_readAll_76 : decode cX1_readAll 76 = .ok (.aload_n 0, 1) := by decide +kernel
theorem dX1_readAll_77 : decode cX1_readAll 77 = .ok (.getfield 63, 3) := by decide +kernel
theorem dX1_readAll_80 : decode cX1_readAll 80 = .ok (.invokevirtual 40, 3) := by decide +kernel
theorem dX1_readAll_83 : decode cX1_readAll 83 = .ok (.bipush 59, 2) := by decide +kernel
theorem dX1_readAll_85 : decode cX1_readAll 85 = .ok (.if_icmp .eq (-65), 3) := by decide +kernel
theorem dX1_readAll_88 : decode cX1_readAll 88 = .ok (.aload_n 0, 1) := by decide +kernel
theorem dX1_readAll_89 : decode cX1_readAll 89 = .ok (.getfield 63, 3) := by decide +kernel
theorem dX1_readAll_92 : decode cX1_readAll 92 = .ok (.ireturn, 1) := by decide +kernel
theorem dX1_readClause_0 : decode cX1_readClause 0 = .ok (.aload_n 0, 1) := by decide +kernel
theorem dX1_readClause_1 : decode cX1_readClause 1 = .ok (.invokevirtual 66, 3) := by decide +kernel
theorem dX1_readClause_4 : decode cX1_readClause 4 = .ok (.istore_n 1, 1) := by decide +kernel
theorem dX1_readClause_5 : decode cX1_readClause 5 = .ok (.aload_n 0, 1) := by decide +kernel
theorem dX1_readClause_6 : decode cX1_readClause 6 = .ok (.iload_n 1, 1) := by decide +kernel
theorem dX1_readClause_7 : decode cX1_readClause 7 = .ok (.invokevirtual 70, 3) := by decide +kernel
theorem dX1_readClause_10 : decode cX1_readClause 10 = .ok (.ifCond .ne 5, 3) := by decide +kernel
theorem dX1_readClause_13 : decode cX1_readClause 13 = .ok (.iconst 0, 1) := by decide +kernel
theorem dX1_readClause_14 : decode cX1_readClause 14 = .ok (.ireturn, 1) := by decide +kernel
theorem dX1_readClause_15 : decode cX1_readClause 15 = .ok (.aload_n 0, 1) := by decide +kernel
theorem dX1_readClause_16 : decode cX1_readClause 16 = .ok (.getfield 20, 3) := by decide +kernel
theorem dX1_readClause_19 : decode cX1_readClause 19 = .ok (.aload_n 0, 1) := by decide +kernel
theorem dX1_readClause_20 : decode cX1_readClause 20 = .ok (.getfield 50, 3) := by decide +kernel
theorem dX1_readClause_23 : decode cX1_readClause 23 = .ok (.iload_n 1, 1) := by decide +kernel
theorem dX1_readClause_24 : decode cX1_readClause 24 = .ok (.invokevirtual 30, 3) := by decide +kernel
theorem dX1_readClause_27 : decode cX1_readClause 27 = .ok (.aload_n 0, 1) := by decide +kernel
theorem dX1_readClause_28 : decode cX1_readClause 28 = .ok (.iload_n 1, 1) := by decide +kernel
theorem dX1_readClause_29 : decode cX1_readClause 29 = .ok (.invokevirtual 74, 3) := by decide +kernel
theorem dX1_readClause_32 : decode cX1_readClause 32 = .ok (.iload_n 1, 1) := by decide +kernel
theorem dX1_readClause_33 : decode cX1_readClause 33 = .ok (.lookupswitch 77 #[(4, 27), (6, 35)], 27) := by decide +kernel
theorem dX1_readClause_60 : decode cX1_readClause 60 = .ok (.aload_n 0, 1) := by decide +kernel
theorem dX1_readClause_61 : decode cX1_readClause 61 = .ok (.iconst 0, 1) := by decide +kernel
theorem dX1_readClause_62 : decode cX1_readClause 62 = .ok (.iconst 1, 1) := by decide +kernel
theorem dX1_readClause_63 : decode cX1_readClause 63 = .ok (.iconst 4, 1) := by decide +kernel
theorem dX1_readClause_64 : decode cX1_readClause 64 = .ok (.invokevirtual 77, 3) := by decide +kernel
theorem dX1_readClause_67 : decode cX1_readClause 67 = .ok (.ireturn, 1) := by decide +kernel
theorem dX1_readClause_68 : decode cX1_readClause 68 = .ok (.aload_n 0, 1) := by decide +kernel
theorem dX1_readClause_69 : decode cX1_readClause 69 = .ok (.iconst 0, 1) := by decide +kernel
theorem dX1_readClause_70 : decode cX1_readClause 70 = .ok (.iconst 0, 1) := by decide +kernel
theorem dX1_readClause_71 : decode cX1_readClause 71 = .ok (.aload_n 0, 1) := by decide +kernel
theorem dX1_readClause_72 : decode cX1_readClause 72 = .ok (.getfield 44, 3) := by decide +kernel
theorem dX1_readClause_75 : decode cX1_readClause 75 = .ok (.iconst 1, 1) := by decide +kernel
theorem dX1_readClause_76 : decode cX1_readClause 76 = .ok (.isub, 1) := by decide +kernel
theorem dX1_readClause_77 : decode cX1_readClause 77 = .ok (.invokevirtual 77, 3) := by decide +kernel
theorem dX1_readClause_80 : decode cX1_readClause 80 = .ok (.ifCond .eq 28, 3) := by decide +kernel
theorem dX1_readClause_83 : decode cX1_readClause 83 = .ok (.aload_n 0, 1) := by decide +kernel
theorem dX1_readClause_84 : decode cX1_readClause 84 = .ok (.iconst 1, 1) := by decide +kernel
theorem dX1_readClause_85 : decode cX1_readClause 85 = .ok (.iconst 0, 1) := by decide +kernel
theorem dX1_readClause_86 : decode cX1_readClause 86 = .ok (.iconst 5, 1) := by decide +kernel
theorem dX1_readClause_87 : decode cX1_readClause 87 = .ok (.invokevirtual 77, 3) := by decide +kernel
theorem dX1_readClause_90 : decode cX1_readClause 90 = .ok (.ifCond .eq 18, 3) := by decide +kernel
theorem dX1_readClause_93 : decode cX1_readClause 93 = .ok (.aload_n 0, 1) := by decide +kernel
theorem dX1_readClause_94 : decode cX1_readClause 94 = .ok (.iconst 2, 1) := by decide +kernel
theorem dX1_readClause_95 : decode cX1_readClause 95 = .ok (.iconst 0, 1) := by decide +kernel
theorem dX1_readClause_96 : decode cX1_readClause 96 = .ok (.bipush 9, 2) := by decide +kernel
theorem dX1_readClause_98 : decode cX1_readClause 98 = .ok (.invokevirtual 77, 3) := by decide +kernel
theorem dX1_readClause_101 : decode cX1_readClause 101 = .ok (.ifCond .eq 7, 3) := by decide +kernel
theorem dX1_readClause_104 : decode cX1_readClause 104 = .ok (.iconst 1, 1) := by decide +kernel
theorem dX1_readClause_105 : decode cX1_readClause 105 = .ok (.goto 4, 3) := by decide +kernel
theorem dX1_readClause_108 : decode cX1_readClause 108 = .ok (.iconst 0, 1) := by decide +kernel
theorem dX1_readClause_109 : decode cX1_readClause 109 = .ok (.ireturn, 1) := by decide +kernel
theorem dX1_readClause_110 : decode cX1_readClause 110 = .ok (.aload_n 0, 1) := by decide +kernel
theorem dX1_readClause_111 : decode cX1_readClause 111 = .ok (.iconst 0, 1) := by decide +kernel
theorem dX1_readClause_112 : decode cX1_readClause 112 = .ok (.iconst 0, 1) := by decide +kernel
theorem dX1_readClause_113 : decode cX1_readClause 113 = .ok (.bipush 63, 2) := by decide +kernel
theorem dX1_readClause_115 : decode cX1_readClause 115 = .ok (.invokevirtual 77, 3) := by decide +kernel
theorem dX1_readClause_118 : decode cX1_readClause 118 = .ok (.ireturn, 1) := by decide +kernel
theorem dX1_canStand_0 : decode cX1_canStand 0 = .ok (.iload_n 1, 1) := by decide +kernel
theorem dX1_canStand_1 : decode cX1_canStand 1 = .ok (.tableswitch 68 (-1) 6 #[47, 68, 68, 68, 68, 49, 53, 51], 47) := by decide +kernel
theorem dX1_canStand_48 : decode cX1_canStand 48 = .ok (.iconst 0, 1) := by decide +kernel
theorem dX1_canStand_49 : decode cX1_canStand 49 = .ok (.ireturn, 1) := by decide +kernel
theorem dX1_canStand_50 : decode cX1_canStand 50 = .ok (.iconst 1, 1) := by decide +kernel
theorem dX1_canStand_51 : decode cX1_canStand 51 = .ok (.ireturn, 1) := by decide +kernel
theorem dX1_canStand_52 : decode cX1_canStand 52 = .ok (.iconst 1, 1) := by decide +kernel
theorem dX1_canStand_53 : decode cX1_canStand 53 = .ok (.ireturn, 1) := by decide +kernel
theorem dX1_canStand_54 : decode cX1_canStand 54 = .ok (.aload_n 0, 1) := by decide +kernel
theorem dX1_canStand_55 : decode cX1_canStand 55 = .ok (.getfield 47, 3) := by decide +kernel
theorem dX1_canStand_58 : decode cX1_canStand 58 = .ok (.bipush 8, 2) := by decide +kernel
theorem dX1_canStand_60 : decode cX1_canStand 60 = .ok (.if_icmp .ge 7, 3) := by decide +kernel
theorem dX1_canStand_63 : decode cX1_canStand 63 = .ok (.iconst 1, 1) := by decide +kernel
theorem dX1_canStand_64 : decode cX1_canStand 64 = .ok (.goto 4, 3) := by decide +kernel
theorem dX1_canStand_67 : decode cX1_canStand 67 = .ok (.iconst 0, 1) := by decide +kernel
theorem dX1_canStand_68 : decode cX1_canStand 68 = .ok (.ireturn, 1) := by decide +kernel
theorem dX1_canStand_69 : decode cX1_canStand 69 = .ok (.aload_n 0, 1) := by decide +kernel
theorem dX1_canStand_70 : decode cX1_canStand 70 = .ok (.getfield 44, 3) := by decide +kernel
theorem dX1_canStand_73 : decode cX1_canStand 73 = .ok (.bipush 6, 2) := by decide +kernel
theorem dX1_canStand_75 : decode cX1_canStand 75 = .ok (.if_icmp .ge 7, 3) := by decide +kernel
theorem dX1_canStand_78 : decode cX1_canStand 78 = .ok (.iconst 1, 1) := by decide +kernel
theorem dX1_canStand_79 : decode cX1_canStand 79 = .ok (.goto 4, 3) := by decide +kernel
theorem dX1_canStand_82 : decode cX1_canStand 82 = .ok (.iconst 0, 1) := by decide +kernel
theorem dX1_canStand_83 : decode cX1_canStand 83 = .ok (.ireturn, 1) := by decide +kernel
theorem dX1_countIn_0 : decode cX1_countIn 0 = .ok (.iload_n 1, 1) := by decide +kernel
theorem dX1_countIn_1 : decode cX1_countIn 1 = .ok (.tableswitch 56 4 6 #[27, 43, 40], 27) := by decide +kernel
theorem dX1_countIn_28 : decode cX1_countIn 28 = .ok (.aload_n 0, 1) := by decide +kernel
theorem dX1_countIn_29 : decode cX1_countIn 29 = .ok (.iconst 0, 1) := by decide +kernel
theorem dX1_countIn_30 : decode cX1_countIn 30 = .ok (.putfield 44, 3) := by decide +kernel
theorem dX1_countIn_33 : decode cX1_countIn 33 = .ok (.aload_n 0, 1) := by decide +kernel
theorem dX1_countIn_34 : decode cX1_countIn 34 = .ok (.iconst 0, 1) := by decide +kernel
theorem dX1_countIn_35 : decode cX1_countIn 35 = .ok (.putfield 47, 3) := by decide +kernel
theorem dX1_countIn_38 : decode cX1_countIn 38 = .ok (.goto 29, 3) := by decide +kernel
theorem dX1_countIn_41 : decode cX1_countIn 41 = .ok (.goto 26, 3) := by decide +kernel
theorem dX1_countIn_44 : decode cX1_countIn 44 = .ok (.aload_n 0, 1) := by decide +kernel
theorem dX1_countIn_45 : decode cX1_countIn 45 = .ok (.dup, 1) := by decide +kernel
theorem dX1_countIn_46 : decode cX1_countIn 46 = .ok (.getfield 47, 3) := by decide +kernel
theorem dX1_countIn_49 : decode cX1_countIn 49 = .ok (.iconst 1, 1) := by decide +kernel
theorem dX1_countIn_50 : decode cX1_countIn 50 = .ok (.iadd, 1) := by decide +kernel
theorem dX1_countIn_51 : decode cX1_countIn 51 = .ok (.putfield 47, 3) := by decide +kernel
theorem dX1_countIn_54 : decode cX1_countIn 54 = .ok (.goto 13, 3) := by decide +kernel
theorem dX1_countIn_57 : decode cX1_countIn 57 = .ok (.aload_n 0, 1) := by decide +kernel
theorem dX1_countIn_58 : decode cX1_countIn 58 = .ok (.dup, 1) := by decide +kernel
theorem dX1_countIn_59 : decode cX1_countIn 59 = .ok (.getfield 44, 3) := by decide +kernel
theorem dX1_countIn_62 : decode cX1_countIn 62 = .ok (.iconst 1, 1) := by decide +kernel
theorem dX1_countIn_63 : decode cX1_countIn 63 = .ok (.iadd, 1) := by decide +kernel
theorem dX1_countIn_64 : decode cX1_countIn 64 = .ok (.putfield 44, 3) := by decide +kernel
theorem dX1_countIn_67 : decode cX1_countIn 67 = .ok (.return_, 1) := by decide +kernel
theorem dX1_readNumber_0 : decode cX1_readNumber 0 = .ok (.aload_n 0, 1) := by decide +kernel
theorem dX1_readNumber_1 : decode cX1_readNumber 1 = .ok (.invokevirtual 56, 3) := by decide +kernel
theorem dX1_readNumber_4 : decode cX1_readNumber 4 = .ok (.aload_n 0, 1) := by decide +kernel
theorem dX1_readNumber_5 : decode cX1_readNumber 5 = .ok (.invokevirtual 81, 3) := by decide +kernel
theorem dX1_readNumber_8 : decode cX1_readNumber 8 = .ok (.istore 4, 2) := by decide +kernel
theorem dX1_readNumber_10 : decode cX1_readNumber 10 = .ok (.iload 4, 2) := by decide +kernel
theorem dX1_readNumber_12 : decode cX1_readNumber 12 = .ok (.iload_n 2, 1) := by decide +kernel
theorem dX1_readNumber_13 : decode cX1_readNumber 13 = .ok (.if_icmp .lt 9, 3) := by decide +kernel
theorem dX1_readNumber_16 : decode cX1_readNumber 16 = .ok (.iload 4, 2) := by decide +kernel
theorem dX1_readNumber_18 : decode cX1_readNumber 18 = .ok (.iload_n 3, 1) := by decide +kernel
theorem dX1_readNumber_19 : decode cX1_readNumber 19 = .ok (.if_icmp .le 5, 3) := by decide +kernel
theorem dX1_readNumber_22 : decode cX1_readNumber 22 = .ok (.iconst 0, 1) := by decide +kernel
theorem dX1_readNumber_23 : decode cX1_readNumber 23 = .ok (.ireturn, 1) := by decide +kernel
theorem dX1_readNumber_24 : decode cX1_readNumber 24 = .ok (.aload_n 0, 1) := by decide +kernel
theorem dX1_readNumber_25 : decode cX1_readNumber 25 = .ok (.getfield 23, 3) := by decide +kernel
theorem dX1_readNumber_28 : decode cX1_readNumber 28 = .ok (.aload_n 0, 1) := by decide +kernel
theorem dX1_readNumber_29 : decode cX1_readNumber 29 = .ok (.getfield 50, 3) := by decide +kernel
theorem dX1_readNumber_32 : decode cX1_readNumber 32 = .ok (.iconst 3, 1) := by decide +kernel
theorem dX1_readNumber_33 : decode cX1_readNumber 33 = .ok (.imul, 1) := by decide +kernel
theorem dX1_readNumber_34 : decode cX1_readNumber 34 = .ok (.iload_n 1, 1) := by decide +kernel
theorem dX1_readNumber_35 : decode cX1_readNumber 35 = .ok (.iadd, 1) := by decide +kernel
theorem dX1_readNumber_36 : decode cX1_readNumber 36 = .ok (.iload 4, 2) := by decide +kernel
theorem dX1_readNumber_38 : decode cX1_readNumber 38 = .ok (.invokevirtual 30, 3) := by decide +kernel
theorem dX1_readNumber_41 : decode cX1_readNumber 41 = .ok (.iconst 1, 1) := by decide +kernel
theorem dX1_readNumber_42 : decode cX1_readNumber 42 = .ok (.ireturn, 1) := by decide +kernel
theorem dX1_step_0 : decode cX1_step 0 = .ok (.aload_n 0, 1) := by decide +kernel
theorem dX1_step_1 : decode cX1_step 1 = .ok (.aload_n 0, 1) := by decide +kernel
theorem dX1_step_2 : decode cX1_step 2 = .ok (.getfield 53, 3) := by decide +kernel
theorem dX1_step_5 : decode cX1_step 5 = .ok (.putfield 63, 3) := by decide +kernel
theorem dX1_step_8 : decode cX1_step 8 = .ok (.aload_n 0, 1) := by decide +kernel
theorem dX1_step_9 : decode cX1_step 9 = .ok (.getfield 63, 3) := by decide +kernel
theorem dX1_step_12 : decode cX1_step 12 = .ok (.aload_n 0, 1) := by decide +kernel
theorem dX1_step_13 : decode cX1_step 13 = .ok (.getfield 26, 3) := by decide +kernel
theorem dX1_step_16 : decode cX1_step 16 = .ok (.if_icmp .ge 32, 3) := by decide +kernel
theorem dX1_step_19 : decode cX1_step 19 = .ok (.aload_n 0, 1) := by decide +kernel
theorem dX1_step_20 : decode cX1_step 20 = .ok (.getfield 14, 3) := by decide +kernel
theorem dX1_step_23 : decode cX1_step 23 = .ok (.aload_n 0, 1) := by decide +kernel
theorem dX1_step_24 : decode cX1_step 24 = .ok (.getfield 63, 3) := by decide +kernel
theorem dX1_step_27 : decode cX1_step 27 = .ok (.invokevirtual 40, 3) := by decide +kernel
theorem dX1_step_30 : decode cX1_step 30 = .ok (.bipush 32, 2) := by decide +kernel
theorem dX1_step_32 : decode cX1_step 32 = .ok (.if_icmp .ne 16, 3) := by decide +kernel
theorem dX1_step_35 : decode cX1_step 35 = .ok (.aload_n 0, 1) := by decide +kernel
theorem dX1_step_36 : decode cX1_step 36 = .ok (.dup, 1) := by decide +kernel
theorem dX1_step_37 : decode cX1_step 37 = .ok (.getfield 63, 3) := by decide +kernel
theorem dX1_step_40 : decode cX1_step 40 = .ok (.iconst 1, 1) := by decide +kernel
theorem dX1_step_41 : decode cX1_step 41 = .ok (.iadd, 1) := by decide +kernel
theorem dX1_step_42 : decode cX1_step 42 = .ok (.putfield 63, 3) := by decide +kernel
theorem dX1_step_45 : decode cX1_step 45 = .ok (.goto (-37), 3) := by decide +kernel
theorem dX1_step_48 : decode cX1_step 48 = .ok (.aload_n 0, 1) := by decide +kernel
theorem dX1_step_49 : decode cX1_step 49 = .ok (.aload_n 0, 1) := by decide +kernel
theorem dX1_step_50 : decode cX1_step 50 = .ok (.getfield 26, 3) := by decide +kernel
theorem dX1_step_53 : decode cX1_step 53 = .ok (.aload_n 0, 1) := by decide +kernel
theorem dX1_step_54 : decode cX1_step 54 = .ok (.getfield 63, 3) := by decide +kernel
theorem dX1_step_57 : decode cX1_step 57 = .ok (.iconst 1, 1) := by decide +kernel
theorem dX1_step_58 : decode cX1_step 58 = .ok (.iadd, 1) := by decide +kernel
theorem dX1_step_59 : decode cX1_step 59 = .ok (.invokestatic 34, 3) := by decide +kernel
theorem dX1_step_62 : decode cX1_step 62 = .ok (.putfield 53, 3) := by decide +kernel
theorem dX1_step_65 : decode cX1_step 65 = .ok (.aload_n 0, 1) := by decide +kernel
theorem dX1_step_66 : decode cX1_step 66 = .ok (.aload_n 0, 1) := by decide +kernel
theorem dX1_step_67 : decode cX1_step 67 = .ok (.getfield 63, 3) := by decide +kernel
theorem dX1_step_70 : decode cX1_step 70 = .ok (.invokevirtual 84, 3) := by decide +kernel
theorem dX1_step_73 : decode cX1_step 73 = .ok (.istore_n 1, 1) := by decide +kernel
theorem dX1_step_74 : decode cX1_step 74 = .ok (.aload_n 0, 1) := by decide +kernel
theorem dX1_step_75 : decode cX1_step 75 = .ok (.getfield 53, 3) := by decide +kernel
theorem dX1_step_78 : decode cX1_step 78 = .ok (.aload_n 0, 1) := by decide +kernel
theorem dX1_step_79 : decode cX1_step 79 = .ok (.getfield 26, 3) := by decide +kernel
theorem dX1_step_82 : decode cX1_step 82 = .ok (.if_icmp .ge 32, 3) := by decide +kernel
theorem dX1_step_85 : decode cX1_step 85 = .ok (.iload_n 1, 1) := by decide +kernel
theorem dX1_step_86 : decode cX1_step 86 = .ok (.ifCond .eq 28, 3) := by decide +kernel
theorem dX1_step_89 : decode cX1_step 89 = .ok (.aload_n 0, 1) := by decide +kernel
theorem dX1_step_90 : decode cX1_step 90 = .ok (.aload_n 0, 1) := by decide +kernel
theorem dX1_step_91 : decode cX1_step 91 = .ok (.getfield 53, 3) := by decide +kernel
theorem dX1_step_94 : decode cX1_step 94 = .ok (.invokevirtual 84, 3) := by decide +kernel
theorem dX1_step_97 : decode cX1_step 97 = .ok (.iload_n 1, 1) := by decide +kernel
theorem dX1_step_98 : decode cX1_step 98 = .ok (.if_icmp .ne 16, 3) := by decide +kernel
theorem dX1_step_101 : decode cX1_step 101 = .ok (.aload_n 0, 1) := by decide +kernel
theorem dX1_step_102 : decode cX1_step 102 = .ok (.dup, 1) := by decide +kernel
theorem dX1_step_103 : decode cX1_step 103 = .ok (.getfield 53, 3) := by decide +kernel
theorem dX1_step_106 : decode cX1_step 106 = .ok (.iconst 1, 1) := by decide +kernel
theorem dX1_step_107 : decode cX1_step 107 = .ok (.iadd, 1) := by decide +kernel
theorem dX1_step_108 : decode cX1_step 108 = .ok (.putfield 53, 3) := by decide +kernel
theorem dX1_step_111 : decode cX1_step 111 = .ok (.goto (-37), 3) := by decide +kernel
theorem dX1_step_114 : decode cX1_step 114 = .ok (.return_, 1) := by decide +kernel
theorem dX1_sortAt_0 : decode cX1_sortAt 0 = .ok (.aload_n 0, 1) := by decide +kernel
theorem dX1_sortAt_1 : decode cX1_sortAt 1 = .ok (.getfield 14, 3) := by decide +kernel
theorem dX1_sortAt_4 : decode cX1_sortAt 4 = .ok (.iload_n 1, 1) := by decide +kernel
theorem dX1_sortAt_5 : decode cX1_sortAt 5 = .ok (.invokevirtual 40, 3) := by decide +kernel
theorem dX1_sortAt_8 : decode cX1_sortAt 8 = .ok (.istore_n 2, 1) := by decide +kernel
theorem dX1_sortAt_9 : decode cX1_sortAt 9 = .ok (.iload_n 2, 1) := by decide +kernel
theorem dX1_sortAt_10 : decode cX1_sortAt 10 = .ok (.bipush 97, 2) := by decide +kernel
theorem dX1_sortAt_12 : decode cX1_sortAt 12 = .ok (.if_icmp .lt 11, 3) := by decide +kernel
theorem dX1_sortAt_15 : decode cX1_sortAt 15 = .ok (.iload_n 2, 1) := by decide +kernel
theorem dX1_sortAt_16 : decode cX1_sortAt 16 = .ok (.bipush 122, 2) := by decide +kernel
theorem dX1_sortAt_18 : decode cX1_sortAt 18 = .ok (.if_icmp .gt 5, 3) := by decide +kernel
theorem dX1_sortAt_21 : decode cX1_sortAt 21 = .ok (.iconst 1, 1) := by decide +kernel
theorem dX1_sortAt_22 : decode cX1_sortAt 22 = .ok (.ireturn, 1) := by decide +kernel
theorem dX1_sortAt_23 : decode cX1_sortAt 23 = .ok (.iload_n 2, 1) := by decide +kernel
theorem dX1_sortAt_24 : decode cX1_sortAt 24 = .ok (.bipush 48, 2) := by decide +kernel
theorem dX1_sortAt_26 : decode cX1_sortAt 26 = .ok (.if_icmp .lt 13, 3) := by decide +kernel
theorem dX1_sortAt_29 : decode cX1_sortAt 29 = .ok (.iload_n 2, 1) := by decide +kernel
theorem dX1_sortAt_30 : decode cX1_sortAt 30 = .ok (.bipush 57, 2) := by decide +kernel
theorem dX1_sortAt_32 : decode cX1_sortAt 32 = .ok (.if_icmp .gt 7, 3) := by decide +kernel
theorem dX1_sortAt_35 : decode cX1_sortAt 35 = .ok (.iconst 2, 1) := by decide +kernel
theorem dX1_sortAt_36 : decode cX1_sortAt 36 = .ok (.goto 4, 3) := by decide +kernel
theorem dX1_sortAt_39 : decode cX1_sortAt 39 = .ok (.iconst 0, 1) := by decide +kernel
theorem dX1_sortAt_40 : decode cX1_sortAt 40 = .ok (.ireturn, 1) := by decide +kernel
theorem dX1_numberHere_0 : decode cX1_numberHere 0 = .ok (.aload_n 0, 1) := by decide +kernel
theorem dX1_numberHere_1 : decode cX1_numberHere 1 = .ok (.getfield 63, 3) := by decide +kernel
theorem dX1_numberHere_4 : decode cX1_numberHere 4 = .ok (.aload_n 0, 1) := by decide +kernel
theorem dX1_numberHere_5 : decode cX1_numberHere 5 = .ok (.getfield 26, 3) := by decide +kernel
theorem dX1_numberHere_8 : decode cX1_numberHere 8 = .ok (.if_icmp .ge 28, 3) := by decide +kernel
theorem dX1_numberHere_11 : decode cX1_numberHere 11 = .ok (.aload_n 0, 1) := by decide +kernel
theorem dX1_numberHere_12 : decode cX1_numberHere 12 = .ok (.aload_n 0, 1) := by decide +kernel
theorem dX1_numberHere_13 : decode cX1_numberHere 13 = .ok (.getfield 63, 3) := by decide +kernel
theorem dX1_numberHere_16 : decode cX1_numberHere 16 = .ok (.invokevirtual 84, 3) := by decide +kernel
theorem dX1_numberHere_19 : decode cX1_numberHere 19 = .ok (.iconst 2, 1) := by decide +kernel
theorem dX1_numberHere_20 : decode cX1_numberHere 20 = .ok (.if_icmp .ne 16, 3) := by decide +kernel
theorem dX1_numberHere_23 : decode cX1_numberHere 23 = .ok (.aload_n 0, 1) := by decide +kernel
theorem dX1_numberHere_24 : decode cX1_numberHere 24 = .ok (.getfield 53, 3) := by decide +kernel
theorem dX1_numberHere_27 : decode cX1_numberHere 27 = .ok (.aload_n 0, 1) := by decide +kernel
theorem dX1_numberHere_28 : decode cX1_numberHere 28 = .ok (.getfield 63, 3) := by decide +kernel
theorem dX1_numberHere_31 : decode cX1_numberHere 31 = .ok (.isub, 1) := by decide +kernel
theorem dX1_numberHere_32 : decode cX1_numberHere 32 = .ok (.iconst 2, 1) := by decide +kernel
theorem dX1_numberHere_33 : decode cX1_numberHere 33 = .ok (.if_icmp .le 5, 3) := by decide +kernel
theorem dX1_numberHere_36 : decode cX1_numberHere 36 = .ok (.iconst (-1), 1) := by decide +kernel
theorem dX1_numberHere_37 : decode cX1_numberHere 37 = .ok (.ireturn, 1) := by decide +kernel
theorem dX1_numberHere_38 : decode cX1_numberHere 38 = .ok (.iconst 0, 1) := by decide +kernel
theorem dX1_numberHere_39 : decode cX1_numberHere 39 = .ok (.istore_n 1, 1) := by decide +kernel
theorem dX1_numberHere_40 : decode cX1_numberHere 40 = .ok (.aload_n 0, 1) := by decide +kernel
theorem dX1_numberHere_41 : decode cX1_numberHere 41 = .ok (.getfield 63, 3) := by decide +kernel
theorem dX1_numberHere_44 : decode cX1_numberHere 44 = .ok (.istore_n 2, 1) := by decide +kernel
theorem dX1_numberHere_45 : decode cX1_numberHere 45 = .ok (.iload_n 2, 1) := by decide +kernel
theorem dX1_numberHere_46 : decode cX1_numberHere 46 = .ok (.aload_n 0, 1) := by decide +kernel
theorem dX1_numberHere_47 : decode cX1_numberHere 47 = .ok (.getfield 53, 3) := by decide +kernel
theorem dX1_numberHere_50 : decode cX1_numberHere 50 = .ok (.if_icmp .ge 26, 3) := by decide +kernel
theorem dX1_numberHere_53 : decode cX1_numberHere 53 = .ok (.iload_n 1, 1) := by decide +kernel
theorem dX1_numberHere_54 : decode cX1_numberHere 54 = .ok (.bipush 10, 2) := by decide +kernel
theorem dX1_numberHere_56 : decode cX1_numberHere 56 = .ok (.imul, 1) := by decide +kernel
theorem dX1_numberHere_57 : decode cX1_numberHere 57 = .ok (.aload_n 0, 1) := by decide +kernel
theorem dX1_numberHere_58 : decode cX1_numberHere 58 = .ok (.getfield 14, 3) := by decide +kernel
theorem dX1_numberHere_61 : decode cX1_numberHere 61 = .ok (.iload_n 2, 1) := by decide +kernel
theorem dX1_numberHere_62 : decode cX1_numberHere 62 = .ok (.invokevirtual 40, 3) := by decide +kernel
theorem dX1_numberHere_65 : decode cX1_numberHere 65 = .ok (.iadd, 1) := by decide +kernel
theorem dX1_numberHere_66 : decode cX1_numberHere 66 = .ok (.bipush 48, 2) := by decide +kernel
theorem dX1_numberHere_68 : decode cX1_numberHere 68 = .ok (.isub, 1) := by decide +kernel
theorem dX1_numberHere_69 : decode cX1_numberHere 69 = .ok (.istore_n 1, 1) := by decide +kernel
theorem dX1_numberHere_70 : decode cX1_numberHere 70 = .ok (.iinc 2 1, 3) := by decide +kernel
theorem dX1_numberHere_73 : decode cX1_numberHere 73 = .ok (.goto (-28), 3) := by decide +kernel
theorem dX1_numberHere_76 : decode cX1_numberHere 76 = .ok (.iload_n 1, 1) := by decide +kernel
theorem dX1_numberHere_77 : decode cX1_numberHere 77 = .ok (.ireturn, 1) := by decide +kernel
theorem dX1_wordHere_0 : decode cX1_wordHere 0 = .ok (.iconst 0, 1) := by decide +kernel
theorem dX1_wordHere_1 : decode cX1_wordHere 1 = .ok (.istore_n 1, 1) := by decide +kernel
theorem dX1_wordHere_2 : decode cX1_wordHere 2 = .ok (.iload_n 1, 1) := by decide +kernel
theorem dX1_wordHere_3 : decode cX1_wordHere 3 = .ok (.bipush 7, 2) := by decide +kernel
theorem dX1_wordHere_5 : decode cX1_wordHere 5 = .ok (.if_icmp .ge 22, 3) := by decide +kernel
theorem dX1_wordHere_8 : decode cX1_wordHere 8 = .ok (.aload_n 0, 1) := by decide +kernel
theorem dX1_wordHere_9 : decode cX1_wordHere 9 = .ok (.iload_n 1, 1) := by decide +kernel
theorem dX1_wordHere_10 : decode cX1_wordHere 10 = .ok (.invokestatic 87, 3) := by decide +kernel
theorem dX1_wordHere_13 : decode cX1_wordHere 13 = .ok (.invokevirtual 91, 3) := by decide +kernel
theorem dX1_wordHere_16 : decode cX1_wordHere 16 = .ok (.ifCond .eq 5, 3) := by decide +kernel
theorem dX1_wordHere_19 : decode cX1_wordHere 19 = .ok (.iload_n 1, 1) := by decide +kernel
theorem dX1_wordHere_20 : decode cX1_wordHere 20 = .ok (.ireturn, 1) := by decide +kernel
theorem dX1_wordHere_21 : decode cX1_wordHere 21 = .ok (.iinc 1 1, 3) := by decide +kernel
theorem dX1_wordHere_24 : decode cX1_wordHere 24 = .ok (.goto (-22), 3) := by decide +kernel
theorem dX1_wordHere_27 : decode cX1_wordHere 27 = .ok (.iconst (-1), 1) := by decide +kernel
theorem dX1_wordHere_28 : decode cX1_wordHere 28 = .ok (.ireturn, 1) := by decide +kernel
theorem dX1_isHere_0 : decode cX1_isHere 0 = .ok (.aload_n 0, 1) := by decide +kernel
theorem dX1_isHere_1 : decode cX1_isHere 1 = .ok (.getfield 53, 3) := by decide +kernel
theorem dX1_isHere_4 : decode cX1_isHere 4 = .ok (.aload_n 0, 1) := by decide +kernel
theorem dX1_isHere_5 : decode cX1_isHere 5 = .ok (.getfield 63, 3) := by decide +kernel
theorem dX1_isHere_8 : decode cX1_isHere 8 = .ok (.isub, 1) := by decide +kernel
theorem dX1_isHere_9 : decode cX1_isHere 9 = .ok (.aload_n 1, 1) := by decide +kernel
theorem dX1_isHere_10 : decode cX1_isHere 10 = .ok (.invokevirtual 95, 3) := by decide +kernel
theorem dX1_isHere_13 : decode cX1_isHere 13 = .ok (.if_icmp .eq 5, 3) := by decide +kernel
theorem dX1_isHere_16 : decode cX1_isHere 16 = .ok (.iconst 0, 1) := by decide +kernel
theorem dX1_isHere_17 : decode cX1_isHere 17 = .ok (.ireturn, 1) := by decide +kernel
theorem dX1_isHere_18 : decode cX1_isHere 18 = .ok (.iconst 0, 1) := by decide +kernel
theorem dX1_isHere_19 : decode cX1_isHere 19 = .ok (.istore_n 2, 1) := by decide +kernel
theorem dX1_isHere_20 : decode cX1_isHere 20 = .ok (.iload_n 2, 1) := by decide +kernel
theorem dX1_isHere_21 : decode cX1_isHere 21 = .ok (.aload_n 1, 1) := by decide +kernel
theorem dX1_isHere_22 : decode cX1_isHere 22 = .ok (.invokevirtual 95, 3) := by decide +kernel
theorem dX1_isHere_25 : decode cX1_isHere 25 = .ok (.if_icmp .ge 32, 3) := by decide +kernel
theorem dX1_isHere_28 : decode cX1_isHere 28 = .ok (.aload_n 0, 1) := by decide +kernel
theorem dX1_isHere_29 : decode cX1_isHere 29 = .ok (.getfield 14, 3) := by decide +kernel
theorem dX1_isHere_32 : decode cX1_isHere 32 = .ok (.aload_n 0, 1) := by decide +kernel
theorem dX1_isHere_33 : decode cX1_isHere 33 = .ok (.getfield 63, 3) := by decide +kernel
theorem dX1_isHere_36 : decode cX1_isHere 36 = .ok (.iload_n 2, 1) := by decide +kernel
theorem dX1_isHere_37 : decode cX1_isHere 37 = .ok (.iadd, 1) := by decide +kernel
theorem dX1_isHere_38 : decode cX1_isHere 38 = .ok (.invokevirtual 40, 3) := by decide +kernel
theorem dX1_isHere_41 : decode cX1_isHere 41 = .ok (.aload_n 1, 1) := by decide +kernel
theorem dX1_isHere_42 : decode cX1_isHere 42 = .ok (.iload_n 2, 1) := by decide +kernel
theorem dX1_isHere_43 : decode cX1_isHere 43 = .ok (.invokevirtual 99, 3) := by decide +kernel
theorem dX1_isHere_46 : decode cX1_isHere 46 = .ok (.if_icmp .eq 5, 3) := by decide +kernel
theorem dX1_isHere_49 : decode cX1_isHere 49 = .ok (.iconst 0, 1) := by decide +kernel
theorem dX1_isHere_50 : decode cX1_isHere 50 = .ok (.ireturn, 1) := by decide +kernel
theorem dX1_isHere_51 : decode cX1_isHere 51 = .ok (.iinc 2 1, 3) := by decide +kernel
theorem dX1_isHere_54 : decode cX1_isHere 54 = .ok (.goto (-34), 3) := by decide +kernel
theorem dX1_isHere_57 : decode cX1_isHere 57 = .ok (.iconst 1, 1) := by decide +kernel
theorem dX1_isHere_58 : decode cX1_isHere 58 = .ok (.ireturn, 1) := by decide +kernel
theorem dX1_spelling_0 : decode cX1_spelling 0 = .ok (.iload_n 0, 1) := by decide +kernel
theorem dX1_spelling_1 : decode cX1_spelling 1 = .ok (.tableswitch 57 0 5 #[39, 42, 45, 48, 51, 54], 39) := by decide +kernel
theorem dX1_spelling_40 : decode cX1_spelling 40 = .ok (.ldc 103, 2) := by decide +kernel
theorem dX1_spelling_42 : decode cX1_spelling 42 = .ok (.areturn, 1) := by decide +kernel
theorem dX1_spelling_43 : decode cX1_spelling 43 = .ok (.ldc 105, 2) := by decide +kernel
theorem dX1_spelling_45 : decode cX1_spelling 45 = .ok (.areturn, 1) := by decide +kernel
theorem dX1_spelling_46 : decode cX1_spelling 46 = .ok (.ldc 107, 2) := by decide +kernel
theorem dX1_spelling_48 : decode cX1_spelling 48 = .ok (.areturn, 1) := by decide +kernel
theorem dX1_spelling_49 : decode cX1_spelling 49 = .ok (.ldc 109, 2) := by decide +kernel
theorem dX1_spelling_51 : decode cX1_spelling 51 = .ok (.areturn, 1) := by decide +kernel
theorem dX1_spelling_52 : decode cX1_spelling 52 = .ok (.ldc 111, 2) := by decide +kernel
theorem dX1_spelling_54 : decode cX1_spelling 54 = .ok (.areturn, 1) := by decide +kernel
theorem dX1_spelling_55 : decode cX1_spelling 55 = .ok (.ldc 113, 2) := by decide +kernel
theorem dX1_spelling_57 : decode cX1_spelling 57 = .ok (.areturn, 1) := by decide +kernel
theorem dX1_spelling_58 : decode cX1_spelling 58 = .ok (.ldc 115, 2) := by decide +kernel
theorem dX1_spelling_60 : decode cX1_spelling 60 = .ok (.areturn, 1) := by decide +kernel
theorem dX2_init_0 : decode cX2_init 0 = .ok (.aload_n 0, 1) := by decide +kernel
theorem dX2_init_1 : decode cX2_init 1 = .ok (.invokespecial 1, 3) := by decide +kernel
theorem dX2_init_4 : decode cX2_init 4 = .ok (.aload_n 0, 1) := by decide +kernel
theorem dX2_init_5 : decode cX2_init 5 = .ok (.new 7, 3) := by decide +kernel
theorem dX2_init_8 : decode cX2_init 8 = .ok (.dup, 1) := by decide +kernel
theorem dX2_init_9 : decode cX2_init 9 = .ok (.iload_n 1, 1) := by decide +kernel
theorem dX2_init_10 : decode cX2_init 10 = .ok (.bipush 85, 2) := by decide +kernel
theorem dX2_init_12 : decode cX2_init 12 = .ok (.imul, 1) := by decide +kernel
theorem dX2_init_13 : decode cX2_init 13 = .ok (.invokespecial 11, 3) := by decide +kernel
theorem dX2_init_16 : decode cX2_init 16 = .ok (.putfield 14, 3) := by decide +kernel
theorem dX2_init_19 : decode cX2_init 19 = .ok (.return_, 1) := by decide +kernel
theorem dX2_store_0 : decode cX2_store 0 = .ok (.aload_n 0, 1) := by decide +kernel
theorem dX2_store_1 : decode cX2_store 1 = .ok (.getfield 14, 3) := by decide +kernel
theorem dX2_store_4 : decode cX2_store 4 = .ok (.aload_n 2, 1) := by decide +kernel
theorem dX2_store_5 : decode cX2_store 5 = .ok (.getfield 20, 3) := by decide +kernel
theorem dX2_store_8 : decode cX2_store 8 = .ok (.iconst 0, 1) := by decide +kernel
theorem dX2_store_9 : decode cX2_store 9 = .ok (.iload_n 1, 1) := by decide +kernel
theorem dX2_store_10 : decode cX2_store 10 = .ok (.bipush 85, 2) := by decide +kernel
theorem dX2_store_12 : decode cX2_store 12 = .ok (.imul, 1) := by decide +kernel
theorem dX2_store_13 : decode cX2_store 13 = .ok (.bipush 85, 2) := by decide +kernel
theorem dX2_store_15 : decode cX2_store 15 = .ok (.invokevirtual 21, 3) := by decide +kernel
theorem dX2_store_18 : decode cX2_store 18 = .ok (.return_, 1) := by decide +kernel
theorem dX2_fetch_0 : decode cX2_fetch 0 = .ok (.aload_n 2, 1) := by decide +kernel
theorem dX2_fetch_1 : decode cX2_fetch 1 = .ok (.getfield 20, 3) := by decide +kernel
theorem dX2_fetch_4 : decode cX2_fetch 4 = .ok (.aload_n 0, 1) := by decide +kernel
theorem dX2_fetch_5 : decode cX2_fetch 5 = .ok (.getfield 14, 3) := by decide +kernel
theorem dX2_fetch_8 : decode cX2_fetch 8 = .ok (.iload_n 1, 1) := by decide +kernel
theorem dX2_fetch_9 : decode cX2_fetch 9 = .ok (.bipush 85, 2) := by decide +kernel
theorem dX2_fetch_11 : decode cX2_fetch 11 = .ok (.imul, 1) := by decide +kernel
theorem dX2_fetch_12 : decode cX2_fetch 12 = .ok (.iconst 0, 1) := by decide +kernel
theorem dX2_fetch_13 : decode cX2_fetch 13 = .ok (.bipush 85, 2) := by decide +kernel
theorem dX2_fetch_15 : decode cX2_fetch 15 = .ok (.invokevirtual 21, 3) := by decide +kernel
theorem dX2_fetch_18 : decode cX2_fetch 18 = .ok (.return_, 1) := by decide +kernel
theorem dX3_init_0 : decode cX3_init 0 = .ok (.aload_n 0, 1) := by decide +kernel
theorem dX3_init_1 : decode cX3_init 1 = .ok (.invokespecial 3, 3) := by decide +kernel
theorem dX3_init_4 : decode cX3_init 4 = .ok (.aload_n 0, 1) := by decide +kernel
theorem dX3_init_5 : decode cX3_init 5 = .ok (.new 9, 3) := by decide +kernel
theorem dX3_init_8 : decode cX3_init 8 = .ok (.dup, 1) := by decide +kernel
theorem dX3_init_9 : decode cX3_init 9 = .ok (.bipush 6, 2) := by decide +kernel
theorem dX3_init_11 : decode cX3_init 11 = .ok (.invokespecial 11, 3) := by decide +kernel
theorem dX3_init_14 : decode cX3_init 14 = .ok (.putfield 14, 3) := by decide +kernel
theorem dX3_init_17 : decode cX3_init 17 = .ok (.aload_n 0, 1) := by decide +kernel
theorem dX3_init_18 : decode cX3_init 18 = .ok (.new 9, 3) := by decide +kernel
theorem dX3_init_21 : decode cX3_init 21 = .ok (.dup, 1) := by decide +kernel
theorem dX3_init_22 : decode cX3_init 22 = .ok (.bipush 6, 2) := by decide +kernel
theorem dX3_init_24 : decode cX3_init 24 = .ok (.invokespecial 11, 3) := by decide +kernel
theorem dX3_init_27 : decode cX3_init 27 = .ok (.putfield 20, 3) := by decide +kernel
theorem dX3_init_30 : decode cX3_init 30 = .ok (.aload_n 0, 1) := by decide +kernel
theorem dX3_init_31 : decode cX3_init 31 = .ok (.new 9, 3) := by decide +kernel
theorem dX3_init_34 : decode cX3_init 34 = .ok (.dup, 1) := by decide +kernel
theorem dX3_init_35 : decode cX3_init 35 = .ok (.bipush 6, 2) := by decide +kernel
theorem dX3_init_37 : decode cX3_init 37 = .ok (.invokespecial 11, 3) := by decide +kernel
theorem dX3_init_40 : decode cX3_init 40 = .ok (.putfield 23, 3) := by decide +kernel
theorem dX3_init_43 : decode cX3_init 43 = .ok (.return_, 1) := by decide +kernel
theorem dX3_add_0 : decode cX3_add 0 = .ok (.aload_n 0, 1) := by decide +kernel
theorem dX3_add_1 : decode cX3_add 1 = .ok (.getfield 14, 3) := by decide +kernel
theorem dX3_add_4 : decode cX3_add 4 = .ok (.aload_n 0, 1) := by decide +kernel
theorem dX3_add_5 : decode cX3_add 5 = .ok (.getfield 26, 3) := by decide +kernel
theorem dX3_add_8 : decode cX3_add 8 = .ok (.iload_n 1, 1) := by decide +kernel
theorem dX3_add_9 : decode cX3_add 9 = .ok (.invokevirtual 30, 3) := by decide +kernel
theorem dX3_add_12 : decode cX3_add 12 = .ok (.aload_n 0, 1) := by decide +kernel
theorem dX3_add_13 : decode cX3_add 13 = .ok (.getfield 20, 3) := by decide +kernel
theorem dX3_add_16 : decode cX3_add 16 = .ok (.aload_n 0, 1) := by decide +kernel
theorem dX3_add_17 : decode cX3_add 17 = .ok (.getfield 26, 3) := by decide +kernel
theorem dX3_add_20 : decode cX3_add 20 = .ok (.iload_n 2, 1) := by decide +kernel
theorem dX3_add_21 : decode cX3_add 21 = .ok (.invokevirtual 30, 3) := by decide +kernel
theorem dX3_add_24 : decode cX3_add 24 = .ok (.aload_n 0, 1) := by decide +kernel
theorem dX3_add_25 : decode cX3_add 25 = .ok (.getfield 23, 3) := by decide +kernel
theorem dX3_add_28 : decode cX3_add 28 = .ok (.aload_n 0, 1) := by decide +kernel
theorem dX3_add_29 : decode cX3_add 29 = .ok (.getfield 26, 3) := by decide +kernel
theorem dX3_add_32 : decode cX3_add 32 = .ok (.iload_n 3, 1) := by decide +kernel
theorem dX3_add_33 : decode cX3_add 33 = .ok (.invokevirtual 30, 3) := by decide +kernel
theorem dX3_add_36 : decode cX3_add 36 = .ok (.aload_n 0, 1) := by decide +kernel
theorem dX3_add_37 : decode cX3_add 37 = .ok (.bipush 6, 2) := by decide +kernel
theorem dX3_add_39 : decode cX3_add 39 = .ok (.aload_n 0, 1) := by decide +kernel
theorem dX3_add_40 : decode cX3_add 40 = .ok (.getfield 26, 3) := by decide +kernel
theorem dX3_add_43 : decode cX3_add 43 = .ok (.iconst 1, 1) := by decide +kernel
theorem dX3_add_44 : decode cX3_add 44 = .ok (.iadd, 1) := by decide +kernel
theorem dX3_add_45 : decode cX3_add 45 = .ok (.invokestatic 34, 3) := by decide +kernel
theorem dX3_add_48 : decode cX3_add 48 = .ok (.putfield 26, 3) := by decide +kernel
theorem dX3_add_51 : decode cX3_add 51 = .ok (.return_, 1) := by decide +kernel
theorem dX3_clear_0 : decode cX3_clear 0 = .ok (.aload_n 0, 1) := by decide +kernel
theorem dX3_clear_1 : decode cX3_clear 1 = .ok (.iconst 0, 1) := by decide +kernel
theorem dX3_clear_2 : decode cX3_clear 2 = .ok (.putfield 26, 3) := by decide +kernel
theorem dX3_clear_5 : decode cX3_clear 5 = .ok (.return_, 1) := by decide +kernel
theorem dX3_allTrueOf_0 : decode cX3_allTrueOf 0 = .ok (.iconst 0, 1) := by decide +kernel
theorem dX3_allTrueOf_1 : decode cX3_allTrueOf 1 = .ok (.istore_n 3, 1) := by decide +kernel
theorem dX3_allTrueOf_2 : decode cX3_allTrueOf 2 = .ok (.iload_n 3, 1) := by decide +kernel
theorem dX3_allTrueOf_3 : decode cX3_allTrueOf 3 = .ok (.aload_n 0, 1) := by decide +kernel
theorem dX3_allTrueOf_4 : decode cX3_allTrueOf 4 = .ok (.getfield 26, 3) := by decide +kernel
theorem dX3_allTrueOf_7 : decode cX3_allTrueOf 7 = .ok (.if_icmp .ge 43, 3) := by decide +kernel
theorem dX3_allTrueOf_10 : decode cX3_allTrueOf 10 = .ok (.aload_n 1, 1) := by decide +kernel
theorem dX3_allTrueOf_11 : decode cX3_allTrueOf 11 = .ok (.iload_n 2, 1) := by decide +kernel
theorem dX3_allTrueOf_12 : decode cX3_allTrueOf 12 = .ok (.aload_n 0, 1) := by decide +kernel
theorem dX3_allTrueOf_13 : decode cX3_allTrueOf 13 = .ok (.getfield 14, 3) := by decide +kernel
theorem dX3_allTrueOf_16 : decode cX3_allTrueOf 16 = .ok (.iload_n 3, 1) := by decide +kernel
theorem dX3_allTrueOf_17 : decode cX3_allTrueOf 17 = .ok (.invokevirtual 40, 3) := by decide +kernel
theorem dX3_allTrueOf_20 : decode cX3_allTrueOf 20 = .ok (.aload_n 0, 1) := by decide +kernel
theorem dX3_allTrueOf_21 : decode cX3_allTrueOf 21 = .ok (.getfield 20, 3) := by decide +kernel
theorem dX3_allTrueOf_24 : decode cX3_allTrueOf 24 = .ok (.iload_n 3, 1) := by decide +kernel
theorem dX3_allTrueOf_25 : decode cX3_allTrueOf 25 = .ok (.invokevirtual 40, 3) := by decide +kernel
theorem dX3_allTrueOf_28 : decode cX3_allTrueOf 28 = .ok (.invokevirtual 44, 3) := by decide +kernel
theorem dX3_allTrueOf_31 : decode cX3_allTrueOf 31 = .ok (.aload_n 0, 1) := by decide +kernel
theorem dX3_allTrueOf_32 : decode cX3_allTrueOf 32 = .ok (.getfield 23, 3) := by decide +kernel
theorem dX3_allTrueOf_35 : decode cX3_allTrueOf 35 = .ok (.iload_n 3, 1) := by decide +kernel
theorem dX3_allTrueOf_36 : decode cX3_allTrueOf 36 = .ok (.invokevirtual 40, 3) := by decide +kernel
theorem dX3_allTrueOf_39 : decode cX3_allTrueOf 39 = .ok (.if_icmp .eq 5, 3) := by decide +kernel
theorem dX3_allTrueOf_42 : decode cX3_allTrueOf 42 = .ok (.iconst 0, 1) := by decide +kernel
theorem dX3_allTrueOf_43 : decode cX3_allTrueOf 43 = .ok (.ireturn, 1) := by decide +kernel
theorem dX3_allTrueOf_44 : decode cX3_allTrueOf 44 = .ok (.iinc 3 1, 3) := by decide +kernel
theorem dX3_allTrueOf_47 : decode cX3_allTrueOf 47 = .ok (.goto (-45), 3) := by decide +kernel
theorem dX3_allTrueOf_50 : decode cX3_allTrueOf 50 = .ok (.iconst 1, 1) := by decide +kernel
theorem dX3_allTrueOf_51 : decode cX3_allTrueOf 51 = .ok (.ireturn, 1) := by decide +kernel
theorem dX4_init_0 : decode cX4_init 0 = .ok (.aload_n 0, 1) := by decide +kernel
theorem dX4_init_1 : decode cX4_init 1 = .ok (.invokespecial 5, 3) := by decide +kernel
theorem dX4_init_4 : decode cX4_init 4 = .ok (.aload_n 0, 1) := by decide +kernel
theorem dX4_init_5 : decode cX4_init 5 = .ok (.new 11, 3) := by decide +kernel
theorem dX4_init_8 : decode cX4_init 8 = .ok (.dup, 1) := by decide +kernel
theorem dX4_init_9 : decode cX4_init 9 = .ok (.bipush 85, 2) := by decide +kernel
theorem dX4_init_11 : decode cX4_init 11 = .ok (.invokespecial 13, 3) := by decide +kernel
theorem dX4_init_14 : decode cX4_init 14 = .ok (.putfield 16, 3) := by decide +kernel
theorem dX4_init_17 : decode cX4_init 17 = .ok (.return_, 1) := by decide +kernel
theorem dX4_startAfresh_0 : decode cX4_startAfresh 0 = .ok (.aload_n 0, 1) := by decide +kernel
theorem dX4_startAfresh_1 : decode cX4_startAfresh 1 = .ok (.getfield 16, 3) := by decide +kernel
theorem dX4_startAfresh_4 : decode cX4_startAfresh 4 = .ok (.invokevirtual 20, 3) := by decide +kernel
theorem dX4_startAfresh_7 : decode cX4_startAfresh 7 = .ok (.iconst 0, 1) := by decide +kernel
theorem dX4_startAfresh_8 : decode cX4_startAfresh 8 = .ok (.istore_n 2, 1) := by decide +kernel
theorem dX4_startAfresh_9 : decode cX4_startAfresh 9 = .ok (.iload_n 2, 1) := by decide +kernel
theorem dX4_startAfresh_10 : decode cX4_startAfresh 10 = .ok (.aload_n 1, 1) := by decide +kernel
theorem dX4_startAfresh_11 : decode cX4_startAfresh 11 = .ok (.getfield 23, 3) := by decide +kernel
theorem dX4_startAfresh_14 : decode cX4_startAfresh 14 = .ok (.if_icmp .ge 35, 3) := by decide +kernel
theorem dX4_startAfresh_17 : decode cX4_startAfresh 17 = .ok (.iconst 0, 1) := by decide +kernel
theorem dX4_startAfresh_18 : decode cX4_startAfresh 18 = .ok (.istore_n 3, 1) := by decide +kernel
theorem dX4_startAfresh_19 : decode cX4_startAfresh 19 = .ok (.iload_n 3, 1) := by decide +kernel
theorem dX4_startAfresh_20 : decode cX4_startAfresh 20 = .ok (.bipush 6, 2) := by decide +kernel
theorem dX4_startAfresh_22 : decode cX4_startAfresh 22 = .ok (.if_icmp .ge 21, 3) := by decide +kernel
theorem dX4_startAfresh_25 : decode cX4_startAfresh 25 = .ok (.aload_n 0, 1) := by decide +kernel
theorem dX4_startAfresh_26 : decode cX4_startAfresh 26 = .ok (.iload_n 2, 1) := by decide +kernel
theorem dX4_startAfresh_27 : decode cX4_startAfresh 27 = .ok (.iload_n 3, 1) := by decide +kernel
theorem dX4_startAfresh_28 : decode cX4_startAfresh 28 = .ok (.aload_n 1, 1) := by decide +kernel
theorem dX4_startAfresh_29 : decode cX4_startAfresh 29 = .ok (.iload_n 2, 1) := by decide +kernel
theorem dX4_startAfresh_30 : decode cX4_startAfresh 30 = .ok (.iload_n 3, 1) := by decide +kernel
theorem dX4_startAfresh_31 : decode cX4_startAfresh 31 = .ok (.invokevirtual 29, 3) := by decide +kernel
theorem dX4_startAfresh_34 : decode cX4_startAfresh 34 = .ok (.invokevirtual 33, 3) := by decide +kernel
theorem dX4_startAfresh_37 : decode cX4_startAfresh 37 = .ok (.iinc 3 1, 3) := by decide +kernel
theorem dX4_startAfresh_40 : decode cX4_startAfresh 40 = .ok (.goto (-21), 3) := by decide +kernel
theorem dX4_startAfresh_43 : decode cX4_startAfresh 43 = .ok (.iinc 2 1, 3) := by decide +kernel
theorem dX4_startAfresh_46 : decode cX4_startAfresh 46 = .ok (.goto (-37), 3) := by decide +kernel
theorem dX4_startAfresh_49 : decode cX4_startAfresh 49 = .ok (.return_, 1) := by decide +kernel
theorem dX4_date_0 : decode cX4_date 0 = .ok (.aload_n 0, 1) := by decide +kernel
theorem dX4_date_1 : decode cX4_date 1 = .ok (.getfield 16, 3) := by decide +kernel
theorem dX4_date_4 : decode cX4_date 4 = .ok (.iconst 0, 1) := by decide +kernel
theorem dX4_date_5 : decode cX4_date 5 = .ok (.invokevirtual 37, 3) := by decide +kernel
theorem dX4_date_8 : decode cX4_date 8 = .ok (.ireturn, 1) := by decide +kernel
theorem dX4_passDay_0 : decode cX4_passDay 0 = .ok (.aload_n 0, 1) := by decide +kernel
theorem dX4_passDay_1 : decode cX4_passDay 1 = .ok (.getfield 16, 3) := by decide +kernel
theorem dX4_passDay_4 : decode cX4_passDay 4 = .ok (.iconst 0, 1) := by decide +kernel
theorem dX4_passDay_5 : decode cX4_passDay 5 = .ok (.aload_n 0, 1) := by decide +kernel
theorem dX4_passDay_6 : decode cX4_passDay 6 = .ok (.invokevirtual 41, 3) := by decide +kernel
theorem dX4_passDay_9 : decode cX4_passDay 9 = .ok (.iconst 1, 1) := by decide +kernel
theorem dX4_passDay_10 : decode cX4_passDay 10 = .ok (.iadd, 1) := by decide +kernel
theorem dX4_passDay_11 : decode cX4_passDay 11 = .ok (.invokevirtual 45, 3) := by decide +kernel
theorem dX4_passDay_14 : decode cX4_passDay 14 = .ok (.iconst 0, 1) := by decide +kernel
theorem dX4_passDay_15 : decode cX4_passDay 15 = .ok (.istore_n 2, 1) := by decide +kernel
theorem dX4_passDay_16 : decode cX4_passDay 16 = .ok (.iload_n 2, 1) := by decide +kernel
theorem dX4_passDay_17 : decode cX4_passDay 17 = .ok (.iload_n 1, 1) := by decide +kernel
theorem dX4_passDay_18 : decode cX4_passDay 18 = .ok (.if_icmp .ge 42, 3) := by decide +kernel
theorem dX4_passDay_21 : decode cX4_passDay 21 = .ok (.iconst 0, 1) := by decide +kernel
theorem dX4_passDay_22 : decode cX4_passDay 22 = .ok (.istore_n 3, 1) := by decide +kernel
theorem dX4_passDay_23 : decode cX4_passDay 23 = .ok (.iload_n 3, 1) := by decide +kernel
theorem dX4_passDay_24 : decode cX4_passDay 24 = .ok (.bipush 6, 2) := by decide +kernel
theorem dX4_passDay_26 : decode cX4_passDay 26 = .ok (.if_icmp .ge 28, 3) := by decide +kernel
theorem dX4_passDay_29 : decode cX4_passDay 29 = .ok (.aload_n 0, 1) := by decide +kernel
theorem dX4_passDay_30 : decode cX4_passDay 30 = .ok (.iload_n 2, 1) := by decide +kernel
theorem dX4_passDay_31 : decode cX4_passDay 31 = .ok (.iload_n 3, 1) := by decide +kernel
theorem dX4_passDay_32 : decode cX4_passDay 32 = .ok (.bipush 9, 2) := by decide +kernel
theorem dX4_passDay_34 : decode cX4_passDay 34 = .ok (.aload_n 0, 1) := by decide +kernel
theorem dX4_passDay_35 : decode cX4_passDay 35 = .ok (.iload_n 2, 1) := by decide +kernel
theorem dX4_passDay_36 : decode cX4_passDay 36 = .ok (.iload_n 3, 1) := by decide +kernel
theorem dX4_passDay_37 : decode cX4_passDay 37 = .ok (.invokevirtual 49, 3) := by decide +kernel
theorem dX4_passDay_40 : decode cX4_passDay 40 = .ok (.iconst 1, 1) := by decide +kernel
theorem dX4_passDay_41 : decode cX4_passDay 41 = .ok (.iadd, 1) := by decide +kernel
theorem dX4_passDay_42 : decode cX4_passDay 42 = .ok (.invokestatic 52, 3) := by decide +kernel
theorem dX4_passDay_45 : decode cX4_passDay 45 = .ok (.invokevirtual 33, 3) := by decide +kernel
theorem dX4_passDay_48 : decode cX4_passDay 48 = .ok (.iinc 3 1, 3) := by decide +kernel
theorem dX4_passDay_51 : decode cX4_passDay 51 = .ok (.goto (-28), 3) := by decide +kernel
theorem dX4_passDay_54 : decode cX4_passDay 54 = .ok (.iinc 2 1, 3) := by decide +kernel
theorem dX4_passDay_57 : decode cX4_passDay 57 = .ok (.goto (-41), 3) := by decide +kernel
theorem dX4_passDay_60 : decode cX4_passDay 60 = .ok (.return_, 1) := by decide +kernel
theorem dX4_beardOn_0 : decode cX4_beardOn 0 = .ok (.aload_n 0, 1) := by decide +kernel
theorem dX4_beardOn_1 : decode cX4_beardOn 1 = .ok (.getfield 16, 3) := by decide +kernel
theorem dX4_beardOn_4 : decode cX4_beardOn 4 = .ok (.iconst 1, 1) := by decide +kernel
theorem dX4_beardOn_5 : decode cX4_beardOn 5 = .ok (.iload_n 1, 1) := by decide +kernel
theorem dX4_beardOn_6 : decode cX4_beardOn 6 = .ok (.bipush 6, 2) := by decide +kernel
theorem dX4_beardOn_8 : decode cX4_beardOn 8 = .ok (.imul, 1) := by decide +kernel
theorem dX4_beardOn_9 : decode cX4_beardOn 9 = .ok (.iadd, 1) := by decide +kernel
theorem dX4_beardOn_10 : decode cX4_beardOn 10 = .ok (.iload_n 2, 1) := by decide +kernel
theorem dX4_beardOn_11 : decode cX4_beardOn 11 = .ok (.iadd, 1) := by decide +kernel
theorem dX4_beardOn_12 : decode cX4_beardOn 12 = .ok (.invokevirtual 37, 3) := by decide +kernel
theorem dX4_beardOn_15 : decode cX4_beardOn 15 = .ok (.ireturn, 1) := by decide +kernel
theorem dX4_setBeard_0 : decode cX4_setBeard 0 = .ok (.aload_n 0, 1) := by decide +kernel
theorem dX4_setBeard_1 : decode cX4_setBeard 1 = .ok (.getfield 16, 3) := by decide +kernel
theorem dX4_setBeard_4 : decode cX4_setBeard 4 = .ok (.iconst 1, 1) := by decide +kernel
theorem dX4_setBeard_5 : decode cX4_setBeard 5 = .ok (.iload_n 1, 1) := by decide +kernel
theorem dX4_setBeard_6 : decode cX4_setBeard 6 = .ok (.bipush 6, 2) := by decide +kernel
theorem dX4_setBeard_8 : decode cX4_setBeard 8 = .ok (.imul, 1) := by decide +kernel
theorem dX4_setBeard_9 : decode cX4_setBeard 9 = .ok (.iadd, 1) := by decide +kernel
theorem dX4_setBeard_10 : decode cX4_setBeard 10 = .ok (.iload_n 2, 1) := by decide +kernel
theorem dX4_setBeard_11 : decode cX4_setBeard 11 = .ok (.iadd, 1) := by decide +kernel
theorem dX4_setBeard_12 : decode cX4_setBeard 12 = .ok (.iload_n 3, 1) := by decide +kernel
theorem dX4_setBeard_13 : decode cX4_setBeard 13 = .ok (.invokevirtual 45, 3) := by decide +kernel
theorem dX4_setBeard_16 : decode cX4_setBeard 16 = .ok (.return_, 1) := by decide +kernel
theorem dX4_beardsOf_0 : decode cX4_beardsOf 0 = .ok (.iconst 0, 1) := by decide +kernel
theorem dX4_beardsOf_1 : decode cX4_beardsOf 1 = .ok (.istore_n 2, 1) := by decide +kernel
theorem dX4_beardsOf_2 : decode cX4_beardsOf 2 = .ok (.iconst 0, 1) := by decide +kernel
theorem dX4_beardsOf_3 : decode cX4_beardsOf 3 = .ok (.istore_n 3, 1) := by decide +kernel
theorem dX4_beardsOf_4 : decode cX4_beardsOf 4 = .ok (.iload_n 3, 1) := by decide +kernel
theorem dX4_beardsOf_5 : decode cX4_beardsOf 5 = .ok (.bipush 6, 2) := by decide +kernel
theorem dX4_beardsOf_7 : decode cX4_beardsOf 7 = .ok (.if_icmp .ge 18, 3) := by decide +kernel
theorem dX4_beardsOf_10 : decode cX4_beardsOf 10 = .ok (.iload_n 2, 1) := by decide +kernel
theorem dX4_beardsOf_11 : decode cX4_beardsOf 11 = .ok (.aload_n 0, 1) := by decide +kernel
theorem dX4_beardsOf_12 : decode cX4_beardsOf 12 = .ok (.iload_n 1, 1) := by decide +kernel
theorem dX4_beardsOf_13 : decode cX4_beardsOf 13 = .ok (.iload_n 3, 1) := by decide +kernel
theorem dX4_beardsOf_14 : decode cX4_beardsOf 14 = .ok (.invokevirtual 49, 3) := by decide +kernel
theorem dX4_beardsOf_17 : decode cX4_beardsOf 17 = .ok (.iadd, 1) := by decide +kernel
theorem dX4_beardsOf_18 : decode cX4_beardsOf 18 = .ok (.istore_n 2, 1) := by decide +kernel
theorem dX4_beardsOf_19 : decode cX4_beardsOf 19 = .ok (.iinc 3 1, 3) := by decide +kernel
theorem dX4_beardsOf_22 : decode cX4_beardsOf 22 = .ok (.goto (-18), 3) := by decide +kernel
theorem dX4_beardsOf_25 : decode cX4_beardsOf 25 = .ok (.iload_n 2, 1) := by decide +kernel
theorem dX4_beardsOf_26 : decode cX4_beardsOf 26 = .ok (.ireturn, 1) := by decide +kernel
theorem dX4_bareStrips_0 : decode cX4_bareStrips 0 = .ok (.iconst 0, 1) := by decide +kernel
theorem dX4_bareStrips_1 : decode cX4_bareStrips 1 = .ok (.istore_n 2, 1) := by decide +kernel
theorem dX4_bareStrips_2 : decode cX4_bareStrips 2 = .ok (.iconst 0, 1) := by decide +kernel
theorem dX4_bareStrips_3 : decode cX4_bareStrips 3 = .ok (.istore_n 3, 1) := by decide +kernel
theorem dX4_bareStrips_4 : decode cX4_bareStrips 4 = .ok (.iload_n 3, 1) := by decide +kernel
theorem dX4_bareStrips_5 : decode cX4_bareStrips 5 = .ok (.bipush 6, 2) := by decide +kernel
theorem dX4_bareStrips_7 : decode cX4_bareStrips 7 = .ok (.if_icmp .ge 24, 3) := by decide +kernel
theorem dX4_bareStrips_10 : decode cX4_bareStrips 10 = .ok (.aload_n 0, 1) := by decide +kernel
theorem dX4_bareStrips_11 : decode cX4_bareStrips 11 = .ok (.iload_n 1, 1) := by decide +kernel
theorem dX4_bareStrips_12 : decode cX4_bareStrips 12 = .ok (.iload_n 3, 1) := by decide +kernel
theorem dX4_bareStrips_13 : decode cX4_bareStrips 13 = .ok (.invokevirtual 49, 3) := by decide +kernel
theorem dX4_bareStrips_16 : decode cX4_bareStrips 16 = .ok (.ifCond .ne 9, 3) := by decide +kernel
theorem dX4_bareStrips_19 : decode cX4_bareStrips 19 = .ok (.iload_n 2, 1) := by decide +kernel
theorem dX4_bareStrips_20 : decode cX4_bareStrips 20 = .ok (.iconst 1, 1) := by decide +kernel
theorem dX4_bareStrips_21 : decode cX4_bareStrips 21 = .ok (.iload_n 3, 1) := by decide +kernel
theorem dX4_bareStrips_22 : decode cX4_bareStrips 22 = .ok (.ishl, 1) := by decide +kernel
theorem dX4_bareStrips_23 : decode cX4_bareStrips 23 = .ok (.ior, 1) := by decide +kernel
theorem dX4_bareStrips_24 : decode cX4_bareStrips 24 = .ok (.istore_n 2, 1) := by decide +kernel
theorem dX4_bareStrips_25 : decode cX4_bareStrips 25 = .ok (.iinc 3 1, 3) := by decide +kernel
theorem dX4_bareStrips_28 : decode cX4_bareStrips 28 = .ok (.goto (-24), 3) := by decide +kernel
theorem dX4_bareStrips_31 : decode cX4_bareStrips 31 = .ok (.iload_n 2, 1) := by decide +kernel
theorem dX4_bareStrips_32 : decode cX4_bareStrips 32 = .ok (.ireturn, 1) := by decide +kernel
theorem dX4_stripsKnown_0 : decode cX4_stripsKnown 0 = .ok (.aload_n 0, 1) := by decide +kernel
theorem dX4_stripsKnown_1 : decode cX4_stripsKnown 1 = .ok (.getfield 16, 3) := by decide +kernel
theorem dX4_stripsKnown_4 : decode cX4_stripsKnown 4 = .ok (.bipush 37, 2) := by decide +kernel
theorem dX4_stripsKnown_6 : decode cX4_stripsKnown 6 = .ok (.iload_n 1, 1) := by decide +kernel
theorem dX4_stripsKnown_7 : decode cX4_stripsKnown 7 = .ok (.bipush 6, 2) := by decide +kernel
theorem dX4_stripsKnown_9 : decode cX4_stripsKnown 9 = .ok (.imul, 1) := by decide +kernel
theorem dX4_stripsKnown_10 : decode cX4_stripsKnown 10 = .ok (.iadd, 1) := by decide +kernel
theorem dX4_stripsKnown_11 : decode cX4_stripsKnown 11 = .ok (.iload_n 2, 1) := by decide +kernel
theorem dX4_stripsKnown_12 : decode cX4_stripsKnown 12 = .ok (.iadd, 1) := by decide +kernel
theorem dX4_stripsKnown_13 : decode cX4_stripsKnown 13 = .ok (.invokevirtual 37, 3) := by decide +kernel
theorem dX4_stripsKnown_16 : decode cX4_stripsKnown 16 = .ok (.ireturn, 1) := by decide +kernel
theorem dX4_partsKnown_0 : decode cX4_partsKnown 0 = .ok (.aload_n 0, 1) := by decide +kernel
theorem dX4_partsKnown_1 : decode cX4_partsKnown 1 = .ok (.getfield 16, 3) := by decide +kernel
theorem dX4_partsKnown_4 : decode cX4_partsKnown 4 = .ok (.bipush 61, 2) := by decide +kernel
theorem dX4_partsKnown_6 : decode cX4_partsKnown 6 = .ok (.iload_n 1, 1) := by decide +kernel
theorem dX4_partsKnown_7 : decode cX4_partsKnown 7 = .ok (.bipush 6, 2) := by decide +kernel
theorem dX4_partsKnown_9 : decode cX4_partsKnown 9 = .ok (.imul, 1) := by decide +kernel
theorem dX4_partsKnown_10 : decode cX4_partsKnown 10 = .ok (.iadd, 1) := by decide +kernel
theorem dX4_partsKnown_11 : decode cX4_partsKnown 11 = .ok (.iload_n 2, 1) := by decide +kernel
theorem dX4_partsKnown_12 : decode cX4_partsKnown 12 = .ok (.iadd, 1) := by decide +kernel
theorem dX4_partsKnown_13 : decode cX4_partsKnown 13 = .ok (.invokevirtual 37, 3) := by decide +kernel
theorem dX4_partsKnown_16 : decode cX4_partsKnown 16 = .ok (.ireturn, 1) := by decide +kernel
theorem dX4_setKnown_0 : decode cX4_setKnown 0 = .ok (.aload_n 0, 1) := by decide +kernel
theorem dX4_setKnown_1 : decode cX4_setKnown 1 = .ok (.getfield 16, 3) := by decide +kernel
theorem dX4_setKnown_4 : decode cX4_setKnown 4 = .ok (.bipush 37, 2) := by decide +kernel
theorem dX4_setKnown_6 : decode cX4_setKnown 6 = .ok (.iload_n 1, 1) := by decide +kernel
theorem dX4_setKnown_7 : decode cX4_setKnown 7 = .ok (.bipush 6, 2) := by decide +kernel
theorem dX4_setKnown_9 : decode cX4_setKnown 9 = .ok (.imul, 1) := by decide +kernel
theorem dX4_setKnown_10 : decode cX4_setKnown 10 = .ok (.iadd, 1) := by decide +kernel
theorem dX4_setKnown_11 : decode cX4_setKnown 11 = .ok (.iload_n 2, 1) := by decide +kernel
theorem dX4_setKnown_12 : decode cX4_setKnown 12 = .ok (.iadd, 1) := by decide +kernel
theorem dX4_setKnown_13 : decode cX4_setKnown 13 = .ok (.iload_n 3, 1) := by decide +kernel
theorem dX4_setKnown_14 : decode cX4_setKnown 14 = .ok (.invokevirtual 45, 3) := by decide +kernel
theorem dX4_setKnown_17 : decode cX4_setKnown 17 = .ok (.aload_n 0, 1) := by decide +kernel
theorem dX4_setKnown_18 : decode cX4_setKnown 18 = .ok (.getfield 16, 3) := by decide +kernel
theorem dX4_setKnown_21 : decode cX4_setKnown 21 = .ok (.bipush 61, 2) := by decide +kernel
theorem dX4_setKnown_23 : decode cX4_setKnown 23 = .ok (.iload_n 1, 1) := by decide +kernel
theorem dX4_setKnown_24 : decode cX4_setKnown 24 = .ok (.bipush 6, 2) := by decide +kernel
theorem dX4_setKnown_26 : decode cX4_setKnown 26 = .ok (.imul, 1) := by decide +kernel
theorem dX4_setKnown_27 : decode cX4_setKnown 27 = .ok (.iadd, 1) := by decide +kernel
theorem dX4_setKnown_28 : decode cX4_setKnown 28 = .ok (.iload_n 2, 1) := by decide +kernel
theorem dX4_setKnown_29 : decode cX4_setKnown 29 = .ok (.iadd, 1) := by decide +kernel
theorem dX4_setKnown_30 : decode cX4_setKnown 30 = .ok (.iload 4, 2) := by decide +kernel
theorem dX4_setKnown_32 : decode cX4_setKnown 32 = .ok (.invokevirtual 45, 3) := by decide +kernel
theorem dX4_setKnown_35 : decode cX4_setKnown 35 = .ok (.return_, 1) := by decide +kernel
theorem dX4_learn_0 : decode cX4_learn 0 = .ok (.aload_n 0, 1) := by decide +kernel
theorem dX4_learn_1 : decode cX4_learn 1 = .ok (.iload_n 1, 1) := by decide +kernel
theorem dX4_learn_2 : decode cX4_learn 2 = .ok (.iload_n 2, 1) := by decide +kernel
theorem dX4_learn_3 : decode cX4_learn 3 = .ok (.aload_n 0, 1) := by decide +kernel
theorem dX4_learn_4 : decode cX4_learn 4 = .ok (.iload_n 1, 1) := by decide +kernel
theorem dX4_learn_5 : decode cX4_learn 5 = .ok (.iload_n 2, 1) := by decide +kernel
theorem dX4_learn_6 : decode cX4_learn 6 = .ok (.invokevirtual 57, 3) := by decide +kernel
theorem dX4_learn_9 : decode cX4_learn 9 = .ok (.iload_n 3, 1) := by decide +kernel
theorem dX4_learn_10 : decode cX4_learn 10 = .ok (.ior, 1) := by decide +kernel
theorem dX4_learn_11 : decode cX4_learn 11 = .ok (.aload_n 0, 1) := by decide +kernel
theorem dX4_learn_12 : decode cX4_learn 12 = .ok (.iload_n 1, 1) := by decide +kernel
theorem dX4_learn_13 : decode cX4_learn 13 = .ok (.iload_n 2, 1) := by decide +kernel
theorem dX4_learn_14 : decode cX4_learn 14 = .ok (.invokevirtual 60, 3) := by decide +kernel
theorem dX4_learn_17 : decode cX4_learn 17 = .ok (.iload_n 3, 1) := by decide +kernel
theorem dX4_learn_18 : decode cX4_learn 18 = .ok (.iload 4, 2) := by decide +kernel
theorem dX4_learn_20 : decode cX4_learn 20 = .ok (.invokestatic 63, 3) := by decide +kernel
theorem dX4_learn_23 : decode cX4_learn 23 = .ok (.invokevirtual 67, 3) := by decide +kernel
theorem dX4_learn_26 : decode cX4_learn 26 = .ok (.return_, 1) := by decide +kernel
theorem dX5_init_0 : decode cX5_init 0 = .ok (.aload_n 0, 1) := by decide +kernel
theorem dX5_init_1 : decode cX5_init 1 = .ok (.invokespecial 3, 3) := by decide +kernel
theorem dX5_init_4 : decode cX5_init 4 = .ok (.aload_n 0, 1) := by decide +kernel
theorem dX5_init_5 : decode cX5_init 5 = .ok (.iconst 2, 1) := by decide +kernel
theorem dX5_init_6 : decode cX5_init 6 = .ok (.putfield 9, 3) := by decide +kernel
theorem dX5_init_9 : decode cX5_init 9 = .ok (.aload_n 0, 1) := by decide +kernel
theorem dX5_init_10 : decode cX5_init 10 = .ok (.new 15, 3) := by decide +kernel
theorem dX5_init_13 : decode cX5_init 13 = .ok (.dup, 1) := by decide +kernel
theorem dX5_init_14 : decode cX5_init 14 = .ok (.bipush 6, 2) := by decide +kernel
theorem dX5_init_16 : decode cX5_init 16 = .ok (.invokespecial 17, 3) := by decide +kernel
theorem dX5_init_19 : decode cX5_init 19 = .ok (.putfield 20, 3) := by decide +kernel
theorem dX5_init_22 : decode cX5_init 22 = .ok (.aload_n 0, 1) := by decide +kernel
theorem dX5_init_23 : decode cX5_init 23 = .ok (.new 15, 3) := by decide +kernel
theorem dX5_init_26 : decode cX5_init 26 = .ok (.dup, 1) := by decide +kernel
theorem dX5_init_27 : decode cX5_init 27 = .ok (.bipush 6, 2) := by decide +kernel
theorem dX5_init_29 : decode cX5_init 29 = .ok (.invokespecial 17, 3) := by decide +kernel
theorem dX5_init_32 : decode cX5_init 32 = .ok (.putfield 24, 3) := by decide +kernel
theorem dX5_init_35 : decode cX5_init 35 = .ok (.aload_n 0, 1) := by decide +kernel
theorem dX5_init_36 : decode cX5_init 36 = .ok (.new 15, 3) := by decide +kernel
theorem dX5_init_39 : decode cX5_init 39 = .ok (.dup, 1) := by decide +kernel
theorem dX5_init_40 : decode cX5_init 40 = .ok (.bipush 36, 2) := by decide +kernel
theorem dX5_init_42 : decode cX5_init 42 = .ok (.invokespecial 17, 3) := by decide +kernel
theorem dX5_init_45 : decode cX5_init 45 = .ok (.putfield 27, 3) := by decide +kernel
theorem dX5_init_48 : decode cX5_init 48 = .ok (.aload_n 0, 1) := by decide +kernel
theorem dX5_init_49 : decode cX5_init 49 = .ok (.new 15, 3) := by decide +kernel
theorem dX5_init_52 : decode cX5_init 52 = .ok (.dup, 1) := by decide +kernel
theorem dX5_init_53 : decode cX5_init 53 = .ok (.bipush 8, 2) := by decide +kernel
theorem dX5_init_55 : decode cX5_init 55 = .ok (.invokespecial 17, 3) := by decide +kernel
theorem dX5_init_58 : decode cX5_init 58 = .ok (.putfield 30, 3) := by decide +kernel
theorem dX5_init_61 : decode cX5_init 61 = .ok (.return_, 1) := by decide +kernel
theorem dX5_hear_0 : decode cX5_hear 0 = .ok (.iload_n 1, 1) := by decide +kernel
theorem dX5_hear_1 : decode cX5_hear 1 = .ok (.tableswitch 61 4 6 #[27, 35, 43], 27) := by decide +kernel
theorem dX5_hear_28 : decode cX5_hear 28 = .ok (.aload_n 0, 1) := by decide +kernel
theorem dX5_hear_29 : decode cX5_hear 29 = .ok (.iload_n 2, 1) := by decide +kernel
theorem dX5_hear_30 : decode cX5_hear 30 = .ok (.invokevirtual 33, 3) := by decide +kernel
theorem dX5_hear_33 : decode cX5_hear 33 = .ok (.goto 35, 3) := by decide +kernel
theorem dX5_hear_36 : decode cX5_hear 36 = .ok (.aload_n 0, 1) := by decide +kernel
theorem dX5_hear_37 : decode cX5_hear 37 = .ok (.iload_n 2, 1) := by decide +kernel
theorem dX5_hear_38 : decode cX5_hear 38 = .ok (.invokevirtual 36, 3) := by decide +kernel
theorem dX5_hear_41 : decode cX5_hear 41 = .ok (.goto 27, 3) := by decide +kernel
theorem dX5_hear_44 : decode cX5_hear 44 = .ok (.aload_n 0, 1) := by decide +kernel
theorem dX5_hear_45 : decode cX5_hear 45 = .ok (.getfield 27, 3) := by decide +kernel
theorem dX5_hear_48 : decode cX5_hear 48 = .ok (.iload_n 2, 1) := by decide +kernel
theorem dX5_hear_49 : decode cX5_hear 49 = .ok (.bipush 6, 2) := by decide +kernel
theorem dX5_hear_51 : decode cX5_hear 51 = .ok (.imul, 1) := by decide +kernel
theorem dX5_hear_52 : decode cX5_hear 52 = .ok (.iload_n 3, 1) := by decide +kernel
theorem dX5_hear_53 : decode cX5_hear 53 = .ok (.iadd, 1) := by decide +kernel
theorem dX5_hear_54 : decode cX5_hear 54 = .ok (.iload 4, 2) := by decide +kernel
theorem dX5_hear_56 : decode cX5_hear 56 = .ok (.invokevirtual 39, 3) := by decide +kernel
theorem dX5_hear_59 : decode cX5_hear 59 = .ok (.goto 9, 3) := by decide +kernel
theorem dX5_hear_62 : decode cX5_hear 62 = .ok (.aload_n 0, 1) := by decide +kernel
theorem dX5_hear_63 : decode cX5_hear 63 = .ok (.iload_n 1, 1) := by decide +kernel
theorem dX5_hear_64 : decode cX5_hear 64 = .ok (.iload_n 2, 1) := by decide +kernel
theorem dX5_hear_65 : decode cX5_hear 65 = .ok (.invokevirtual 43, 3) := by decide +kernel
theorem dX5_hear_68 : decode cX5_hear 68 = .ok (.return_, 1) := by decide +kernel
theorem dX5_found_0 : decode cX5_found 0 = .ok (.aload_n 0, 1) := by decide +kernel
theorem dX5_found_1 : decode cX5_found 1 = .ok (.iconst 1, 1) := by decide +kernel
theorem dX5_found_2 : decode cX5_found 2 = .ok (.iconst 4, 1) := by decide +kernel
theorem dX5_found_3 : decode cX5_found 3 = .ok (.iload_n 1, 1) := by decide +kernel
theorem dX5_found_4 : decode cX5_found 4 = .ok (.invokestatic 46, 3) := by decide +kernel
theorem dX5_found_7 : decode cX5_found 7 = .ok (.invokestatic 52, 3) := by decide +kernel
theorem dX5_found_10 : decode cX5_found 10 = .ok (.putfield 9, 3) := by decide +kernel
theorem dX5_found_13 : decode cX5_found 13 = .ok (.aload_n 0, 1) := by decide +kernel
theorem dX5_found_14 : decode cX5_found 14 = .ok (.iconst 0, 1) := by decide +kernel
theorem dX5_found_15 : decode cX5_found 15 = .ok (.putfield 55, 3) := by decide +kernel
theorem dX5_found_18 : decode cX5_found 18 = .ok (.aload_n 0, 1) := by decide +kernel
theorem dX5_found_19 : decode cX5_found 19 = .ok (.iconst 0, 1) := by decide +kernel
theorem dX5_found_20 : decode cX5_found 20 = .ok (.putfield 58, 3) := by decide +kernel
theorem dX5_found_23 : decode cX5_found 23 = .ok (.aload_n 0, 1) := by decide +kernel
theorem dX5_found_24 : decode cX5_found 24 = .ok (.getfield 27, 3) := by decide +kernel
theorem dX5_found_27 : decode cX5_found 27 = .ok (.invokevirtual 61, 3) := by decide +kernel
theorem dX5_found_30 : decode cX5_found 30 = .ok (.return_, 1) := by decide +kernel
theorem dX5_addPerson_0 : decode cX5_addPerson 0 = .ok (.aload_n 0, 1) := by decide +kernel
theorem dX5_addPerson_1 : decode cX5_addPerson 1 = .ok (.getfield 20, 3) := by decide +kernel
theorem dX5_addPerson_4 : decode cX5_addPerson 4 = .ok (.aload_n 0, 1) := by decide +kernel
theorem dX5_addPerson_5 : decode cX5_addPerson 5 = .ok (.getfield 55, 3) := by decide +kernel
theorem dX5_addPerson_8 : decode cX5_addPerson 8 = .ok (.iload_n 1, 1) := by decide +kernel
theorem dX5_addPerson_9 : decode cX5_addPerson 9 = .ok (.invokevirtual 39, 3) := by decide +kernel
theorem dX5_addPerson_12 : decode cX5_addPerson 12 = .ok (.aload_n 0, 1) := by decide +kernel
theorem dX5_addPerson_13 : decode cX5_addPerson 13 = .ok (.getfield 24, 3) := by decide +kernel

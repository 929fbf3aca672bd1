theorem dX5_addPerson_16 : decode cX5_addPerson 16 = .ok (.aload_n 0, 1) := by decide +kernel
theorem dX5_addPerson_17 : decode cX5_addPerson 17 = .ok (.getfield 55, 3) := by decide +kernel
theorem dX5_addPerson_20 : decode cX5_addPerson 20 = .ok (.iload_n 2, 1) := by decide +kernel
theorem dX5_addPerson_21 : decode cX5_addPerson 21 = .ok (.invokevirtual 39, 3) := by decide +kernel
theorem dX5_addPerson_24 : decode cX5_addPerson 24 = .ok (.aload_n 0, 1) := by decide +kernel
theorem dX5_addPerson_25 : decode cX5_addPerson 25 = .ok (.bipush 6, 2) := by decide +kernel
theorem dX5_addPerson_27 : decode cX5_addPerson 27 = .ok (.aload_n 0, 1) := by decide +kernel
theorem dX5_addPerson_28 : decode cX5_addPerson 28 = .ok (.getfield 55, 3) := by decide +kernel
theorem dX5_addPerson_31 : decode cX5_addPerson 31 = .ok (.iconst 1, 1) := by decide +kernel
theorem dX5_addPerson_32 : decode cX5_addPerson 32 = .ok (.iadd, 1) := by decide +kernel
theorem dX5_addPerson_33 : decode cX5_addPerson 33 = .ok (.invokestatic 46, 3) := by decide +kernel
theorem dX5_addPerson_36 : decode cX5_addPerson 36 = .ok (.putfield 55, 3) := by decide +kernel
theorem dX5_addPerson_39 : decode cX5_addPerson 39 = .ok (.return_, 1) := by decide +kernel
theorem dX5_addRumour_0 : decode cX5_addRumour 0 = .ok (.aload_n 0, 1) := by decide +kernel
theorem dX5_addRumour_1 : decode cX5_addRumour 1 = .ok (.getfield 30, 3) := by decide +kernel
theorem dX5_addRumour_4 : decode cX5_addRumour 4 = .ok (.aload_n 0, 1) := by decide +kernel
theorem dX5_addRumour_5 : decode cX5_addRumour 5 = .ok (.getfield 58, 3) := by decide +kernel
theorem dX5_addRumour_8 : decode cX5_addRumour 8 = .ok (.iload_n 1, 1) := by decide +kernel
theorem dX5_addRumour_9 : decode cX5_addRumour 9 = .ok (.invokevirtual 39, 3) := by decide +kernel
theorem dX5_addRumour_12 : decode cX5_addRumour 12 = .ok (.aload_n 0, 1) := by decide +kernel
theorem dX5_addRumour_13 : decode cX5_addRumour 13 = .ok (.bipush 8, 2) := by decide +kernel
theorem dX5_addRumour_15 : decode cX5_addRumour 15 = .ok (.aload_n 0, 1) := by decide +kernel
theorem dX5_addRumour_16 : decode cX5_addRumour 16 = .ok (.getfield 58, 3) := by decide +kernel
theorem dX5_addRumour_19 : decode cX5_addRumour 19 = .ok (.iconst 1, 1) := by decide +kernel
theorem dX5_addRumour_20 : decode cX5_addRumour 20 = .ok (.iadd, 1) := by decide +kernel
theorem dX5_addRumour_21 : decode cX5_addRumour 21 = .ok (.invokestatic 46, 3) := by decide +kernel
theorem dX5_addRumour_24 : decode cX5_addRumour 24 = .ok (.putfield 58, 3) := by decide +kernel
theorem dX5_addRumour_27 : decode cX5_addRumour 27 = .ok (.return_, 1) := by decide +kernel
theorem dX5_kindOf_0 : decode cX5_kindOf 0 = .ok (.aload_n 0, 1) := by decide +kernel
theorem dX5_kindOf_1 : decode cX5_kindOf 1 = .ok (.getfield 20, 3) := by decide +kernel
theorem dX5_kindOf_4 : decode cX5_kindOf 4 = .ok (.iload_n 1, 1) := by decide +kernel
theorem dX5_kindOf_5 : decode cX5_kindOf 5 = .ok (.invokevirtual 64, 3) := by decide +kernel
theorem dX5_kindOf_8 : decode cX5_kindOf 8 = .ok (.ireturn, 1) := by decide +kernel
theorem dX5_secretOf_0 : decode cX5_secretOf 0 = .ok (.aload_n 0, 1) := by decide +kernel
theorem dX5_secretOf_1 : decode cX5_secretOf 1 = .ok (.getfield 24, 3) := by decide +kernel
theorem dX5_secretOf_4 : decode cX5_secretOf 4 = .ok (.iload_n 1, 1) := by decide +kernel
theorem dX5_secretOf_5 : decode cX5_secretOf 5 = .ok (.invokevirtual 64, 3) := by decide +kernel
theorem dX5_secretOf_8 : decode cX5_secretOf 8 = .ok (.ireturn, 1) := by decide +kernel
theorem dX5_toldBeard_0 : decode cX5_toldBeard 0 = .ok (.aload_n 0, 1) := by decide +kernel
theorem dX5_toldBeard_1 : decode cX5_toldBeard 1 = .ok (.getfield 27, 3) := by decide +kernel
theorem dX5_toldBeard_4 : decode cX5_toldBeard 4 = .ok (.iload_n 1, 1) := by decide +kernel
theorem dX5_toldBeard_5 : decode cX5_toldBeard 5 = .ok (.bipush 6, 2) := by decide +kernel
theorem dX5_toldBeard_7 : decode cX5_toldBeard 7 = .ok (.imul, 1) := by decide +kernel
theorem dX5_toldBeard_8 : decode cX5_toldBeard 8 = .ok (.iload_n 2, 1) := by decide +kernel
theorem dX5_toldBeard_9 : decode cX5_toldBeard 9 = .ok (.iadd, 1) := by decide +kernel
theorem dX5_toldBeard_10 : decode cX5_toldBeard 10 = .ok (.invokevirtual 64, 3) := by decide +kernel
theorem dX5_toldBeard_13 : decode cX5_toldBeard 13 = .ok (.ireturn, 1) := by decide +kernel
theorem dX5_rumourNumber_0 : decode cX5_rumourNumber 0 = .ok (.aload_n 0, 1) := by decide +kernel
theorem dX5_rumourNumber_1 : decode cX5_rumourNumber 1 = .ok (.getfield 30, 3) := by decide +kernel
theorem dX5_rumourNumber_4 : decode cX5_rumourNumber 4 = .ok (.iload_n 1, 1) := by decide +kernel
theorem dX5_rumourNumber_5 : decode cX5_rumourNumber 5 = .ok (.invokevirtual 64, 3) := by decide +kernel
theorem dX5_rumourNumber_8 : decode cX5_rumourNumber 8 = .ok (.ireturn, 1) := by decide +kernel
theorem dX5_wouldTell_0 : decode cX5_wouldTell 0 = .ok (.aload_n 0, 1) := by decide +kernel
theorem dX5_wouldTell_1 : decode cX5_wouldTell 1 = .ok (.iload_n 1, 1) := by decide +kernel
theorem dX5_wouldTell_2 : decode cX5_wouldTell 2 = .ok (.invokevirtual 68, 3) := by decide +kernel
theorem dX5_wouldTell_5 : decode cX5_wouldTell 5 = .ok (.iload_n 2, 1) := by decide +kernel
theorem dX5_wouldTell_6 : decode cX5_wouldTell 6 = .ok (.iload_n 3, 1) := by decide +kernel
theorem dX5_wouldTell_7 : decode cX5_wouldTell 7 = .ok (.aload_n 0, 1) := by decide +kernel
theorem dX5_wouldTell_8 : decode cX5_wouldTell 8 = .ok (.iload_n 1, 1) := by decide +kernel
theorem dX5_wouldTell_9 : decode cX5_wouldTell 9 = .ok (.invokevirtual 71, 3) := by decide +kernel
theorem dX5_wouldTell_12 : decode cX5_wouldTell 12 = .ok (.iload_n 2, 1) := by decide +kernel
theorem dX5_wouldTell_13 : decode cX5_wouldTell 13 = .ok (.ishr, 1) := by decide +kernel
theorem dX5_wouldTell_14 : decode cX5_wouldTell 14 = .ok (.iconst 1, 1) := by decide +kernel
theorem dX5_wouldTell_15 : decode cX5_wouldTell 15 = .ok (.iand, 1) := by decide +kernel
theorem dX5_wouldTell_16 : decode cX5_wouldTell 16 = .ok (.invokestatic 74, 3) := by decide +kernel
theorem dX5_wouldTell_19 : decode cX5_wouldTell 19 = .ok (.ireturn, 1) := by decide +kernel
theorem dX5_fitting_0 : decode cX5_fitting 0 = .ok (.iconst 0, 1) := by decide +kernel
theorem dX5_fitting_1 : decode cX5_fitting 1 = .ok (.istore_n 3, 1) := by decide +kernel
theorem dX5_fitting_2 : decode cX5_fitting 2 = .ok (.iconst 0, 1) := by decide +kernel
theorem dX5_fitting_3 : decode cX5_fitting 3 = .ok (.istore 4, 2) := by decide +kernel
theorem dX5_fitting_5 : decode cX5_fitting 5 = .ok (.iload 4, 2) := by decide +kernel
theorem dX5_fitting_7 : decode cX5_fitting 7 = .ok (.aload_n 0, 1) := by decide +kernel
theorem dX5_fitting_8 : decode cX5_fitting 8 = .ok (.getfield 58, 3) := by decide +kernel
theorem dX5_fitting_11 : decode cX5_fitting 11 = .ok (.if_icmp .ge 29, 3) := by decide +kernel
theorem dX5_fitting_14 : decode cX5_fitting 14 = .ok (.aload_n 0, 1) := by decide +kernel
theorem dX5_fitting_15 : decode cX5_fitting 15 = .ok (.iload 4, 2) := by decide +kernel
theorem dX5_fitting_17 : decode cX5_fitting 17 = .ok (.invokevirtual 78, 3) := by decide +kernel
theorem dX5_fitting_20 : decode cX5_fitting 20 = .ok (.iload_n 2, 1) := by decide +kernel
theorem dX5_fitting_21 : decode cX5_fitting 21 = .ok (.ixor, 1) := by decide +kernel
theorem dX5_fitting_22 : decode cX5_fitting 22 = .ok (.iload_n 1, 1) := by decide +kernel
theorem dX5_fitting_23 : decode cX5_fitting 23 = .ok (.iand, 1) := by decide +kernel
theorem dX5_fitting_24 : decode cX5_fitting 24 = .ok (.ifCond .ne 10, 3) := by decide +kernel
theorem dX5_fitting_27 : decode cX5_fitting 27 = .ok (.iload_n 3, 1) := by decide +kernel
theorem dX5_fitting_28 : decode cX5_fitting 28 = .ok (.iconst 1, 1) := by decide +kernel
theorem dX5_fitting_29 : decode cX5_fitting 29 = .ok (.iload 4, 2) := by decide +kernel
theorem dX5_fitting_31 : decode cX5_fitting 31 = .ok (.ishl, 1) := by decide +kernel
theorem dX5_fitting_32 : decode cX5_fitting 32 = .ok (.ior, 1) := by decide +kernel
theorem dX5_fitting_33 : decode cX5_fitting 33 = .ok (.istore_n 3, 1) := by decide +kernel
theorem dX5_fitting_34 : decode cX5_fitting 34 = .ok (.iinc 4 1, 3) := by decide +kernel
theorem dX5_fitting_37 : decode cX5_fitting 37 = .ok (.goto (-32), 3) := by decide +kernel
theorem dX5_fitting_40 : decode cX5_fitting 40 = .ok (.iload_n 3, 1) := by decide +kernel
theorem dX5_fitting_41 : decode cX5_fitting 41 = .ok (.ireturn, 1) := by decide +kernel
theorem dX5_mostAlike_0 : decode cX5_mostAlike 0 = .ok (.iconst 0, 1) := by decide +kernel
theorem dX5_mostAlike_1 : decode cX5_mostAlike 1 = .ok (.istore_n 3, 1) := by decide +kernel
theorem dX5_mostAlike_2 : decode cX5_mostAlike 2 = .ok (.iconst 0, 1) := by decide +kernel
theorem dX5_mostAlike_3 : decode cX5_mostAlike 3 = .ok (.istore 4, 2) := by decide +kernel
theorem dX5_mostAlike_5 : decode cX5_mostAlike 5 = .ok (.iload 4, 2) := by decide +kernel
theorem dX5_mostAlike_7 : decode cX5_mostAlike 7 = .ok (.aload_n 0, 1) := by decide +kernel
theorem dX5_mostAlike_8 : decode cX5_mostAlike 8 = .ok (.getfield 58, 3) := by decide +kernel
theorem dX5_mostAlike_11 : decode cX5_mostAlike 11 = .ok (.if_icmp .ge 34, 3) := by decide +kernel
theorem dX5_mostAlike_14 : decode cX5_mostAlike 14 = .ok (.iload_n 1, 1) := by decide +kernel
theorem dX5_mostAlike_15 : decode cX5_mostAlike 15 = .ok (.iload 4, 2) := by decide +kernel
theorem dX5_mostAlike_17 : decode cX5_mostAlike 17 = .ok (.invokestatic 81, 3) := by decide +kernel
theorem dX5_mostAlike_20 : decode cX5_mostAlike 20 = .ok (.ifCond .eq 19, 3) := by decide +kernel
theorem dX5_mostAlike_23 : decode cX5_mostAlike 23 = .ok (.aload_n 0, 1) := by decide +kernel
theorem dX5_mostAlike_24 : decode cX5_mostAlike 24 = .ok (.iload 4, 2) := by decide +kernel
theorem dX5_mostAlike_26 : decode cX5_mostAlike 26 = .ok (.invokevirtual 78, 3) := by decide +kernel
theorem dX5_mostAlike_29 : decode cX5_mostAlike 29 = .ok (.iload_n 2, 1) := by decide +kernel
theorem dX5_mostAlike_30 : decode cX5_mostAlike 30 = .ok (.invokestatic 81, 3) := by decide +kernel
theorem dX5_mostAlike_33 : decode cX5_mostAlike 33 = .ok (.ifCond .eq 6, 3) := by decide +kernel
theorem dX5_mostAlike_36 : decode cX5_mostAlike 36 = .ok (.iinc 3 1, 3) := by decide +kernel
theorem dX5_mostAlike_39 : decode cX5_mostAlike 39 = .ok (.iinc 4 1, 3) := by decide +kernel
theorem dX5_mostAlike_42 : decode cX5_mostAlike 42 = .ok (.goto (-37), 3) := by decide +kernel
theorem dX5_mostAlike_45 : decode cX5_mostAlike 45 = .ok (.iload_n 3, 1) := by decide +kernel
theorem dX5_mostAlike_46 : decode cX5_mostAlike 46 = .ok (.iload_n 1, 1) := by decide +kernel
theorem dX5_mostAlike_47 : decode cX5_mostAlike 47 = .ok (.invokestatic 85, 3) := by decide +kernel
theorem dX5_mostAlike_50 : decode cX5_mostAlike 50 = .ok (.iload_n 3, 1) := by decide +kernel
theorem dX5_mostAlike_51 : decode cX5_mostAlike 51 = .ok (.isub, 1) := by decide +kernel
theorem dX5_mostAlike_52 : decode cX5_mostAlike 52 = .ok (.invokestatic 52, 3) := by decide +kernel
theorem dX5_mostAlike_55 : decode cX5_mostAlike 55 = .ok (.ireturn, 1) := by decide +kernel
theorem dX6_init_0 : decode cX6_init 0 = .ok (.aload_n 0, 1) := by decide +kernel
theorem dX6_init_1 : decode cX6_init 1 = .ok (.invokespecial 1, 3) := by decide +kernel
theorem dX6_init_4 : decode cX6_init 4 = .ok (.aload_n 0, 1) := by decide +kernel
theorem dX6_init_5 : decode cX6_init 5 = .ok (.new 7, 3) := by decide +kernel
theorem dX6_init_8 : decode cX6_init 8 = .ok (.dup, 1) := by decide +kernel
theorem dX6_init_9 : decode cX6_init 9 = .ok (.invokespecial 9, 3) := by decide +kernel
theorem dX6_init_12 : decode cX6_init 12 = .ok (.putfield 10, 3) := by decide +kernel
theorem dX6_init_15 : decode cX6_init 15 = .ok (.aload_n 0, 1) := by decide +kernel
theorem dX6_init_16 : decode cX6_init 16 = .ok (.new 16, 3) := by decide +kernel
theorem dX6_init_19 : decode cX6_init 19 = .ok (.dup, 1) := by decide +kernel
theorem dX6_init_20 : decode cX6_init 20 = .ok (.invokespecial 18, 3) := by decide +kernel
theorem dX6_init_23 : decode cX6_init 23 = .ok (.putfield 19, 3) := by decide +kernel
theorem dX6_init_26 : decode cX6_init 26 = .ok (.aload_n 0, 1) := by decide +kernel
theorem dX6_init_27 : decode cX6_init 27 = .ok (.new 23, 3) := by decide +kernel
theorem dX6_init_30 : decode cX6_init 30 = .ok (.dup, 1) := by decide +kernel
theorem dX6_init_31 : decode cX6_init 31 = .ok (.invokespecial 25, 3) := by decide +kernel
theorem dX6_init_34 : decode cX6_init 34 = .ok (.putfield 26, 3) := by decide +kernel
theorem dX6_init_37 : decode cX6_init 37 = .ok (.aload_n 0, 1) := by decide +kernel
theorem dX6_init_38 : decode cX6_init 38 = .ok (.new 30, 3) := by decide +kernel
theorem dX6_init_41 : decode cX6_init 41 = .ok (.dup, 1) := by decide +kernel
theorem dX6_init_42 : decode cX6_init 42 = .ok (.invokespecial 32, 3) := by decide +kernel
theorem dX6_init_45 : decode cX6_init 45 = .ok (.putfield 33, 3) := by decide +kernel
theorem dX6_init_48 : decode cX6_init 48 = .ok (.aload_n 0, 1) := by decide +kernel
theorem dX6_init_49 : decode cX6_init 49 = .ok (.new 37, 3) := by decide +kernel
theorem dX6_init_52 : decode cX6_init 52 = .ok (.dup, 1) := by decide +kernel
theorem dX6_init_53 : decode cX6_init 53 = .ok (.bipush 8, 2) := by decide +kernel
theorem dX6_init_55 : decode cX6_init 55 = .ok (.invokespecial 39, 3) := by decide +kernel
theorem dX6_init_58 : decode cX6_init 58 = .ok (.putfield 42, 3) := by decide +kernel
theorem dX6_init_61 : decode cX6_init 61 = .ok (.aload_n 0, 1) := by decide +kernel
theorem dX6_init_62 : decode cX6_init 62 = .ok (.new 37, 3) := by decide +kernel
theorem dX6_init_65 : decode cX6_init 65 = .ok (.dup, 1) := by decide +kernel
theorem dX6_init_66 : decode cX6_init 66 = .ok (.iconst 2, 1) := by decide +kernel
theorem dX6_init_67 : decode cX6_init 67 = .ok (.invokespecial 39, 3) := by decide +kernel
theorem dX6_init_70 : decode cX6_init 70 = .ok (.putfield 46, 3) := by decide +kernel
theorem dX6_init_73 : decode cX6_init 73 = .ok (.aload_n 0, 1) := by decide +kernel
theorem dX6_init_74 : decode cX6_init 74 = .ok (.iconst 0, 1) := by decide +kernel
theorem dX6_init_75 : decode cX6_init 75 = .ok (.putfield 49, 3) := by decide +kernel
theorem dX6_init_78 : decode cX6_init 78 = .ok (.aload_n 0, 1) := by decide +kernel
theorem dX6_init_79 : decode cX6_init 79 = .ok (.iconst 0, 1) := by decide +kernel
theorem dX6_init_80 : decode cX6_init 80 = .ok (.putfield 53, 3) := by decide +kernel
theorem dX6_init_83 : decode cX6_init 83 = .ok (.aload_n 0, 1) := by decide +kernel
theorem dX6_init_84 : decode cX6_init 84 = .ok (.iconst 0, 1) := by decide +kernel
theorem dX6_init_85 : decode cX6_init 85 = .ok (.putfield 56, 3) := by decide +kernel
theorem dX6_init_88 : decode cX6_init 88 = .ok (.return_, 1) := by decide +kernel
theorem dX6_write_0 : decode cX6_write 0 = .ok (.iload_n 1, 1) := by decide +kernel
theorem dX6_write_1 : decode cX6_write 1 = .ok (.ifCond .lt 10, 3) := by decide +kernel
theorem dX6_write_4 : decode cX6_write 4 = .ok (.iload_n 1, 1) := by decide +kernel
theorem dX6_write_5 : decode cX6_write 5 = .ok (.sipush 255, 3) := by decide +kernel
theorem dX6_write_8 : decode cX6_write 8 = .ok (.if_icmp .le 6, 3) := by decide +kernel
theorem dX6_write_11 : decode cX6_write 11 = .ok (.bipush (-3), 2) := by decide +kernel
theorem dX6_write_13 : decode cX6_write 13 = .ok (.ireturn, 1) := by decide +kernel
theorem dX6_write_14 : decode cX6_write 14 = .ok (.aload_n 0, 1) := by decide +kernel
theorem dX6_write_15 : decode cX6_write 15 = .ok (.getfield 10, 3) := by decide +kernel
theorem dX6_write_18 : decode cX6_write 18 = .ok (.getfield 59, 3) := by decide +kernel
theorem dX6_write_21 : decode cX6_write 21 = .ok (.sipush 160, 3) := by decide +kernel
theorem dX6_write_24 : decode cX6_write 24 = .ok (.if_icmp .lt 6, 3) := by decide +kernel
theorem dX6_write_27 : decode cX6_write 27 = .ok (.bipush (-5), 2) := by decide +kernel
theorem dX6_write_29 : decode cX6_write 29 = .ok (.ireturn, 1) := by decide +kernel
theorem dX6_write_30 : decode cX6_write 30 = .ok (.aload_n 0, 1) := by decide +kernel
theorem dX6_write_31 : decode cX6_write 31 = .ok (.getfield 10, 3) := by decide +kernel
theorem dX6_write_34 : decode cX6_write 34 = .ok (.iload_n 1, 1) := by decide +kernel
theorem dX6_write_35 : decode cX6_write 35 = .ok (.invokevirtual 62, 3) := by decide +kernel
theorem dX6_write_38 : decode cX6_write 38 = .ok (.aload_n 0, 1) := by decide +kernel
theorem dX6_write_39 : decode cX6_write 39 = .ok (.getfield 10, 3) := by decide +kernel
theorem dX6_write_42 : decode cX6_write 42 = .ok (.getfield 59, 3) := by decide +kernel
theorem dX6_write_45 : decode cX6_write 45 = .ok (.ireturn, 1) := by decide +kernel
theorem dX6_erase_0 : decode cX6_erase 0 = .ok (.aload_n 0, 1) := by decide +kernel
theorem dX6_erase_1 : decode cX6_erase 1 = .ok (.getfield 10, 3) := by decide +kernel
theorem dX6_erase_4 : decode cX6_erase 4 = .ok (.getfield 59, 3) := by decide +kernel
theorem dX6_erase_7 : decode cX6_erase 7 = .ok (.istore_n 1, 1) := by decide +kernel
theorem dX6_erase_8 : decode cX6_erase 8 = .ok (.aload_n 0, 1) := by decide +kernel
theorem dX6_erase_9 : decode cX6_erase 9 = .ok (.getfield 10, 3) := by decide +kernel
theorem dX6_erase_12 : decode cX6_erase 12 = .ok (.invokevirtual 65, 3) := by decide +kernel
theorem dX6_erase_15 : decode cX6_erase 15 = .ok (.iload_n 1, 1) := by decide +kernel
theorem dX6_erase_16 : decode cX6_erase 16 = .ok (.ireturn, 1) := by decide +kernel
theorem dX6_fault_0 : decode cX6_fault 0 = .ok (.aload_n 0, 1) := by decide +kernel
theorem dX6_fault_1 : decode cX6_fault 1 = .ok (.getfield 10, 3) := by decide +kernel
theorem dX6_fault_4 : decode cX6_fault 4 = .ok (.aload_n 0, 1) := by decide +kernel
theorem dX6_fault_5 : decode cX6_fault 5 = .ok (.getfield 19, 3) := by decide +kernel
theorem dX6_fault_8 : decode cX6_fault 8 = .ok (.getfield 68, 3) := by decide +kernel
theorem dX6_fault_11 : decode cX6_fault 11 = .ok (.aload_n 0, 1) := by decide +kernel
theorem dX6_fault_12 : decode cX6_fault 12 = .ok (.getfield 19, 3) := by decide +kernel
theorem dX6_fault_15 : decode cX6_fault 15 = .ok (.getfield 71, 3) := by decide +kernel
theorem dX6_fault_18 : decode cX6_fault 18 = .ok (.invokevirtual 74, 3) := by decide +kernel
theorem dX6_fault_21 : decode cX6_fault 21 = .ok (.ireturn, 1) := by decide +kernel
theorem dX6_town_0 : decode cX6_town 0 = .ok (.aload_n 0, 1) := by decide +kernel
theorem dX6_town_1 : decode cX6_town 1 = .ok (.getfield 10, 3) := by decide +kernel
theorem dX6_town_4 : decode cX6_town 4 = .ok (.aload_n 0, 1) := by decide +kernel
theorem dX6_town_5 : decode cX6_town 5 = .ok (.getfield 19, 3) := by decide +kernel
theorem dX6_town_8 : decode cX6_town 8 = .ok (.getfield 68, 3) := by decide +kernel
theorem dX6_town_11 : decode cX6_town 11 = .ok (.aload_n 0, 1) := by decide +kernel
theorem dX6_town_12 : decode cX6_town 12 = .ok (.getfield 19, 3) := by decide +kernel
theorem dX6_town_15 : decode cX6_town 15 = .ok (.getfield 71, 3) := by decide +kernel
theorem dX6_town_18 : decode cX6_town 18 = .ok (.invokevirtual 74, 3) := by decide +kernel
theorem dX6_town_21 : decode cX6_town 21 = .ok (.iconst (-1), 1) := by decide +kernel
theorem dX6_town_22 : decode cX6_town 22 = .ok (.if_icmp .eq 6, 3) := by decide +kernel
theorem dX6_town_25 : decode cX6_town 25 = .ok (.bipush (-4), 2) := by decide +kernel
theorem dX6_town_27 : decode cX6_town 27 = .ok (.ireturn, 1) := by decide +kernel
theorem dX6_town_28 : decode cX6_town 28 = .ok (.aload_n 0, 1) := by decide +kernel
theorem dX6_town_29 : decode cX6_town 29 = .ok (.getfield 10, 3) := by decide +kernel
theorem dX6_town_32 : decode cX6_town 32 = .ok (.getfield 78, 3) := by decide +kernel
theorem dX6_town_35 : decode cX6_town 35 = .ok (.istore_n 1, 1) := by decide +kernel
theorem dX6_town_36 : decode cX6_town 36 = .ok (.iconst 0, 1) := by decide +kernel
theorem dX6_town_37 : decode cX6_town 37 = .ok (.istore_n 2, 1) := by decide +kernel
theorem dX6_town_38 : decode cX6_town 38 = .ok (.iload_n 2, 1) := by decide +kernel
theorem dX6_town_39 : decode cX6_town 39 = .ok (.iload_n 1, 1) := by decide +kernel
theorem dX6_town_40 : decode cX6_town 40 = .ok (.if_icmp .ge 51, 3) := by decide +kernel
theorem dX6_town_43 : decode cX6_town 43 = .ok (.aload_n 0, 1) := by decide +kernel
theorem dX6_town_44 : decode cX6_town 44 = .ok (.getfield 19, 3) := by decide +kernel
theorem dX6_town_47 : decode cX6_town 47 = .ok (.aload_n 0, 1) := by decide +kernel
theorem dX6_town_48 : decode cX6_town 48 = .ok (.getfield 10, 3) := by decide +kernel
theorem dX6_town_51 : decode cX6_town 51 = .ok (.iload_n 2, 1) := by decide +kernel
theorem dX6_town_52 : decode cX6_town 52 = .ok (.invokevirtual 81, 3) := by decide +kernel
theorem dX6_town_55 : decode cX6_town 55 = .ok (.aload_n 0, 1) := by decide +kernel
theorem dX6_town_56 : decode cX6_town 56 = .ok (.getfield 10, 3) := by decide +kernel
theorem dX6_town_59 : decode cX6_town 59 = .ok (.iload_n 2, 1) := by decide +kernel
theorem dX6_town_60 : decode cX6_town 60 = .ok (.iconst 0, 1) := by decide +kernel
theorem dX6_town_61 : decode cX6_town 61 = .ok (.invokevirtual 85, 3) := by decide +kernel
theorem dX6_town_64 : decode cX6_town 64 = .ok (.aload_n 0, 1) := by decide +kernel
theorem dX6_town_65 : decode cX6_town 65 = .ok (.getfield 10, 3) := by decide +kernel
theorem dX6_town_68 : decode cX6_town 68 = .ok (.iload_n 2, 1) := by decide +kernel
theorem dX6_town_69 : decode cX6_town 69 = .ok (.iconst 1, 1) := by decide +kernel
theorem dX6_town_70 : decode cX6_town 70 = .ok (.invokevirtual 85, 3) := by decide +kernel
theorem dX6_town_73 : decode cX6_town 73 = .ok (.aload_n 0, 1) := by decide +kernel
theorem dX6_town_74 : decode cX6_town 74 = .ok (.getfield 10, 3) := by decide +kernel
theorem dX6_town_77 : decode cX6_town 77 = .ok (.iload_n 2, 1) := by decide +kernel
theorem dX6_town_78 : decode cX6_town 78 = .ok (.iconst 2, 1) := by decide +kernel
theorem dX6_town_79 : decode cX6_town 79 = .ok (.invokevirtual 85, 3) := by decide +kernel
theorem dX6_town_82 : decode cX6_town 82 = .ok (.invokevirtual 88, 3) := by decide +kernel
theorem dX6_town_85 : decode cX6_town 85 = .ok (.iinc 2 1, 3) := by decide +kernel
theorem dX6_town_88 : decode cX6_town 88 = .ok (.goto (-50), 3) := by decide +kernel
theorem dX6_town_91 : decode cX6_town 91 = .ok (.aload_n 0, 1) := by decide +kernel
theorem dX6_town_92 : decode cX6_town 92 = .ok (.getfield 10, 3) := by decide +kernel
theorem dX6_town_95 : decode cX6_town 95 = .ok (.invokevirtual 65, 3) := by decide +kernel
theorem dX6_town_98 : decode cX6_town 98 = .ok (.aload_n 0, 1) := by decide +kernel
theorem dX6_town_99 : decode cX6_town 99 = .ok (.getfield 26, 3) := by decide +kernel
theorem dX6_town_102 : decode cX6_town 102 = .ok (.aload_n 0, 1) := by decide +kernel
theorem dX6_town_103 : decode cX6_town 103 = .ok (.getfield 19, 3) := by decide +kernel
theorem dX6_town_106 : decode cX6_town 106 = .ok (.invokevirtual 92, 3) := by decide +kernel
theorem dX6_town_109 : decode cX6_town 109 = .ok (.aload_n 0, 1) := by decide +kernel
theorem dX6_town_110 : decode cX6_town 110 = .ok (.getfield 33, 3) := by decide +kernel
theorem dX6_town_113 : decode cX6_town 113 = .ok (.invokevirtual 96, 3) := by decide +kernel
theorem dX6_town_116 : decode cX6_town 116 = .ok (.aload_n 0, 1) := by decide +kernel
theorem dX6_town_117 : decode cX6_town 117 = .ok (.iconst 0, 1) := by decide +kernel
theorem dX6_town_118 : decode cX6_town 118 = .ok (.putfield 53, 3) := by decide +kernel
theorem dX6_town_121 : decode cX6_town 121 = .ok (.aload_n 0, 1) := by decide +kernel
theorem dX6_town_122 : decode cX6_town 122 = .ok (.iconst 0, 1) := by decide +kernel
theorem dX6_town_123 : decode cX6_town 123 = .ok (.putfield 56, 3) := by decide +kernel
theorem dX6_town_126 : decode cX6_town 126 = .ok (.iload_n 1, 1) := by decide +kernel
theorem dX6_town_127 : decode cX6_town 127 = .ok (.ireturn, 1) := by decide +kernel
theorem dX6_person_0 : decode cX6_person 0 = .ok (.aload_n 0, 1) := by decide +kernel
theorem dX6_person_1 : decode cX6_person 1 = .ok (.iload_n 1, 1) := by decide +kernel
theorem dX6_person_2 : decode cX6_person 2 = .ok (.invokevirtual 99, 3) := by decide +kernel
theorem dX6_person_5 : decode cX6_person 5 = .ok (.ifCond .ne 6, 3) := by decide +kernel
theorem dX6_person_8 : decode cX6_person 8 = .ok (.bipush (-2), 2) := by decide +kernel
theorem dX6_person_10 : decode cX6_person 10 = .ok (.ireturn, 1) := by decide +kernel
theorem dX6_person_11 : decode cX6_person 11 = .ok (.iload_n 2, 1) := by decide +kernel
theorem dX6_person_12 : decode cX6_person 12 = .ok (.tableswitch 68 0 3 #[32, 41, 50, 59], 32) := by decide +kernel
theorem dX6_person_44 : decode cX6_person 44 = .ok (.aload_n 0, 1) := by decide +kernel
theorem dX6_person_45 : decode cX6_person 45 = .ok (.getfield 19, 3) := by decide +kernel
theorem dX6_person_48 : decode cX6_person 48 = .ok (.iload_n 1, 1) := by decide +kernel
theorem dX6_person_49 : decode cX6_person 49 = .ok (.invokevirtual 103, 3) := by decide +kernel
theorem dX6_person_52 : decode cX6_person 52 = .ok (.ireturn, 1) := by decide +kernel
theorem dX6_person_53 : decode cX6_person 53 = .ok (.aload_n 0, 1) := by decide +kernel
theorem dX6_person_54 : decode cX6_person 54 = .ok (.getfield 19, 3) := by decide +kernel
theorem dX6_person_57 : decode cX6_person 57 = .ok (.iload_n 1, 1) := by decide +kernel
theorem dX6_person_58 : decode cX6_person 58 = .ok (.invokevirtual 106, 3) := by decide +kernel
theorem dX6_person_61 : decode cX6_person 61 = .ok (.ireturn, 1) := by decide +kernel
theorem dX6_person_62 : decode cX6_person 62 = .ok (.aload_n 0, 1) := by decide +kernel
theorem dX6_person_63 : decode cX6_person 63 = .ok (.getfield 26, 3) := by decide +kernel
theorem dX6_person_66 : decode cX6_person 66 = .ok (.iload_n 1, 1) := by decide +kernel
theorem dX6_person_67 : decode cX6_person 67 = .ok (.invokevirtual 109, 3) := by decide +kernel
theorem dX6_person_70 : decode cX6_person 70 = .ok (.ireturn, 1) := by decide +kernel
theorem dX6_person_71 : decode cX6_person 71 = .ok (.aload_n 0, 1) := by decide +kernel
theorem dX6_person_72 : decode cX6_person 72 = .ok (.getfield 26, 3) := by decide +kernel
theorem dX6_person_75 : decode cX6_person 75 = .ok (.iload_n 1, 1) := by decide +kernel
theorem dX6_person_76 : decode cX6_person 76 = .ok (.invokevirtual 112, 3) := by decide +kernel
theorem dX6_person_79 : decode cX6_person 79 = .ok (.ireturn, 1) := by decide +kernel
theorem dX6_person_80 : decode cX6_person 80 = .ok (.bipush (-3), 2) := by decide +kernel
theorem dX6_person_82 : decode cX6_person 82 = .ok (.ireturn, 1) := by decide +kernel
theorem dX6_beard_0 : decode cX6_beard 0 = .ok (.aload_n 0, 1) := by decide +kernel
theorem dX6_beard_1 : decode cX6_beard 1 = .ok (.iload_n 1, 1) := by decide +kernel
theorem dX6_beard_2 : decode cX6_beard 2 = .ok (.invokevirtual 99, 3) := by decide +kernel
theorem dX6_beard_5 : decode cX6_beard 5 = .ok (.ifCond .eq 10, 3) := by decide +kernel
theorem dX6_beard_8 : decode cX6_beard 8 = .ok (.iload_n 2, 1) := by decide +kernel
theorem dX6_beard_9 : decode cX6_beard 9 = .ok (.invokestatic 115, 3) := by decide +kernel
theorem dX6_beard_12 : decode cX6_beard 12 = .ok (.ifCond .ne 6, 3) := by decide +kernel
theorem dX6_beard_15 : decode cX6_beard 15 = .ok (.bipush (-2), 2) := by decide +kernel
theorem dX6_beard_17 : decode cX6_beard 17 = .ok (.ireturn, 1) := by decide +kernel
theorem dX6_beard_18 : decode cX6_beard 18 = .ok (.aload_n 0, 1) := by decide +kernel
theorem dX6_beard_19 : decode cX6_beard 19 = .ok (.getfield 26, 3) := by decide +kernel
theorem dX6_beard_22 : decode cX6_beard 22 = .ok (.iload_n 1, 1) := by decide +kernel
theorem dX6_beard_23 : decode cX6_beard 23 = .ok (.iload_n 2, 1) := by decide +kernel
theorem dX6_beard_24 : decode cX6_beard 24 = .ok (.invokevirtual 118, 3) := by decide +kernel
theorem dX6_beard_27 : decode cX6_beard 27 = .ok (.ireturn, 1) := by decide +kernel
theorem dX6_rumour_0 : decode cX6_rumour 0 = .ok (.aload_n 0, 1) := by decide +kernel
theorem dX6_rumour_1 : decode cX6_rumour 1 = .ok (.iload_n 1, 1) := by decide +kernel
theorem dX6_rumour_2 : decode cX6_rumour 2 = .ok (.invokevirtual 121, 3) := by decide +kernel
theorem dX6_rumour_5 : decode cX6_rumour 5 = .ok (.ifCond .ne 6, 3) := by decide +kernel
theorem dX6_rumour_8 : decode cX6_rumour 8 = .ok (.bipush (-2), 2) := by decide +kernel
theorem dX6_rumour_10 : decode cX6_rumour 10 = .ok (.ireturn, 1) := by decide +kernel
theorem dX6_rumour_11 : decode cX6_rumour 11 = .ok (.aload_n 0, 1) := by decide +kernel
theorem dX6_rumour_12 : decode cX6_rumour 12 = .ok (.getfield 19, 3) := by decide +kernel
theorem dX6_rumour_15 : decode cX6_rumour 15 = .ok (.iload_n 1, 1) := by decide +kernel
theorem dX6_rumour_16 : decode cX6_rumour 16 = .ok (.invokevirtual 124, 3) := by decide +kernel
theorem dX6_rumour_19 : decode cX6_rumour 19 = .ok (.ireturn, 1) := by decide +kernel
theorem dX6_knows_0 : decode cX6_knows 0 = .ok (.aload_n 0, 1) := by decide +kernel
theorem dX6_knows_1 : decode cX6_knows 1 = .ok (.iload_n 1, 1) := by decide +kernel
theorem dX6_knows_2 : decode cX6_knows 2 = .ok (.invokevirtual 127, 3) := by decide +kernel
theorem dX6_knows_5 : decode cX6_knows 5 = .ok (.ifCond .eq 11, 3) := by decide +kernel
theorem dX6_knows_8 : decode cX6_knows 8 = .ok (.aload_n 0, 1) := by decide +kernel
theorem dX6_knows_9 : decode cX6_knows 9 = .ok (.iload_n 2, 1) := by decide +kernel
theorem dX6_knows_10 : decode cX6_knows 10 = .ok (.invokevirtual 99, 3) := by decide +kernel
theorem dX6_knows_13 : decode cX6_knows 13 = .ok (.ifCond .ne 6, 3) := by decide +kernel
theorem dX6_knows_16 : decode cX6_knows 16 = .ok (.bipush (-2), 2) := by decide +kernel
theorem dX6_knows_18 : decode cX6_knows 18 = .ok (.ireturn, 1) := by decide +kernel
theorem dX6_knows_19 : decode cX6_knows 19 = .ok (.aload_n 0, 1) := by decide +kernel
theorem dX6_knows_20 : decode cX6_knows 20 = .ok (.getfield 26, 3) := by decide +kernel
theorem dX6_knows_23 : decode cX6_knows 23 = .ok (.iload_n 1, 1) := by decide +kernel
theorem dX6_knows_24 : decode cX6_knows 24 = .ok (.iload_n 2, 1) := by decide +kernel
theorem dX6_knows_25 : decode cX6_knows 25 = .ok (.invokevirtual 130, 3) := by decide +kernel
theorem dX6_knows_28 : decode cX6_knows 28 = .ok (.istore 4, 2) := by decide +kernel
theorem dX6_knows_30 : decode cX6_knows 30 = .ok (.aload_n 0, 1) := by decide +kernel
theorem dX6_knows_31 : decode cX6_knows 31 = .ok (.getfield 26, 3) := by decide +kernel
theorem dX6_knows_34 : decode cX6_knows 34 = .ok (.iload_n 1, 1) := by decide +kernel
theorem dX6_knows_35 : decode cX6_knows 35 = .ok (.iload_n 2, 1) := by decide +kernel
theorem dX6_knows_36 : decode cX6_knows 36 = .ok (.invokevirtual 133, 3) := by decide +kernel
theorem dX6_knows_39 : decode cX6_knows 39 = .ok (.istore 5, 2) := by decide +kernel
theorem dX6_knows_41 : decode cX6_knows 41 = .ok (.iload_n 3, 1) := by decide +kernel
theorem dX6_knows_42 : decode cX6_knows 42 = .ok (.tableswitch 44 0 2 #[26, 29, 32], 26) := by decide +kernel
theorem dX6_knows_68 : decode cX6_knows 68 = .ok (.iload 4, 2) := by decide +kernel
theorem dX6_knows_70 : decode cX6_knows 70 = .ok (.ireturn, 1) := by decide +kernel
theorem dX6_knows_71 : decode cX6_knows 71 = .ok (.iload 5, 2) := by decide +kernel
theorem dX6_knows_73 : decode cX6_knows 73 = .ok (.ireturn, 1) := by decide +kernel
theorem dX6_knows_74 : decode cX6_knows 74 = .ok (.aload_n 0, 1) := by decide +kernel
theorem dX6_knows_75 : decode cX6_knows 75 = .ok (.getfield 19, 3) := by decide +kernel
theorem dX6_knows_78 : decode cX6_knows 78 = .ok (.iload 4, 2) := by decide +kernel
theorem dX6_knows_80 : decode cX6_knows 80 = .ok (.iload 5, 2) := by decide +kernel
theorem dX6_knows_82 : decode cX6_knows 82 = .ok (.invokevirtual 136, 3) := by decide +kernel
theorem dX6_knows_85 : decode cX6_knows 85 = .ok (.ireturn, 1) := by decide +kernel
theorem dX6_knows_86 : decode cX6_knows 86 = .ok (.bipush (-3), 2) := by decide +kernel
theorem dX6_knows_88 : decode cX6_knows 88 = .ok (.ireturn, 1) := by decide +kernel
theorem dX6_as_0 : decode cX6_as 0 = .ok (.aload_n 0, 1) := by decide +kernel
theorem dX6_as_1 : decode cX6_as 1 = .ok (.iload_n 1, 1) := by decide +kernel
theorem dX6_as_2 : decode cX6_as 2 = .ok (.invokevirtual 99, 3) := by decide +kernel
theorem dX6_as_5 : decode cX6_as 5 = .ok (.ifCond .ne 6, 3) := by decide +kernel
theorem dX6_as_8 : decode cX6_as 8 = .ok (.bipush (-2), 2) := by decide +kernel
theorem dX6_as_10 : decode cX6_as 10 = .ok (.ireturn, 1) := by decide +kernel
theorem dX6_as_11 : decode cX6_as 11 = .ok (.iload_n 2, 1) := by decide +kernel
theorem dX6_as_12 : decode cX6_as 12 = .ok (.ifCond .lt 8, 3) := by decide +kernel
theorem dX6_as_15 : decode cX6_as 15 = .ok (.iload_n 2, 1) := by decide +kernel
theorem dX6_as_16 : decode cX6_as 16 = .ok (.iconst 4, 1) := by decide +kernel
theorem dX6_as_17 : decode cX6_as 17 = .ok (.if_icmp .le 6, 3) := by decide +kernel
theorem dX6_as_20 : decode cX6_as 20 = .ok (.bipush (-3), 2) := by decide +kernel
theorem dX6_as_22 : decode cX6_as 22 = .ok (.ireturn, 1) := by decide +kernel
theorem dX6_as_23 : decode cX6_as 23 = .ok (.aload_n 0, 1) := by decide +kernel
theorem dX6_as_24 : decode cX6_as 24 = .ok (.getfield 19, 3) := by decide +kernel
theorem dX6_as_27 : decode cX6_as 27 = .ok (.iload_n 1, 1) := by decide +kernel
theorem dX6_as_28 : decode cX6_as 28 = .ok (.invokevirtual 103, 3) := by decide +kernel
theorem dX6_as_31 : decode cX6_as 31 = .ok (.iload_n 2, 1) := by decide +kernel
theorem dX6_as_32 : decode cX6_as 32 = .ok (.invokestatic 139, 3) := by decide +kernel
theorem dX6_as_35 : decode cX6_as 35 = .ok (.ifCond .ne 6, 3) := by decide +kernel
theorem dX6_as_38 : decode cX6_as 38 = .ok (.bipush (-4), 2) := by decide +kernel
theorem dX6_as_40 : decode cX6_as 40 = .ok (.ireturn, 1) := by decide +kernel
theorem dX6_as_41 : decode cX6_as 41 = .ok (.aload_n 0, 1) := by decide +kernel
theorem dX6_as_42 : decode cX6_as 42 = .ok (.iload_n 1, 1) := by decide +kernel
theorem dX6_as_43 : decode cX6_as 43 = .ok (.iconst 2, 1) := by decide +kernel
theorem dX6_as_44 : decode cX6_as 44 = .ok (.invokevirtual 143, 3) := by decide +kernel
theorem dX6_as_47 : decode cX6_as 47 = .ok (.ireturn, 1) := by decide +kernel
theorem dX6_shave_0 : decode cX6_shave 0 = .ok (.aload_n 0, 1) := by decide +kernel
theorem dX6_shave_1 : decode cX6_shave 1 = .ok (.iload_n 1, 1) := by decide +kernel
theorem dX6_shave_2 : decode cX6_shave 2 = .ok (.invokevirtual 127, 3) := by decide +kernel
theorem dX6_shave_5 : decode cX6_shave 5 = .ok (.ifCond .eq 18, 3) := by decide +kernel
theorem dX6_shave_8 : decode cX6_shave 8 = .ok (.aload_n 0, 1) := by decide +kernel
theorem dX6_shave_9 : decode cX6_shave 9 = .ok (.iload_n 2, 1) := by decide +kernel
theorem dX6_shave_10 : decode cX6_shave 10 = .ok (.invokevirtual 99, 3) := by decide +kernel
theorem dX6_shave_13 : decode cX6_shave 13 = .ok (.ifCond .eq 10, 3) := by decide +kernel
theorem dX6_shave_16 : decode cX6_shave 16 = .ok (.iload_n 3, 1) := by decide +kernel
theorem dX6_shave_17 : decode cX6_shave 17 = .ok (.invokestatic 115, 3) := by decide +kernel
theorem dX6_shave_20 : decode cX6_shave 20 = .ok (.ifCond .ne 6, 3) := by decide +kernel
theorem dX6_shave_23 : decode cX6_shave 23 = .ok (.bipush (-2), 2) := by decide +kernel
theorem dX6_shave_25 : decode cX6_shave 25 = .ok (.ireturn, 1) := by decide +kernel
theorem dX6_shave_26 : decode cX6_shave 26 = .ok (.aload_n 0, 1) := by decide +kernel
theorem dX6_shave_27 : decode cX6_shave 27 = .ok (.invokevirtual 146, 3) := by decide +kernel
theorem dX6_shave_30 : decode cX6_shave 30 = .ok (.aload_n 0, 1) := by decide +kernel
theorem dX6_shave_31 : decode cX6_shave 31 = .ok (.iload_n 2, 1) := by decide +kernel
theorem dX6_shave_32 : decode cX6_shave 32 = .ok (.iload_n 3, 1) := by decide +kernel
theorem dX6_shave_33 : decode cX6_shave 33 = .ok (.invokevirtual 143, 3) := by decide +kernel
theorem dX6_shave_36 : decode cX6_shave 36 = .ok (.istore 4, 2) := by decide +kernel
theorem dX6_shave_38 : decode cX6_shave 38 = .ok (.iload 4, 2) := by decide +kernel
theorem dX6_shave_40 : decode cX6_shave 40 = .ok (.iconst (-1), 1) := by decide +kernel
theorem dX6_shave_41 : decode cX6_shave 41 = .ok (.if_icmp .eq 19, 3) := by decide +kernel
theorem dX6_shave_44 : decode cX6_shave 44 = .ok (.aload_n 0, 1) := by decide +kernel
theorem dX6_shave_45 : decode cX6_shave 45 = .ok (.getfield 26, 3) := by decide +kernel
theorem dX6_shave_48 : decode cX6_shave 48 = .ok (.iload_n 1, 1) := by decide +kernel
theorem dX6_shave_49 : decode cX6_shave 49 = .ok (.iload_n 2, 1) := by decide +kernel
theorem dX6_shave_50 : decode cX6_shave 50 = .ok (.iconst 1, 1) := by decide +kernel
theorem dX6_shave_51 : decode cX6_shave 51 = .ok (.iload_n 3, 1) := by decide +kernel
theorem dX6_shave_52 : decode cX6_shave 52 = .ok (.ishl, 1) := by decide +kernel
theorem dX6_shave_53 : decode cX6_shave 53 = .ok (.iload 4, 2) := by decide +kernel
theorem dX6_shave_55 : decode cX6_shave 55 = .ok (.iload_n 3, 1) := by decide +kernel
theorem dX6_shave_56 : decode cX6_shave 56 = .ok (.ishl, 1) := by decide +kernel
theorem dX6_shave_57 : decode cX6_shave 57 = .ok (.invokevirtual 149, 3) := by decide +kernel
theorem dX6_shave_60 : decode cX6_shave 60 = .ok (.aload_n 0, 1) := by decide +kernel
theorem dX6_shave_61 : decode cX6_shave 61 = .ok (.getfield 26, 3) := by decide +kernel
theorem dX6_shave_64 : decode cX6_shave 64 = .ok (.iload_n 2, 1) := by decide +kernel
theorem dX6_shave_65 : decode cX6_shave 65 = .ok (.iload_n 3, 1) := by decide +kernel
theorem dX6_shave_66 : decode cX6_shave 66 = .ok (.iconst 0, 1) := by decide +kernel
theorem dX6_shave_67 : decode cX6_shave 67 = .ok (.invokevirtual 152, 3) := by decide +kernel
theorem dX6_shave_70 : decode cX6_shave 70 = .ok (.iload 4, 2) := by decide +kernel
theorem dX6_shave_72 : decode cX6_shave 72 = .ok (.ireturn, 1) := by decide +kernel
theorem dX6_day_0 : decode cX6_day 0 = .ok (.aload_n 0, 1) := by decide +kernel
theorem dX6_day_1 : decode cX6_day 1 = .ok (.getfield 26, 3) := by decide +kernel
theorem dX6_day_4 : decode cX6_day 4 = .ok (.invokevirtual 156, 3) := by decide +kernel
theorem dX6_day_7 : decode cX6_day 7 = .ok (.sipush 999, 3) := by decide +kernel
theorem dX6_day_10 : decode cX6_day 10 = .ok (.if_icmp .lt 6, 3) := by decide +kernel
theorem dX6_day_13 : decode cX6_day 13 = .ok (.bipush (-5), 2) := by decide +kernel
theorem dX6_day_15 : decode cX6_day 15 = .ok (.ireturn, 1) := by decide +kernel
theorem dX6_day_16 : decode cX6_day 16 = .ok (.aload_n 0, 1) := by decide +kernel
theorem dX6_day_17 : decode cX6_day 17 = .ok (.invokevirtual 146, 3) := by decide +kernel
theorem dX6_day_20 : decode cX6_day 20 = .ok (.aload_n 0, 1) := by decide +kernel
theorem dX6_day_21 : decode cX6_day 21 = .ok (.getfield 26, 3) := by decide +kernel
theorem dX6_day_24 : decode cX6_day 24 = .ok (.aload_n 0, 1) := by decide +kernel
theorem dX6_day_25 : decode cX6_day 25 = .ok (.getfield 19, 3) := by decide +kernel
theorem dX6_day_28 : decode cX6_day 28 = .ok (.getfield 68, 3) := by decide +kernel
theorem dX6_day_31 : decode cX6_day 31 = .ok (.invokevirtual 160, 3) := by decide +kernel
theorem dX6_day_34 : decode cX6_day 34 = .ok (.aload_n 0, 1) := by decide +kernel
theorem dX6_day_35 : decode cX6_day 35 = .ok (.getfield 26, 3) := by decide +kernel
theorem dX6_day_38 : decode cX6_day 38 = .ok (.invokevirtual 156, 3) := by decide +kernel
theorem dX6_day_41 : decode cX6_day 41 = .ok (.ireturn, 1) := by decide +kernel
theorem dX6_talk_0 : decode cX6_talk 0 = .ok (.aload_n 0, 1) := by decide +kernel
theorem dX6_talk_1 : decode cX6_talk 1 = .ok (.iload_n 1, 1) := by decide +kernel
theorem dX6_talk_2 : decode cX6_talk 2 = .ok (.invokevirtual 127, 3) := by decide +kernel
theorem dX6_talk_5 : decode cX6_talk 5 = .ok (.ifCond .eq 24, 3) := by decide +kernel
theorem dX6_talk_8 : decode cX6_talk 8 = .ok (.aload_n 0, 1) := by decide +kernel
theorem dX6_talk_9 : decode cX6_talk 9 = .ok (.iload_n 2, 1) := by decide +kernel
theorem dX6_talk_10 : decode cX6_talk 10 = .ok (.invokevirtual 127, 3) := by decide +kernel
theorem dX6_talk_13 : decode cX6_talk 13 = .ok (.ifCond .eq 16, 3) := by decide +kernel
theorem dX6_talk_16 : decode cX6_talk 16 = .ok (.iload_n 1, 1) := by decide +kernel
theorem dX6_talk_17 : decode cX6_talk 17 = .ok (.iload_n 2, 1) := by decide +kernel
theorem dX6_talk_18 : decode cX6_talk 18 = .ok (.if_icmp .eq 11, 3) := by decide +kernel
theorem dX6_talk_21 : decode cX6_talk 21 = .ok (.aload_n 0, 1) := by decide +kernel
theorem dX6_talk_22 : decode cX6_talk 22 = .ok (.iload_n 3, 1) := by decide +kernel
theorem dX6_talk_23 : decode cX6_talk 23 = .ok (.invokevirtual 99, 3) := by decide +kernel
theorem dX6_talk_26 : decode cX6_talk 26 = .ok (.ifCond .ne 6, 3) := by decide +kernel
theorem dX6_talk_29 : decode cX6_talk 29 = .ok (.bipush (-2), 2) := by decide +kernel
theorem dX6_talk_31 : decode cX6_talk 31 = .ok (.ireturn, 1) := by decide +kernel
theorem dX6_talk_32 : decode cX6_talk 32 = .ok (.aload_n 0, 1) := by decide +kernel
theorem dX6_talk_33 : decode cX6_talk 33 = .ok (.invokevirtual 146, 3) := by decide +kernel
theorem dX6_talk_36 : decode cX6_talk 36 = .ok (.aload_n 0, 1) := by decide +kernel
theorem dX6_talk_37 : decode cX6_talk 37 = .ok (.getfield 26, 3) := by decide +kernel
theorem dX6_talk_40 : decode cX6_talk 40 = .ok (.iload_n 2, 1) := by decide +kernel
theorem dX6_talk_41 : decode cX6_talk 41 = .ok (.iload_n 3, 1) := by decide +kernel
theorem dX6_talk_42 : decode cX6_talk 42 = .ok (.aload_n 0, 1) := by decide +kernel
theorem dX6_talk_43 : decode cX6_talk 43 = .ok (.getfield 26, 3) := by decide +kernel
theorem dX6_talk_46 : decode cX6_talk 46 = .ok (.iload_n 1, 1) := by decide +kernel
theorem dX6_talk_47 : decode cX6_talk 47 = .ok (.iload_n 3, 1) := by decide +kernel
theorem dX6_talk_48 : decode cX6_talk 48 = .ok (.invokevirtual 130, 3) := by decide +kernel
theorem dX6_talk_51 : decode cX6_talk 51 = .ok (.aload_n 0, 1) := by decide +kernel
theorem dX6_talk_52 : decode cX6_talk 52 = .ok (.getfield 26, 3) := by decide +kernel
theorem dX6_talk_55 : decode cX6_talk 55 = .ok (.iload_n 1, 1) := by decide +kernel
theorem dX6_talk_56 : decode cX6_talk 56 = .ok (.iload_n 3, 1) := by decide +kernel
theorem dX6_talk_57 : decode cX6_talk 57 = .ok (.invokevirtual 133, 3) := by decide +kernel
theorem dX6_talk_60 : decode cX6_talk 60 = .ok (.invokevirtual 149, 3) := by decide +kernel
theorem dX6_talk_63 : decode cX6_talk 63 = .ok (.aload_n 0, 1) := by decide +kernel
theorem dX6_talk_64 : decode cX6_talk 64 = .ok (.getfield 26, 3) := by decide +kernel
theorem dX6_talk_67 : decode cX6_talk 67 = .ok (.iload_n 2, 1) := by decide +kernel
theorem dX6_talk_68 : decode cX6_talk 68 = .ok (.iload_n 3, 1) := by decide +kernel
theorem dX6_talk_69 : decode cX6_talk 69 = .ok (.invokevirtual 130, 3) := by decide +kernel
theorem dX6_talk_72 : decode cX6_talk 72 = .ok (.ireturn, 1) := by decide +kernel
theorem dX6_burn_0 : decode cX6_burn 0 = .ok (.aload_n 0, 1) := by decide +kernel
theorem dX6_burn_1 : decode cX6_burn 1 = .ok (.iload_n 1, 1) := by decide +kernel
theorem dX6_burn_2 : decode cX6_burn 2 = .ok (.invokevirtual 127, 3) := by decide +kernel
theorem dX6_burn_5 : decode cX6_burn 5 = .ok (.ifCond .eq 11, 3) := by decide +kernel
theorem dX6_burn_8 : decode cX6_burn 8 = .ok (.aload_n 0, 1) := by decide +kernel
theorem dX6_burn_9 : decode cX6_burn 9 = .ok (.iload_n 2, 1) := by decide +kernel
theorem dX6_burn_10 : decode cX6_burn 10 = .ok (.invokevirtual 99, 3) := by decide +kernel
theorem dX6_burn_13 : decode cX6_burn 13 = .ok (.ifCond .ne 6, 3) := by decide +kernel
theorem dX6_burn_16 : decode cX6_burn 16 = .ok (.bipush (-2), 2) := by decide +kernel
theorem dX6_burn_18 : decode cX6_burn 18 = .ok (.ireturn, 1) := by decide +kernel
theorem dX6_burn_19 : decode cX6_burn 19 = .ok (.aload_n 0, 1) := by decide +kernel
theorem dX6_burn_20 : decode cX6_burn 20 = .ok (.getfield 26, 3) := by decide +kernel
theorem dX6_burn_23 : decode cX6_burn 23 = .ok (.iload_n 1, 1) := by decide +kernel
theorem dX6_burn_24 : decode cX6_burn 24 = .ok (.iload_n 2, 1) := by decide +kernel
theorem dX6_burn_25 : decode cX6_burn 25 = .ok (.invokevirtual 130, 3) := by decide +kernel
theorem dX6_burn_28 : decode cX6_burn 28 = .ok (.invokestatic 163, 3) := by decide +kernel
theorem dX6_burn_31 : decode cX6_burn 31 = .ok (.istore_n 3, 1) := by decide +kernel
theorem dX6_burn_32 : decode cX6_burn 32 = .ok (.iload_n 3, 1) := by decide +kernel
theorem dX6_burn_33 : decode cX6_burn 33 = .ok (.ifCond .ne 6, 3) := by decide +kernel
theorem dX6_burn_36 : decode cX6_burn 36 = .ok (.bipush (-4), 2) := by decide +kernel
theorem dX6_burn_38 : decode cX6_burn 38 = .ok (.ireturn, 1) := by decide +kernel
theorem dX6_burn_39 : decode cX6_burn 39 = .ok (.aload_n 0, 1) := by decide +kernel
theorem dX6_burn_40 : decode cX6_burn 40 = .ok (.invokevirtual 146, 3) := by decide +kernel
theorem dX6_burn_43 : decode cX6_burn 43 = .ok (.aload_n 0, 1) := by decide +kernel
theorem dX6_burn_44 : decode cX6_burn 44 = .ok (.getfield 26, 3) := by decide +kernel
theorem dX6_burn_47 : decode cX6_burn 47 = .ok (.iload_n 1, 1) := by decide +kernel
theorem dX6_burn_48 : decode cX6_burn 48 = .ok (.iload_n 2, 1) := by decide +kernel
theorem dX6_burn_49 : decode cX6_burn 49 = .ok (.iconst 0, 1) := by decide +kernel
theorem dX6_burn_50 : decode cX6_burn 50 = .ok (.iconst 0, 1) := by decide +kernel
theorem dX6_burn_51 : decode cX6_burn 51 = .ok (.invokevirtual 168, 3) := by decide +kernel
theorem dX6_burn_54 : decode cX6_burn 54 = .ok (.iload_n 3, 1) := by decide +kernel
theorem dX6_burn_55 : decode cX6_burn 55 = .ok (.ireturn, 1) := by decide +kernel
theorem dX6_undo_0 : decode cX6_undo 0 = .ok (.aload_n 0, 1) := by decide +kernel
theorem dX6_undo_1 : decode cX6_undo 1 = .ok (.getfield 53, 3) := by decide +kernel
theorem dX6_undo_4 : decode cX6_undo 4 = .ok (.ifCond .gt 6, 3) := by decide +kernel
theorem dX6_undo_7 : decode cX6_undo 7 = .ok (.bipush (-4), 2) := by decide +kernel
theorem dX6_undo_9 : decode cX6_undo 9 = .ok (.ireturn, 1) := by decide +kernel
theorem dX6_undo_10 : decode cX6_undo 10 = .ok (.aload_n 0, 1) := by decide +kernel
theorem dX6_undo_11 : decode cX6_undo 11 = .ok (.getfield 42, 3) := by decide +kernel
theorem dX6_undo_14 : decode cX6_undo 14 = .ok (.aload_n 0, 1) := by decide +kernel
theorem dX6_undo_15 : decode cX6_undo 15 = .ok (.getfield 49, 3) := by decide +kernel
theorem dX6_undo_18 : decode cX6_undo 18 = .ok (.aload_n 0, 1) := by decide +kernel
theorem dX6_undo_19 : decode cX6_undo 19 = .ok (.getfield 26, 3) := by decide +kernel
theorem dX6_undo_22 : decode cX6_undo 22 = .ok (.invokevirtual 171, 3) := by decide +kernel
theorem dX6_undo_25 : decode cX6_undo 25 = .ok (.aload_n 0, 1) := by decide +kernel
theorem dX6_undo_26 : decode cX6_undo 26 = .ok (.aload_n 0, 1) := by decide +kernel
theorem dX6_undo_27 : decode cX6_undo 27 = .ok (.getfield 49, 3) := by decide +kernel
theorem dX6_undo_30 : decode cX6_undo 30 = .ok (.ifCond .ne 8, 3) := by decide +kernel
theorem dX6_undo_33 : decode cX6_undo 33 = .ok (.bipush 7, 2) := by decide +kernel
theorem dX6_undo_35 : decode cX6_undo 35 = .ok (.goto 9, 3) := by decide +kernel
theorem dX6_undo_38 : decode cX6_undo 38 = .ok (.aload_n 0, 1) := by decide +kernel
theorem dX6_undo_39 : decode cX6_undo 39 = .ok (.getfield 49, 3) := by decide +kernel
theorem dX6_undo_42 : decode cX6_undo 42 = .ok (.iconst 1, 1) := by decide +kernel
theorem dX6_undo_43 : decode cX6_undo 43 = .ok (.isub, 1) := by decide +kernel
theorem dX6_undo_44 : decode cX6_undo 44 = .ok (.putfield 49, 3) := by decide +kernel
theorem dX6_undo_47 : decode cX6_undo 47 = .ok (.aload_n 0, 1) := by decide +kernel
theorem dX6_undo_48 : decode cX6_undo 48 = .ok (.dup, 1) := by decide +kernel
theorem dX6_undo_49 : decode cX6_undo 49 = .ok (.getfield 53, 3) := by decide +kernel
theorem dX6_undo_52 : decode cX6_undo 52 = .ok (.iconst 1, 1) := by decide +kernel
theorem dX6_undo_53 : decode cX6_undo 53 = .ok (.isub, 1) := by decide +kernel
theorem dX6_undo_54 : decode cX6_undo 54 = .ok (.putfield 53, 3) := by decide +kernel
theorem dX6_undo_57 : decode cX6_undo 57 = .ok (.aload_n 0, 1) := by decide +kernel
theorem dX6_undo_58 : decode cX6_undo 58 = .ok (.getfield 53, 3) := by decide +kernel
theorem dX6_undo_61 : decode cX6_undo 61 = .ok (.ireturn, 1) := by decide +kernel
theorem dX6_keep_0 : decode cX6_keep 0 = .ok (.iload_n 1, 1) := by decide +kernel
theorem dX6_keep_1 : decode cX6_keep 1 = .ok (.ifCond .lt 8, 3) := by decide +kernel
theorem dX6_keep_4 : decode cX6_keep 4 = .ok (.iload_n 1, 1) := by decide +kernel
theorem dX6_keep_5 : decode cX6_keep 5 = .ok (.iconst 2, 1) := by decide +kernel
theorem dX6_keep_6 : decode cX6_keep 6 = .ok (.if_icmp .lt 6, 3) := by decide +kernel
theorem dX6_keep_9 : decode cX6_keep 9 = .ok (.bipush (-2), 2) := by decide +kernel
theorem dX6_keep_11 : decode cX6_keep 11 = .ok (.ireturn, 1) := by decide +kernel
theorem dX6_keep_12 : decode cX6_keep 12 = .ok (.aload_n 0, 1) := by decide +kernel
theorem dX6_keep_13 : decode cX6_keep 13 = .ok (.getfield 46, 3) := by decide +kernel
theorem dX6_keep_16 : decode cX6_keep 16 = .ok (.iload_n 1, 1) := by decide +kernel
theorem dX6_keep_17 : decode cX6_keep 17 = .ok (.aload_n 0, 1) := by decide +kernel
theorem dX6_keep_18 : decode cX6_keep 18 = .ok (.getfield 26, 3) := by decide +kernel
theorem dX6_keep_21 : decode cX6_keep 21 = .ok (.invokevirtual 175, 3) := by decide +kernel
theorem dX6_keep_24 : decode cX6_keep 24 = .ok (.aload_n 0, 1) := by decide +kernel
theorem dX6_keep_25 : decode cX6_keep 25 = .ok (.dup, 1) := by decide +kernel
theorem dX6_keep_26 : decode cX6_keep 26 = .ok (.getfield 56, 3) := by decide +kernel
theorem dX6_keep_29 : decode cX6_keep 29 = .ok (.iconst 1, 1) := by decide +kernel
theorem dX6_keep_30 : decode cX6_keep 30 = .ok (.iload_n 1, 1) := by decide +kernel
theorem dX6_keep_31 : decode cX6_keep 31 = .ok (.ishl, 1) := by decide +kernel
theorem dX6_keep_32 : decode cX6_keep 32 = .ok (.ior, 1) := by decide +kernel
theorem dX6_keep_33 : decode cX6_keep 33 = .ok (.putfield 56, 3) := by decide +kernel
theorem dX6_keep_36 : decode cX6_keep 36 = .ok (.aload_n 0, 1) := by decide +kernel
theorem dX6_keep_37 : decode cX6_keep 37 = .ok (.getfield 26, 3) := by decide +kernel
theorem dX6_keep_40 : decode cX6_keep 40 = .ok (.invokevirtual 156, 3) := by decide +kernel
theorem dX6_keep_43 : decode cX6_keep 43 = .ok (.ireturn, 1) := by decide +kernel
theorem dX6_back_0 : decode cX6_back 0 = .ok (.iload_n 1, 1) := by decide +kernel
theorem dX6_back_1 : decode cX6_back 1 = .ok (.ifCond .lt 8, 3) := by decide +kernel
theorem dX6_back_4 : decode cX6_back 4 = .ok (.iload_n 1, 1) := by decide +kernel
theorem dX6_back_5 : decode cX6_back 5 = .ok (.iconst 2, 1) := by decide +kernel
theorem dX6_back_6 : decode cX6_back 6 = .ok (.if_icmp .lt 6, 3) := by decide +kernel
theorem dX6_back_9 : decode cX6_back 9 = .ok (.bipush (-2), 2) := by decide +kernel
theorem dX6_back_11 : decode cX6_back 11 = .ok (.ireturn, 1) := by decide +kernel
theorem dX6_back_12 : decode cX6_back 12 = .ok (.aload_n 0, 1) := by decide +kernel
theorem dX6_back_13 : decode cX6_back 13 = .ok (.getfield 56, 3) := by decide +kernel
theorem dX6_back_16 : decode cX6_back 16 = .ok (.iload_n 1, 1) := by decide +kernel
theorem dX6_back_17 : decode cX6_back 17 = .ok (.invokestatic 178, 3) := by decide +kernel
theorem dX6_back_20 : decode cX6_back 20 = .ok (.ifCond .ne 6, 3) := by decide +kernel
theorem dX6_back_23 : decode cX6_back 23 = .ok (.bipush (-4), 2) := by decide +kernel
theorem dX6_back_25 : decode cX6_back 25 = .ok (.ireturn, 1) := by decide +kernel
theorem dX6_back_26 : decode cX6_back 26 = .ok (.aload_n 0, 1) := by decide +kernel
theorem dX6_back_27 : decode cX6_back 27 = .ok (.getfield 46, 3) := by decide +kernel
theorem dX6_back_30 : decode cX6_back 30 = .ok (.iload_n 1, 1) := by decide +kernel
theorem dX6_back_31 : decode cX6_back 31 = .ok (.aload_n 0, 1) := by decide +kernel
theorem dX6_back_32 : decode cX6_back 32 = .ok (.getfield 26, 3) := by decide +kernel
theorem dX6_back_35 : decode cX6_back 35 = .ok (.invokevirtual 171, 3) := by decide +kernel
theorem dX6_back_38 : decode cX6_back 38 = .ok (.aload_n 0, 1) := by decide +kernel
theorem dX6_back_39 : decode cX6_back 39 = .ok (.iconst 0, 1) := by decide +kernel
theorem dX6_back_40 : decode cX6_back 40 = .ok (.putfield 53, 3) := by decide +kernel
theorem dX6_back_43 : decode cX6_back 43 = .ok (.aload_n 0, 1) := by decide +kernel
theorem dX6_back_44 : decode cX6_back 44 = .ok (.getfield 26, 3) := by decide +kernel
theorem dX6_back_47 : decode cX6_back 47 = .ok (.invokevirtual 156, 3) := by decide +kernel
theorem dX6_back_50 : decode cX6_back 50 = .ok (.ireturn, 1) := by decide +kernel
theorem dX6_smooth_0 : decode cX6_smooth 0 = .ok (.aload_n 0, 1) := by decide +kernel
theorem dX6_smooth_1 : decode cX6_smooth 1 = .ok (.iload_n 1, 1) := by decide +kernel
theorem dX6_smooth_2 : decode cX6_smooth 2 = .ok (.invokevirtual 127, 3) := by decide +kernel
theorem dX6_smooth_5 : decode cX6_smooth 5 = .ok (.ifCond .eq 11, 3) := by decide +kernel
theorem dX6_smooth_8 : decode cX6_smooth 8 = .ok (.aload_n 0, 1) := by decide +kernel
theorem dX6_smooth_9 : decode cX6_smooth 9 = .ok (.iload_n 2, 1) := by decide +kernel
theorem dX6_smooth_10 : decode cX6_smooth 10 = .ok (.invokevirtual 99, 3) := by decide +kernel
theorem dX6_smooth_13 : decode cX6_smooth 13 = .ok (.ifCond .ne 6, 3) := by decide +kernel
theorem dX6_smooth_16 : decode cX6_smooth 16 = .ok (.bipush (-2), 2) := by decide +kernel
theorem dX6_smooth_18 : decode cX6_smooth 18 = .ok (.ireturn, 1) := by decide +kernel
theorem dX6_smooth_19 : decode cX6_smooth 19 = .ok (.iload_n 3, 1) := by decide +kernel
theorem dX6_smooth_20 : decode cX6_smooth 20 = .ok (.iconst 1, 1) := by decide +kernel
theorem dX6_smooth_21 : decode cX6_smooth 21 = .ok (.if_icmp .lt 9, 3) := by decide +kernel
theorem dX6_smooth_24 : decode cX6_smooth 24 = .ok (.iload_n 3, 1) := by decide +kernel
theorem dX6_smooth_25 : decode cX6_smooth 25 = .ok (.bipush 8, 2) := by decide +kernel
theorem dX6_smooth_27 : decode cX6_smooth 27 = .ok (.if_icmp .le 6, 3) := by decide +kernel
theorem dX6_smooth_30 : decode cX6_smooth 30 = .ok (.bipush (-3), 2) := by decide +kernel
theorem dX6_smooth_32 : decode cX6_smooth 32 = .ok (.ireturn, 1) := by decide +kernel
theorem dX6_smooth_33 : decode cX6_smooth 33 = .ok (.aload_n 0, 1) := by decide +kernel
theorem dX6_smooth_34 : decode cX6_smooth 34 = .ok (.iload_n 2, 1) := by decide +kernel
theorem dX6_smooth_35 : decode cX6_smooth 35 = .ok (.invokevirtual 181, 3) := by decide +kernel
theorem dX6_smooth_38 : decode cX6_smooth 38 = .ok (.istore 4, 2) := by decide +kernel
theorem dX6_smooth_40 : decode cX6_smooth 40 = .ok (.aload_n 0, 1) := by decide +kernel
theorem dX6_smooth_41 : decode cX6_smooth 41 = .ok (.iload_n 2, 1) := by decide +kernel
theorem dX6_smooth_42 : decode cX6_smooth 42 = .ok (.invokevirtual 184, 3) := by decide +kernel
theorem dX6_smooth_45 : decode cX6_smooth 45 = .ok (.istore 5, 2) := by decide +kernel
theorem dX6_smooth_47 : decode cX6_smooth 47 = .ok (.iconst (-1), 1) := by decide +kernel
theorem dX6_smooth_48 : decode cX6_smooth 48 = .ok (.istore 6, 2) := by decide +kernel
theorem dX6_smooth_50 : decode cX6_smooth 50 = .ok (.iconst (-1), 1) := by decide +kernel
theorem dX6_smooth_51 : decode cX6_smooth 51 = .ok (.istore 7, 2) := by decide +kernel
theorem dX6_smooth_53 : decode cX6_smooth 53 = .ok (.iconst 0, 1) := by decide +kernel
theorem dX6_smooth_54 : decode cX6_smooth 54 = .ok (.istore 8, 2) := by decide +kernel
theorem dX6_smooth_56 : decode cX6_smooth 56 = .ok (.iload 8, 2) := by decide +kernel
theorem dX6_smooth_58 : decode cX6_smooth 58 = .ok (.bipush 64, 2) := by decide +kernel
theorem dX6_smooth_60 : decode cX6_smooth 60 = .ok (.if_icmp .ge 48, 3) := by decide +kernel
theorem dX6_smooth_63 : decode cX6_smooth 63 = .ok (.iload 8, 2) := by decide +kernel
theorem dX6_smooth_65 : decode cX6_smooth 65 = .ok (.invokestatic 163, 3) := by decide +kernel
theorem dX6_smooth_68 : decode cX6_smooth 68 = .ok (.istore 9, 2) := by decide +kernel
theorem dX6_smooth_70 : decode cX6_smooth 70 = .ok (.iload 9, 2) := by decide +kernel
theorem dX6_smooth_72 : decode cX6_smooth 72 = .ok (.iload 7, 2) := by decide +kernel
theorem dX6_smooth_74 : decode cX6_smooth 74 = .ok (.if_icmp .le 28, 3) := by decide +kernel
theorem dX6_smooth_77 : decode cX6_smooth 77 = .ok (.aload_n 0, 1) := by decide +kernel
theorem dX6_smooth_78 : decode cX6_smooth 78 = .ok (.iload_n 1, 1) := by decide +kernel
theorem dX6_smooth_79 : decode cX6_smooth 79 = .ok (.iload_n 2, 1) := by decide +kernel
theorem dX6_smooth_80 : decode cX6_smooth 80 = .ok (.iload 8, 2) := by decide +kernel
theorem dX6_smooth_82 : decode cX6_smooth 82 = .ok (.iload 4, 2) := by decide +kernel
theorem dX6_smooth_84 : decode cX6_smooth 84 = .ok (.iand, 1) := by decide +kernel
theorem dX6_smooth_85 : decode cX6_smooth 85 = .ok (.iload 5, 2) := by decide +kernel
theorem dX6_smooth_87 : decode cX6_smooth 87 = .ok (.invokevirtual 187, 3) := by decide +kernel
theorem dX6_smooth_90 : decode cX6_smooth 90 = .ok (.iload_n 3, 1) := by decide +kernel
theorem dX6_smooth_91 : decode cX6_smooth 91 = .ok (.if_icmp .lt 11, 3) := by decide +kernel
theorem dX6_smooth_94 : decode cX6_smooth 94 = .ok (.iload 8, 2) := by decide +kernel
theorem dX6_smooth_96 : decode cX6_smooth 96 = .ok (.istore 6, 2) := by decide +kernel
theorem dX6_smooth_98 : decode cX6_smooth 98 = .ok (.iload 9, 2) := by decide +kernel
theorem dX6_smooth_100 : decode cX6_smooth 100 = .ok (.istore 7, 2) := by decide +kernel
theorem dX6_smooth_102 : decode cX6_smooth 102 = .ok (.iinc 8 1, 3) := by decide +kernel
theorem dX6_smooth_105 : decode cX6_smooth 105 = .ok (.goto (-49), 3) := by decide +kernel
theorem dX6_smooth_108 : decode cX6_smooth 108 = .ok (.iload 6, 2) := by decide +kernel
theorem dX6_smooth_110 : decode cX6_smooth 110 = .ok (.ireturn, 1) := by decide +kernel
theorem dX6_next_0 : decode cX6_next 0 = .ok (.aload_n 0, 1) := by decide +kernel
theorem dX6_next_1 : decode cX6_next 1 = .ok (.iload_n 1, 1) := by decide +kernel
theorem dX6_next_2 : decode cX6_next 2 = .ok (.invokevirtual 127, 3) := by decide +kernel
theorem dX6_next_5 : decode cX6_next 5 = .ok (.ifCond .eq 11, 3) := by decide +kernel
theorem dX6_next_8 : decode cX6_next 8 = .ok (.aload_n 0, 1) := by decide +kernel
theorem dX6_next_9 : decode cX6_next 9 = .ok (.iload_n 2, 1) := by decide +kernel
theorem dX6_next_10 : decode cX6_next 10 = .ok (.invokevirtual 99, 3) := by decide +kernel
theorem dX6_next_13 : decode cX6_next 13 = .ok (.ifCond .ne 6, 3) := by decide +kernel
theorem dX6_next_16 : decode cX6_next 16 = .ok (.bipush (-2), 2) := by decide +kernel
theorem dX6_next_18 : decode cX6_next 18 = .ok (.ireturn, 1) := by decide +kernel
theorem dX6_next_19 : decode cX6_next 19 = .ok (.aload_n 0, 1) := by decide +kernel
theorem dX6_next_20 : decode cX6_next 20 = .ok (.getfield 26, 3) := by decide +kernel
theorem dX6_next_23 : decode cX6_next 23 = .ok (.iload_n 1, 1) := by decide +kernel
theorem dX6_next_24 : decode cX6_next 24 = .ok (.iload_n 2, 1) := by decide +kernel
theorem dX6_next_25 : decode cX6_next 25 = .ok (.invokevirtual 130, 3) := by decide +kernel
theorem dX6_next_28 : decode cX6_next 28 = .ok (.istore_n 3, 1) := by decide +kernel
theorem dX6_next_29 : decode cX6_next 29 = .ok (.aload_n 0, 1) := by decide +kernel
theorem dX6_next_30 : decode cX6_next 30 = .ok (.getfield 19, 3) := by decide +kernel
theorem dX6_next_33 : decode cX6_next 33 = .ok (.iload_n 3, 1) := by decide +kernel
theorem dX6_next_34 : decode cX6_next 34 = .ok (.aload_n 0, 1) := by decide +kernel
theorem dX6_next_35 : decode cX6_next 35 = .ok (.getfield 26, 3) := by decide +kernel
theorem dX6_next_38 : decode cX6_next 38 = .ok (.iload_n 1, 1) := by decide +kernel
theorem dX6_next_39 : decode cX6_next 39 = .ok (.iload_n 2, 1) := by decide +kernel
theorem dX6_next_40 : decode cX6_next 40 = .ok (.invokevirtual 133, 3) := by decide +kernel
theorem dX6_next_43 : decode cX6_next 43 = .ok (.invokevirtual 136, 3) := by decide +kernel
theorem dX6_next_46 : decode cX6_next 46 = .ok (.istore 4, 2) := by decide +kernel
theorem dX6_next_48 : decode cX6_next 48 = .ok (.iload 4, 2) := by decide +kernel
theorem dX6_next_50 : decode cX6_next 50 = .ok (.ifCond .ne 5, 3) := by decide +kernel
theorem dX6_next_53 : decode cX6_next 53 = .ok (.iconst (-1), 1) := by decide +kernel
theorem dX6_next_54 : decode cX6_next 54 = .ok (.ireturn, 1) := by decide +kernel
theorem dX6_next_55 : decode cX6_next 55 = .ok (.iconst (-1), 1) := by decide +kernel
theorem dX6_next_56 : decode cX6_next 56 = .ok (.istore 5, 2) := by decide +kernel
theorem dX6_next_58 : decode cX6_next 58 = .ok (.bipush 9, 2) := by decide +kernel
theorem dX6_next_60 : decode cX6_next 60 = .ok (.istore 6, 2) := by decide +kernel
theorem dX6_next_62 : decode cX6_next 62 = .ok (.iconst 0, 1) := by decide +kernel
theorem dX6_next_63 : decode cX6_next 63 = .ok (.istore 7, 2) := by decide +kernel
theorem dX6_next_65 : decode cX6_next 65 = .ok (.iload 7, 2) := by decide +kernel
theorem dX6_next_67 : decode cX6_next 67 = .ok (.bipush 6, 2) := by decide +kernel
theorem dX6_next_69 : decode cX6_next 69 = .ok (.if_icmp .ge 46, 3) := by decide +kernel
theorem dX6_next_72 : decode cX6_next 72 = .ok (.aload_n 0, 1) := by decide +kernel
theorem dX6_next_73 : decode cX6_next 73 = .ok (.getfield 19, 3) := by decide +kernel
theorem dX6_next_76 : decode cX6_next 76 = .ok (.iload 4, 2) := by decide +kernel
theorem dX6_next_78 : decode cX6_next 78 = .ok (.iload 7, 2) := by decide +kernel
theorem dX6_next_80 : decode cX6_next 80 = .ok (.invokevirtual 191, 3) := by decide +kernel
theorem dX6_next_83 : decode cX6_next 83 = .ok (.istore 8, 2) := by decide +kernel
theorem dX6_next_85 : decode cX6_next 85 = .ok (.iload_n 3, 1) := by decide +kernel
theorem dX6_next_86 : decode cX6_next 86 = .ok (.iload 7, 2) := by decide +kernel
theorem dX6_next_88 : decode cX6_next 88 = .ok (.invokestatic 178, 3) := by decide +kernel
theorem dX6_next_91 : decode cX6_next 91 = .ok (.ifCond .ne 18, 3) := by decide +kernel
theorem dX6_next_94 : decode cX6_next 94 = .ok (.iload 8, 2) := by decide +kernel
theorem dX6_next_96 : decode cX6_next 96 = .ok (.iload 6, 2) := by decide +kernel
theorem dX6_next_98 : decode cX6_next 98 = .ok (.if_icmp .ge 11, 3) := by decide +kernel
theorem dX6_next_101 : decode cX6_next 101 = .ok (.iload 7, 2) := by decide +kernel
theorem dX6_next_103 : decode cX6_next 103 = .ok (.istore 5, 2) := by decide +kernel
theorem dX6_next_105 : decode cX6_next 105 = .ok (.iload 8, 2) := by decide +kernel
theorem dX6_next_107 : decode cX6_next 107 = .ok (.istore 6, 2) := by decide +kernel
theorem dX6_next_109 : decode cX6_next 109 = .ok (.iinc 7 1, 3) := by decide +kernel
theorem dX6_next_112 : decode cX6_next 112 = .ok (.goto (-47), 3) := by decide +kernel
theorem dX6_next_115 : decode cX6_next 115 = .ok (.iload 5, 2) := by decide +kernel
theorem dX6_next_117 : decode cX6_next 117 = .ok (.ireturn, 1) := by decide +kernel
theorem dX6_meet_0 : decode cX6_meet 0 = .ok (.aload_n 0, 1) := by decide +kernel
theorem dX6_meet_1 : decode cX6_meet 1 = .ok (.iload_n 1, 1) := by decide +kernel
theorem dX6_meet_2 : decode cX6_meet 2 = .ok (.invokevirtual 99, 3) := by decide +kernel
theorem dX6_meet_5 : decode cX6_meet 5 = .ok (.ifCond .eq 11, 3) := by decide +kernel
theorem dX6_meet_8 : decode cX6_meet 8 = .ok (.aload_n 0, 1) := by decide +kernel
theorem dX6_meet_9 : decode cX6_meet 9 = .ok (.iload_n 2, 1) := by decide +kernel
theorem dX6_meet_10 : decode cX6_meet 10 = .ok (.invokevirtual 121, 3) := by decide +kernel
theorem dX6_meet_13 : decode cX6_meet 13 = .ok (.ifCond .ne 6, 3) := by decide +kernel
theorem dX6_meet_16 : decode cX6_meet 16 = .ok (.bipush (-2), 2) := by decide +kernel
theorem dX6_meet_18 : decode cX6_meet 18 = .ok (.ireturn, 1) := by decide +kernel
theorem dX6_meet_19 : decode cX6_meet 19 = .ok (.iconst (-1), 1) := by decide +kernel
theorem dX6_meet_20 : decode cX6_meet 20 = .ok (.istore_n 3, 1) := by decide +kernel
theorem dX6_meet_21 : decode cX6_meet 21 = .ok (.iconst 5, 1) := by decide +kernel
theorem dX6_meet_22 : decode cX6_meet 22 = .ok (.istore 4, 2) := by decide +kernel
theorem dX6_meet_24 : decode cX6_meet 24 = .ok (.iconst 0, 1) := by decide +kernel
theorem dX6_meet_25 : decode cX6_meet 25 = .ok (.istore 5, 2) := by decide +kernel
theorem dX6_meet_27 : decode cX6_meet 27 = .ok (.iload 5, 2) := by decide +kernel
theorem dX6_meet_29 : decode cX6_meet 29 = .ok (.iconst 1, 1) := by decide +kernel
theorem dX6_meet_30 : decode cX6_meet 30 = .ok (.aload_n 0, 1) := by decide +kernel
theorem dX6_meet_31 : decode cX6_meet 31 = .ok (.getfield 19, 3) := by decide +kernel
theorem dX6_meet_34 : decode cX6_meet 34 = .ok (.getfield 194, 3) := by decide +kernel
theorem dX6_meet_37 : decode cX6_meet 37 = .ok (.ishl, 1) := by decide +kernel
theorem dX6_meet_38 : decode cX6_meet 38 = .ok (.if_icmp .ge 43, 3) := by decide +kernel
theorem dX6_meet_41 : decode cX6_meet 41 = .ok (.iload 5, 2) := by decide +kernel
theorem dX6_meet_43 : decode cX6_meet 43 = .ok (.invokestatic 163, 3) := by decide +kernel
theorem dX6_meet_46 : decode cX6_meet 46 = .ok (.istore 6, 2) := by decide +kernel
theorem dX6_meet_48 : decode cX6_meet 48 = .ok (.iload 6, 2) := by decide +kernel
theorem dX6_meet_50 : decode cX6_meet 50 = .ok (.iload 4, 2) := by decide +kernel
theorem dX6_meet_52 : decode cX6_meet 52 = .ok (.if_icmp .ge 23, 3) := by decide +kernel
theorem dX6_meet_55 : decode cX6_meet 55 = .ok (.aload_n 0, 1) := by decide +kernel
theorem dX6_meet_56 : decode cX6_meet 56 = .ok (.iload 5, 2) := by decide +kernel
theorem dX6_meet_58 : decode cX6_meet 58 = .ok (.iload_n 1, 1) := by decide +kernel
theorem dX6_meet_59 : decode cX6_meet 59 = .ok (.invokevirtual 197, 3) := by decide +kernel
theorem dX6_meet_62 : decode cX6_meet 62 = .ok (.iconst 1, 1) := by decide +kernel
theorem dX6_meet_63 : decode cX6_meet 63 = .ok (.iload_n 2, 1) := by decide +kernel
theorem dX6_meet_64 : decode cX6_meet 64 = .ok (.ishl, 1) := by decide +kernel
theorem dX6_meet_65 : decode cX6_meet 65 = .ok (.if_icmp .ne 10, 3) := by decide +kernel
theorem dX6_meet_68 : decode cX6_meet 68 = .ok (.iload 5, 2) := by decide +kernel
theorem dX6_meet_70 : decode cX6_meet 70 = .ok (.istore_n 3, 1) := by decide +kernel
theorem dX6_meet_71 : decode cX6_meet 71 = .ok (.iload 6, 2) := by decide +kernel
theorem dX6_meet_73 : decode cX6_meet 73 = .ok (.istore 4, 2) := by decide +kernel
theorem dX6_meet_75 : decode cX6_meet 75 = .ok (.iinc 5 1, 3) := by decide +kernel
theorem dX6_meet_78 : decode cX6_meet 78 = .ok (.goto (-51), 3) := by decide +kernel
theorem dX6_meet_81 : decode cX6_meet 81 = .ok (.iload_n 3, 1) := by decide +kernel
theorem dX6_meet_82 : decode cX6_meet 82 = .ok (.ireturn, 1) := by decide +kernel
theorem dX6_round_0 : decode cX6_round 0 = .ok (.aload_n 0, 1) := by decide +kernel
theorem dX6_round_1 : decode cX6_round 1 = .ok (.iload_n 1, 1) := by decide +kernel
theorem dX6_round_2 : decode cX6_round 2 = .ok (.invokevirtual 99, 3) := by decide +kernel
theorem dX6_round_5 : decode cX6_round 5 = .ok (.ifCond .eq 11, 3) := by decide +kernel
theorem dX6_round_8 : decode cX6_round 8 = .ok (.aload_n 0, 1) := by decide +kernel
theorem dX6_round_9 : decode cX6_round 9 = .ok (.iload_n 3, 1) := by decide +kernel
theorem dX6_round_10 : decode cX6_round 10 = .ok (.invokevirtual 127, 3) := by decide +kernel
theorem dX6_round_13 : decode cX6_round 13 = .ok (.ifCond .ne 6, 3) := by decide +kernel
theorem dX6_round_16 : decode cX6_round 16 = .ok (.bipush (-2), 2) := by decide +kernel
theorem dX6_round_18 : decode cX6_round 18 = .ok (.ireturn, 1) := by decide +kernel
theorem dX6_round_19 : decode cX6_round 19 = .ok (.iload_n 2, 1) := by decide +kernel
theorem dX6_round_20 : decode cX6_round 20 = .ok (.ifCond .lt 9, 3) := by decide +kernel
theorem dX6_round_23 : decode cX6_round 23 = .ok (.iload_n 2, 1) := by decide +kernel
theorem dX6_round_24 : decode cX6_round 24 = .ok (.bipush 6, 2) := by decide +kernel
theorem dX6_round_26 : decode cX6_round 26 = .ok (.if_icmp .lt 6, 3) := by decide +kernel
theorem dX6_round_29 : decode cX6_round 29 = .ok (.bipush (-3), 2) := by decide +kernel
theorem dX6_round_31 : decode cX6_round 31 = .ok (.ireturn, 1) := by decide +kernel
theorem dX6_round_32 : decode cX6_round 32 = .ok (.iconst 0, 1) := by decide +kernel
theorem dX6_round_33 : decode cX6_round 33 = .ok (.istore 4, 2) := by decide +kernel
theorem dX6_round_35 : decode cX6_round 35 = .ok (.iconst 0, 1) := by decide +kernel
theorem dX6_round_36 : decode cX6_round 36 = .ok (.istore 5, 2) := by decide +kernel
theorem dX6_round_38 : decode cX6_round 38 = .ok (.iload 5, 2) := by decide +kernel
theorem dX6_round_40 : decode cX6_round 40 = .ok (.bipush 6, 2) := by decide +kernel
theorem dX6_round_42 : decode cX6_round 42 = .ok (.if_icmp .ge 38, 3) := by decide +kernel
theorem dX6_round_45 : decode cX6_round 45 = .ok (.iload 5, 2) := by decide +kernel
theorem dX6_round_47 : decode cX6_round 47 = .ok (.iload_n 2, 1) := by decide +kernel
theorem dX6_round_48 : decode cX6_round 48 = .ok (.iadd, 1) := by decide +kernel
theorem dX6_round_49 : decode cX6_round 49 = .ok (.iconst 1, 1) := by decide +kernel
theorem dX6_round_50 : decode cX6_round 50 = .ok (.aload_n 0, 1) := by decide +kernel
theorem dX6_round_51 : decode cX6_round 51 = .ok (.getfield 19, 3) := by decide +kernel
theorem dX6_round_54 : decode cX6_round 54 = .ok (.getfield 194, 3) := by decide +kernel
theorem dX6_round_57 : decode cX6_round 57 = .ok (.invokestatic 200, 3) := by decide +kernel
theorem dX6_round_60 : decode cX6_round 60 = .ok (.irem, 1) := by decide +kernel
theorem dX6_round_61 : decode cX6_round 61 = .ok (.iload_n 3, 1) := by decide +kernel
theorem dX6_round_62 : decode cX6_round 62 = .ok (.if_icmp .ne 12, 3) := by decide +kernel
theorem dX6_round_65 : decode cX6_round 65 = .ok (.iload 4, 2) := by decide +kernel
theorem dX6_round_67 : decode cX6_round 67 = .ok (.iconst 1, 1) := by decide +kernel
theorem dX6_round_68 : decode cX6_round 68 = .ok (.iload 5, 2) := by decide +kernel
theorem dX6_round_70 : decode cX6_round 70 = .ok (.ishl, 1) := by decide +kernel
theorem dX6_round_71 : decode cX6_round 71 = .ok (.ior, 1) := by decide +kernel
theorem dX6_round_72 : decode cX6_round 72 = .ok (.istore 4, 2) := by decide +kernel
theorem dX6_round_74 : decode cX6_round 74 = .ok (.iinc 5 1, 3) := by decide +kernel
theorem dX6_round_77 : decode cX6_round 77 = .ok (.goto (-39), 3) := by decide +kernel
theorem dX6_round_80 : decode cX6_round 80 = .ok (.aload_n 0, 1) := by decide +kernel
theorem dX6_round_81 : decode cX6_round 81 = .ok (.iload_n 3, 1) := by decide +kernel
theorem dX6_round_82 : decode cX6_round 82 = .ok (.iload_n 1, 1) := by decide +kernel
theorem dX6_round_83 : decode cX6_round 83 = .ok (.iload 4, 2) := by decide +kernel
theorem dX6_round_85 : decode cX6_round 85 = .ok (.aload_n 0, 1) := by decide +kernel
theorem dX6_round_86 : decode cX6_round 86 = .ok (.iload_n 1, 1) := by decide +kernel
theorem dX6_round_87 : decode cX6_round 87 = .ok (.invokevirtual 181, 3) := by decide +kernel
theorem dX6_round_90 : decode cX6_round 90 = .ok (.iand, 1) := by decide +kernel
theorem dX6_round_91 : decode cX6_round 91 = .ok (.aload_n 0, 1) := by decide +kernel
theorem dX6_round_92 : decode cX6_round 92 = .ok (.iload_n 1, 1) := by decide +kernel
theorem dX6_round_93 : decode cX6_round 93 = .ok (.invokevirtual 184, 3) := by decide +kernel
theorem dX6_round_96 : decode cX6_round 96 = .ok (.invokevirtual 187, 3) := by decide +kernel
theorem dX6_round_99 : decode cX6_round 99 = .ok (.ireturn, 1) := by decide +kernel
theorem dX6_seen_0 : decode cX6_seen 0 = .ok (.iload_n 1, 1) := by decide +kernel
theorem dX6_seen_1 : decode cX6_seen 1 = .ok (.invokestatic 115, 3) := by decide +kernel
theorem dX6_seen_4 : decode cX6_seen 4 = .ok (.ifCond .ne 6, 3) := by decide +kernel
theorem dX6_seen_7 : decode cX6_seen 7 = .ok (.bipush (-2), 2) := by decide +kernel
theorem dX6_seen_9 : decode cX6_seen 9 = .ok (.ireturn, 1) := by decide +kernel
theorem dX6_seen_10 : decode cX6_seen 10 = .ok (.iload_n 2, 1) := by decide +kernel
theorem dX6_seen_11 : decode cX6_seen 11 = .ok (.ifCond .lt 9, 3) := by decide +kernel
theorem dX6_seen_14 : decode cX6_seen 14 = .ok (.iload_n 2, 1) := by decide +kernel
theorem dX6_seen_15 : decode cX6_seen 15 = .ok (.bipush 9, 2) := by decide +kernel
theorem dX6_seen_17 : decode cX6_seen 17 = .ok (.if_icmp .le 6, 3) := by decide +kernel
theorem dX6_seen_20 : decode cX6_seen 20 = .ok (.bipush (-3), 2) := by decide +kernel
theorem dX6_seen_22 : decode cX6_seen 22 = .ok (.ireturn, 1) := by decide +kernel
theorem dX6_seen_23 : decode cX6_seen 23 = .ok (.iload_n 3, 1) := by decide +kernel
theorem dX6_seen_24 : decode cX6_seen 24 = .ok (.ifCond .eq 16, 3) := by decide +kernel
theorem dX6_seen_27 : decode cX6_seen 27 = .ok (.iload_n 3, 1) := by decide +kernel
theorem dX6_seen_28 : decode cX6_seen 28 = .ok (.iconst 1, 1) := by decide +kernel
theorem dX6_seen_29 : decode cX6_seen 29 = .ok (.if_icmp .eq 11, 3) := by decide +kernel
theorem dX6_seen_32 : decode cX6_seen 32 = .ok (.iload_n 3, 1) := by decide +kernel
theorem dX6_seen_33 : decode cX6_seen 33 = .ok (.iconst (-1), 1) := by decide +kernel
theorem dX6_seen_34 : decode cX6_seen 34 = .ok (.if_icmp .eq 6, 3) := by decide +kernel
theorem dX6_seen_37 : decode cX6_seen 37 = .ok (.bipush (-3), 2) := by decide +kernel
theorem dX6_seen_39 : decode cX6_seen 39 = .ok (.ireturn, 1) := by decide +kernel
theorem dX6_seen_40 : decode cX6_seen 40 = .ok (.aload_n 0, 1) := by decide +kernel
theorem dX6_seen_41 : decode cX6_seen 41 = .ok (.getfield 33, 3) := by decide +kernel
theorem dX6_seen_44 : decode cX6_seen 44 = .ok (.getfield 205, 3) := by decide +kernel
theorem dX6_seen_47 : decode cX6_seen 47 = .ok (.bipush 6, 2) := by decide +kernel
theorem dX6_seen_49 : decode cX6_seen 49 = .ok (.if_icmp .lt 6, 3) := by decide +kernel
theorem dX6_seen_52 : decode cX6_seen 52 = .ok (.bipush (-5), 2) := by decide +kernel
theorem dX6_seen_54 : decode cX6_seen 54 = .ok (.ireturn, 1) := by decide +kernel
theorem dX6_seen_55 : decode cX6_seen 55 = .ok (.aload_n 0, 1) := by decide +kernel
theorem dX6_seen_56 : decode cX6_seen 56 = .ok (.getfield 33, 3) := by decide +kernel
theorem dX6_seen_59 : decode cX6_seen 59 = .ok (.iload_n 1, 1) := by decide +kernel
theorem dX6_seen_60 : decode cX6_seen 60 = .ok (.iload_n 2, 1) := by decide +kernel
theorem dX6_seen_61 : decode cX6_seen 61 = .ok (.iload_n 3, 1) := by decide +kernel
theorem dX6_seen_62 : decode cX6_seen 62 = .ok (.invokevirtual 208, 3) := by decide +kernel
theorem dX6_seen_65 : decode cX6_seen 65 = .ok (.aload_n 0, 1) := by decide +kernel
theorem dX6_seen_66 : decode cX6_seen 66 = .ok (.getfield 33, 3) := by decide +kernel
theorem dX6_seen_69 : decode cX6_seen 69 = .ok (.getfield 205, 3) := by decide +kernel
theorem dX6_seen_72 : decode cX6_seen 72 = .ok (.ireturn, 1) := by decide +kernel
theorem dX6_forget_0 : decode cX6_forget 0 = .ok (.aload_n 0, 1) := by decide +kernel
theorem dX6_forget_1 : decode cX6_forget 1 = .ok (.getfield 33, 3) := by decide +kernel
theorem dX6_forget_4 : decode cX6_forget 4 = .ok (.getfield 205, 3) := by decide +kernel
theorem dX6_forget_7 : decode cX6_forget 7 = .ok (.istore_n 1, 1) := by decide +kernel
theorem dX6_forget_8 : decode cX6_forget 8 = .ok (.aload_n 0, 1) := by decide +kernel
theorem dX6_forget_9 : decode cX6_forget 9 = .ok (.getfield 33, 3) := by decide +kernel
theorem dX6_forget_12 : decode cX6_forget 12 = .ok (.invokevirtual 96, 3) := by decide +kernel
theorem dX6_forget_15 : decode cX6_forget 15 = .ok (.iload_n 1, 1) := by decide +kernel
theorem dX6_forget_16 : decode cX6_forget 16 = .ok (.ireturn, 1) := by decide +kernel
theorem dX6_was_0 : decode cX6_was 0 = .ok (.iconst 0, 1) := by decide +kernel
theorem dX6_was_1 : decode cX6_was 1 = .ok (.istore_n 1, 1) := by decide +kernel
theorem dX6_was_2 : decode cX6_was 2 = .ok (.iconst 0, 1) := by decide +kernel
theorem dX6_was_3 : decode cX6_was 3 = .ok (.istore_n 2, 1) := by decide +kernel
theorem dX6_was_4 : decode cX6_was 4 = .ok (.iload_n 2, 1) := by decide +kernel
theorem dX6_was_5 : decode cX6_was 5 = .ok (.aload_n 0, 1) := by decide +kernel
theorem dX6_was_6 : decode cX6_was 6 = .ok (.getfield 19, 3) := by decide +kernel
theorem dX6_was_9 : decode cX6_was 9 = .ok (.getfield 68, 3) := by decide +kernel
theorem dX6_was_12 : decode cX6_was 12 = .ok (.if_icmp .ge 30, 3) := by decide +kernel
theorem dX6_was_15 : decode cX6_was 15 = .ok (.aload_n 0, 1) := by decide +kernel
theorem dX6_was_16 : decode cX6_was 16 = .ok (.getfield 33, 3) := by decide +kernel
theorem dX6_was_19 : decode cX6_was 19 = .ok (.aload_n 0, 1) := by decide +kernel
theorem dX6_was_20 : decode cX6_was 20 = .ok (.getfield 19, 3) := by decide +kernel
theorem dX6_was_23 : decode cX6_was 23 = .ok (.iload_n 2, 1) := by decide +kernel
theorem dX6_was_24 : decode cX6_was 24 = .ok (.invokevirtual 211, 3) := by decide +kernel
theorem dX6_was_27 : decode cX6_was 27 = .ok (.ifCond .eq 9, 3) := by decide +kernel
theorem dX6_was_30 : decode cX6_was 30 = .ok (.iload_n 1, 1) := by decide +kernel
theorem dX6_was_31 : decode cX6_was 31 = .ok (.iconst 1, 1) := by decide +kernel
theorem dX6_was_32 : decode cX6_was 32 = .ok (.iload_n 2, 1) := by decide +kernel
theorem dX6_was_33 : decode cX6_was 33 = .ok (.ishl, 1) := by decide +kernel
theorem dX6_was_34 : decode cX6_was 34 = .ok (.ior, 1) := by decide +kernel
theorem dX6_was_35 : decode cX6_was 35 = .ok (.istore_n 1, 1) := by decide +kernel
theorem dX6_was_36 : decode cX6_was 36 = .ok (.iinc 2 1, 3) := by decide +kernel
theorem dX6_was_39 : decode cX6_was 39 = .ok (.goto (-35), 3) := by decide +kernel
theorem dX6_was_42 : decode cX6_was 42 = .ok (.iload_n 1, 1) := by decide +kernel
theorem dX6_was_43 : decode cX6_was 43 = .ok (.ireturn, 1) := by decide +kernel

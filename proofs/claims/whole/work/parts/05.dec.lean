theorem dX3_init_0 : decode cX3_init 0 = .ok (.aload_n 0, 1) := by decide +kernel
theorem dX3_init_1 : decode cX3_init 1 = .ok (.invokespecial 1, 3) := by decide +kernel
theorem dX3_init_4 : decode cX3_init 4 = .ok (.aload_n 0, 1) := by decide +kernel
theorem dX3_init_5 : decode cX3_init 5 = .ok (.new 7, 3) := by decide +kernel
theorem dX3_init_8 : decode cX3_init 8 = .ok (.dup, 1) := by decide +kernel
theorem dX3_init_9 : decode cX3_init 9 = .ok (.invokespecial 9, 3) := by decide +kernel
theorem dX3_init_12 : decode cX3_init 12 = .ok (.putfield 10, 3) := by decide +kernel
theorem dX3_init_15 : decode cX3_init 15 = .ok (.aload_n 0, 1) := by decide +kernel
theorem dX3_init_16 : decode cX3_init 16 = .ok (.new 7, 3) := by decide +kernel
theorem dX3_init_19 : decode cX3_init 19 = .ok (.dup, 1) := by decide +kernel
theorem dX3_init_20 : decode cX3_init 20 = .ok (.invokespecial 9, 3) := by decide +kernel
theorem dX3_init_23 : decode cX3_init 23 = .ok (.putfield 16, 3) := by decide +kernel
theorem dX3_init_26 : decode cX3_init 26 = .ok (.aload_n 0, 1) := by decide +kernel
theorem dX3_init_27 : decode cX3_init 27 = .ok (.iconst 0, 1) := by decide +kernel
theorem dX3_init_28 : decode cX3_init 28 = .ok (.putfield 19, 3) := by decide +kernel
theorem dX3_init_31 : decode cX3_init 31 = .ok (.aload_n 0, 1) := by decide +kernel
theorem dX3_init_32 : decode cX3_init 32 = .ok (.new 23, 3) := by decide +kernel
theorem dX3_init_35 : decode cX3_init 35 = .ok (.dup, 1) := by decide +kernel
theorem dX3_init_36 : decode cX3_init 36 = .ok (.invokespecial 25, 3) := by decide +kernel
theorem dX3_init_39 : decode cX3_init 39 = .ok (.putfield 26, 3) := by decide +kernel
theorem dX3_init_42 : decode cX3_init 42 = .ok (.aload_n 0, 1) := by decide +kernel
theorem dX3_init_43 : decode cX3_init 43 = .ok (.new 30, 3) := by decide +kernel
theorem dX3_init_46 : decode cX3_init 46 = .ok (.dup, 1) := by decide +kernel
theorem dX3_init_47 : decode cX3_init 47 = .ok (.invokespecial 32, 3) := by decide +kernel
theorem dX3_init_50 : decode cX3_init 50 = .ok (.putfield 33, 3) := by decide +kernel
theorem dX3_init_53 : decode cX3_init 53 = .ok (.aload_n 0, 1) := by decide +kernel
theorem dX3_init_54 : decode cX3_init 54 = .ok (.sipush 200, 3) := by decide +kernel
theorem dX3_init_57 : decode cX3_init 57 = .ok (.newarray .int, 2) := by decide +kernel
theorem dX3_init_59 : decode cX3_init 59 = .ok (.putfield 37, 3) := by decide +kernel
theorem dX3_init_62 : decode cX3_init 62 = .ok (.return_, 1) := by decide +kernel
theorem dX3_addRow_0 : decode cX3_addRow 0 = .ok (.iconst 0, 1) := by decide +kernel
theorem dX3_addRow_1 : decode cX3_addRow 1 = .ok (.iload_n 1, 1) := by decide +kernel
theorem dX3_addRow_2 : decode cX3_addRow 2 = .ok (.invokestatic 41, 3) := by decide +kernel
theorem dX3_addRow_5 : decode cX3_addRow 5 = .ok (.ifCond .eq 28, 3) := by decide +kernel
theorem dX3_addRow_8 : decode cX3_addRow 8 = .ok (.iconst 1, 1) := by decide +kernel
theorem dX3_addRow_9 : decode cX3_addRow 9 = .ok (.iload_n 2, 1) := by decide +kernel
theorem dX3_addRow_10 : decode cX3_addRow 10 = .ok (.invokestatic 41, 3) := by decide +kernel
theorem dX3_addRow_13 : decode cX3_addRow 13 = .ok (.ifCond .eq 20, 3) := by decide +kernel
theorem dX3_addRow_16 : decode cX3_addRow 16 = .ok (.iconst 2, 1) := by decide +kernel
theorem dX3_addRow_17 : decode cX3_addRow 17 = .ok (.iload_n 3, 1) := by decide +kernel
theorem dX3_addRow_18 : decode cX3_addRow 18 = .ok (.invokestatic 41, 3) := by decide +kernel
theorem dX3_addRow_21 : decode cX3_addRow 21 = .ok (.ifCond .eq 12, 3) := by decide +kernel
theorem dX3_addRow_24 : decode cX3_addRow 24 = .ok (.iconst 3, 1) := by decide +kernel
theorem dX3_addRow_25 : decode cX3_addRow 25 = .ok (.iload 4, 2) := by decide +kernel
theorem dX3_addRow_27 : decode cX3_addRow 27 = .ok (.invokestatic 41, 3) := by decide +kernel
theorem dX3_addRow_30 : decode cX3_addRow 30 = .ok (.ifCond .ne 6, 3) := by decide +kernel
theorem dX3_addRow_33 : decode cX3_addRow 33 = .ok (.bipush (-2), 2) := by decide +kernel
theorem dX3_addRow_35 : decode cX3_addRow 35 = .ok (.ireturn, 1) := by decide +kernel
theorem dX3_addRow_36 : decode cX3_addRow 36 = .ok (.aload_n 0, 1) := by decide +kernel
theorem dX3_addRow_37 : decode cX3_addRow 37 = .ok (.getfield 10, 3) := by decide +kernel
theorem dX3_addRow_40 : decode cX3_addRow 40 = .ok (.getfield 45, 3) := by decide +kernel
theorem dX3_addRow_43 : decode cX3_addRow 43 = .ok (.bipush 48, 2) := by decide +kernel
theorem dX3_addRow_45 : decode cX3_addRow 45 = .ok (.if_icmp .lt 6, 3) := by decide +kernel
theorem dX3_addRow_48 : decode cX3_addRow 48 = .ok (.bipush (-3), 2) := by decide +kernel
theorem dX3_addRow_50 : decode cX3_addRow 50 = .ok (.ireturn, 1) := by decide +kernel
theorem dX3_addRow_51 : decode cX3_addRow 51 = .ok (.aload_n 0, 1) := by decide +kernel
theorem dX3_addRow_52 : decode cX3_addRow 52 = .ok (.getfield 26, 3) := by decide +kernel
theorem dX3_addRow_55 : decode cX3_addRow 55 = .ok (.aload_n 0, 1) := by decide +kernel
theorem dX3_addRow_56 : decode cX3_addRow 56 = .ok (.getfield 10, 3) := by decide +kernel
theorem dX3_addRow_59 : decode cX3_addRow 59 = .ok (.invokevirtual 49, 3) := by decide +kernel
theorem dX3_addRow_62 : decode cX3_addRow 62 = .ok (.aload_n 0, 1) := by decide +kernel
theorem dX3_addRow_63 : decode cX3_addRow 63 = .ok (.getfield 10, 3) := by decide +kernel
theorem dX3_addRow_66 : decode cX3_addRow 66 = .ok (.iload_n 1, 1) := by decide +kernel
theorem dX3_addRow_67 : decode cX3_addRow 67 = .ok (.iload_n 2, 1) := by decide +kernel
theorem dX3_addRow_68 : decode cX3_addRow 68 = .ok (.iload_n 3, 1) := by decide +kernel
theorem dX3_addRow_69 : decode cX3_addRow 69 = .ok (.iload 4, 2) := by decide +kernel
theorem dX3_addRow_71 : decode cX3_addRow 71 = .ok (.invokevirtual 53, 3) := by decide +kernel
theorem dX3_addRow_74 : decode cX3_addRow 74 = .ok (.aload_n 0, 1) := by decide +kernel
theorem dX3_addRow_75 : decode cX3_addRow 75 = .ok (.getfield 10, 3) := by decide +kernel
theorem dX3_addRow_78 : decode cX3_addRow 78 = .ok (.getfield 45, 3) := by decide +kernel
theorem dX3_addRow_81 : decode cX3_addRow 81 = .ok (.iconst 1, 1) := by decide +kernel
theorem dX3_addRow_82 : decode cX3_addRow 82 = .ok (.isub, 1) := by decide +kernel
theorem dX3_addRow_83 : decode cX3_addRow 83 = .ok (.ireturn, 1) := by decide +kernel
theorem dX3_addRows_0 : decode cX3_addRows 0 = .ok (.aload_n 0, 1) := by decide +kernel
theorem dX3_addRows_1 : decode cX3_addRows 1 = .ok (.getfield 33, 3) := by decide +kernel
theorem dX3_addRows_4 : decode cX3_addRows 4 = .ok (.invokevirtual 57, 3) := by decide +kernel
theorem dX3_addRows_7 : decode cX3_addRows 7 = .ok (.istore_n 1, 1) := by decide +kernel
theorem dX3_addRows_8 : decode cX3_addRows 8 = .ok (.iload_n 1, 1) := by decide +kernel
theorem dX3_addRows_9 : decode cX3_addRows 9 = .ok (.iconst (-1), 1) := by decide +kernel
theorem dX3_addRows_10 : decode cX3_addRows 10 = .ok (.if_icmp .eq 8, 3) := by decide +kernel
theorem dX3_addRows_13 : decode cX3_addRows 13 = .ok (.bipush (-100), 2) := by decide +kernel
theorem dX3_addRows_15 : decode cX3_addRows 15 = .ok (.iload_n 1, 1) := by decide +kernel
theorem dX3_addRows_16 : decode cX3_addRows 16 = .ok (.isub, 1) := by decide +kernel
theorem dX3_addRows_17 : decode cX3_addRows 17 = .ok (.ireturn, 1) := by decide +kernel
theorem dX3_addRows_18 : decode cX3_addRows 18 = .ok (.aload_n 0, 1) := by decide +kernel
theorem dX3_addRows_19 : decode cX3_addRows 19 = .ok (.getfield 33, 3) := by decide +kernel
theorem dX3_addRows_22 : decode cX3_addRows 22 = .ok (.invokevirtual 61, 3) := by decide +kernel
theorem dX3_addRows_25 : decode cX3_addRows 25 = .ok (.istore_n 2, 1) := by decide +kernel
theorem dX3_addRows_26 : decode cX3_addRows 26 = .ok (.aload_n 0, 1) := by decide +kernel
theorem dX3_addRows_27 : decode cX3_addRows 27 = .ok (.getfield 10, 3) := by decide +kernel
theorem dX3_addRows_30 : decode cX3_addRows 30 = .ok (.getfield 45, 3) := by decide +kernel
theorem dX3_addRows_33 : decode cX3_addRows 33 = .ok (.iload_n 2, 1) := by decide +kernel
theorem dX3_addRows_34 : decode cX3_addRows 34 = .ok (.iadd, 1) := by decide +kernel
theorem dX3_addRows_35 : decode cX3_addRows 35 = .ok (.bipush 48, 2) := by decide +kernel
theorem dX3_addRows_37 : decode cX3_addRows 37 = .ok (.if_icmp .le 6, 3) := by decide +kernel
theorem dX3_addRows_40 : decode cX3_addRows 40 = .ok (.bipush (-3), 2) := by decide +kernel
theorem dX3_addRows_42 : decode cX3_addRows 42 = .ok (.ireturn, 1) := by decide +kernel
theorem dX3_addRows_43 : decode cX3_addRows 43 = .ok (.aload_n 0, 1) := by decide +kernel
theorem dX3_addRows_44 : decode cX3_addRows 44 = .ok (.getfield 26, 3) := by decide +kernel
theorem dX3_addRows_47 : decode cX3_addRows 47 = .ok (.aload_n 0, 1) := by decide +kernel
theorem dX3_addRows_48 : decode cX3_addRows 48 = .ok (.getfield 10, 3) := by decide +kernel
theorem dX3_addRows_51 : decode cX3_addRows 51 = .ok (.invokevirtual 49, 3) := by decide +kernel
theorem dX3_addRows_54 : decode cX3_addRows 54 = .ok (.iconst 0, 1) := by decide +kernel
theorem dX3_addRows_55 : decode cX3_addRows 55 = .ok (.istore_n 3, 1) := by decide +kernel
theorem dX3_addRows_56 : decode cX3_addRows 56 = .ok (.iload_n 3, 1) := by decide +kernel
theorem dX3_addRows_57 : decode cX3_addRows 57 = .ok (.iload_n 2, 1) := by decide +kernel
theorem dX3_addRows_58 : decode cX3_addRows 58 = .ok (.if_icmp .ge 52, 3) := by decide +kernel
theorem dX3_addRows_61 : decode cX3_addRows 61 = .ok (.aload_n 0, 1) := by decide +kernel
theorem dX3_addRows_62 : decode cX3_addRows 62 = .ok (.getfield 10, 3) := by decide +kernel
theorem dX3_addRows_65 : decode cX3_addRows 65 = .ok (.aload_n 0, 1) := by decide +kernel
theorem dX3_addRows_66 : decode cX3_addRows 66 = .ok (.getfield 33, 3) := by decide +kernel
theorem dX3_addRows_69 : decode cX3_addRows 69 = .ok (.iload_n 3, 1) := by decide +kernel
theorem dX3_addRows_70 : decode cX3_addRows 70 = .ok (.iconst 0, 1) := by decide +kernel
theorem dX3_addRows_71 : decode cX3_addRows 71 = .ok (.invokevirtual 64, 3) := by decide +kernel
theorem dX3_addRows_74 : decode cX3_addRows 74 = .ok (.aload_n 0, 1) := by decide +kernel
theorem dX3_addRows_75 : decode cX3_addRows 75 = .ok (.getfield 33, 3) := by decide +kernel
theorem dX3_addRows_78 : decode cX3_addRows 78 = .ok (.iload_n 3, 1) := by decide +kernel
theorem dX3_addRows_79 : decode cX3_addRows 79 = .ok (.iconst 1, 1) := by decide +kernel
theorem dX3_addRows_80 : decode cX3_addRows 80 = .ok (.invokevirtual 64, 3) := by decide +kernel
theorem dX3_addRows_83 : decode cX3_addRows 83 = .ok (.aload_n 0, 1) := by decide +kernel
theorem dX3_addRows_84 : decode cX3_addRows 84 = .ok (.getfield 33, 3) := by decide +kernel
theorem dX3_addRows_87 : decode cX3_addRows 87 = .ok (.iload_n 3, 1) := by decide +kernel
theorem dX3_addRows_88 : decode cX3_addRows 88 = .ok (.iconst 2, 1) := by decide +kernel
theorem dX3_addRows_89 : decode cX3_addRows 89 = .ok (.invokevirtual 64, 3) := by decide +kernel
theorem dX3_addRows_92 : decode cX3_addRows 92 = .ok (.aload_n 0, 1) := by decide +kernel
theorem dX3_addRows_93 : decode cX3_addRows 93 = .ok (.getfield 33, 3) := by decide +kernel
theorem dX3_addRows_96 : decode cX3_addRows 96 = .ok (.iload_n 3, 1) := by decide +kernel
theorem dX3_addRows_97 : decode cX3_addRows 97 = .ok (.iconst 3, 1) := by decide +kernel
theorem dX3_addRows_98 : decode cX3_addRows 98 = .ok (.invokevirtual 64, 3) := by decide +kernel
theorem dX3_addRows_101 : decode cX3_addRows 101 = .ok (.invokevirtual 53, 3) := by decide +kernel
theorem dX3_addRows_104 : decode cX3_addRows 104 = .ok (.iinc 3 1, 3) := by decide +kernel
theorem dX3_addRows_107 : decode cX3_addRows 107 = .ok (.goto (-51), 3) := by decide +kernel
theorem dX3_addRows_110 : decode cX3_addRows 110 = .ok (.iload_n 2, 1) := by decide +kernel
theorem dX3_addRows_111 : decode cX3_addRows 111 = .ok (.ireturn, 1) := by decide +kernel
theorem dX3_removeRow_0 : decode cX3_removeRow 0 = .ok (.aload_n 0, 1) := by decide +kernel
theorem dX3_removeRow_1 : decode cX3_removeRow 1 = .ok (.getfield 10, 3) := by decide +kernel
theorem dX3_removeRow_4 : decode cX3_removeRow 4 = .ok (.getfield 45, 3) := by decide +kernel
theorem dX3_removeRow_7 : decode cX3_removeRow 7 = .ok (.ifCond .gt 6, 3) := by decide +kernel
theorem dX3_removeRow_10 : decode cX3_removeRow 10 = .ok (.bipush (-4), 2) := by decide +kernel
theorem dX3_removeRow_12 : decode cX3_removeRow 12 = .ok (.ireturn, 1) := by decide +kernel
theorem dX3_removeRow_13 : decode cX3_removeRow 13 = .ok (.aload_n 0, 1) := by decide +kernel
theorem dX3_removeRow_14 : decode cX3_removeRow 14 = .ok (.getfield 26, 3) := by decide +kernel
theorem dX3_removeRow_17 : decode cX3_removeRow 17 = .ok (.aload_n 0, 1) := by decide +kernel
theorem dX3_removeRow_18 : decode cX3_removeRow 18 = .ok (.getfield 10, 3) := by decide +kernel
theorem dX3_removeRow_21 : decode cX3_removeRow 21 = .ok (.invokevirtual 49, 3) := by decide +kernel
theorem dX3_removeRow_24 : decode cX3_removeRow 24 = .ok (.aload_n 0, 1) := by decide +kernel
theorem dX3_removeRow_25 : decode cX3_removeRow 25 = .ok (.getfield 10, 3) := by decide +kernel
theorem dX3_removeRow_28 : decode cX3_removeRow 28 = .ok (.invokevirtual 68, 3) := by decide +kernel
theorem dX3_removeRow_31 : decode cX3_removeRow 31 = .ok (.aload_n 0, 1) := by decide +kernel
theorem dX3_removeRow_32 : decode cX3_removeRow 32 = .ok (.getfield 10, 3) := by decide +kernel
theorem dX3_removeRow_35 : decode cX3_removeRow 35 = .ok (.getfield 45, 3) := by decide +kernel
theorem dX3_removeRow_38 : decode cX3_removeRow 38 = .ok (.ireturn, 1) := by decide +kernel
theorem dX3_correct_0 : decode cX3_correct 0 = .ok (.aload_n 0, 1) := by decide +kernel
theorem dX3_correct_1 : decode cX3_correct 1 = .ok (.getfield 10, 3) := by decide +kernel
theorem dX3_correct_4 : decode cX3_correct 4 = .ok (.iload_n 1, 1) := by decide +kernel
theorem dX3_correct_5 : decode cX3_correct 5 = .ok (.iload_n 2, 1) := by decide +kernel
theorem dX3_correct_6 : decode cX3_correct 6 = .ok (.invokevirtual 71, 3) := by decide +kernel
theorem dX3_correct_9 : decode cX3_correct 9 = .ok (.ifCond .ne 5, 3) := by decide +kernel
theorem dX3_correct_12 : decode cX3_correct 12 = .ok (.iconst (-1), 1) := by decide +kernel
theorem dX3_correct_13 : decode cX3_correct 13 = .ok (.ireturn, 1) := by decide +kernel
theorem dX3_correct_14 : decode cX3_correct 14 = .ok (.iload_n 2, 1) := by decide +kernel
theorem dX3_correct_15 : decode cX3_correct 15 = .ok (.iload_n 3, 1) := by decide +kernel
theorem dX3_correct_16 : decode cX3_correct 16 = .ok (.invokestatic 41, 3) := by decide +kernel
theorem dX3_correct_19 : decode cX3_correct 19 = .ok (.ifCond .ne 6, 3) := by decide +kernel
theorem dX3_correct_22 : decode cX3_correct 22 = .ok (.bipush (-2), 2) := by decide +kernel
theorem dX3_correct_24 : decode cX3_correct 24 = .ok (.ireturn, 1) := by decide +kernel
theorem dX3_correct_25 : decode cX3_correct 25 = .ok (.aload_n 0, 1) := by decide +kernel
theorem dX3_correct_26 : decode cX3_correct 26 = .ok (.getfield 10, 3) := by decide +kernel
theorem dX3_correct_29 : decode cX3_correct 29 = .ok (.iload_n 1, 1) := by decide +kernel
theorem dX3_correct_30 : decode cX3_correct 30 = .ok (.iload_n 2, 1) := by decide +kernel
theorem dX3_correct_31 : decode cX3_correct 31 = .ok (.invokevirtual 74, 3) := by decide +kernel
theorem dX3_correct_34 : decode cX3_correct 34 = .ok (.iconst 4, 1) := by decide +kernel
theorem dX3_correct_35 : decode cX3_correct 35 = .ok (.if_icmp .lt 6, 3) := by decide +kernel
theorem dX3_correct_38 : decode cX3_correct 38 = .ok (.bipush (-3), 2) := by decide +kernel
theorem dX3_correct_40 : decode cX3_correct 40 = .ok (.ireturn, 1) := by decide +kernel
theorem dX3_correct_41 : decode cX3_correct 41 = .ok (.aload_n 0, 1) := by decide +kernel
theorem dX3_correct_42 : decode cX3_correct 42 = .ok (.getfield 10, 3) := by decide +kernel
theorem dX3_correct_45 : decode cX3_correct 45 = .ok (.iload_n 1, 1) := by decide +kernel
theorem dX3_correct_46 : decode cX3_correct 46 = .ok (.iload_n 2, 1) := by decide +kernel
theorem dX3_correct_47 : decode cX3_correct 47 = .ok (.invokevirtual 77, 3) := by decide +kernel
theorem dX3_correct_50 : decode cX3_correct 50 = .ok (.iload_n 3, 1) := by decide +kernel
theorem dX3_correct_51 : decode cX3_correct 51 = .ok (.if_icmp .ne 6, 3) := by decide +kernel
theorem dX3_correct_54 : decode cX3_correct 54 = .ok (.bipush (-5), 2) := by decide +kernel
theorem dX3_correct_56 : decode cX3_correct 56 = .ok (.ireturn, 1) := by decide +kernel
theorem dX3_correct_57 : decode cX3_correct 57 = .ok (.aload_n 0, 1) := by decide +kernel
theorem dX3_correct_58 : decode cX3_correct 58 = .ok (.getfield 10, 3) := by decide +kernel
theorem dX3_correct_61 : decode cX3_correct 61 = .ok (.iload_n 1, 1) := by decide +kernel
theorem dX3_correct_62 : decode cX3_correct 62 = .ok (.iload_n 2, 1) := by decide +kernel
theorem dX3_correct_63 : decode cX3_correct 63 = .ok (.iload_n 3, 1) := by decide +kernel
theorem dX3_correct_64 : decode cX3_correct 64 = .ok (.invokevirtual 80, 3) := by decide +kernel
theorem dX3_correct_67 : decode cX3_correct 67 = .ok (.istore 4, 2) := by decide +kernel
theorem dX3_correct_69 : decode cX3_correct 69 = .ok (.aload_n 0, 1) := by decide +kernel
theorem dX3_correct_70 : decode cX3_correct 70 = .ok (.getfield 26, 3) := by decide +kernel
theorem dX3_correct_73 : decode cX3_correct 73 = .ok (.aload_n 0, 1) := by decide +kernel
theorem dX3_correct_74 : decode cX3_correct 74 = .ok (.getfield 10, 3) := by decide +kernel
theorem dX3_correct_77 : decode cX3_correct 77 = .ok (.invokevirtual 49, 3) := by decide +kernel
theorem dX3_correct_80 : decode cX3_correct 80 = .ok (.aload_n 0, 1) := by decide +kernel
theorem dX3_correct_81 : decode cX3_correct 81 = .ok (.getfield 10, 3) := by decide +kernel
theorem dX3_correct_84 : decode cX3_correct 84 = .ok (.iload_n 1, 1) := by decide +kernel
theorem dX3_correct_85 : decode cX3_correct 85 = .ok (.iload_n 2, 1) := by decide +kernel
theorem dX3_correct_86 : decode cX3_correct 86 = .ok (.iload_n 3, 1) := by decide +kernel
theorem dX3_correct_87 : decode cX3_correct 87 = .ok (.invokevirtual 84, 3) := by decide +kernel
theorem dX3_correct_90 : decode cX3_correct 90 = .ok (.iload 4, 2) := by decide +kernel
theorem dX3_correct_92 : decode cX3_correct 92 = .ok (.ireturn, 1) := by decide +kernel
theorem dX3_takeBack_0 : decode cX3_takeBack 0 = .ok (.aload_n 0, 1) := by decide +kernel
theorem dX3_takeBack_1 : decode cX3_takeBack 1 = .ok (.getfield 10, 3) := by decide +kernel
theorem dX3_takeBack_4 : decode cX3_takeBack 4 = .ok (.iload_n 1, 1) := by decide +kernel
theorem dX3_takeBack_5 : decode cX3_takeBack 5 = .ok (.iload_n 2, 1) := by decide +kernel
theorem dX3_takeBack_6 : decode cX3_takeBack 6 = .ok (.invokevirtual 71, 3) := by decide +kernel
theorem dX3_takeBack_9 : decode cX3_takeBack 9 = .ok (.ifCond .ne 5, 3) := by decide +kernel
theorem dX3_takeBack_12 : decode cX3_takeBack 12 = .ok (.iconst (-1), 1) := by decide +kernel
theorem dX3_takeBack_13 : decode cX3_takeBack 13 = .ok (.ireturn, 1) := by decide +kernel
theorem dX3_takeBack_14 : decode cX3_takeBack 14 = .ok (.aload_n 0, 1) := by decide +kernel
theorem dX3_takeBack_15 : decode cX3_takeBack 15 = .ok (.getfield 10, 3) := by decide +kernel
theorem dX3_takeBack_18 : decode cX3_takeBack 18 = .ok (.iload_n 1, 1) := by decide +kernel
theorem dX3_takeBack_19 : decode cX3_takeBack 19 = .ok (.iload_n 2, 1) := by decide +kernel
theorem dX3_takeBack_20 : decode cX3_takeBack 20 = .ok (.invokevirtual 74, 3) := by decide +kernel
theorem dX3_takeBack_23 : decode cX3_takeBack 23 = .ok (.istore_n 3, 1) := by decide +kernel
theorem dX3_takeBack_24 : decode cX3_takeBack 24 = .ok (.iload_n 3, 1) := by decide +kernel
theorem dX3_takeBack_25 : decode cX3_takeBack 25 = .ok (.iconst 1, 1) := by decide +kernel
theorem dX3_takeBack_26 : decode cX3_takeBack 26 = .ok (.if_icmp .gt 6, 3) := by decide +kernel
theorem dX3_takeBack_29 : decode cX3_takeBack 29 = .ok (.bipush (-4), 2) := by decide +kernel
theorem dX3_takeBack_31 : decode cX3_takeBack 31 = .ok (.ireturn, 1) := by decide +kernel
theorem dX3_takeBack_32 : decode cX3_takeBack 32 = .ok (.aload_n 0, 1) := by decide +kernel
theorem dX3_takeBack_33 : decode cX3_takeBack 33 = .ok (.getfield 10, 3) := by decide +kernel
theorem dX3_takeBack_36 : decode cX3_takeBack 36 = .ok (.iload_n 1, 1) := by decide +kernel
theorem dX3_takeBack_37 : decode cX3_takeBack 37 = .ok (.iload_n 2, 1) := by decide +kernel
theorem dX3_takeBack_38 : decode cX3_takeBack 38 = .ok (.aload_n 0, 1) := by decide +kernel
theorem dX3_takeBack_39 : decode cX3_takeBack 39 = .ok (.getfield 10, 3) := by decide +kernel
theorem dX3_takeBack_42 : decode cX3_takeBack 42 = .ok (.iload_n 1, 1) := by decide +kernel
theorem dX3_takeBack_43 : decode cX3_takeBack 43 = .ok (.iload_n 2, 1) := by decide +kernel
theorem dX3_takeBack_44 : decode cX3_takeBack 44 = .ok (.iload_n 3, 1) := by decide +kernel
theorem dX3_takeBack_45 : decode cX3_takeBack 45 = .ok (.iconst 2, 1) := by decide +kernel
theorem dX3_takeBack_46 : decode cX3_takeBack 46 = .ok (.isub, 1) := by decide +kernel
theorem dX3_takeBack_47 : decode cX3_takeBack 47 = .ok (.invokevirtual 88, 3) := by decide +kernel
theorem dX3_takeBack_50 : decode cX3_takeBack 50 = .ok (.invokevirtual 80, 3) := by decide +kernel
theorem dX3_takeBack_53 : decode cX3_takeBack 53 = .ok (.istore 4, 2) := by decide +kernel
theorem dX3_takeBack_55 : decode cX3_takeBack 55 = .ok (.aload_n 0, 1) := by decide +kernel
theorem dX3_takeBack_56 : decode cX3_takeBack 56 = .ok (.getfield 26, 3) := by decide +kernel
theorem dX3_takeBack_59 : decode cX3_takeBack 59 = .ok (.aload_n 0, 1) := by decide +kernel
theorem dX3_takeBack_60 : decode cX3_takeBack 60 = .ok (.getfield 10, 3) := by decide +kernel
theorem dX3_takeBack_63 : decode cX3_takeBack 63 = .ok (.invokevirtual 49, 3) := by decide +kernel
theorem dX3_takeBack_66 : decode cX3_takeBack 66 = .ok (.aload_n 0, 1) := by decide +kernel
theorem dX3_takeBack_67 : decode cX3_takeBack 67 = .ok (.getfield 10, 3) := by decide +kernel
theorem dX3_takeBack_70 : decode cX3_takeBack 70 = .ok (.iload_n 1, 1) := by decide +kernel
theorem dX3_takeBack_71 : decode cX3_takeBack 71 = .ok (.iload_n 2, 1) := by decide +kernel
theorem dX3_takeBack_72 : decode cX3_takeBack 72 = .ok (.invokevirtual 91, 3) := by decide +kernel
theorem dX3_takeBack_75 : decode cX3_takeBack 75 = .ok (.iload 4, 2) := by decide +kernel
theorem dX3_takeBack_77 : decode cX3_takeBack 77 = .ok (.ireturn, 1) := by decide +kernel
theorem dX3_claim_0 : decode cX3_claim 0 = .ok (.iload_n 1, 1) := by decide +kernel
theorem dX3_claim_1 : decode cX3_claim 1 = .ok (.ifCond .lt 9, 3) := by decide +kernel
theorem dX3_claim_4 : decode cX3_claim 4 = .ok (.iload_n 1, 1) := by decide +kernel
theorem dX3_claim_5 : decode cX3_claim 5 = .ok (.bipush 24, 2) := by decide +kernel
theorem dX3_claim_7 : decode cX3_claim 7 = .ok (.if_icmp .lt 5, 3) := by decide +kernel
theorem dX3_claim_10 : decode cX3_claim 10 = .ok (.iconst (-1), 1) := by decide +kernel
theorem dX3_claim_11 : decode cX3_claim 11 = .ok (.ireturn, 1) := by decide +kernel
theorem dX3_claim_12 : decode cX3_claim 12 = .ok (.iload_n 2, 1) := by decide +kernel
theorem dX3_claim_13 : decode cX3_claim 13 = .ok (.bipush (-5), 2) := by decide +kernel
theorem dX3_claim_15 : decode cX3_claim 15 = .ok (.if_icmp .eq 17, 3) := by decide +kernel
theorem dX3_claim_18 : decode cX3_claim 18 = .ok (.iload_n 2, 1) := by decide +kernel
theorem dX3_claim_19 : decode cX3_claim 19 = .ok (.ifCond .lt 10, 3) := by decide +kernel
theorem dX3_claim_22 : decode cX3_claim 22 = .ok (.iload_n 2, 1) := by decide +kernel
theorem dX3_claim_23 : decode cX3_claim 23 = .ok (.sipush 9999, 3) := by decide +kernel
theorem dX3_claim_26 : decode cX3_claim 26 = .ok (.if_icmp .le 6, 3) := by decide +kernel
theorem dX3_claim_29 : decode cX3_claim 29 = .ok (.bipush (-2), 2) := by decide +kernel
theorem dX3_claim_31 : decode cX3_claim 31 = .ok (.ireturn, 1) := by decide +kernel
theorem dX3_claim_32 : decode cX3_claim 32 = .ok (.aload_n 0, 1) := by decide +kernel
theorem dX3_claim_33 : decode cX3_claim 33 = .ok (.getfield 10, 3) := by decide +kernel
theorem dX3_claim_36 : decode cX3_claim 36 = .ok (.iload_n 1, 1) := by decide +kernel
theorem dX3_claim_37 : decode cX3_claim 37 = .ok (.invokevirtual 95, 3) := by decide +kernel
theorem dX3_claim_40 : decode cX3_claim 40 = .ok (.istore_n 3, 1) := by decide +kernel
theorem dX3_claim_41 : decode cX3_claim 41 = .ok (.iload_n 3, 1) := by decide +kernel
theorem dX3_claim_42 : decode cX3_claim 42 = .ok (.iload_n 2, 1) := by decide +kernel
theorem dX3_claim_43 : decode cX3_claim 43 = .ok (.if_icmp .ne 6, 3) := by decide +kernel
theorem dX3_claim_46 : decode cX3_claim 46 = .ok (.bipush (-5), 2) := by decide +kernel
theorem dX3_claim_48 : decode cX3_claim 48 = .ok (.ireturn, 1) := by decide +kernel
theorem dX3_claim_49 : decode cX3_claim 49 = .ok (.aload_n 0, 1) := by decide +kernel
theorem dX3_claim_50 : decode cX3_claim 50 = .ok (.getfield 26, 3) := by decide +kernel
theorem dX3_claim_53 : decode cX3_claim 53 = .ok (.aload_n 0, 1) := by decide +kernel
theorem dX3_claim_54 : decode cX3_claim 54 = .ok (.getfield 10, 3) := by decide +kernel
theorem dX3_claim_57 : decode cX3_claim 57 = .ok (.invokevirtual 49, 3) := by decide +kernel
theorem dX3_claim_60 : decode cX3_claim 60 = .ok (.aload_n 0, 1) := by decide +kernel
theorem dX3_claim_61 : decode cX3_claim 61 = .ok (.getfield 10, 3) := by decide +kernel
theorem dX3_claim_64 : decode cX3_claim 64 = .ok (.iload_n 1, 1) := by decide +kernel
theorem dX3_claim_65 : decode cX3_claim 65 = .ok (.iload_n 2, 1) := by decide +kernel
theorem dX3_claim_66 : decode cX3_claim 66 = .ok (.invokevirtual 99, 3) := by decide +kernel
theorem dX3_claim_69 : decode cX3_claim 69 = .ok (.iload_n 3, 1) := by decide +kernel
theorem dX3_claim_70 : decode cX3_claim 70 = .ok (.sipush 10000, 3) := by decide +kernel
theorem dX3_claim_73 : decode cX3_claim 73 = .ok (.iadd, 1) := by decide +kernel
theorem dX3_claim_74 : decode cX3_claim 74 = .ok (.ireturn, 1) := by decide +kernel
theorem dX3_set_0 : decode cX3_set 0 = .ok (.iload_n 1, 1) := by decide +kernel
theorem dX3_set_1 : decode cX3_set 1 = .ok (.ifCond .lt 30, 3) := by decide +kernel
theorem dX3_set_4 : decode cX3_set 4 = .ok (.iload_n 1, 1) := by decide +kernel
theorem dX3_set_5 : decode cX3_set 5 = .ok (.iconst 3, 1) := by decide +kernel
theorem dX3_set_6 : decode cX3_set 6 = .ok (.if_icmp .ge 25, 3) := by decide +kernel
theorem dX3_set_9 : decode cX3_set 9 = .ok (.iload_n 2, 1) := by decide +kernel
theorem dX3_set_10 : decode cX3_set 10 = .ok (.getstatic 102, 3) := by decide +kernel
theorem dX3_set_13 : decode cX3_set 13 = .ok (.iload_n 1, 1) := by decide +kernel
theorem dX3_set_14 : decode cX3_set 14 = .ok (.invokestatic 105, 3) := by decide +kernel
theorem dX3_set_17 : decode cX3_set 17 = .ok (.if_icmp .lt 14, 3) := by decide +kernel
theorem dX3_set_20 : decode cX3_set 20 = .ok (.iload_n 2, 1) := by decide +kernel
theorem dX3_set_21 : decode cX3_set 21 = .ok (.getstatic 109, 3) := by decide +kernel
theorem dX3_set_24 : decode cX3_set 24 = .ok (.iload_n 1, 1) := by decide +kernel
theorem dX3_set_25 : decode cX3_set 25 = .ok (.invokestatic 105, 3) := by decide +kernel
theorem dX3_set_28 : decode cX3_set 28 = .ok (.if_icmp .le 6, 3) := by decide +kernel
theorem dX3_set_31 : decode cX3_set 31 = .ok (.bipush (-2), 2) := by decide +kernel
theorem dX3_set_33 : decode cX3_set 33 = .ok (.ireturn, 1) := by decide +kernel
theorem dX3_set_34 : decode cX3_set 34 = .ok (.aload_n 0, 1) := by decide +kernel
theorem dX3_set_35 : decode cX3_set 35 = .ok (.getfield 10, 3) := by decide +kernel
theorem dX3_set_38 : decode cX3_set 38 = .ok (.iload_n 1, 1) := by decide +kernel
theorem dX3_set_39 : decode cX3_set 39 = .ok (.invokevirtual 112, 3) := by decide +kernel
theorem dX3_set_42 : decode cX3_set 42 = .ok (.istore_n 3, 1) := by decide +kernel
theorem dX3_set_43 : decode cX3_set 43 = .ok (.iload_n 3, 1) := by decide +kernel
theorem dX3_set_44 : decode cX3_set 44 = .ok (.iload_n 2, 1) := by decide +kernel
theorem dX3_set_45 : decode cX3_set 45 = .ok (.if_icmp .ne 6, 3) := by decide +kernel
theorem dX3_set_48 : decode cX3_set 48 = .ok (.bipush (-5), 2) := by decide +kernel
theorem dX3_set_50 : decode cX3_set 50 = .ok (.ireturn, 1) := by decide +kernel
theorem dX3_set_51 : decode cX3_set 51 = .ok (.aload_n 0, 1) := by decide +kernel
theorem dX3_set_52 : decode cX3_set 52 = .ok (.getfield 26, 3) := by decide +kernel
theorem dX3_set_55 : decode cX3_set 55 = .ok (.aload_n 0, 1) := by decide +kernel
theorem dX3_set_56 : decode cX3_set 56 = .ok (.getfield 10, 3) := by decide +kernel
theorem dX3_set_59 : decode cX3_set 59 = .ok (.invokevirtual 49, 3) := by decide +kernel
theorem dX3_set_62 : decode cX3_set 62 = .ok (.aload_n 0, 1) := by decide +kernel
theorem dX3_set_63 : decode cX3_set 63 = .ok (.getfield 10, 3) := by decide +kernel
theorem dX3_set_66 : decode cX3_set 66 = .ok (.iload_n 1, 1) := by decide +kernel
theorem dX3_set_67 : decode cX3_set 67 = .ok (.iload_n 2, 1) := by decide +kernel
theorem dX3_set_68 : decode cX3_set 68 = .ok (.invokevirtual 115, 3) := by decide +kernel
theorem dX3_set_71 : decode cX3_set 71 = .ok (.iload_n 3, 1) := by decide +kernel
theorem dX3_set_72 : decode cX3_set 72 = .ok (.ireturn, 1) := by decide +kernel
theorem dX3_type_0 : decode cX3_type 0 = .ok (.aload_n 0, 1) := by decide +kernel
theorem dX3_type_1 : decode cX3_type 1 = .ok (.getfield 33, 3) := by decide +kernel
theorem dX3_type_4 : decode cX3_type 4 = .ok (.iload_n 1, 1) := by decide +kernel
theorem dX3_type_5 : decode cX3_type 5 = .ok (.invokevirtual 118, 3) := by decide +kernel
theorem dX3_type_8 : decode cX3_type 8 = .ok (.ifCond .eq 13, 3) := by decide +kernel
theorem dX3_type_11 : decode cX3_type 11 = .ok (.aload_n 0, 1) := by decide +kernel
theorem dX3_type_12 : decode cX3_type 12 = .ok (.getfield 33, 3) := by decide +kernel
theorem dX3_type_15 : decode cX3_type 15 = .ok (.getfield 122, 3) := by decide +kernel
theorem dX3_type_18 : decode cX3_type 18 = .ok (.goto 5, 3) := by decide +kernel
theorem dX3_type_21 : decode cX3_type 21 = .ok (.bipush (-3), 2) := by decide +kernel
theorem dX3_type_23 : decode cX3_type 23 = .ok (.ireturn, 1) := by decide +kernel
theorem dX3_clearText_0 : decode cX3_clearText 0 = .ok (.aload_n 0, 1) := by decide +kernel
theorem dX3_clearText_1 : decode cX3_clearText 1 = .ok (.getfield 33, 3) := by decide +kernel
theorem dX3_clearText_4 : decode cX3_clearText 4 = .ok (.getfield 122, 3) := by decide +kernel
theorem dX3_clearText_7 : decode cX3_clearText 7 = .ok (.istore_n 1, 1) := by decide +kernel
theorem dX3_clearText_8 : decode cX3_clearText 8 = .ok (.aload_n 0, 1) := by decide +kernel
theorem dX3_clearText_9 : decode cX3_clearText 9 = .ok (.getfield 33, 3) := by decide +kernel
theorem dX3_clearText_12 : decode cX3_clearText 12 = .ok (.iconst 0, 1) := by decide +kernel
theorem dX3_clearText_13 : decode cX3_clearText 13 = .ok (.putfield 122, 3) := by decide +kernel
theorem dX3_clearText_16 : decode cX3_clearText 16 = .ok (.iload_n 1, 1) := by decide +kernel
theorem dX3_clearText_17 : decode cX3_clearText 17 = .ok (.ireturn, 1) := by decide +kernel
theorem dX3_undo_0 : decode cX3_undo 0 = .ok (.aload_n 0, 1) := by decide +kernel
theorem dX3_undo_1 : decode cX3_undo 1 = .ok (.getfield 26, 3) := by decide +kernel
theorem dX3_undo_4 : decode cX3_undo 4 = .ok (.aload_n 0, 1) := by decide +kernel
theorem dX3_undo_5 : decode cX3_undo 5 = .ok (.getfield 10, 3) := by decide +kernel
theorem dX3_undo_8 : decode cX3_undo 8 = .ok (.invokevirtual 125, 3) := by decide +kernel
theorem dX3_undo_11 : decode cX3_undo 11 = .ok (.ifCond .eq 13, 3) := by decide +kernel
theorem dX3_undo_14 : decode cX3_undo 14 = .ok (.aload_n 0, 1) := by decide +kernel
theorem dX3_undo_15 : decode cX3_undo 15 = .ok (.getfield 26, 3) := by decide +kernel
theorem dX3_undo_18 : decode cX3_undo 18 = .ok (.getfield 129, 3) := by decide +kernel
theorem dX3_undo_21 : decode cX3_undo 21 = .ok (.goto 5, 3) := by decide +kernel
theorem dX3_undo_24 : decode cX3_undo 24 = .ok (.bipush (-5), 2) := by decide +kernel
theorem dX3_undo_26 : decode cX3_undo 26 = .ok (.ireturn, 1) := by decide +kernel
theorem dX3_keep_0 : decode cX3_keep 0 = .ok (.aload_n 0, 1) := by decide +kernel
theorem dX3_keep_1 : decode cX3_keep 1 = .ok (.getfield 16, 3) := by decide +kernel
theorem dX3_keep_4 : decode cX3_keep 4 = .ok (.aload_n 0, 1) := by decide +kernel
theorem dX3_keep_5 : decode cX3_keep 5 = .ok (.getfield 10, 3) := by decide +kernel
theorem dX3_keep_8 : decode cX3_keep 8 = .ok (.invokevirtual 132, 3) := by decide +kernel
theorem dX3_keep_11 : decode cX3_keep 11 = .ok (.aload_n 0, 1) := by decide +kernel
theorem dX3_keep_12 : decode cX3_keep 12 = .ok (.iconst 1, 1) := by decide +kernel
theorem dX3_keep_13 : decode cX3_keep 13 = .ok (.putfield 19, 3) := by decide +kernel
theorem dX3_keep_16 : decode cX3_keep 16 = .ok (.aload_n 0, 1) := by decide +kernel
theorem dX3_keep_17 : decode cX3_keep 17 = .ok (.getfield 10, 3) := by decide +kernel
theorem dX3_keep_20 : decode cX3_keep 20 = .ok (.getfield 45, 3) := by decide +kernel
theorem dX3_keep_23 : decode cX3_keep 23 = .ok (.ireturn, 1) := by decide +kernel
theorem dX3_restore_0 : decode cX3_restore 0 = .ok (.aload_n 0, 1) := by decide +kernel
theorem dX3_restore_1 : decode cX3_restore 1 = .ok (.getfield 19, 3) := by decide +kernel
theorem dX3_restore_4 : decode cX3_restore 4 = .ok (.ifCond .ne 6, 3) := by decide +kernel
theorem dX3_restore_7 : decode cX3_restore 7 = .ok (.bipush (-5), 2) := by decide +kernel
theorem dX3_restore_9 : decode cX3_restore 9 = .ok (.ireturn, 1) := by decide +kernel
theorem dX3_restore_10 : decode cX3_restore 10 = .ok (.aload_n 0, 1) := by decide +kernel
theorem dX3_restore_11 : decode cX3_restore 11 = .ok (.getfield 26, 3) := by decide +kernel
theorem dX3_restore_14 : decode cX3_restore 14 = .ok (.aload_n 0, 1) := by decide +kernel
theorem dX3_restore_15 : decode cX3_restore 15 = .ok (.getfield 10, 3) := by decide +kernel
theorem dX3_restore_18 : decode cX3_restore 18 = .ok (.invokevirtual 49, 3) := by decide +kernel
theorem dX3_restore_21 : decode cX3_restore 21 = .ok (.aload_n 0, 1) := by decide +kernel
theorem dX3_restore_22 : decode cX3_restore 22 = .ok (.getfield 10, 3) := by decide +kernel
theorem dX3_restore_25 : decode cX3_restore 25 = .ok (.aload_n 0, 1) := by decide +kernel
theorem dX3_restore_26 : decode cX3_restore 26 = .ok (.getfield 16, 3) := by decide +kernel
theorem dX3_restore_29 : decode cX3_restore 29 = .ok (.invokevirtual 132, 3) := by decide +kernel
theorem dX3_restore_32 : decode cX3_restore 32 = .ok (.aload_n 0, 1) := by decide +kernel
theorem dX3_restore_33 : decode cX3_restore 33 = .ok (.getfield 10, 3) := by decide +kernel
theorem dX3_restore_36 : decode cX3_restore 36 = .ok (.getfield 45, 3) := by decide +kernel
theorem dX3_restore_39 : decode cX3_restore 39 = .ok (.ireturn, 1) := by decide +kernel
theorem dX3_cell_0 : decode cX3_cell 0 = .ok (.aload_n 0, 1) := by decide +kernel
theorem dX3_cell_1 : decode cX3_cell 1 = .ok (.getfield 10, 3) := by decide +kernel
theorem dX3_cell_4 : decode cX3_cell 4 = .ok (.iload_n 1, 1) := by decide +kernel
theorem dX3_cell_5 : decode cX3_cell 5 = .ok (.iload_n 2, 1) := by decide +kernel
theorem dX3_cell_6 : decode cX3_cell 6 = .ok (.invokevirtual 71, 3) := by decide +kernel
theorem dX3_cell_9 : decode cX3_cell 9 = .ok (.ifCond .ne 5, 3) := by decide +kernel
theorem dX3_cell_12 : decode cX3_cell 12 = .ok (.iconst (-1), 1) := by decide +kernel
theorem dX3_cell_13 : decode cX3_cell 13 = .ok (.ireturn, 1) := by decide +kernel
theorem dX3_cell_14 : decode cX3_cell 14 = .ok (.iload_n 3, 1) := by decide +kernel
theorem dX3_cell_15 : decode cX3_cell 15 = .ok (.tableswitch 105 0 5 #[37, 47, 57, 67, 77, 95], 37) := by decide +kernel
theorem dX3_cell_52 : decode cX3_cell 52 = .ok (.aload_n 0, 1) := by decide +kernel
theorem dX3_cell_53 : decode cX3_cell 53 = .ok (.getfield 10, 3) := by decide +kernel
theorem dX3_cell_56 : decode cX3_cell 56 = .ok (.iload_n 1, 1) := by decide +kernel
theorem dX3_cell_57 : decode cX3_cell 57 = .ok (.iload_n 2, 1) := by decide +kernel
theorem dX3_cell_58 : decode cX3_cell 58 = .ok (.invokevirtual 135, 3) := by decide +kernel
theorem dX3_cell_61 : decode cX3_cell 61 = .ok (.ireturn, 1) := by decide +kernel
theorem dX3_cell_62 : decode cX3_cell 62 = .ok (.aload_n 0, 1) := by decide +kernel
theorem dX3_cell_63 : decode cX3_cell 63 = .ok (.getfield 10, 3) := by decide +kernel
theorem dX3_cell_66 : decode cX3_cell 66 = .ok (.iload_n 1, 1) := by decide +kernel
theorem dX3_cell_67 : decode cX3_cell 67 = .ok (.iload_n 2, 1) := by decide +kernel
theorem dX3_cell_68 : decode cX3_cell 68 = .ok (.invokevirtual 138, 3) := by decide +kernel
theorem dX3_cell_71 : decode cX3_cell 71 = .ok (.ireturn, 1) := by decide +kernel
theorem dX3_cell_72 : decode cX3_cell 72 = .ok (.aload_n 0, 1) := by decide +kernel
theorem dX3_cell_73 : decode cX3_cell 73 = .ok (.getfield 10, 3) := by decide +kernel
theorem dX3_cell_76 : decode cX3_cell 76 = .ok (.iload_n 1, 1) := by decide +kernel
theorem dX3_cell_77 : decode cX3_cell 77 = .ok (.iload_n 2, 1) := by decide +kernel
theorem dX3_cell_78 : decode cX3_cell 78 = .ok (.invokevirtual 74, 3) := by decide +kernel
theorem dX3_cell_81 : decode cX3_cell 81 = .ok (.ireturn, 1) := by decide +kernel
theorem dX3_cell_82 : decode cX3_cell 82 = .ok (.aload_n 0, 1) := by decide +kernel
theorem dX3_cell_83 : decode cX3_cell 83 = .ok (.getfield 10, 3) := by decide +kernel
theorem dX3_cell_86 : decode cX3_cell 86 = .ok (.iload_n 1, 1) := by decide +kernel
theorem dX3_cell_87 : decode cX3_cell 87 = .ok (.iload_n 2, 1) := by decide +kernel
theorem dX3_cell_88 : decode cX3_cell 88 = .ok (.invokevirtual 141, 3) := by decide +kernel
theorem dX3_cell_91 : decode cX3_cell 91 = .ok (.ireturn, 1) := by decide +kernel
theorem dX3_cell_92 : decode cX3_cell 92 = .ok (.aload_n 0, 1) := by decide +kernel
theorem dX3_cell_93 : decode cX3_cell 93 = .ok (.getfield 10, 3) := by decide +kernel
theorem dX3_cell_96 : decode cX3_cell 96 = .ok (.iload_n 1, 1) := by decide +kernel
theorem dX3_cell_97 : decode cX3_cell 97 = .ok (.iload_n 2, 1) := by decide +kernel
theorem dX3_cell_98 : decode cX3_cell 98 = .ok (.invokevirtual 144, 3) := by decide +kernel
theorem dX3_cell_101 : decode cX3_cell 101 = .ok (.ifCond .eq 7, 3) := by decide +kernel
theorem dX3_cell_104 : decode cX3_cell 104 = .ok (.iconst 1, 1) := by decide +kernel
theorem dX3_cell_105 : decode cX3_cell 105 = .ok (.goto 4, 3) := by decide +kernel
theorem dX3_cell_108 : decode cX3_cell 108 = .ok (.iconst 0, 1) := by decide +kernel
theorem dX3_cell_109 : decode cX3_cell 109 = .ok (.ireturn, 1) := by decide +kernel
theorem dX3_cell_110 : decode cX3_cell 110 = .ok (.aload_n 0, 1) := by decide +kernel
theorem dX3_cell_111 : decode cX3_cell 111 = .ok (.getfield 10, 3) := by decide +kernel
theorem dX3_cell_114 : decode cX3_cell 114 = .ok (.iload_n 1, 1) := by decide +kernel
theorem dX3_cell_115 : decode cX3_cell 115 = .ok (.iload_n 2, 1) := by decide +kernel
theorem dX3_cell_116 : decode cX3_cell 116 = .ok (.invokevirtual 147, 3) := by decide +kernel
theorem dX3_cell_119 : decode cX3_cell 119 = .ok (.ireturn, 1) := by decide +kernel
theorem dX3_cell_120 : decode cX3_cell 120 = .ok (.bipush (-2), 2) := by decide +kernel
theorem dX3_cell_122 : decode cX3_cell 122 = .ok (.ireturn, 1) := by decide +kernel
theorem dX3_entry_0 : decode cX3_entry 0 = .ok (.aload_n 0, 1) := by decide +kernel
theorem dX3_entry_1 : decode cX3_entry 1 = .ok (.getfield 10, 3) := by decide +kernel
theorem dX3_entry_4 : decode cX3_entry 4 = .ok (.iload_n 1, 1) := by decide +kernel
theorem dX3_entry_5 : decode cX3_entry 5 = .ok (.iload_n 2, 1) := by decide +kernel
theorem dX3_entry_6 : decode cX3_entry 6 = .ok (.invokevirtual 71, 3) := by decide +kernel
theorem dX3_entry_9 : decode cX3_entry 9 = .ok (.ifCond .ne 5, 3) := by decide +kernel
theorem dX3_entry_12 : decode cX3_entry 12 = .ok (.iconst (-1), 1) := by decide +kernel
theorem dX3_entry_13 : decode cX3_entry 13 = .ok (.ireturn, 1) := by decide +kernel
theorem dX3_entry_14 : decode cX3_entry 14 = .ok (.iload_n 3, 1) := by decide +kernel
theorem dX3_entry_15 : decode cX3_entry 15 = .ok (.ifCond .lt 16, 3) := by decide +kernel
theorem dX3_entry_18 : decode cX3_entry 18 = .ok (.iload_n 3, 1) := by decide +kernel
theorem dX3_entry_19 : decode cX3_entry 19 = .ok (.aload_n 0, 1) := by decide +kernel
theorem dX3_entry_20 : decode cX3_entry 20 = .ok (.getfield 10, 3) := by decide +kernel
theorem dX3_entry_23 : decode cX3_entry 23 = .ok (.iload_n 1, 1) := by decide +kernel
theorem dX3_entry_24 : decode cX3_entry 24 = .ok (.iload_n 2, 1) := by decide +kernel
theorem dX3_entry_25 : decode cX3_entry 25 = .ok (.invokevirtual 74, 3) := by decide +kernel
theorem dX3_entry_28 : decode cX3_entry 28 = .ok (.if_icmp .lt 6, 3) := by decide +kernel
theorem dX3_entry_31 : decode cX3_entry 31 = .ok (.bipush (-2), 2) := by decide +kernel
theorem dX3_entry_33 : decode cX3_entry 33 = .ok (.ireturn, 1) := by decide +kernel
theorem dX3_entry_34 : decode cX3_entry 34 = .ok (.aload_n 0, 1) := by decide +kernel
theorem dX3_entry_35 : decode cX3_entry 35 = .ok (.getfield 10, 3) := by decide +kernel
theorem dX3_entry_38 : decode cX3_entry 38 = .ok (.iload_n 1, 1) := by decide +kernel
theorem dX3_entry_39 : decode cX3_entry 39 = .ok (.iload_n 2, 1) := by decide +kernel
theorem dX3_entry_40 : decode cX3_entry 40 = .ok (.iload_n 3, 1) := by decide +kernel
theorem dX3_entry_41 : decode cX3_entry 41 = .ok (.invokevirtual 88, 3) := by decide +kernel
theorem dX3_entry_44 : decode cX3_entry 44 = .ok (.ireturn, 1) := by decide +kernel
theorem dX3_isWritten_0 : decode cX3_isWritten 0 = .ok (.aload_n 0, 1) := by decide +kernel
theorem dX3_isWritten_1 : decode cX3_isWritten 1 = .ok (.getfield 10, 3) := by decide +kernel
theorem dX3_isWritten_4 : decode cX3_isWritten 4 = .ok (.iload_n 1, 1) := by decide +kernel
theorem dX3_isWritten_5 : decode cX3_isWritten 5 = .ok (.invokevirtual 150, 3) := by decide +kernel
theorem dX3_isWritten_8 : decode cX3_isWritten 8 = .ok (.ifCond .ne 5, 3) := by decide +kernel
theorem dX3_isWritten_11 : decode cX3_isWritten 11 = .ok (.iconst (-1), 1) := by decide +kernel
theorem dX3_isWritten_12 : decode cX3_isWritten 12 = .ok (.ireturn, 1) := by decide +kernel
theorem dX3_isWritten_13 : decode cX3_isWritten 13 = .ok (.aload_n 0, 1) := by decide +kernel
theorem dX3_isWritten_14 : decode cX3_isWritten 14 = .ok (.getfield 10, 3) := by decide +kernel
theorem dX3_isWritten_17 : decode cX3_isWritten 17 = .ok (.iload_n 1, 1) := by decide +kernel
theorem dX3_isWritten_18 : decode cX3_isWritten 18 = .ok (.invokevirtual 154, 3) := by decide +kernel
theorem dX3_isWritten_21 : decode cX3_isWritten 21 = .ok (.ifCond .eq 7, 3) := by decide +kernel
theorem dX3_isWritten_24 : decode cX3_isWritten 24 = .ok (.iconst 1, 1) := by decide +kernel
theorem dX3_isWritten_25 : decode cX3_isWritten 25 = .ok (.goto 4, 3) := by decide +kernel
theorem dX3_isWritten_28 : decode cX3_isWritten 28 = .ok (.iconst 0, 1) := by decide +kernel
theorem dX3_isWritten_29 : decode cX3_isWritten 29 = .ok (.ireturn, 1) := by decide +kernel
theorem dX3_column_0 : decode cX3_column 0 = .ok (.iload_n 1, 1) := by decide +kernel
theorem dX3_column_1 : decode cX3_column 1 = .ok (.invokestatic 157, 3) := by decide +kernel
theorem dX3_column_4 : decode cX3_column 4 = .ok (.ifCond .ne 5, 3) := by decide +kernel
theorem dX3_column_7 : decode cX3_column 7 = .ok (.iconst (-1), 1) := by decide +kernel
theorem dX3_column_8 : decode cX3_column 8 = .ok (.ireturn, 1) := by decide +kernel
theorem dX3_column_9 : decode cX3_column 9 = .ok (.aload_n 0, 1) := by decide +kernel
theorem dX3_column_10 : decode cX3_column 10 = .ok (.getfield 10, 3) := by decide +kernel
theorem dX3_column_13 : decode cX3_column 13 = .ok (.getfield 45, 3) := by decide +kernel
theorem dX3_column_16 : decode cX3_column 16 = .ok (.iconst 1, 1) := by decide +kernel
theorem dX3_column_17 : decode cX3_column 17 = .ok (.isub, 1) := by decide +kernel
theorem dX3_column_18 : decode cX3_column 18 = .ok (.istore_n 3, 1) := by decide +kernel
theorem dX3_column_19 : decode cX3_column 19 = .ok (.iload_n 2, 1) := by decide +kernel
theorem dX3_column_20 : decode cX3_column 20 = .ok (.tableswitch 114 0 6 #[44, 55, 66, 75, 86, 95, 103], 44) := by decide +kernel
theorem dX3_column_64 : decode cX3_column 64 = .ok (.aload_n 0, 1) := by decide +kernel
theorem dX3_column_65 : decode cX3_column 65 = .ok (.getfield 10, 3) := by decide +kernel
theorem dX3_column_68 : decode cX3_column 68 = .ok (.iload_n 1, 1) := by decide +kernel
theorem dX3_column_69 : decode cX3_column 69 = .ok (.bipush (-6), 2) := by decide +kernel
theorem dX3_column_71 : decode cX3_column 71 = .ok (.invokevirtual 160, 3) := by decide +kernel
theorem dX3_column_74 : decode cX3_column 74 = .ok (.ireturn, 1) := by decide +kernel
theorem dX3_column_75 : decode cX3_column 75 = .ok (.aload_n 0, 1) := by decide +kernel
theorem dX3_column_76 : decode cX3_column 76 = .ok (.getfield 10, 3) := by decide +kernel
theorem dX3_column_79 : decode cX3_column 79 = .ok (.iload_n 1, 1) := by decide +kernel
theorem dX3_column_80 : decode cX3_column 80 = .ok (.bipush (-5), 2) := by decide +kernel
theorem dX3_column_82 : decode cX3_column 82 = .ok (.invokevirtual 160, 3) := by decide +kernel
theorem dX3_column_85 : decode cX3_column 85 = .ok (.ireturn, 1) := by decide +kernel
theorem dX3_column_86 : decode cX3_column 86 = .ok (.aload_n 0, 1) := by decide +kernel
theorem dX3_column_87 : decode cX3_column 87 = .ok (.getfield 10, 3) := by decide +kernel
theorem dX3_column_90 : decode cX3_column 90 = .ok (.iload_n 1, 1) := by decide +kernel
theorem dX3_column_91 : decode cX3_column 91 = .ok (.invokevirtual 163, 3) := by decide +kernel
theorem dX3_column_94 : decode cX3_column 94 = .ok (.ireturn, 1) := by decide +kernel
theorem dX3_column_95 : decode cX3_column 95 = .ok (.aload_n 0, 1) := by decide +kernel
theorem dX3_column_96 : decode cX3_column 96 = .ok (.getfield 10, 3) := by decide +kernel
theorem dX3_column_99 : decode cX3_column 99 = .ok (.iload_n 1, 1) := by decide +kernel
theorem dX3_column_100 : decode cX3_column 100 = .ok (.iconst 0, 1) := by decide +kernel
theorem dX3_column_101 : decode cX3_column 101 = .ok (.iload_n 3, 1) := by decide +kernel
theorem dX3_column_102 : decode cX3_column 102 = .ok (.invokevirtual 166, 3) := by decide +kernel
theorem dX3_column_105 : decode cX3_column 105 = .ok (.ireturn, 1) := by decide +kernel
theorem dX3_column_106 : decode cX3_column 106 = .ok (.aload_n 0, 1) := by decide +kernel
theorem dX3_column_107 : decode cX3_column 107 = .ok (.getfield 10, 3) := by decide +kernel
theorem dX3_column_110 : decode cX3_column 110 = .ok (.iload_n 1, 1) := by decide +kernel
theorem dX3_column_111 : decode cX3_column 111 = .ok (.invokevirtual 169, 3) := by decide +kernel
theorem dX3_column_114 : decode cX3_column 114 = .ok (.ireturn, 1) := by decide +kernel
theorem dX3_column_115 : decode cX3_column 115 = .ok (.aload_n 0, 1) := by decide +kernel
theorem dX3_column_116 : decode cX3_column 116 = .ok (.iload_n 1, 1) := by decide +kernel
theorem dX3_column_117 : decode cX3_column 117 = .ok (.iconst 0, 1) := by decide +kernel
theorem dX3_column_118 : decode cX3_column 118 = .ok (.iload_n 3, 1) := by decide +kernel
theorem dX3_column_119 : decode cX3_column 119 = .ok (.invokevirtual 172, 3) := by decide +kernel
theorem dX3_column_122 : decode cX3_column 122 = .ok (.ireturn, 1) := by decide +kernel
theorem dX3_column_123 : decode cX3_column 123 = .ok (.aload_n 0, 1) := by decide +kernel
theorem dX3_column_124 : decode cX3_column 124 = .ok (.getfield 10, 3) := by decide +kernel
theorem dX3_column_127 : decode cX3_column 127 = .ok (.iload_n 1, 1) := by decide +kernel
theorem dX3_column_128 : decode cX3_column 128 = .ok (.iconst 0, 1) := by decide +kernel
theorem dX3_column_129 : decode cX3_column 129 = .ok (.iload_n 3, 1) := by decide +kernel
theorem dX3_column_130 : decode cX3_column 130 = .ok (.invokevirtual 175, 3) := by decide +kernel
theorem dX3_column_133 : decode cX3_column 133 = .ok (.ireturn, 1) := by decide +kernel
theorem dX3_column_134 : decode cX3_column 134 = .ok (.bipush (-2), 2) := by decide +kernel
theorem dX3_column_136 : decode cX3_column 136 = .ok (.ireturn, 1) := by decide +kernel
theorem dX3_watch_0 : decode cX3_watch 0 = .ok (.iload_n 1, 1) := by decide +kernel
theorem dX3_watch_1 : decode cX3_watch 1 = .ok (.ifCond .lt 14, 3) := by decide +kernel
theorem dX3_watch_4 : decode cX3_watch 4 = .ok (.iload_n 1, 1) := by decide +kernel
theorem dX3_watch_5 : decode cX3_watch 5 = .ok (.aload_n 0, 1) := by decide +kernel
theorem dX3_watch_6 : decode cX3_watch 6 = .ok (.getfield 10, 3) := by decide +kernel
theorem dX3_watch_9 : decode cX3_watch 9 = .ok (.invokevirtual 178, 3) := by decide +kernel
theorem dX3_watch_12 : decode cX3_watch 12 = .ok (.if_icmp .lt 5, 3) := by decide +kernel
theorem dX3_watch_15 : decode cX3_watch 15 = .ok (.iconst (-1), 1) := by decide +kernel
theorem dX3_watch_16 : decode cX3_watch 16 = .ok (.ireturn, 1) := by decide +kernel
theorem dX3_watch_17 : decode cX3_watch 17 = .ok (.aload_n 0, 1) := by decide +kernel
theorem dX3_watch_18 : decode cX3_watch 18 = .ok (.getfield 10, 3) := by decide +kernel
theorem dX3_watch_21 : decode cX3_watch 21 = .ok (.iload_n 1, 1) := by decide +kernel
theorem dX3_watch_22 : decode cX3_watch 22 = .ok (.invokevirtual 181, 3) := by decide +kernel
theorem dX3_watch_25 : decode cX3_watch 25 = .ok (.istore_n 3, 1) := by decide +kernel
theorem dX3_watch_26 : decode cX3_watch 26 = .ok (.aload_n 0, 1) := by decide +kernel
theorem dX3_watch_27 : decode cX3_watch 27 = .ok (.getfield 10, 3) := by decide +kernel
theorem dX3_watch_30 : decode cX3_watch 30 = .ok (.iload_n 1, 1) := by decide +kernel
theorem dX3_watch_31 : decode cX3_watch 31 = .ok (.invokevirtual 184, 3) := by decide +kernel
theorem dX3_watch_34 : decode cX3_watch 34 = .ok (.istore 4, 2) := by decide +kernel
theorem dX3_watch_36 : decode cX3_watch 36 = .ok (.iload_n 2, 1) := by decide +kernel
theorem dX3_watch_37 : decode cX3_watch 37 = .ok (.tableswitch 141 0 6 #[43, 50, 61, 70, 79, 121, 133], 43) := by decide +kernel
theorem dX3_watch_80 : decode cX3_watch 80 = .ok (.iload 4, 2) := by decide +kernel
theorem dX3_watch_82 : decode cX3_watch 82 = .ok (.iload_n 3, 1) := by decide +kernel
theorem dX3_watch_83 : decode cX3_watch 83 = .ok (.isub, 1) := by decide +kernel
theorem dX3_watch_84 : decode cX3_watch 84 = .ok (.iconst 1, 1) := by decide +kernel
theorem dX3_watch_85 : decode cX3_watch 85 = .ok (.iadd, 1) := by decide +kernel
theorem dX3_watch_86 : decode cX3_watch 86 = .ok (.ireturn, 1) := by decide +kernel
theorem dX3_watch_87 : decode cX3_watch 87 = .ok (.aload_n 0, 1) := by decide +kernel
theorem dX3_watch_88 : decode cX3_watch 88 = .ok (.getfield 10, 3) := by decide +kernel
theorem dX3_watch_91 : decode cX3_watch 91 = .ok (.iload_n 3, 1) := by decide +kernel
theorem dX3_watch_92 : decode cX3_watch 92 = .ok (.iload 4, 2) := by decide +kernel
theorem dX3_watch_94 : decode cX3_watch 94 = .ok (.invokevirtual 187, 3) := by decide +kernel
theorem dX3_watch_97 : decode cX3_watch 97 = .ok (.ireturn, 1) := by decide +kernel
theorem dX3_watch_98 : decode cX3_watch 98 = .ok (.aload_n 0, 1) := by decide +kernel
theorem dX3_watch_99 : decode cX3_watch 99 = .ok (.iconst 3, 1) := by decide +kernel
theorem dX3_watch_100 : decode cX3_watch 100 = .ok (.iload_n 3, 1) := by decide +kernel
theorem dX3_watch_101 : decode cX3_watch 101 = .ok (.iload 4, 2) := by decide +kernel
theorem dX3_watch_103 : decode cX3_watch 103 = .ok (.invokevirtual 172, 3) := by decide +kernel
theorem dX3_watch_106 : decode cX3_watch 106 = .ok (.ireturn, 1) := by decide +kernel
theorem dX3_watch_107 : decode cX3_watch 107 = .ok (.aload_n 0, 1) := by decide +kernel
theorem dX3_watch_108 : decode cX3_watch 108 = .ok (.getfield 10, 3) := by decide +kernel
theorem dX3_watch_111 : decode cX3_watch 111 = .ok (.iload_n 1, 1) := by decide +kernel
theorem dX3_watch_112 : decode cX3_watch 112 = .ok (.invokevirtual 95, 3) := by decide +kernel
theorem dX3_watch_115 : decode cX3_watch 115 = .ok (.ireturn, 1) := by decide +kernel
theorem dX3_watch_116 : decode cX3_watch 116 = .ok (.aload_n 0, 1) := by decide +kernel
theorem dX3_watch_117 : decode cX3_watch 117 = .ok (.getfield 10, 3) := by decide +kernel
theorem dX3_watch_120 : decode cX3_watch 120 = .ok (.iload_n 1, 1) := by decide +kernel
theorem dX3_watch_121 : decode cX3_watch 121 = .ok (.invokevirtual 95, 3) := by decide +kernel
theorem dX3_watch_124 : decode cX3_watch 124 = .ok (.bipush (-5), 2) := by decide +kernel
theorem dX3_watch_126 : decode cX3_watch 126 = .ok (.if_icmp .ne 8, 3) := by decide +kernel
theorem dX3_watch_129 : decode cX3_watch 129 = .ok (.bipush (-5), 2) := by decide +kernel
theorem dX3_watch_131 : decode cX3_watch 131 = .ok (.goto 26, 3) := by decide +kernel
theorem dX3_watch_134 : decode cX3_watch 134 = .ok (.aload_n 0, 1) := by decide +kernel
theorem dX3_watch_135 : decode cX3_watch 135 = .ok (.getfield 10, 3) := by decide +kernel
theorem dX3_watch_138 : decode cX3_watch 138 = .ok (.iload_n 3, 1) := by decide +kernel
theorem dX3_watch_139 : decode cX3_watch 139 = .ok (.iload 4, 2) := by decide +kernel
theorem dX3_watch_141 : decode cX3_watch 141 = .ok (.invokevirtual 187, 3) := by decide +kernel
theorem dX3_watch_144 : decode cX3_watch 144 = .ok (.aload_n 0, 1) := by decide +kernel
theorem dX3_watch_145 : decode cX3_watch 145 = .ok (.getfield 10, 3) := by decide +kernel
theorem dX3_watch_148 : decode cX3_watch 148 = .ok (.iload_n 1, 1) := by decide +kernel
theorem dX3_watch_149 : decode cX3_watch 149 = .ok (.invokevirtual 95, 3) := by decide +kernel
theorem dX3_watch_152 : decode cX3_watch 152 = .ok (.isub, 1) := by decide +kernel
theorem dX3_watch_153 : decode cX3_watch 153 = .ok (.sipush 10000, 3) := by decide +kernel
theorem dX3_watch_156 : decode cX3_watch 156 = .ok (.iadd, 1) := by decide +kernel
theorem dX3_watch_157 : decode cX3_watch 157 = .ok (.ireturn, 1) := by decide +kernel
theorem dX3_watch_158 : decode cX3_watch 158 = .ok (.aload_n 0, 1) := by decide +kernel
theorem dX3_watch_159 : decode cX3_watch 159 = .ok (.getfield 10, 3) := by decide +kernel
theorem dX3_watch_162 : decode cX3_watch 162 = .ok (.iconst 1, 1) := by decide +kernel
theorem dX3_watch_163 : decode cX3_watch 163 = .ok (.iload_n 3, 1) := by decide +kernel
theorem dX3_watch_164 : decode cX3_watch 164 = .ok (.iload 4, 2) := by decide +kernel
theorem dX3_watch_166 : decode cX3_watch 166 = .ok (.invokevirtual 166, 3) := by decide +kernel
theorem dX3_watch_169 : decode cX3_watch 169 = .ok (.ireturn, 1) := by decide +kernel
theorem dX3_watch_170 : decode cX3_watch 170 = .ok (.aload_n 0, 1) := by decide +kernel
theorem dX3_watch_171 : decode cX3_watch 171 = .ok (.iload_n 3, 1) := by decide +kernel
theorem dX3_watch_172 : decode cX3_watch 172 = .ok (.iload 4, 2) := by decide +kernel
theorem dX3_watch_174 : decode cX3_watch 174 = .ok (.invokevirtual 190, 3) := by decide +kernel
theorem dX3_watch_177 : decode cX3_watch 177 = .ok (.ireturn, 1) := by decide +kernel
theorem dX3_watch_178 : decode cX3_watch 178 = .ok (.bipush (-2), 2) := by decide +kernel
theorem dX3_watch_180 : decode cX3_watch 180 = .ok (.ireturn, 1) := by decide +kernel
theorem dX3_run_0 : decode cX3_run 0 = .ok (.aload_n 0, 1) := by decide +kernel
theorem dX3_run_1 : decode cX3_run 1 = .ok (.getfield 10, 3) := by decide +kernel
theorem dX3_run_4 : decode cX3_run 4 = .ok (.iload_n 1, 1) := by decide +kernel
theorem dX3_run_5 : decode cX3_run 5 = .ok (.invokevirtual 150, 3) := by decide +kernel
theorem dX3_run_8 : decode cX3_run 8 = .ok (.ifCond .eq 14, 3) := by decide +kernel
theorem dX3_run_11 : decode cX3_run 11 = .ok (.aload_n 0, 1) := by decide +kernel
theorem dX3_run_12 : decode cX3_run 12 = .ok (.getfield 10, 3) := by decide +kernel
theorem dX3_run_15 : decode cX3_run 15 = .ok (.iload_n 2, 1) := by decide +kernel
theorem dX3_run_16 : decode cX3_run 16 = .ok (.invokevirtual 150, 3) := by decide +kernel
theorem dX3_run_19 : decode cX3_run 19 = .ok (.ifCond .ne 5, 3) := by decide +kernel
theorem dX3_run_22 : decode cX3_run 22 = .ok (.iconst (-1), 1) := by decide +kernel
theorem dX3_run_23 : decode cX3_run 23 = .ok (.ireturn, 1) := by decide +kernel
theorem dX3_run_24 : decode cX3_run 24 = .ok (.iload_n 2, 1) := by decide +kernel
theorem dX3_run_25 : decode cX3_run 25 = .ok (.iload_n 1, 1) := by decide +kernel
theorem dX3_run_26 : decode cX3_run 26 = .ok (.if_icmp .ge 8, 3) := by decide +kernel
theorem dX3_run_29 : decode cX3_run 29 = .ok (.bipush (-2), 2) := by decide +kernel
theorem dX3_run_31 : decode cX3_run 31 = .ok (.goto 12, 3) := by decide +kernel
theorem dX3_run_34 : decode cX3_run 34 = .ok (.aload_n 0, 1) := by decide +kernel
theorem dX3_run_35 : decode cX3_run 35 = .ok (.getfield 10, 3) := by decide +kernel
theorem dX3_run_38 : decode cX3_run 38 = .ok (.iload_n 1, 1) := by decide +kernel
theorem dX3_run_39 : decode cX3_run 39 = .ok (.iload_n 2, 1) := by decide +kernel
theorem dX3_run_40 : decode cX3_run 40 = .ok (.invokevirtual 187, 3) := by decide +kernel
theorem dX3_run_43 : decode cX3_run 43 = .ok (.ireturn, 1) := by decide +kernel
theorem dX3_north_0 : decode cX3_north 0 = .ok (.aload_n 0, 1) := by decide +kernel
theorem dX3_north_1 : decode cX3_north 1 = .ok (.getfield 10, 3) := by decide +kernel
theorem dX3_north_4 : decode cX3_north 4 = .ok (.iload_n 1, 1) := by decide +kernel
theorem dX3_north_5 : decode cX3_north 5 = .ok (.iload_n 2, 1) := by decide +kernel
theorem dX3_north_6 : decode cX3_north 6 = .ok (.invokevirtual 193, 3) := by decide +kernel
theorem dX3_north_9 : decode cX3_north 9 = .ok (.ifCond .eq 16, 3) := by decide +kernel
theorem dX3_north_12 : decode cX3_north 12 = .ok (.aload_n 0, 1) := by decide +kernel
theorem dX3_north_13 : decode cX3_north 13 = .ok (.getfield 10, 3) := by decide +kernel
theorem dX3_north_16 : decode cX3_north 16 = .ok (.iload_n 1, 1) := by decide +kernel
theorem dX3_north_17 : decode cX3_north 17 = .ok (.iload_n 2, 1) := by decide +kernel
theorem dX3_north_18 : decode cX3_north 18 = .ok (.iconst 0, 1) := by decide +kernel
theorem dX3_north_19 : decode cX3_north 19 = .ok (.invokevirtual 196, 3) := by decide +kernel
theorem dX3_north_22 : decode cX3_north 22 = .ok (.goto 6, 3) := by decide +kernel
theorem dX3_north_25 : decode cX3_north 25 = .ok (.ldc2_w 200, 3) := by decide +kernel
theorem dX3_north_28 : decode cX3_north 28 = .ok (.dreturn, 1) := by decide +kernel
theorem dX3_east_0 : decode cX3_east 0 = .ok (.aload_n 0, 1) := by decide +kernel
theorem dX3_east_1 : decode cX3_east 1 = .ok (.getfield 10, 3) := by decide +kernel
theorem dX3_east_4 : decode cX3_east 4 = .ok (.iload_n 1, 1) := by decide +kernel
theorem dX3_east_5 : decode cX3_east 5 = .ok (.iload_n 2, 1) := by decide +kernel
theorem dX3_east_6 : decode cX3_east 6 = .ok (.invokevirtual 193, 3) := by decide +kernel
theorem dX3_east_9 : decode cX3_east 9 = .ok (.ifCond .eq 17, 3) := by decide +kernel
theorem dX3_east_12 : decode cX3_east 12 = .ok (.aload_n 0, 1) := by decide +kernel
theorem dX3_east_13 : decode cX3_east 13 = .ok (.getfield 10, 3) := by decide +kernel
theorem dX3_east_16 : decode cX3_east 16 = .ok (.iload_n 1, 1) := by decide +kernel
theorem dX3_east_17 : decode cX3_east 17 = .ok (.iload_n 2, 1) := by decide +kernel
theorem dX3_east_18 : decode cX3_east 18 = .ok (.bipush 6, 2) := by decide +kernel
theorem dX3_east_20 : decode cX3_east 20 = .ok (.invokevirtual 196, 3) := by decide +kernel
theorem dX3_east_23 : decode cX3_east 23 = .ok (.goto 6, 3) := by decide +kernel
theorem dX3_east_26 : decode cX3_east 26 = .ok (.ldc2_w 200, 3) := by decide +kernel
theorem dX3_east_29 : decode cX3_east 29 = .ok (.dreturn, 1) := by decide +kernel
theorem dX3_squareBits_0 : decode cX3_squareBits 0 = .ok (.aload_n 0, 1) := by decide +kernel
theorem dX3_squareBits_1 : decode cX3_squareBits 1 = .ok (.getfield 10, 3) := by decide +kernel
theorem dX3_squareBits_4 : decode cX3_squareBits 4 = .ok (.iload_n 1, 1) := by decide +kernel
theorem dX3_squareBits_5 : decode cX3_squareBits 5 = .ok (.invokevirtual 150, 3) := by decide +kernel
theorem dX3_squareBits_8 : decode cX3_squareBits 8 = .ok (.ifCond .eq 14, 3) := by decide +kernel
theorem dX3_squareBits_11 : decode cX3_squareBits 11 = .ok (.aload_n 0, 1) := by decide +kernel
theorem dX3_squareBits_12 : decode cX3_squareBits 12 = .ok (.getfield 10, 3) := by decide +kernel
theorem dX3_squareBits_15 : decode cX3_squareBits 15 = .ok (.iload_n 2, 1) := by decide +kernel
theorem dX3_squareBits_16 : decode cX3_squareBits 16 = .ok (.invokevirtual 150, 3) := by decide +kernel
theorem dX3_squareBits_19 : decode cX3_squareBits 19 = .ok (.ifCond .ne 5, 3) := by decide +kernel
theorem dX3_squareBits_22 : decode cX3_squareBits 22 = .ok (.iconst (-1), 1) := by decide +kernel
theorem dX3_squareBits_23 : decode cX3_squareBits 23 = .ok (.ireturn, 1) := by decide +kernel
theorem dX3_squareBits_24 : decode cX3_squareBits 24 = .ok (.iload_n 2, 1) := by decide +kernel
theorem dX3_squareBits_25 : decode cX3_squareBits 25 = .ok (.iload_n 1, 1) := by decide +kernel
theorem dX3_squareBits_26 : decode cX3_squareBits 26 = .ok (.if_icmp .ge 6, 3) := by decide +kernel
theorem dX3_squareBits_29 : decode cX3_squareBits 29 = .ok (.bipush (-2), 2) := by decide +kernel
theorem dX3_squareBits_31 : decode cX3_squareBits 31 = .ok (.ireturn, 1) := by decide +kernel
theorem dX3_squareBits_32 : decode cX3_squareBits 32 = .ok (.aload_n 0, 1) := by decide +kernel
theorem dX3_squareBits_33 : decode cX3_squareBits 33 = .ok (.getfield 10, 3) := by decide +kernel
theorem dX3_squareBits_36 : decode cX3_squareBits 36 = .ok (.iload_n 1, 1) := by decide +kernel
theorem dX3_squareBits_37 : decode cX3_squareBits 37 = .ok (.iload_n 2, 1) := by decide +kernel
theorem dX3_squareBits_38 : decode cX3_squareBits 38 = .ok (.iconst 0, 1) := by decide +kernel
theorem dX3_squareBits_39 : decode cX3_squareBits 39 = .ok (.invokevirtual 196, 3) := by decide +kernel
theorem dX3_squareBits_42 : decode cX3_squareBits 42 = .ok (.dstore_n 3, 1) := by decide +kernel
theorem dX3_squareBits_43 : decode cX3_squareBits 43 = .ok (.aload_n 0, 1) := by decide +kernel
theorem dX3_squareBits_44 : decode cX3_squareBits 44 = .ok (.getfield 10, 3) := by decide +kernel
theorem dX3_squareBits_47 : decode cX3_squareBits 47 = .ok (.iload_n 1, 1) := by decide +kernel
theorem dX3_squareBits_48 : decode cX3_squareBits 48 = .ok (.iload_n 2, 1) := by decide +kernel
theorem dX3_squareBits_49 : decode cX3_squareBits 49 = .ok (.bipush 6, 2) := by decide +kernel
theorem dX3_squareBits_51 : decode cX3_squareBits 51 = .ok (.invokevirtual 196, 3) := by decide +kernel
theorem dX3_squareBits_54 : decode cX3_squareBits 54 = .ok (.dstore 5, 2) := by decide +kernel
theorem dX3_squareBits_56 : decode cX3_squareBits 56 = .ok (.dload_n 3, 1) := by decide +kernel
theorem dX3_squareBits_57 : decode cX3_squareBits 57 = .ok (.dload_n 3, 1) := by decide +kernel
theorem dX3_squareBits_58 : decode cX3_squareBits 58 = .ok (.dmul, 1) := by decide +kernel
theorem dX3_squareBits_59 : decode cX3_squareBits 59 = .ok (.dload 5, 2) := by decide +kernel
theorem dX3_squareBits_61 : decode cX3_squareBits 61 = .ok (.dload 5, 2) := by decide +kernel
theorem dX3_squareBits_63 : decode cX3_squareBits 63 = .ok (.dmul, 1) := by decide +kernel
theorem dX3_squareBits_64 : decode cX3_squareBits 64 = .ok (.dadd, 1) := by decide +kernel
theorem dX3_squareBits_65 : decode cX3_squareBits 65 = .ok (.d2f, 1) := by decide +kernel
theorem dX3_squareBits_66 : decode cX3_squareBits 66 = .ok (.invokestatic 202, 3) := by decide +kernel
theorem dX3_squareBits_69 : decode cX3_squareBits 69 = .ok (.ireturn, 1) := by decide +kernel
theorem dX3_wouldChange_0 : decode cX3_wouldChange 0 = .ok (.aload_n 0, 1) := by decide +kernel
theorem dX3_wouldChange_1 : decode cX3_wouldChange 1 = .ok (.getfield 10, 3) := by decide +kernel
theorem dX3_wouldChange_4 : decode cX3_wouldChange 4 = .ok (.iload_n 1, 1) := by decide +kernel
theorem dX3_wouldChange_5 : decode cX3_wouldChange 5 = .ok (.iload_n 2, 1) := by decide +kernel
theorem dX3_wouldChange_6 : decode cX3_wouldChange 6 = .ok (.invokevirtual 71, 3) := by decide +kernel
theorem dX3_wouldChange_9 : decode cX3_wouldChange 9 = .ok (.ifCond .ne 5, 3) := by decide +kernel
theorem dX3_wouldChange_12 : decode cX3_wouldChange 12 = .ok (.iconst (-1), 1) := by decide +kernel
theorem dX3_wouldChange_13 : decode cX3_wouldChange 13 = .ok (.ireturn, 1) := by decide +kernel
theorem dX3_wouldChange_14 : decode cX3_wouldChange 14 = .ok (.iload_n 2, 1) := by decide +kernel
theorem dX3_wouldChange_15 : decode cX3_wouldChange 15 = .ok (.iload_n 3, 1) := by decide +kernel
theorem dX3_wouldChange_16 : decode cX3_wouldChange 16 = .ok (.invokestatic 41, 3) := by decide +kernel
theorem dX3_wouldChange_19 : decode cX3_wouldChange 19 = .ok (.ifCond .eq 16, 3) := by decide +kernel
theorem dX3_wouldChange_22 : decode cX3_wouldChange 22 = .ok (.aload_n 0, 1) := by decide +kernel
theorem dX3_wouldChange_23 : decode cX3_wouldChange 23 = .ok (.getfield 10, 3) := by decide +kernel
theorem dX3_wouldChange_26 : decode cX3_wouldChange 26 = .ok (.iload_n 1, 1) := by decide +kernel
theorem dX3_wouldChange_27 : decode cX3_wouldChange 27 = .ok (.iload_n 2, 1) := by decide +kernel
theorem dX3_wouldChange_28 : decode cX3_wouldChange 28 = .ok (.iload_n 3, 1) := by decide +kernel
theorem dX3_wouldChange_29 : decode cX3_wouldChange 29 = .ok (.invokevirtual 80, 3) := by decide +kernel
theorem dX3_wouldChange_32 : decode cX3_wouldChange 32 = .ok (.goto 5, 3) := by decide +kernel
theorem dX3_wouldChange_35 : decode cX3_wouldChange 35 = .ok (.bipush (-2), 2) := by decide +kernel
theorem dX3_wouldChange_37 : decode cX3_wouldChange 37 = .ok (.ireturn, 1) := by decide +kernel
theorem dX3_count_0 : decode cX3_count 0 = .ok (.iload_n 1, 1) := by decide +kernel
theorem dX3_count_1 : decode cX3_count 1 = .ok (.tableswitch 163 0 11 #[63, 71, 76, 81, 96, 104, 112, 120, 129, 138, 147, 155], 63) := by decide +kernel
theorem dX3_count_64 : decode cX3_count 64 = .ok (.aload_n 0, 1) := by decide +kernel
theorem dX3_count_65 : decode cX3_count 65 = .ok (.getfield 10, 3) := by decide +kernel
theorem dX3_count_68 : decode cX3_count 68 = .ok (.getfield 45, 3) := by decide +kernel
theorem dX3_count_71 : decode cX3_count 71 = .ok (.ireturn, 1) := by decide +kernel
theorem dX3_count_72 : decode cX3_count 72 = .ok (.aload_n 0, 1) := by decide +kernel
theorem dX3_count_73 : decode cX3_count 73 = .ok (.invokevirtual 206, 3) := by decide +kernel
theorem dX3_count_76 : decode cX3_count 76 = .ok (.ireturn, 1) := by decide +kernel
theorem dX3_count_77 : decode cX3_count 77 = .ok (.aload_n 0, 1) := by decide +kernel
theorem dX3_count_78 : decode cX3_count 78 = .ok (.invokevirtual 209, 3) := by decide +kernel
theorem dX3_count_81 : decode cX3_count 81 = .ok (.ireturn, 1) := by decide +kernel
theorem dX3_count_82 : decode cX3_count 82 = .ok (.aload_n 0, 1) := by decide +kernel
theorem dX3_count_83 : decode cX3_count 83 = .ok (.iconst 0, 1) := by decide +kernel
theorem dX3_count_84 : decode cX3_count 84 = .ok (.aload_n 0, 1) := by decide +kernel
theorem dX3_count_85 : decode cX3_count 85 = .ok (.getfield 10, 3) := by decide +kernel
theorem dX3_count_88 : decode cX3_count 88 = .ok (.getfield 45, 3) := by decide +kernel
theorem dX3_count_91 : decode cX3_count 91 = .ok (.iconst 1, 1) := by decide +kernel
theorem dX3_count_92 : decode cX3_count 92 = .ok (.isub, 1) := by decide +kernel
theorem dX3_count_93 : decode cX3_count 93 = .ok (.invokevirtual 190, 3) := by decide +kernel
theorem dX3_count_96 : decode cX3_count 96 = .ok (.ireturn, 1) := by decide +kernel
theorem dX3_count_97 : decode cX3_count 97 = .ok (.aload_n 0, 1) := by decide +kernel
theorem dX3_count_98 : decode cX3_count 98 = .ok (.getfield 10, 3) := by decide +kernel
theorem dX3_count_101 : decode cX3_count 101 = .ok (.invokevirtual 212, 3) := by decide +kernel
theorem dX3_count_104 : decode cX3_count 104 = .ok (.ireturn, 1) := by decide +kernel
theorem dX3_count_105 : decode cX3_count 105 = .ok (.aload_n 0, 1) := by decide +kernel
theorem dX3_count_106 : decode cX3_count 106 = .ok (.getfield 10, 3) := by decide +kernel
theorem dX3_count_109 : decode cX3_count 109 = .ok (.invokevirtual 178, 3) := by decide +kernel
theorem dX3_count_112 : decode cX3_count 112 = .ok (.ireturn, 1) := by decide +kernel
theorem dX3_count_113 : decode cX3_count 113 = .ok (.aload_n 0, 1) := by decide +kernel
theorem dX3_count_114 : decode cX3_count 114 = .ok (.getfield 10, 3) := by decide +kernel
theorem dX3_count_117 : decode cX3_count 117 = .ok (.invokevirtual 215, 3) := by decide +kernel
theorem dX3_count_120 : decode cX3_count 120 = .ok (.ireturn, 1) := by decide +kernel
theorem dX3_count_121 : decode cX3_count 121 = .ok (.aload_n 0, 1) := by decide +kernel
theorem dX3_count_122 : decode cX3_count 122 = .ok (.getfield 10, 3) := by decide +kernel
theorem dX3_count_125 : decode cX3_count 125 = .ok (.iconst 0, 1) := by decide +kernel
theorem dX3_count_126 : decode cX3_count 126 = .ok (.invokevirtual 112, 3) := by decide +kernel
theorem dX3_count_129 : decode cX3_count 129 = .ok (.ireturn, 1) := by decide +kernel
theorem dX3_count_130 : decode cX3_count 130 = .ok (.aload_n 0, 1) := by decide +kernel
theorem dX3_count_131 : decode cX3_count 131 = .ok (.getfield 10, 3) := by decide +kernel
theorem dX3_count_134 : decode cX3_count 134 = .ok (.iconst 1, 1) := by decide +kernel
theorem dX3_count_135 : decode cX3_count 135 = .ok (.invokevirtual 112, 3) := by decide +kernel
theorem dX3_count_138 : decode cX3_count 138 = .ok (.ireturn, 1) := by decide +kernel
theorem dX3_count_139 : decode cX3_count 139 = .ok (.aload_n 0, 1) := by decide +kernel
theorem dX3_count_140 : decode cX3_count 140 = .ok (.getfield 10, 3) := by decide +kernel
theorem dX3_count_143 : decode cX3_count 143 = .ok (.iconst 2, 1) := by decide +kernel
theorem dX3_count_144 : decode cX3_count 144 = .ok (.invokevirtual 112, 3) := by decide +kernel
theorem dX3_count_147 : decode cX3_count 147 = .ok (.ireturn, 1) := by decide +kernel
theorem dX3_count_148 : decode cX3_count 148 = .ok (.aload_n 0, 1) := by decide +kernel
theorem dX3_count_149 : decode cX3_count 149 = .ok (.getfield 26, 3) := by decide +kernel
theorem dX3_count_152 : decode cX3_count 152 = .ok (.getfield 129, 3) := by decide +kernel
theorem dX3_count_155 : decode cX3_count 155 = .ok (.ireturn, 1) := by decide +kernel
theorem dX3_count_156 : decode cX3_count 156 = .ok (.aload_n 0, 1) := by decide +kernel
theorem dX3_count_157 : decode cX3_count 157 = .ok (.getfield 33, 3) := by decide +kernel
theorem dX3_count_160 : decode cX3_count 160 = .ok (.getfield 122, 3) := by decide +kernel
theorem dX3_count_163 : decode cX3_count 163 = .ok (.ireturn, 1) := by decide +kernel
theorem dX3_count_164 : decode cX3_count 164 = .ok (.bipush (-2), 2) := by decide +kernel
theorem dX3_count_166 : decode cX3_count 166 = .ok (.ireturn, 1) := by decide +kernel
theorem dX3_dittos_0 : decode cX3_dittos 0 = .ok (.iconst 0, 1) := by decide +kernel
theorem dX3_dittos_1 : decode cX3_dittos 1 = .ok (.istore_n 1, 1) := by decide +kernel
theorem dX3_dittos_2 : decode cX3_dittos 2 = .ok (.iconst 0, 1) := by decide +kernel
theorem dX3_dittos_3 : decode cX3_dittos 3 = .ok (.istore_n 2, 1) := by decide +kernel
theorem dX3_dittos_4 : decode cX3_dittos 4 = .ok (.iload_n 2, 1) := by decide +kernel
theorem dX3_dittos_5 : decode cX3_dittos 5 = .ok (.iconst 4, 1) := by decide +kernel
theorem dX3_dittos_6 : decode cX3_dittos 6 = .ok (.if_icmp .ge 22, 3) := by decide +kernel
theorem dX3_dittos_9 : decode cX3_dittos 9 = .ok (.iload_n 1, 1) := by decide +kernel
theorem dX3_dittos_10 : decode cX3_dittos 10 = .ok (.aload_n 0, 1) := by decide +kernel
theorem dX3_dittos_11 : decode cX3_dittos 11 = .ok (.getfield 10, 3) := by decide +kernel
theorem dX3_dittos_14 : decode cX3_dittos 14 = .ok (.iload_n 2, 1) := by decide +kernel
theorem dX3_dittos_15 : decode cX3_dittos 15 = .ok (.bipush (-6), 2) := by decide +kernel
theorem dX3_dittos_17 : decode cX3_dittos 17 = .ok (.invokevirtual 160, 3) := by decide +kernel
theorem dX3_dittos_20 : decode cX3_dittos 20 = .ok (.iadd, 1) := by decide +kernel
theorem dX3_dittos_21 : decode cX3_dittos 21 = .ok (.istore_n 1, 1) := by decide +kernel
theorem dX3_dittos_22 : decode cX3_dittos 22 = .ok (.iinc 2 1, 3) := by decide +kernel
theorem dX3_dittos_25 : decode cX3_dittos 25 = .ok (.goto (-21), 3) := by decide +kernel
theorem dX3_dittos_28 : decode cX3_dittos 28 = .ok (.iload_n 1, 1) := by decide +kernel
theorem dX3_dittos_29 : decode cX3_dittos 29 = .ok (.ireturn, 1) := by decide +kernel
theorem dX3_corrections_0 : decode cX3_corrections 0 = .ok (.iconst 0, 1) := by decide +kernel
theorem dX3_corrections_1 : decode cX3_corrections 1 = .ok (.istore_n 1, 1) := by decide +kernel
theorem dX3_corrections_2 : decode cX3_corrections 2 = .ok (.iconst 0, 1) := by decide +kernel
theorem dX3_corrections_3 : decode cX3_corrections 3 = .ok (.istore_n 2, 1) := by decide +kernel
theorem dX3_corrections_4 : decode cX3_corrections 4 = .ok (.iload_n 2, 1) := by decide +kernel
theorem dX3_corrections_5 : decode cX3_corrections 5 = .ok (.iconst 4, 1) := by decide +kernel
theorem dX3_corrections_6 : decode cX3_corrections 6 = .ok (.if_icmp .ge 20, 3) := by decide +kernel
theorem dX3_corrections_9 : decode cX3_corrections 9 = .ok (.iload_n 1, 1) := by decide +kernel
theorem dX3_corrections_10 : decode cX3_corrections 10 = .ok (.aload_n 0, 1) := by decide +kernel
theorem dX3_corrections_11 : decode cX3_corrections 11 = .ok (.getfield 10, 3) := by decide +kernel
theorem dX3_corrections_14 : decode cX3_corrections 14 = .ok (.iload_n 2, 1) := by decide +kernel
theorem dX3_corrections_15 : decode cX3_corrections 15 = .ok (.invokevirtual 163, 3) := by decide +kernel
theorem dX3_corrections_18 : decode cX3_corrections 18 = .ok (.iadd, 1) := by decide +kernel
theorem dX3_corrections_19 : decode cX3_corrections 19 = .ok (.istore_n 1, 1) := by decide +kernel
theorem dX3_corrections_20 : decode cX3_corrections 20 = .ok (.iinc 2 1, 3) := by decide +kernel
theorem dX3_corrections_23 : decode cX3_corrections 23 = .ok (.goto (-19), 3) := by decide +kernel
theorem dX3_corrections_26 : decode cX3_corrections 26 = .ok (.iload_n 1, 1) := by decide +kernel
theorem dX3_corrections_27 : decode cX3_corrections 27 = .ok (.ireturn, 1) := by decide +kernel
theorem dX3_doubtfulCells_0 : decode cX3_doubtfulCells 0 = .ok (.iconst 0, 1) := by decide +kernel
theorem dX3_doubtfulCells_1 : decode cX3_doubtfulCells 1 = .ok (.istore_n 3, 1) := by decide +kernel
theorem dX3_doubtfulCells_2 : decode cX3_doubtfulCells 2 = .ok (.iconst 0, 1) := by decide +kernel
theorem dX3_doubtfulCells_3 : decode cX3_doubtfulCells 3 = .ok (.istore 4, 2) := by decide +kernel
theorem dX3_doubtfulCells_5 : decode cX3_doubtfulCells 5 = .ok (.iload 4, 2) := by decide +kernel
theorem dX3_doubtfulCells_7 : decode cX3_doubtfulCells 7 = .ok (.iconst 4, 1) := by decide +kernel
theorem dX3_doubtfulCells_8 : decode cX3_doubtfulCells 8 = .ok (.if_icmp .ge 23, 3) := by decide +kernel
theorem dX3_doubtfulCells_11 : decode cX3_doubtfulCells 11 = .ok (.iload_n 3, 1) := by decide +kernel
theorem dX3_doubtfulCells_12 : decode cX3_doubtfulCells 12 = .ok (.aload_n 0, 1) := by decide +kernel
theorem dX3_doubtfulCells_13 : decode cX3_doubtfulCells 13 = .ok (.getfield 10, 3) := by decide +kernel
theorem dX3_doubtfulCells_16 : decode cX3_doubtfulCells 16 = .ok (.iload 4, 2) := by decide +kernel
theorem dX3_doubtfulCells_18 : decode cX3_doubtfulCells 18 = .ok (.iload_n 1, 1) := by decide +kernel
theorem dX3_doubtfulCells_19 : decode cX3_doubtfulCells 19 = .ok (.iload_n 2, 1) := by decide +kernel
theorem dX3_doubtfulCells_20 : decode cX3_doubtfulCells 20 = .ok (.invokevirtual 175, 3) := by decide +kernel
theorem dX3_doubtfulCells_23 : decode cX3_doubtfulCells 23 = .ok (.iadd, 1) := by decide +kernel
theorem dX3_doubtfulCells_24 : decode cX3_doubtfulCells 24 = .ok (.istore_n 3, 1) := by decide +kernel
theorem dX3_doubtfulCells_25 : decode cX3_doubtfulCells 25 = .ok (.iinc 4 1, 3) := by decide +kernel
theorem dX3_doubtfulCells_28 : decode cX3_doubtfulCells 28 = .ok (.goto (-23), 3) := by decide +kernel
theorem dX3_doubtfulCells_31 : decode cX3_doubtfulCells 31 = .ok (.iload_n 3, 1) := by decide +kernel
theorem dX3_doubtfulCells_32 : decode cX3_doubtfulCells 32 = .ok (.ireturn, 1) := by decide +kernel
theorem dX3_mostMeant_0 : decode cX3_mostMeant 0 = .ok (.aload_n 0, 1) := by decide +kernel
theorem dX3_mostMeant_1 : decode cX3_mostMeant 1 = .ok (.getfield 37, 3) := by decide +kernel
theorem dX3_mostMeant_4 : decode cX3_mostMeant 4 = .ok (.iconst 0, 1) := by decide +kernel
theorem dX3_mostMeant_5 : decode cX3_mostMeant 5 = .ok (.invokestatic 218, 3) := by decide +kernel
theorem dX3_mostMeant_8 : decode cX3_mostMeant 8 = .ok (.iload_n 2, 1) := by decide +kernel
theorem dX3_mostMeant_9 : decode cX3_mostMeant 9 = .ok (.istore 4, 2) := by decide +kernel
theorem dX3_mostMeant_11 : decode cX3_mostMeant 11 = .ok (.iload 4, 2) := by decide +kernel
theorem dX3_mostMeant_13 : decode cX3_mostMeant 13 = .ok (.iload_n 3, 1) := by decide +kernel
theorem dX3_mostMeant_14 : decode cX3_mostMeant 14 = .ok (.if_icmp .gt 47, 3) := by decide +kernel
theorem dX3_mostMeant_17 : decode cX3_mostMeant 17 = .ok (.aload_n 0, 1) := by decide +kernel
theorem dX3_mostMeant_18 : decode cX3_mostMeant 18 = .ok (.getfield 10, 3) := by decide +kernel
theorem dX3_mostMeant_21 : decode cX3_mostMeant 21 = .ok (.iload 4, 2) := by decide +kernel
theorem dX3_mostMeant_23 : decode cX3_mostMeant 23 = .ok (.iload_n 1, 1) := by decide +kernel
theorem dX3_mostMeant_24 : decode cX3_mostMeant 24 = .ok (.invokevirtual 135, 3) := by decide +kernel
theorem dX3_mostMeant_27 : decode cX3_mostMeant 27 = .ok (.istore 5, 2) := by decide +kernel
theorem dX3_mostMeant_29 : decode cX3_mostMeant 29 = .ok (.iload 5, 2) := by decide +kernel
theorem dX3_mostMeant_31 : decode cX3_mostMeant 31 = .ok (.ifCond .lt 24, 3) := by decide +kernel
theorem dX3_mostMeant_34 : decode cX3_mostMeant 34 = .ok (.iload 5, 2) := by decide +kernel
theorem dX3_mostMeant_36 : decode cX3_mostMeant 36 = .ok (.aload_n 0, 1) := by decide +kernel
theorem dX3_mostMeant_37 : decode cX3_mostMeant 37 = .ok (.getfield 37, 3) := by decide +kernel
theorem dX3_mostMeant_40 : decode cX3_mostMeant 40 = .ok (.arraylength, 1) := by decide +kernel
theorem dX3_mostMeant_41 : decode cX3_mostMeant 41 = .ok (.if_icmp .ge 14, 3) := by decide +kernel
theorem dX3_mostMeant_44 : decode cX3_mostMeant 44 = .ok (.aload_n 0, 1) := by decide +kernel
theorem dX3_mostMeant_45 : decode cX3_mostMeant 45 = .ok (.getfield 37, 3) := by decide +kernel
theorem dX3_mostMeant_48 : decode cX3_mostMeant 48 = .ok (.iload 5, 2) := by decide +kernel
theorem dX3_mostMeant_50 : decode cX3_mostMeant 50 = .ok (.dup2, 1) := by decide +kernel
theorem dX3_mostMeant_51 : decode cX3_mostMeant 51 = .ok (.iaload, 1) := by decide +kernel
theorem dX3_mostMeant_52 : decode cX3_mostMeant 52 = .ok (.iconst 1, 1) := by decide +kernel
theorem dX3_mostMeant_53 : decode cX3_mostMeant 53 = .ok (.iadd, 1) := by decide +kernel
theorem dX3_mostMeant_54 : decode cX3_mostMeant 54 = .ok (.iastore, 1) := by decide +kernel
theorem dX3_mostMeant_55 : decode cX3_mostMeant 55 = .ok (.iinc 4 1, 3) := by decide +kernel
theorem dX3_mostMeant_58 : decode cX3_mostMeant 58 = .ok (.goto (-47), 3) := by decide +kernel
theorem dX3_mostMeant_61 : decode cX3_mostMeant 61 = .ok (.bipush (-5), 2) := by decide +kernel
theorem dX3_mostMeant_63 : decode cX3_mostMeant 63 = .ok (.istore 4, 2) := by decide +kernel
theorem dX3_mostMeant_65 : decode cX3_mostMeant 65 = .ok (.iconst 0, 1) := by decide +kernel
theorem dX3_mostMeant_66 : decode cX3_mostMeant 66 = .ok (.istore 5, 2) := by decide +kernel
theorem dX3_mostMeant_68 : decode cX3_mostMeant 68 = .ok (.iconst 0, 1) := by decide +kernel
theorem dX3_mostMeant_69 : decode cX3_mostMeant 69 = .ok (.istore 6, 2) := by decide +kernel
theorem dX3_mostMeant_71 : decode cX3_mostMeant 71 = .ok (.iload 6, 2) := by decide +kernel
theorem dX3_mostMeant_73 : decode cX3_mostMeant 73 = .ok (.aload_n 0, 1) := by decide +kernel
theorem dX3_mostMeant_74 : decode cX3_mostMeant 74 = .ok (.getfield 37, 3) := by decide +kernel
theorem dX3_mostMeant_77 : decode cX3_mostMeant 77 = .ok (.arraylength, 1) := by decide +kernel
theorem dX3_mostMeant_78 : decode cX3_mostMeant 78 = .ok (.if_icmp .ge 34, 3) := by decide +kernel
theorem dX3_mostMeant_81 : decode cX3_mostMeant 81 = .ok (.aload_n 0, 1) := by decide +kernel
theorem dX3_mostMeant_82 : decode cX3_mostMeant 82 = .ok (.getfield 37, 3) := by decide +kernel
theorem dX3_mostMeant_85 : decode cX3_mostMeant 85 = .ok (.iload 6, 2) := by decide +kernel
theorem dX3_mostMeant_87 : decode cX3_mostMeant 87 = .ok (.iaload, 1) := by decide +kernel
theorem dX3_mostMeant_88 : decode cX3_mostMeant 88 = .ok (.iload 5, 2) := by decide +kernel
theorem dX3_mostMeant_90 : decode cX3_mostMeant 90 = .ok (.if_icmp .le 16, 3) := by decide +kernel
theorem dX3_mostMeant_93 : decode cX3_mostMeant 93 = .ok (.aload_n 0, 1) := by decide +kernel
theorem dX3_mostMeant_94 : decode cX3_mostMeant 94 = .ok (.getfield 37, 3) := by decide +kernel
theorem dX3_mostMeant_97 : decode cX3_mostMeant 97 = .ok (.iload 6, 2) := by decide +kernel
theorem dX3_mostMeant_99 : decode cX3_mostMeant 99 = .ok (.iaload, 1) := by decide +kernel
theorem dX3_mostMeant_100 : decode cX3_mostMeant 100 = .ok (.istore 5, 2) := by decide +kernel
theorem dX3_mostMeant_102 : decode cX3_mostMeant 102 = .ok (.iload 6, 2) := by decide +kernel
theorem dX3_mostMeant_104 : decode cX3_mostMeant 104 = .ok (.istore 4, 2) := by decide +kernel
theorem dX3_mostMeant_106 : decode cX3_mostMeant 106 = .ok (.iinc 6 1, 3) := by decide +kernel
theorem dX3_mostMeant_109 : decode cX3_mostMeant 109 = .ok (.goto (-38), 3) := by decide +kernel
theorem dX3_mostMeant_112 : decode cX3_mostMeant 112 = .ok (.iload 4, 2) := by decide +kernel
theorem dX3_mostMeant_114 : decode cX3_mostMeant 114 = .ok (.ireturn, 1) := by decide +kernel
theorem dX3_isColumn_0 : decode cX3_isColumn 0 = .ok (.iload_n 0, 1) := by decide +kernel
theorem dX3_isColumn_1 : decode cX3_isColumn 1 = .ok (.ifCond .lt 12, 3) := by decide +kernel
theorem dX3_isColumn_4 : decode cX3_isColumn 4 = .ok (.iload_n 0, 1) := by decide +kernel
theorem dX3_isColumn_5 : decode cX3_isColumn 5 = .ok (.iconst 4, 1) := by decide +kernel
theorem dX3_isColumn_6 : decode cX3_isColumn 6 = .ok (.if_icmp .ge 7, 3) := by decide +kernel
theorem dX3_isColumn_9 : decode cX3_isColumn 9 = .ok (.iconst 1, 1) := by decide +kernel
theorem dX3_isColumn_10 : decode cX3_isColumn 10 = .ok (.goto 4, 3) := by decide +kernel
theorem dX3_isColumn_13 : decode cX3_isColumn 13 = .ok (.iconst 0, 1) := by decide +kernel
theorem dX3_isColumn_14 : decode cX3_isColumn 14 = .ok (.ireturn, 1) := by decide +kernel
theorem dX3_isEntry_0 : decode cX3_isEntry 0 = .ok (.iload_n 1, 1) := by decide +kernel
theorem dX3_isEntry_1 : decode cX3_isEntry 1 = .ok (.bipush (-5), 2) := by decide +kernel
theorem dX3_isEntry_3 : decode cX3_isEntry 3 = .ok (.if_icmp .eq 24, 3) := by decide +kernel
theorem dX3_isEntry_6 : decode cX3_isEntry 6 = .ok (.iload_n 1, 1) := by decide +kernel
theorem dX3_isEntry_7 : decode cX3_isEntry 7 = .ok (.bipush (-6), 2) := by decide +kernel
theorem dX3_isEntry_9 : decode cX3_isEntry 9 = .ok (.if_icmp .eq 18, 3) := by decide +kernel
theorem dX3_isEntry_12 : decode cX3_isEntry 12 = .ok (.iload_n 1, 1) := by decide +kernel
theorem dX3_isEntry_13 : decode cX3_isEntry 13 = .ok (.ifCond .lt 18, 3) := by decide +kernel
theorem dX3_isEntry_16 : decode cX3_isEntry 16 = .ok (.iload_n 1, 1) := by decide +kernel
theorem dX3_isEntry_17 : decode cX3_isEntry 17 = .ok (.getstatic 224, 3) := by decide +kernel
theorem dX3_isEntry_20 : decode cX3_isEntry 20 = .ok (.iload_n 0, 1) := by decide +kernel
theorem dX3_isEntry_21 : decode cX3_isEntry 21 = .ok (.invokestatic 105, 3) := by decide +kernel
theorem dX3_isEntry_24 : decode cX3_isEntry 24 = .ok (.if_icmp .gt 7, 3) := by decide +kernel
theorem dX3_isEntry_27 : decode cX3_isEntry 27 = .ok (.iconst 1, 1) := by decide +kernel
theorem dX3_isEntry_28 : decode cX3_isEntry 28 = .ok (.goto 4, 3) := by decide +kernel
theorem dX3_isEntry_31 : decode cX3_isEntry 31 = .ok (.iconst 0, 1) := by decide +kernel
theorem dX3_isEntry_32 : decode cX3_isEntry 32 = .ok (.ireturn, 1) := by decide +kernel
theorem dX3_at_0 : decode cX3_at 0 = .ok (.iload_n 1, 1) := by decide +kernel
theorem dX3_at_1 : decode cX3_at 1 = .ok (.ifCond .lt 15, 3) := by decide +kernel
theorem dX3_at_4 : decode cX3_at 4 = .ok (.iload_n 1, 1) := by decide +kernel
theorem dX3_at_5 : decode cX3_at 5 = .ok (.aload_n 0, 1) := by decide +kernel
theorem dX3_at_6 : decode cX3_at 6 = .ok (.arraylength, 1) := by decide +kernel
theorem dX3_at_7 : decode cX3_at 7 = .ok (.if_icmp .ge 9, 3) := by decide +kernel
theorem dX3_at_10 : decode cX3_at 10 = .ok (.aload_n 0, 1) := by decide +kernel
theorem dX3_at_11 : decode cX3_at 11 = .ok (.iload_n 1, 1) := by decide +kernel
theorem dX3_at_12 : decode cX3_at 12 = .ok (.iaload, 1) := by decide +kernel
theorem dX3_at_13 : decode cX3_at 13 = .ok (.goto 5, 3) := by decide +kernel
theorem dX3_at_16 : decode cX3_at 16 = .ok (.bipush (-5), 2) := by decide +kernel
theorem dX3_at_18 : decode cX3_at 18 = .ok (.ireturn, 1) := by decide +kernel
theorem dX3_copyInto_0 : decode cX3_copyInto 0 = .ok (.aload_n 0, 1) := by decide +kernel
theorem dX3_copyInto_1 : decode cX3_copyInto 1 = .ok (.iconst 0, 1) := by decide +kernel
theorem dX3_copyInto_2 : decode cX3_copyInto 2 = .ok (.aload_n 1, 1) := by decide +kernel
theorem dX3_copyInto_3 : decode cX3_copyInto 3 = .ok (.iconst 0, 1) := by decide +kernel
theorem dX3_copyInto_4 : decode cX3_copyInto 4 = .ok (.aload_n 0, 1) := by decide +kernel
theorem dX3_copyInto_5 : decode cX3_copyInto 5 = .ok (.arraylength, 1) := by decide +kernel
theorem dX3_copyInto_6 : decode cX3_copyInto 6 = .ok (.aload_n 1, 1) := by decide +kernel
theorem dX3_copyInto_7 : decode cX3_copyInto 7 = .ok (.arraylength, 1) := by decide +kernel
theorem dX3_copyInto_8 : decode cX3_copyInto 8 = .ok (.invokestatic 227, 3) := by decide +kernel
theorem dX3_copyInto_11 : decode cX3_copyInto 11 = .ok (.invokestatic 232, 3) := by decide +kernel
theorem dX3_copyInto_14 : decode cX3_copyInto 14 = .ok (.return_, 1) := by decide +kernel
theorem dX3_wayNorth_0 : decode cX3_wayNorth 0 = .ok (.iload_n 0, 1) := by decide +kernel
theorem dX3_wayNorth_1 : decode cX3_wayNorth 1 = .ok (.tableswitch 69 0 7 #[47, 49, 69, 53, 57, 61, 69, 65], 47) := by decide +kernel
theorem dX3_wayNorth_48 : decode cX3_wayNorth 48 = .ok (.dconst 1, 1) := by decide +kernel
theorem dX3_wayNorth_49 : decode cX3_wayNorth 49 = .ok (.dreturn, 1) := by decide +kernel
theorem dX3_wayNorth_50 : decode cX3_wayNorth 50 = .ok (.ldc2_w 238, 3) := by decide +kernel
theorem dX3_wayNorth_53 : decode cX3_wayNorth 53 = .ok (.dreturn, 1) := by decide +kernel
theorem dX3_wayNorth_54 : decode cX3_wayNorth 54 = .ok (.ldc2_w 240, 3) := by decide +kernel
theorem dX3_wayNorth_57 : decode cX3_wayNorth 57 = .ok (.dreturn, 1) := by decide +kernel
theorem dX3_wayNorth_58 : decode cX3_wayNorth 58 = .ok (.ldc2_w 242, 3) := by decide +kernel
theorem dX3_wayNorth_61 : decode cX3_wayNorth 61 = .ok (.dreturn, 1) := by decide +kernel
theorem dX3_wayNorth_62 : decode cX3_wayNorth 62 = .ok (.ldc2_w 240, 3) := by decide +kernel
theorem dX3_wayNorth_65 : decode cX3_wayNorth 65 = .ok (.dreturn, 1) := by decide +kernel
theorem dX3_wayNorth_66 : decode cX3_wayNorth 66 = .ok (.ldc2_w 238, 3) := by decide +kernel
theorem dX3_wayNorth_69 : decode cX3_wayNorth 69 = .ok (.dreturn, 1) := by decide +kernel
theorem dX3_wayNorth_70 : decode cX3_wayNorth 70 = .ok (.dconst 0, 1) := by decide +kernel
theorem dX3_wayNorth_71 : decode cX3_wayNorth 71 = .ok (.dreturn, 1) := by decide +kernel
theorem dX3_bitsOf_0 : decode cX3_bitsOf 0 = .ok (.fload_n 0, 1) := by decide +kernel
theorem dX3_bitsOf_1 : decode cX3_bitsOf 1 = .ok (.f2d, 1) := by decide +kernel
theorem dX3_bitsOf_2 : decode cX3_bitsOf 2 = .ok (.dstore_n 1, 1) := by decide +kernel
theorem dX3_bitsOf_3 : decode cX3_bitsOf 3 = .ok (.bipush 126, 2) := by decide +kernel
theorem dX3_bitsOf_5 : decode cX3_bitsOf 5 = .ok (.istore_n 3, 1) := by decide +kernel
theorem dX3_bitsOf_6 : decode cX3_bitsOf 6 = .ok (.iconst 0, 1) := by decide +kernel
theorem dX3_bitsOf_7 : decode cX3_bitsOf 7 = .ok (.istore 4, 2) := by decide +kernel
theorem dX3_bitsOf_9 : decode cX3_bitsOf 9 = .ok (.iload 4, 2) := by decide +kernel
theorem dX3_bitsOf_11 : decode cX3_bitsOf 11 = .ok (.bipush 127, 2) := by decide +kernel
theorem dX3_bitsOf_13 : decode cX3_bitsOf 13 = .ok (.if_icmp .ge 26, 3) := by decide +kernel
theorem dX3_bitsOf_16 : decode cX3_bitsOf 16 = .ok (.dload_n 1, 1) := by decide +kernel
theorem dX3_bitsOf_17 : decode cX3_bitsOf 17 = .ok (.ldc2_w 244, 3) := by decide +kernel
theorem dX3_bitsOf_20 : decode cX3_bitsOf 20 = .ok (.dcmp .l, 1) := by decide +kernel
theorem dX3_bitsOf_21 : decode cX3_bitsOf 21 = .ok (.ifCond .lt 18, 3) := by decide +kernel
theorem dX3_bitsOf_24 : decode cX3_bitsOf 24 = .ok (.dload_n 1, 1) := by decide +kernel
theorem dX3_bitsOf_25 : decode cX3_bitsOf 25 = .ok (.ldc2_w 244, 3) := by decide +kernel
theorem dX3_bitsOf_28 : decode cX3_bitsOf 28 = .ok (.ddiv, 1) := by decide +kernel
theorem dX3_bitsOf_29 : decode cX3_bitsOf 29 = .ok (.dstore_n 1, 1) := by decide +kernel
theorem dX3_bitsOf_30 : decode cX3_bitsOf 30 = .ok (.iinc 3 1, 3) := by decide +kernel
theorem dX3_bitsOf_33 : decode cX3_bitsOf 33 = .ok (.iinc 4 1, 3) := by decide +kernel
theorem dX3_bitsOf_36 : decode cX3_bitsOf 36 = .ok (.goto (-27), 3) := by decide +kernel
theorem dX3_bitsOf_39 : decode cX3_bitsOf 39 = .ok (.iconst 0, 1) := by decide +kernel
theorem dX3_bitsOf_40 : decode cX3_bitsOf 40 = .ok (.istore 4, 2) := by decide +kernel
theorem dX3_bitsOf_42 : decode cX3_bitsOf 42 = .ok (.iload 4, 2) := by decide +kernel
theorem dX3_bitsOf_44 : decode cX3_bitsOf 44 = .ok (.bipush 126, 2) := by decide +kernel
theorem dX3_bitsOf_46 : decode cX3_bitsOf 46 = .ok (.if_icmp .ge 24, 3) := by decide +kernel
theorem dX3_bitsOf_49 : decode cX3_bitsOf 49 = .ok (.dload_n 1, 1) := by decide +kernel
theorem dX3_bitsOf_50 : decode cX3_bitsOf 50 = .ok (.dconst 1, 1) := by decide +kernel
theorem dX3_bitsOf_51 : decode cX3_bitsOf 51 = .ok (.dcmp .g, 1) := by decide +kernel
theorem dX3_bitsOf_52 : decode cX3_bitsOf 52 = .ok (.ifCond .ge 18, 3) := by decide +kernel
theorem dX3_bitsOf_55 : decode cX3_bitsOf 55 = .ok (.dload_n 1, 1) := by decide +kernel
theorem dX3_bitsOf_56 : decode cX3_bitsOf 56 = .ok (.ldc2_w 244, 3) := by decide +kernel
theorem dX3_bitsOf_59 : decode cX3_bitsOf 59 = .ok (.dmul, 1) := by decide +kernel
theorem dX3_bitsOf_60 : decode cX3_bitsOf 60 = .ok (.dstore_n 1, 1) := by decide +kernel
theorem dX3_bitsOf_61 : decode cX3_bitsOf 61 = .ok (.iinc 3 (-1), 3) := by decide +kernel
theorem dX3_bitsOf_64 : decode cX3_bitsOf 64 = .ok (.iinc 4 1, 3) := by decide +kernel
theorem dX3_bitsOf_67 : decode cX3_bitsOf 67 = .ok (.goto (-25), 3) := by decide +kernel
theorem dX3_bitsOf_70 : decode cX3_bitsOf 70 = .ok (.iload_n 3, 1) := by decide +kernel
theorem dX3_bitsOf_71 : decode cX3_bitsOf 71 = .ok (.bipush 23, 2) := by decide +kernel
theorem dX3_bitsOf_73 : decode cX3_bitsOf 73 = .ok (.ishl, 1) := by decide +kernel
theorem dX3_bitsOf_74 : decode cX3_bitsOf 74 = .ok (.dload_n 1, 1) := by decide +kernel
theorem dX3_bitsOf_75 : decode cX3_bitsOf 75 = .ok (.ldc2_w 246, 3) := by decide +kernel
theorem dX3_bitsOf_78 : decode cX3_bitsOf 78 = .ok (.dmul, 1) := by decide +kernel
theorem dX3_bitsOf_79 : decode cX3_bitsOf 79 = .ok (.d2i, 1) := by decide +kernel
theorem dX3_bitsOf_80 : decode cX3_bitsOf 80 = .ok (.iadd, 1) := by decide +kernel
theorem dX3_bitsOf_81 : decode cX3_bitsOf 81 = .ok (.ireturn, 1) := by decide +kernel

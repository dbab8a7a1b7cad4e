theorem dX4_init_0 : decode cX4_init 0 = .ok (.aload_n 0, 1) := by decide +kernel
theorem dX4_init_1 : decode cX4_init 1 = .ok (.invokespecial 1, 3) := by decide +kernel
theorem dX4_init_4 : decode cX4_init 4 = .ok (.aload_n 0, 1) := by decide +kernel
theorem dX4_init_5 : decode cX4_init 5 = .ok (.sipush 988, 3) := by decide +kernel
theorem dX4_init_8 : decode cX4_init 8 = .ok (.newarray .int, 2) := by decide +kernel
theorem dX4_init_10 : decode cX4_init 10 = .ok (.putfield 7, 3) := by decide +kernel
theorem dX4_init_13 : decode cX4_init 13 = .ok (.aload_n 0, 1) := by decide +kernel
theorem dX4_init_14 : decode cX4_init 14 = .ok (.sipush 3952, 3) := by decide +kernel
theorem dX4_init_17 : decode cX4_init 17 = .ok (.newarray .int, 2) := by decide +kernel
theorem dX4_init_19 : decode cX4_init 19 = .ok (.putfield 13, 3) := by decide +kernel
theorem dX4_init_22 : decode cX4_init 22 = .ok (.aload_n 0, 1) := by decide +kernel
theorem dX4_init_23 : decode cX4_init 23 = .ok (.sipush 988, 3) := by decide +kernel
theorem dX4_init_26 : decode cX4_init 26 = .ok (.newarray .int, 2) := by decide +kernel
theorem dX4_init_28 : decode cX4_init 28 = .ok (.putfield 16, 3) := by decide +kernel
theorem dX4_init_31 : decode cX4_init 31 = .ok (.aload_n 0, 1) := by decide +kernel
theorem dX4_init_32 : decode cX4_init 32 = .ok (.bipush 60, 2) := by decide +kernel
theorem dX4_init_34 : decode cX4_init 34 = .ok (.newarray .char, 2) := by decide +kernel
theorem dX4_init_36 : decode cX4_init 36 = .ok (.putfield 19, 3) := by decide +kernel
theorem dX4_init_39 : decode cX4_init 39 = .ok (.aload_n 0, 1) := by decide +kernel
theorem dX4_init_40 : decode cX4_init 40 = .ok (.bipush 48, 2) := by decide +kernel
theorem dX4_init_42 : decode cX4_init 42 = .ok (.newarray .int, 2) := by decide +kernel
theorem dX4_init_44 : decode cX4_init 44 = .ok (.putfield 23, 3) := by decide +kernel
theorem dX4_init_47 : decode cX4_init 47 = .ok (.aload_n 0, 1) := by decide +kernel
theorem dX4_init_48 : decode cX4_init 48 = .ok (.bipush 40, 2) := by decide +kernel
theorem dX4_init_50 : decode cX4_init 50 = .ok (.newarray .int, 2) := by decide +kernel
theorem dX4_init_52 : decode cX4_init 52 = .ok (.putfield 26, 3) := by decide +kernel
theorem dX4_init_55 : decode cX4_init 55 = .ok (.aload_n 0, 1) := by decide +kernel
theorem dX4_init_56 : decode cX4_init 56 = .ok (.getfield 7, 3) := by decide +kernel
theorem dX4_init_59 : decode cX4_init 59 = .ok (.iconst 1, 1) := by decide +kernel
theorem dX4_init_60 : decode cX4_init 60 = .ok (.bipush 12, 2) := by decide +kernel
theorem dX4_init_62 : decode cX4_init 62 = .ok (.iastore, 1) := by decide +kernel
theorem dX4_init_63 : decode cX4_init 63 = .ok (.aload_n 0, 1) := by decide +kernel
theorem dX4_init_64 : decode cX4_init 64 = .ok (.getfield 7, 3) := by decide +kernel
theorem dX4_init_67 : decode cX4_init 67 = .ok (.iconst 3, 1) := by decide +kernel
theorem dX4_init_68 : decode cX4_init 68 = .ok (.iconst 4, 1) := by decide +kernel
theorem dX4_init_69 : decode cX4_init 69 = .ok (.iastore, 1) := by decide +kernel
theorem dX4_init_70 : decode cX4_init 70 = .ok (.iconst 0, 1) := by decide +kernel
theorem dX4_init_71 : decode cX4_init 71 = .ok (.istore_n 1, 1) := by decide +kernel
theorem dX4_init_72 : decode cX4_init 72 = .ok (.iload_n 1, 1) := by decide +kernel
theorem dX4_init_73 : decode cX4_init 73 = .ok (.bipush 24, 2) := by decide +kernel
theorem dX4_init_75 : decode cX4_init 75 = .ok (.if_icmp .ge 19, 3) := by decide +kernel
theorem dX4_init_78 : decode cX4_init 78 = .ok (.aload_n 0, 1) := by decide +kernel
theorem dX4_init_79 : decode cX4_init 79 = .ok (.getfield 7, 3) := by decide +kernel
theorem dX4_init_82 : decode cX4_init 82 = .ok (.iconst 4, 1) := by decide +kernel
theorem dX4_init_83 : decode cX4_init 83 = .ok (.iload_n 1, 1) := by decide +kernel
theorem dX4_init_84 : decode cX4_init 84 = .ok (.iadd, 1) := by decide +kernel
theorem dX4_init_85 : decode cX4_init 85 = .ok (.bipush (-5), 2) := by decide +kernel
theorem dX4_init_87 : decode cX4_init 87 = .ok (.iastore, 1) := by decide +kernel
theorem dX4_init_88 : decode cX4_init 88 = .ok (.iinc 1 1, 3) := by decide +kernel
theorem dX4_init_91 : decode cX4_init 91 = .ok (.goto (-19), 3) := by decide +kernel
theorem dX4_init_94 : decode cX4_init 94 = .ok (.return_, 1) := by decide +kernel
theorem dX4_in_0 : decode cX4_in 0 = .ok (.iload_n 0, 1) := by decide +kernel
theorem dX4_in_1 : decode cX4_in 1 = .ok (.iload_n 1, 1) := by decide +kernel
theorem dX4_in_2 : decode cX4_in 2 = .ok (.if_icmp .lt 12, 3) := by decide +kernel
theorem dX4_in_5 : decode cX4_in 5 = .ok (.iload_n 0, 1) := by decide +kernel
theorem dX4_in_6 : decode cX4_in 6 = .ok (.iload_n 2, 1) := by decide +kernel
theorem dX4_in_7 : decode cX4_in 7 = .ok (.if_icmp .gt 7, 3) := by decide +kernel
theorem dX4_in_10 : decode cX4_in 10 = .ok (.iconst 1, 1) := by decide +kernel
theorem dX4_in_11 : decode cX4_in 11 = .ok (.goto 4, 3) := by decide +kernel
theorem dX4_in_14 : decode cX4_in 14 = .ok (.iconst 0, 1) := by decide +kernel
theorem dX4_in_15 : decode cX4_in 15 = .ok (.ireturn, 1) := by decide +kernel
theorem dX4_lays_0 : decode cX4_lays 0 = .ok (.iconst 0, 1) := by decide +kernel
theorem dX4_lays_1 : decode cX4_lays 1 = .ok (.istore 4, 2) := by decide +kernel
theorem dX4_lays_3 : decode cX4_lays 3 = .ok (.iload 4, 2) := by decide +kernel
theorem dX4_lays_5 : decode cX4_lays 5 = .ok (.sipush 988, 3) := by decide +kernel
theorem dX4_lays_8 : decode cX4_lays 8 = .ok (.if_icmp .ge 21, 3) := by decide +kernel
theorem dX4_lays_11 : decode cX4_lays 11 = .ok (.aload_n 2, 1) := by decide +kernel
theorem dX4_lays_12 : decode cX4_lays 12 = .ok (.iload_n 3, 1) := by decide +kernel
theorem dX4_lays_13 : decode cX4_lays 13 = .ok (.iload 4, 2) := by decide +kernel
theorem dX4_lays_15 : decode cX4_lays 15 = .ok (.iadd, 1) := by decide +kernel
theorem dX4_lays_16 : decode cX4_lays 16 = .ok (.aload_n 0, 1) := by decide +kernel
theorem dX4_lays_17 : decode cX4_lays 17 = .ok (.iload_n 1, 1) := by decide +kernel
theorem dX4_lays_18 : decode cX4_lays 18 = .ok (.iload 4, 2) := by decide +kernel
theorem dX4_lays_20 : decode cX4_lays 20 = .ok (.iadd, 1) := by decide +kernel
theorem dX4_lays_21 : decode cX4_lays 21 = .ok (.iaload, 1) := by decide +kernel
theorem dX4_lays_22 : decode cX4_lays 22 = .ok (.iastore, 1) := by decide +kernel
theorem dX4_lays_23 : decode cX4_lays 23 = .ok (.iinc 4 1, 3) := by decide +kernel
theorem dX4_lays_26 : decode cX4_lays 26 = .ok (.goto (-23), 3) := by decide +kernel
theorem dX4_lays_29 : decode cX4_lays 29 = .ok (.return_, 1) := by decide +kernel
theorem dX4_records_0 : decode cX4_records 0 = .ok (.aload_n 0, 1) := by decide +kernel
theorem dX4_records_1 : decode cX4_records 1 = .ok (.getfield 29, 3) := by decide +kernel
theorem dX4_records_4 : decode cX4_records 4 = .ok (.iconst 4, 1) := by decide +kernel
theorem dX4_records_5 : decode cX4_records 5 = .ok (.if_icmp .ne 44, 3) := by decide +kernel
theorem dX4_records_8 : decode cX4_records 8 = .ok (.iconst 0, 1) := by decide +kernel
theorem dX4_records_9 : decode cX4_records 9 = .ok (.istore_n 1, 1) := by decide +kernel
theorem dX4_records_10 : decode cX4_records 10 = .ok (.iload_n 1, 1) := by decide +kernel
theorem dX4_records_11 : decode cX4_records 11 = .ok (.sipush 2964, 3) := by decide +kernel
theorem dX4_records_14 : decode cX4_records 14 = .ok (.if_icmp .ge 25, 3) := by decide +kernel
theorem dX4_records_17 : decode cX4_records 17 = .ok (.aload_n 0, 1) := by decide +kernel
theorem dX4_records_18 : decode cX4_records 18 = .ok (.getfield 13, 3) := by decide +kernel
theorem dX4_records_21 : decode cX4_records 21 = .ok (.iload_n 1, 1) := by decide +kernel
theorem dX4_records_22 : decode cX4_records 22 = .ok (.aload_n 0, 1) := by decide +kernel
theorem dX4_records_23 : decode cX4_records 23 = .ok (.getfield 13, 3) := by decide +kernel
theorem dX4_records_26 : decode cX4_records 26 = .ok (.iload_n 1, 1) := by decide +kernel
theorem dX4_records_27 : decode cX4_records 27 = .ok (.sipush 988, 3) := by decide +kernel
theorem dX4_records_30 : decode cX4_records 30 = .ok (.iadd, 1) := by decide +kernel
theorem dX4_records_31 : decode cX4_records 31 = .ok (.iaload, 1) := by decide +kernel
theorem dX4_records_32 : decode cX4_records 32 = .ok (.iastore, 1) := by decide +kernel
theorem dX4_records_33 : decode cX4_records 33 = .ok (.iinc 1 1, 3) := by decide +kernel
theorem dX4_records_36 : decode cX4_records 36 = .ok (.goto (-26), 3) := by decide +kernel
theorem dX4_records_39 : decode cX4_records 39 = .ok (.aload_n 0, 1) := by decide +kernel
theorem dX4_records_40 : decode cX4_records 40 = .ok (.dup, 1) := by decide +kernel
theorem dX4_records_41 : decode cX4_records 41 = .ok (.getfield 29, 3) := by decide +kernel
theorem dX4_records_44 : decode cX4_records 44 = .ok (.iconst 1, 1) := by decide +kernel
theorem dX4_records_45 : decode cX4_records 45 = .ok (.isub, 1) := by decide +kernel
theorem dX4_records_46 : decode cX4_records 46 = .ok (.putfield 29, 3) := by decide +kernel
theorem dX4_records_49 : decode cX4_records 49 = .ok (.aload_n 0, 1) := by decide +kernel
theorem dX4_records_50 : decode cX4_records 50 = .ok (.getfield 7, 3) := by decide +kernel
theorem dX4_records_53 : decode cX4_records 53 = .ok (.iconst 0, 1) := by decide +kernel
theorem dX4_records_54 : decode cX4_records 54 = .ok (.aload_n 0, 1) := by decide +kernel
theorem dX4_records_55 : decode cX4_records 55 = .ok (.getfield 13, 3) := by decide +kernel
theorem dX4_records_58 : decode cX4_records 58 = .ok (.sipush 988, 3) := by decide +kernel
theorem dX4_records_61 : decode cX4_records 61 = .ok (.aload_n 0, 1) := by decide +kernel
theorem dX4_records_62 : decode cX4_records 62 = .ok (.getfield 29, 3) := by decide +kernel
theorem dX4_records_65 : decode cX4_records 65 = .ok (.imul, 1) := by decide +kernel
theorem dX4_records_66 : decode cX4_records 66 = .ok (.invokestatic 33, 3) := by decide +kernel
theorem dX4_records_69 : decode cX4_records 69 = .ok (.aload_n 0, 1) := by decide +kernel
theorem dX4_records_70 : decode cX4_records 70 = .ok (.dup, 1) := by decide +kernel
theorem dX4_records_71 : decode cX4_records 71 = .ok (.getfield 29, 3) := by decide +kernel
theorem dX4_records_74 : decode cX4_records 74 = .ok (.iconst 1, 1) := by decide +kernel
theorem dX4_records_75 : decode cX4_records 75 = .ok (.iadd, 1) := by decide +kernel
theorem dX4_records_76 : decode cX4_records 76 = .ok (.putfield 29, 3) := by decide +kernel
theorem dX4_records_79 : decode cX4_records 79 = .ok (.return_, 1) := by decide +kernel
theorem dX4_isRow_0 : decode cX4_isRow 0 = .ok (.iload_n 1, 1) := by decide +kernel
theorem dX4_isRow_1 : decode cX4_isRow 1 = .ok (.iconst 0, 1) := by decide +kernel
theorem dX4_isRow_2 : decode cX4_isRow 2 = .ok (.aload_n 0, 1) := by decide +kernel
theorem dX4_isRow_3 : decode cX4_isRow 3 = .ok (.getfield 7, 3) := by decide +kernel
theorem dX4_isRow_6 : decode cX4_isRow 6 = .ok (.iconst 0, 1) := by decide +kernel
theorem dX4_isRow_7 : decode cX4_isRow 7 = .ok (.iaload, 1) := by decide +kernel
theorem dX4_isRow_8 : decode cX4_isRow 8 = .ok (.iconst 1, 1) := by decide +kernel
theorem dX4_isRow_9 : decode cX4_isRow 9 = .ok (.isub, 1) := by decide +kernel
theorem dX4_isRow_10 : decode cX4_isRow 10 = .ok (.invokestatic 37, 3) := by decide +kernel
theorem dX4_isRow_13 : decode cX4_isRow 13 = .ok (.ireturn, 1) := by decide +kernel
theorem dX4_isColumn_0 : decode cX4_isColumn 0 = .ok (.iload_n 0, 1) := by decide +kernel
theorem dX4_isColumn_1 : decode cX4_isColumn 1 = .ok (.iconst 0, 1) := by decide +kernel
theorem dX4_isColumn_2 : decode cX4_isColumn 2 = .ok (.iconst 3, 1) := by decide +kernel
theorem dX4_isColumn_3 : decode cX4_isColumn 3 = .ok (.invokestatic 37, 3) := by decide +kernel
theorem dX4_isColumn_6 : decode cX4_isColumn 6 = .ok (.ireturn, 1) := by decide +kernel
theorem dX4_isCell_0 : decode cX4_isCell 0 = .ok (.aload_n 0, 1) := by decide +kernel
theorem dX4_isCell_1 : decode cX4_isCell 1 = .ok (.iload_n 1, 1) := by decide +kernel
theorem dX4_isCell_2 : decode cX4_isCell 2 = .ok (.invokevirtual 41, 3) := by decide +kernel
theorem dX4_isCell_5 : decode cX4_isCell 5 = .ok (.ifCond .eq 14, 3) := by decide +kernel
theorem dX4_isCell_8 : decode cX4_isCell 8 = .ok (.iload_n 2, 1) := by decide +kernel
theorem dX4_isCell_9 : decode cX4_isCell 9 = .ok (.invokestatic 45, 3) := by decide +kernel
theorem dX4_isCell_12 : decode cX4_isCell 12 = .ok (.ifCond .eq 7, 3) := by decide +kernel
theorem dX4_isCell_15 : decode cX4_isCell 15 = .ok (.iconst 1, 1) := by decide +kernel
theorem dX4_isCell_16 : decode cX4_isCell 16 = .ok (.goto 4, 3) := by decide +kernel
theorem dX4_isCell_19 : decode cX4_isCell 19 = .ok (.iconst 0, 1) := by decide +kernel
theorem dX4_isCell_20 : decode cX4_isCell 20 = .ok (.ireturn, 1) := by decide +kernel
theorem dX4_most_0 : decode cX4_most 0 = .ok (.iload_n 0, 1) := by decide +kernel
theorem dX4_most_1 : decode cX4_most 1 = .ok (.ifCond .ne 8, 3) := by decide +kernel
theorem dX4_most_4 : decode cX4_most 4 = .ok (.bipush 7, 2) := by decide +kernel
theorem dX4_most_6 : decode cX4_most 6 = .ok (.goto 26, 3) := by decide +kernel
theorem dX4_most_9 : decode cX4_most 9 = .ok (.iload_n 0, 1) := by decide +kernel
theorem dX4_most_10 : decode cX4_most 10 = .ok (.iconst 1, 1) := by decide +kernel
theorem dX4_most_11 : decode cX4_most 11 = .ok (.if_icmp .ne 9, 3) := by decide +kernel
theorem dX4_most_14 : decode cX4_most 14 = .ok (.sipush 199, 3) := by decide +kernel
theorem dX4_most_17 : decode cX4_most 17 = .ok (.goto 15, 3) := by decide +kernel
theorem dX4_most_20 : decode cX4_most 20 = .ok (.iload_n 0, 1) := by decide +kernel
theorem dX4_most_21 : decode cX4_most 21 = .ok (.iconst 3, 1) := by decide +kernel
theorem dX4_most_22 : decode cX4_most 22 = .ok (.if_icmp .ne 8, 3) := by decide +kernel
theorem dX4_most_25 : decode cX4_most 25 = .ok (.bipush 9, 2) := by decide +kernel
theorem dX4_most_27 : decode cX4_most 27 = .ok (.goto 5, 3) := by decide +kernel
theorem dX4_most_30 : decode cX4_most 30 = .ok (.bipush 12, 2) := by decide +kernel
theorem dX4_most_32 : decode cX4_most 32 = .ok (.ireturn, 1) := by decide +kernel
theorem dX4_isEntry_0 : decode cX4_isEntry 0 = .ok (.iload_n 1, 1) := by decide +kernel
theorem dX4_isEntry_1 : decode cX4_isEntry 1 = .ok (.bipush (-5), 2) := by decide +kernel
theorem dX4_isEntry_3 : decode cX4_isEntry 3 = .ok (.if_icmp .eq 21, 3) := by decide +kernel
theorem dX4_isEntry_6 : decode cX4_isEntry 6 = .ok (.iload_n 1, 1) := by decide +kernel
theorem dX4_isEntry_7 : decode cX4_isEntry 7 = .ok (.bipush (-6), 2) := by decide +kernel
theorem dX4_isEntry_9 : decode cX4_isEntry 9 = .ok (.if_icmp .eq 15, 3) := by decide +kernel
theorem dX4_isEntry_12 : decode cX4_isEntry 12 = .ok (.iload_n 1, 1) := by decide +kernel
theorem dX4_isEntry_13 : decode cX4_isEntry 13 = .ok (.iconst 0, 1) := by decide +kernel
theorem dX4_isEntry_14 : decode cX4_isEntry 14 = .ok (.iload_n 0, 1) := by decide +kernel
theorem dX4_isEntry_15 : decode cX4_isEntry 15 = .ok (.invokestatic 48, 3) := by decide +kernel
theorem dX4_isEntry_18 : decode cX4_isEntry 18 = .ok (.invokestatic 37, 3) := by decide +kernel
theorem dX4_isEntry_21 : decode cX4_isEntry 21 = .ok (.ifCond .eq 7, 3) := by decide +kernel
theorem dX4_isEntry_24 : decode cX4_isEntry 24 = .ok (.iconst 1, 1) := by decide +kernel
theorem dX4_isEntry_25 : decode cX4_isEntry 25 = .ok (.goto 4, 3) := by decide +kernel
theorem dX4_isEntry_28 : decode cX4_isEntry 28 = .ok (.iconst 0, 1) := by decide +kernel
theorem dX4_isEntry_29 : decode cX4_isEntry 29 = .ok (.ireturn, 1) := by decide +kernel
theorem dX4_cellAt_0 : decode cX4_cellAt 0 = .ok (.bipush 28, 2) := by decide +kernel
theorem dX4_cellAt_2 : decode cX4_cellAt 2 = .ok (.iconst 5, 1) := by decide +kernel
theorem dX4_cellAt_3 : decode cX4_cellAt 3 = .ok (.iconst 4, 1) := by decide +kernel
theorem dX4_cellAt_4 : decode cX4_cellAt 4 = .ok (.iload_n 0, 1) := by decide +kernel
theorem dX4_cellAt_5 : decode cX4_cellAt 5 = .ok (.imul, 1) := by decide +kernel
theorem dX4_cellAt_6 : decode cX4_cellAt 6 = .ok (.iload_n 1, 1) := by decide +kernel
theorem dX4_cellAt_7 : decode cX4_cellAt 7 = .ok (.iadd, 1) := by decide +kernel
theorem dX4_cellAt_8 : decode cX4_cellAt 8 = .ok (.imul, 1) := by decide +kernel
theorem dX4_cellAt_9 : decode cX4_cellAt 9 = .ok (.iadd, 1) := by decide +kernel
theorem dX4_cellAt_10 : decode cX4_cellAt 10 = .ok (.ireturn, 1) := by decide +kernel
theorem dX4_entries_0 : decode cX4_entries 0 = .ok (.aload_n 0, 1) := by decide +kernel
theorem dX4_entries_1 : decode cX4_entries 1 = .ok (.getfield 7, 3) := by decide +kernel
theorem dX4_entries_4 : decode cX4_entries 4 = .ok (.iload_n 1, 1) := by decide +kernel
theorem dX4_entries_5 : decode cX4_entries 5 = .ok (.iload_n 2, 1) := by decide +kernel
theorem dX4_entries_6 : decode cX4_entries 6 = .ok (.invokestatic 52, 3) := by decide +kernel
theorem dX4_entries_9 : decode cX4_entries 9 = .ok (.iaload, 1) := by decide +kernel
theorem dX4_entries_10 : decode cX4_entries 10 = .ok (.ireturn, 1) := by decide +kernel
theorem dX4_latest_0 : decode cX4_latest 0 = .ok (.aload_n 0, 1) := by decide +kernel
theorem dX4_latest_1 : decode cX4_latest 1 = .ok (.getfield 7, 3) := by decide +kernel
theorem dX4_latest_4 : decode cX4_latest 4 = .ok (.iload_n 1, 1) := by decide +kernel
theorem dX4_latest_5 : decode cX4_latest 5 = .ok (.iload_n 2, 1) := by decide +kernel
theorem dX4_latest_6 : decode cX4_latest 6 = .ok (.invokestatic 52, 3) := by decide +kernel
theorem dX4_latest_9 : decode cX4_latest 9 = .ok (.aload_n 0, 1) := by decide +kernel
theorem dX4_latest_10 : decode cX4_latest 10 = .ok (.iload_n 1, 1) := by decide +kernel
theorem dX4_latest_11 : decode cX4_latest 11 = .ok (.iload_n 2, 1) := by decide +kernel
theorem dX4_latest_12 : decode cX4_latest 12 = .ok (.invokevirtual 56, 3) := by decide +kernel
theorem dX4_latest_15 : decode cX4_latest 15 = .ok (.iadd, 1) := by decide +kernel
theorem dX4_latest_16 : decode cX4_latest 16 = .ok (.iaload, 1) := by decide +kernel
theorem dX4_latest_17 : decode cX4_latest 17 = .ok (.ireturn, 1) := by decide +kernel
theorem dX4_goesUp_0 : decode cX4_goesUp 0 = .ok (.iload_n 1, 1) := by decide +kernel
theorem dX4_goesUp_1 : decode cX4_goesUp 1 = .ok (.ifCond .eq 24, 3) := by decide +kernel
theorem dX4_goesUp_4 : decode cX4_goesUp 4 = .ok (.aload_n 0, 1) := by decide +kernel
theorem dX4_goesUp_5 : decode cX4_goesUp 5 = .ok (.getfield 7, 3) := by decide +kernel
theorem dX4_goesUp_8 : decode cX4_goesUp 8 = .ok (.iconst 2, 1) := by decide +kernel
theorem dX4_goesUp_9 : decode cX4_goesUp 9 = .ok (.iaload, 1) := by decide +kernel
theorem dX4_goesUp_10 : decode cX4_goesUp 10 = .ok (.iconst 1, 1) := by decide +kernel
theorem dX4_goesUp_11 : decode cX4_goesUp 11 = .ok (.if_icmp .ne 18, 3) := by decide +kernel
theorem dX4_goesUp_14 : decode cX4_goesUp 14 = .ok (.iload_n 1, 1) := by decide +kernel
theorem dX4_goesUp_15 : decode cX4_goesUp 15 = .ok (.aload_n 0, 1) := by decide +kernel
theorem dX4_goesUp_16 : decode cX4_goesUp 16 = .ok (.getfield 7, 3) := by decide +kernel
theorem dX4_goesUp_19 : decode cX4_goesUp 19 = .ok (.iconst 1, 1) := by decide +kernel
theorem dX4_goesUp_20 : decode cX4_goesUp 20 = .ok (.iaload, 1) := by decide +kernel
theorem dX4_goesUp_21 : decode cX4_goesUp 21 = .ok (.irem, 1) := by decide +kernel
theorem dX4_goesUp_22 : decode cX4_goesUp 22 = .ok (.ifCond .ne 7, 3) := by decide +kernel
theorem dX4_goesUp_25 : decode cX4_goesUp 25 = .ok (.iconst 1, 1) := by decide +kernel
theorem dX4_goesUp_26 : decode cX4_goesUp 26 = .ok (.goto 4, 3) := by decide +kernel
theorem dX4_goesUp_29 : decode cX4_goesUp 29 = .ok (.iconst 0, 1) := by decide +kernel
theorem dX4_goesUp_30 : decode cX4_goesUp 30 = .ok (.istore_n 3, 1) := by decide +kernel
theorem dX4_goesUp_31 : decode cX4_goesUp 31 = .ok (.aload_n 0, 1) := by decide +kernel
theorem dX4_goesUp_32 : decode cX4_goesUp 32 = .ok (.iload_n 1, 1) := by decide +kernel
theorem dX4_goesUp_33 : decode cX4_goesUp 33 = .ok (.iload_n 2, 1) := by decide +kernel
theorem dX4_goesUp_34 : decode cX4_goesUp 34 = .ok (.invokevirtual 59, 3) := by decide +kernel
theorem dX4_goesUp_37 : decode cX4_goesUp 37 = .ok (.bipush (-6), 2) := by decide +kernel
theorem dX4_goesUp_39 : decode cX4_goesUp 39 = .ok (.if_icmp .ne 11, 3) := by decide +kernel
theorem dX4_goesUp_42 : decode cX4_goesUp 42 = .ok (.iload_n 3, 1) := by decide +kernel
theorem dX4_goesUp_43 : decode cX4_goesUp 43 = .ok (.ifCond .ne 7, 3) := by decide +kernel
theorem dX4_goesUp_46 : decode cX4_goesUp 46 = .ok (.iconst 1, 1) := by decide +kernel
theorem dX4_goesUp_47 : decode cX4_goesUp 47 = .ok (.goto 4, 3) := by decide +kernel
theorem dX4_goesUp_50 : decode cX4_goesUp 50 = .ok (.iconst 0, 1) := by decide +kernel
theorem dX4_goesUp_51 : decode cX4_goesUp 51 = .ok (.ireturn, 1) := by decide +kernel
theorem dX4_end_0 : decode cX4_end 0 = .ok (.iload_n 1, 1) := by decide +kernel
theorem dX4_end_1 : decode cX4_end 1 = .ok (.istore_n 3, 1) := by decide +kernel
theorem dX4_end_2 : decode cX4_end 2 = .ok (.aload_n 0, 1) := by decide +kernel
theorem dX4_end_3 : decode cX4_end 3 = .ok (.iload_n 3, 1) := by decide +kernel
theorem dX4_end_4 : decode cX4_end 4 = .ok (.iload_n 2, 1) := by decide +kernel
theorem dX4_end_5 : decode cX4_end 5 = .ok (.invokevirtual 62, 3) := by decide +kernel
theorem dX4_end_8 : decode cX4_end 8 = .ok (.ifCond .eq 9, 3) := by decide +kernel
theorem dX4_end_11 : decode cX4_end 11 = .ok (.iinc 3 (-1), 3) := by decide +kernel
theorem dX4_end_14 : decode cX4_end 14 = .ok (.goto (-12), 3) := by decide +kernel
theorem dX4_end_17 : decode cX4_end 17 = .ok (.iload_n 3, 1) := by decide +kernel
theorem dX4_end_18 : decode cX4_end 18 = .ok (.ireturn, 1) := by decide +kernel
theorem dX4_means_0 : decode cX4_means 0 = .ok (.aload_n 0, 1) := by decide +kernel
theorem dX4_means_1 : decode cX4_means 1 = .ok (.aload_n 0, 1) := by decide +kernel
theorem dX4_means_2 : decode cX4_means 2 = .ok (.iload_n 1, 1) := by decide +kernel
theorem dX4_means_3 : decode cX4_means 3 = .ok (.iload_n 2, 1) := by decide +kernel
theorem dX4_means_4 : decode cX4_means 4 = .ok (.invokevirtual 66, 3) := by decide +kernel
theorem dX4_means_7 : decode cX4_means 7 = .ok (.iload_n 2, 1) := by decide +kernel
theorem dX4_means_8 : decode cX4_means 8 = .ok (.invokevirtual 59, 3) := by decide +kernel
theorem dX4_means_11 : decode cX4_means 11 = .ok (.istore_n 3, 1) := by decide +kernel
theorem dX4_means_12 : decode cX4_means 12 = .ok (.iload_n 3, 1) := by decide +kernel
theorem dX4_means_13 : decode cX4_means 13 = .ok (.ifCond .lt 7, 3) := by decide +kernel
theorem dX4_means_16 : decode cX4_means 16 = .ok (.iload_n 3, 1) := by decide +kernel
theorem dX4_means_17 : decode cX4_means 17 = .ok (.goto 5, 3) := by decide +kernel
theorem dX4_means_20 : decode cX4_means 20 = .ok (.bipush (-5), 2) := by decide +kernel
theorem dX4_means_22 : decode cX4_means 22 = .ok (.ireturn, 1) := by decide +kernel
theorem dX4_source_0 : decode cX4_source 0 = .ok (.aload_n 0, 1) := by decide +kernel
theorem dX4_source_1 : decode cX4_source 1 = .ok (.iload_n 1, 1) := by decide +kernel
theorem dX4_source_2 : decode cX4_source 2 = .ok (.iload_n 2, 1) := by decide +kernel
theorem dX4_source_3 : decode cX4_source 3 = .ok (.invokevirtual 66, 3) := by decide +kernel
theorem dX4_source_6 : decode cX4_source 6 = .ok (.istore_n 3, 1) := by decide +kernel
theorem dX4_source_7 : decode cX4_source 7 = .ok (.aload_n 0, 1) := by decide +kernel
theorem dX4_source_8 : decode cX4_source 8 = .ok (.iload_n 3, 1) := by decide +kernel
theorem dX4_source_9 : decode cX4_source 9 = .ok (.iload_n 2, 1) := by decide +kernel
theorem dX4_source_10 : decode cX4_source 10 = .ok (.invokevirtual 59, 3) := by decide +kernel
theorem dX4_source_13 : decode cX4_source 13 = .ok (.ifCond .lt 7, 3) := by decide +kernel
theorem dX4_source_16 : decode cX4_source 16 = .ok (.iload_n 3, 1) := by decide +kernel
theorem dX4_source_17 : decode cX4_source 17 = .ok (.goto 5, 3) := by decide +kernel
theorem dX4_source_20 : decode cX4_source 20 = .ok (.bipush (-5), 2) := by decide +kernel
theorem dX4_source_22 : decode cX4_source 22 = .ok (.ireturn, 1) := by decide +kernel
theorem dX4_chain_0 : decode cX4_chain 0 = .ok (.iload_n 1, 1) := by decide +kernel
theorem dX4_chain_1 : decode cX4_chain 1 = .ok (.aload_n 0, 1) := by decide +kernel
theorem dX4_chain_2 : decode cX4_chain 2 = .ok (.iload_n 1, 1) := by decide +kernel
theorem dX4_chain_3 : decode cX4_chain 3 = .ok (.iload_n 2, 1) := by decide +kernel
theorem dX4_chain_4 : decode cX4_chain 4 = .ok (.invokevirtual 66, 3) := by decide +kernel
theorem dX4_chain_7 : decode cX4_chain 7 = .ok (.isub, 1) := by decide +kernel
theorem dX4_chain_8 : decode cX4_chain 8 = .ok (.iconst 1, 1) := by decide +kernel
theorem dX4_chain_9 : decode cX4_chain 9 = .ok (.iadd, 1) := by decide +kernel
theorem dX4_chain_10 : decode cX4_chain 10 = .ok (.ireturn, 1) := by decide +kernel
theorem dX4_isDoubtful_0 : decode cX4_isDoubtful 0 = .ok (.iconst 0, 1) := by decide +kernel
theorem dX4_isDoubtful_1 : decode cX4_isDoubtful 1 = .ok (.istore_n 3, 1) := by decide +kernel
theorem dX4_isDoubtful_2 : decode cX4_isDoubtful 2 = .ok (.aload_n 0, 1) := by decide +kernel
theorem dX4_isDoubtful_3 : decode cX4_isDoubtful 3 = .ok (.iload_n 1, 1) := by decide +kernel
theorem dX4_isDoubtful_4 : decode cX4_isDoubtful 4 = .ok (.iload_n 2, 1) := by decide +kernel
theorem dX4_isDoubtful_5 : decode cX4_isDoubtful 5 = .ok (.invokevirtual 66, 3) := by decide +kernel
theorem dX4_isDoubtful_8 : decode cX4_isDoubtful 8 = .ok (.istore 4, 2) := by decide +kernel
theorem dX4_isDoubtful_10 : decode cX4_isDoubtful 10 = .ok (.iload 4, 2) := by decide +kernel
theorem dX4_isDoubtful_12 : decode cX4_isDoubtful 12 = .ok (.iload_n 1, 1) := by decide +kernel
theorem dX4_isDoubtful_13 : decode cX4_isDoubtful 13 = .ok (.if_icmp .gt 30, 3) := by decide +kernel
theorem dX4_isDoubtful_16 : decode cX4_isDoubtful 16 = .ok (.iload_n 3, 1) := by decide +kernel
theorem dX4_isDoubtful_17 : decode cX4_isDoubtful 17 = .ok (.ifCond .ne 14, 3) := by decide +kernel
theorem dX4_isDoubtful_20 : decode cX4_isDoubtful 20 = .ok (.aload_n 0, 1) := by decide +kernel
theorem dX4_isDoubtful_21 : decode cX4_isDoubtful 21 = .ok (.iload 4, 2) := by decide +kernel
theorem dX4_isDoubtful_23 : decode cX4_isDoubtful 23 = .ok (.iload_n 2, 1) := by decide +kernel
theorem dX4_isDoubtful_24 : decode cX4_isDoubtful 24 = .ok (.invokevirtual 56, 3) := by decide +kernel
theorem dX4_isDoubtful_27 : decode cX4_isDoubtful 27 = .ok (.iconst 1, 1) := by decide +kernel
theorem dX4_isDoubtful_28 : decode cX4_isDoubtful 28 = .ok (.if_icmp .le 7, 3) := by decide +kernel
theorem dX4_isDoubtful_31 : decode cX4_isDoubtful 31 = .ok (.iconst 1, 1) := by decide +kernel
theorem dX4_isDoubtful_32 : decode cX4_isDoubtful 32 = .ok (.goto 4, 3) := by decide +kernel
theorem dX4_isDoubtful_35 : decode cX4_isDoubtful 35 = .ok (.iconst 0, 1) := by decide +kernel
theorem dX4_isDoubtful_36 : decode cX4_isDoubtful 36 = .ok (.istore_n 3, 1) := by decide +kernel
theorem dX4_isDoubtful_37 : decode cX4_isDoubtful 37 = .ok (.iinc 4 1, 3) := by decide +kernel
theorem dX4_isDoubtful_40 : decode cX4_isDoubtful 40 = .ok (.goto (-30), 3) := by decide +kernel
theorem dX4_isDoubtful_43 : decode cX4_isDoubtful 43 = .ok (.iload_n 3, 1) := by decide +kernel
theorem dX4_isDoubtful_44 : decode cX4_isDoubtful 44 = .ok (.ireturn, 1) := by decide +kernel
theorem dX4_below_0 : decode cX4_below 0 = .ok (.iload_n 1, 1) := by decide +kernel
theorem dX4_below_1 : decode cX4_below 1 = .ok (.iconst 1, 1) := by decide +kernel
theorem dX4_below_2 : decode cX4_below 2 = .ok (.iadd, 1) := by decide +kernel
theorem dX4_below_3 : decode cX4_below 3 = .ok (.istore_n 3, 1) := by decide +kernel
theorem dX4_below_4 : decode cX4_below 4 = .ok (.iload_n 3, 1) := by decide +kernel
theorem dX4_below_5 : decode cX4_below 5 = .ok (.aload_n 0, 1) := by decide +kernel
theorem dX4_below_6 : decode cX4_below 6 = .ok (.getfield 7, 3) := by decide +kernel
theorem dX4_below_9 : decode cX4_below 9 = .ok (.iconst 0, 1) := by decide +kernel
theorem dX4_below_10 : decode cX4_below 10 = .ok (.iaload, 1) := by decide +kernel
theorem dX4_below_11 : decode cX4_below 11 = .ok (.if_icmp .ge 18, 3) := by decide +kernel
theorem dX4_below_14 : decode cX4_below 14 = .ok (.aload_n 0, 1) := by decide +kernel
theorem dX4_below_15 : decode cX4_below 15 = .ok (.iload_n 3, 1) := by decide +kernel
theorem dX4_below_16 : decode cX4_below 16 = .ok (.iload_n 2, 1) := by decide +kernel
theorem dX4_below_17 : decode cX4_below 17 = .ok (.invokevirtual 62, 3) := by decide +kernel
theorem dX4_below_20 : decode cX4_below 20 = .ok (.ifCond .eq 9, 3) := by decide +kernel
theorem dX4_below_23 : decode cX4_below 23 = .ok (.iinc 3 1, 3) := by decide +kernel
theorem dX4_below_26 : decode cX4_below 26 = .ok (.goto (-22), 3) := by decide +kernel
theorem dX4_below_29 : decode cX4_below 29 = .ok (.iload_n 3, 1) := by decide +kernel
theorem dX4_below_30 : decode cX4_below 30 = .ok (.iload_n 1, 1) := by decide +kernel
theorem dX4_below_31 : decode cX4_below 31 = .ok (.isub, 1) := by decide +kernel
theorem dX4_below_32 : decode cX4_below 32 = .ok (.iconst 1, 1) := by decide +kernel
theorem dX4_below_33 : decode cX4_below 33 = .ok (.isub, 1) := by decide +kernel
theorem dX4_below_34 : decode cX4_below 34 = .ok (.ireturn, 1) := by decide +kernel
theorem dX4_comes_0 : decode cX4_comes 0 = .ok (.iload_n 1, 1) := by decide +kernel
theorem dX4_comes_1 : decode cX4_comes 1 = .ok (.iload_n 2, 1) := by decide +kernel
theorem dX4_comes_2 : decode cX4_comes 2 = .ok (.invokestatic 52, 3) := by decide +kernel
theorem dX4_comes_5 : decode cX4_comes 5 = .ok (.istore 4, 2) := by decide +kernel
theorem dX4_comes_7 : decode cX4_comes 7 = .ok (.aload_n 0, 1) := by decide +kernel
theorem dX4_comes_8 : decode cX4_comes 8 = .ok (.getfield 7, 3) := by decide +kernel
theorem dX4_comes_11 : decode cX4_comes 11 = .ok (.iload 4, 2) := by decide +kernel
theorem dX4_comes_13 : decode cX4_comes 13 = .ok (.iconst 1, 1) := by decide +kernel
theorem dX4_comes_14 : decode cX4_comes 14 = .ok (.iastore, 1) := by decide +kernel
theorem dX4_comes_15 : decode cX4_comes 15 = .ok (.aload_n 0, 1) := by decide +kernel
theorem dX4_comes_16 : decode cX4_comes 16 = .ok (.getfield 7, 3) := by decide +kernel
theorem dX4_comes_19 : decode cX4_comes 19 = .ok (.iload 4, 2) := by decide +kernel
theorem dX4_comes_21 : decode cX4_comes 21 = .ok (.iconst 1, 1) := by decide +kernel
theorem dX4_comes_22 : decode cX4_comes 22 = .ok (.iadd, 1) := by decide +kernel
theorem dX4_comes_23 : decode cX4_comes 23 = .ok (.iload_n 3, 1) := by decide +kernel
theorem dX4_comes_24 : decode cX4_comes 24 = .ok (.iastore, 1) := by decide +kernel
theorem dX4_comes_25 : decode cX4_comes 25 = .ok (.return_, 1) := by decide +kernel
theorem dX4_leaves_0 : decode cX4_leaves 0 = .ok (.iload_n 1, 1) := by decide +kernel
theorem dX4_leaves_1 : decode cX4_leaves 1 = .ok (.iconst 0, 1) := by decide +kernel
theorem dX4_leaves_2 : decode cX4_leaves 2 = .ok (.invokestatic 52, 3) := by decide +kernel
theorem dX4_leaves_5 : decode cX4_leaves 5 = .ok (.istore_n 2, 1) := by decide +kernel
theorem dX4_leaves_6 : decode cX4_leaves 6 = .ok (.iload_n 2, 1) := by decide +kernel
theorem dX4_leaves_7 : decode cX4_leaves 7 = .ok (.iload_n 1, 1) := by decide +kernel
theorem dX4_leaves_8 : decode cX4_leaves 8 = .ok (.iconst 1, 1) := by decide +kernel
theorem dX4_leaves_9 : decode cX4_leaves 9 = .ok (.iadd, 1) := by decide +kernel
theorem dX4_leaves_10 : decode cX4_leaves 10 = .ok (.iconst 0, 1) := by decide +kernel
theorem dX4_leaves_11 : decode cX4_leaves 11 = .ok (.invokestatic 52, 3) := by decide +kernel
theorem dX4_leaves_14 : decode cX4_leaves 14 = .ok (.if_icmp .ge 16, 3) := by decide +kernel
theorem dX4_leaves_17 : decode cX4_leaves 17 = .ok (.aload_n 0, 1) := by decide +kernel
theorem dX4_leaves_18 : decode cX4_leaves 18 = .ok (.getfield 7, 3) := by decide +kernel
theorem dX4_leaves_21 : decode cX4_leaves 21 = .ok (.iload_n 2, 1) := by decide +kernel
theorem dX4_leaves_22 : decode cX4_leaves 22 = .ok (.iconst 0, 1) := by decide +kernel
theorem dX4_leaves_23 : decode cX4_leaves 23 = .ok (.iastore, 1) := by decide +kernel
theorem dX4_leaves_24 : decode cX4_leaves 24 = .ok (.iinc 2 1, 3) := by decide +kernel
theorem dX4_leaves_27 : decode cX4_leaves 27 = .ok (.goto (-21), 3) := by decide +kernel
theorem dX4_leaves_30 : decode cX4_leaves 30 = .ok (.return_, 1) := by decide +kernel
theorem dX4_addRow_0 : decode cX4_addRow 0 = .ok (.iconst 0, 1) := by decide +kernel
theorem dX4_addRow_1 : decode cX4_addRow 1 = .ok (.iload_n 1, 1) := by decide +kernel
theorem dX4_addRow_2 : decode cX4_addRow 2 = .ok (.invokestatic 69, 3) := by decide +kernel
theorem dX4_addRow_5 : decode cX4_addRow 5 = .ok (.ifCond .eq 28, 3) := by decide +kernel
theorem dX4_addRow_8 : decode cX4_addRow 8 = .ok (.iconst 1, 1) := by decide +kernel
theorem dX4_addRow_9 : decode cX4_addRow 9 = .ok (.iload_n 2, 1) := by decide +kernel
theorem dX4_addRow_10 : decode cX4_addRow 10 = .ok (.invokestatic 69, 3) := by decide +kernel
theorem dX4_addRow_13 : decode cX4_addRow 13 = .ok (.ifCond .eq 20, 3) := by decide +kernel
theorem dX4_addRow_16 : decode cX4_addRow 16 = .ok (.iconst 2, 1) := by decide +kernel
theorem dX4_addRow_17 : decode cX4_addRow 17 = .ok (.iload_n 3, 1) := by decide +kernel
theorem dX4_addRow_18 : decode cX4_addRow 18 = .ok (.invokestatic 69, 3) := by decide +kernel
theorem dX4_addRow_21 : decode cX4_addRow 21 = .ok (.ifCond .eq 12, 3) := by decide +kernel
theorem dX4_addRow_24 : decode cX4_addRow 24 = .ok (.iconst 3, 1) := by decide +kernel
theorem dX4_addRow_25 : decode cX4_addRow 25 = .ok (.iload 4, 2) := by decide +kernel
theorem dX4_addRow_27 : decode cX4_addRow 27 = .ok (.invokestatic 69, 3) := by decide +kernel
theorem dX4_addRow_30 : decode cX4_addRow 30 = .ok (.ifCond .ne 6, 3) := by decide +kernel
theorem dX4_addRow_33 : decode cX4_addRow 33 = .ok (.bipush (-2), 2) := by decide +kernel
theorem dX4_addRow_35 : decode cX4_addRow 35 = .ok (.ireturn, 1) := by decide +kernel
theorem dX4_addRow_36 : decode cX4_addRow 36 = .ok (.aload_n 0, 1) := by decide +kernel
theorem dX4_addRow_37 : decode cX4_addRow 37 = .ok (.getfield 7, 3) := by decide +kernel
theorem dX4_addRow_40 : decode cX4_addRow 40 = .ok (.iconst 0, 1) := by decide +kernel
theorem dX4_addRow_41 : decode cX4_addRow 41 = .ok (.iaload, 1) := by decide +kernel
theorem dX4_addRow_42 : decode cX4_addRow 42 = .ok (.bipush 48, 2) := by decide +kernel
theorem dX4_addRow_44 : decode cX4_addRow 44 = .ok (.if_icmp .ne 6, 3) := by decide +kernel
theorem dX4_addRow_47 : decode cX4_addRow 47 = .ok (.bipush (-3), 2) := by decide +kernel
theorem dX4_addRow_49 : decode cX4_addRow 49 = .ok (.ireturn, 1) := by decide +kernel
theorem dX4_addRow_50 : decode cX4_addRow 50 = .ok (.aload_n 0, 1) := by decide +kernel
theorem dX4_addRow_51 : decode cX4_addRow 51 = .ok (.invokevirtual 72, 3) := by decide +kernel
theorem dX4_addRow_54 : decode cX4_addRow 54 = .ok (.aload_n 0, 1) := by decide +kernel
theorem dX4_addRow_55 : decode cX4_addRow 55 = .ok (.getfield 7, 3) := by decide +kernel
theorem dX4_addRow_58 : decode cX4_addRow 58 = .ok (.iconst 0, 1) := by decide +kernel
theorem dX4_addRow_59 : decode cX4_addRow 59 = .ok (.iaload, 1) := by decide +kernel
theorem dX4_addRow_60 : decode cX4_addRow 60 = .ok (.istore 5, 2) := by decide +kernel
theorem dX4_addRow_62 : decode cX4_addRow 62 = .ok (.aload_n 0, 1) := by decide +kernel
theorem dX4_addRow_63 : decode cX4_addRow 63 = .ok (.iload 5, 2) := by decide +kernel
theorem dX4_addRow_65 : decode cX4_addRow 65 = .ok (.iconst 0, 1) := by decide +kernel
theorem dX4_addRow_66 : decode cX4_addRow 66 = .ok (.iload_n 1, 1) := by decide +kernel
theorem dX4_addRow_67 : decode cX4_addRow 67 = .ok (.invokevirtual 75, 3) := by decide +kernel
theorem dX4_addRow_70 : decode cX4_addRow 70 = .ok (.aload_n 0, 1) := by decide +kernel
theorem dX4_addRow_71 : decode cX4_addRow 71 = .ok (.iload 5, 2) := by decide +kernel
theorem dX4_addRow_73 : decode cX4_addRow 73 = .ok (.iconst 1, 1) := by decide +kernel
theorem dX4_addRow_74 : decode cX4_addRow 74 = .ok (.iload_n 2, 1) := by decide +kernel
theorem dX4_addRow_75 : decode cX4_addRow 75 = .ok (.invokevirtual 75, 3) := by decide +kernel
theorem dX4_addRow_78 : decode cX4_addRow 78 = .ok (.aload_n 0, 1) := by decide +kernel
theorem dX4_addRow_79 : decode cX4_addRow 79 = .ok (.iload 5, 2) := by decide +kernel
theorem dX4_addRow_81 : decode cX4_addRow 81 = .ok (.iconst 2, 1) := by decide +kernel
theorem dX4_addRow_82 : decode cX4_addRow 82 = .ok (.iload_n 3, 1) := by decide +kernel
theorem dX4_addRow_83 : decode cX4_addRow 83 = .ok (.invokevirtual 75, 3) := by decide +kernel
theorem dX4_addRow_86 : decode cX4_addRow 86 = .ok (.aload_n 0, 1) := by decide +kernel
theorem dX4_addRow_87 : decode cX4_addRow 87 = .ok (.iload 5, 2) := by decide +kernel
theorem dX4_addRow_89 : decode cX4_addRow 89 = .ok (.iconst 3, 1) := by decide +kernel
theorem dX4_addRow_90 : decode cX4_addRow 90 = .ok (.iload 4, 2) := by decide +kernel
theorem dX4_addRow_92 : decode cX4_addRow 92 = .ok (.invokevirtual 75, 3) := by decide +kernel
theorem dX4_addRow_95 : decode cX4_addRow 95 = .ok (.aload_n 0, 1) := by decide +kernel
theorem dX4_addRow_96 : decode cX4_addRow 96 = .ok (.getfield 7, 3) := by decide +kernel
theorem dX4_addRow_99 : decode cX4_addRow 99 = .ok (.iconst 0, 1) := by decide +kernel
theorem dX4_addRow_100 : decode cX4_addRow 100 = .ok (.dup2, 1) := by decide +kernel
theorem dX4_addRow_101 : decode cX4_addRow 101 = .ok (.iaload, 1) := by decide +kernel
theorem dX4_addRow_102 : decode cX4_addRow 102 = .ok (.iconst 1, 1) := by decide +kernel
theorem dX4_addRow_103 : decode cX4_addRow 103 = .ok (.iadd, 1) := by decide +kernel
theorem dX4_addRow_104 : decode cX4_addRow 104 = .ok (.iastore, 1) := by decide +kernel
theorem dX4_addRow_105 : decode cX4_addRow 105 = .ok (.iload 5, 2) := by decide +kernel
theorem dX4_addRow_107 : decode cX4_addRow 107 = .ok (.ireturn, 1) := by decide +kernel
theorem dX4_addRows_0 : decode cX4_addRows 0 = .ok (.aload_n 0, 1) := by decide +kernel
theorem dX4_addRows_1 : decode cX4_addRows 1 = .ok (.invokevirtual 79, 3) := by decide +kernel
theorem dX4_addRows_4 : decode cX4_addRows 4 = .ok (.istore_n 1, 1) := by decide +kernel
theorem dX4_addRows_5 : decode cX4_addRows 5 = .ok (.iload_n 1, 1) := by decide +kernel
theorem dX4_addRows_6 : decode cX4_addRows 6 = .ok (.bipush (-5), 2) := by decide +kernel
theorem dX4_addRows_8 : decode cX4_addRows 8 = .ok (.if_icmp .eq 8, 3) := by decide +kernel
theorem dX4_addRows_11 : decode cX4_addRows 11 = .ok (.bipush (-100), 2) := by decide +kernel
theorem dX4_addRows_13 : decode cX4_addRows 13 = .ok (.iload_n 1, 1) := by decide +kernel
theorem dX4_addRows_14 : decode cX4_addRows 14 = .ok (.isub, 1) := by decide +kernel
theorem dX4_addRows_15 : decode cX4_addRows 15 = .ok (.ireturn, 1) := by decide +kernel
theorem dX4_addRows_16 : decode cX4_addRows 16 = .ok (.aload_n 0, 1) := by decide +kernel
theorem dX4_addRows_17 : decode cX4_addRows 17 = .ok (.getfield 7, 3) := by decide +kernel
theorem dX4_addRows_20 : decode cX4_addRows 20 = .ok (.iconst 0, 1) := by decide +kernel
theorem dX4_addRows_21 : decode cX4_addRows 21 = .ok (.iaload, 1) := by decide +kernel
theorem dX4_addRows_22 : decode cX4_addRows 22 = .ok (.aload_n 0, 1) := by decide +kernel
theorem dX4_addRows_23 : decode cX4_addRows 23 = .ok (.getfield 83, 3) := by decide +kernel
theorem dX4_addRows_26 : decode cX4_addRows 26 = .ok (.iadd, 1) := by decide +kernel
theorem dX4_addRows_27 : decode cX4_addRows 27 = .ok (.bipush 48, 2) := by decide +kernel
theorem dX4_addRows_29 : decode cX4_addRows 29 = .ok (.if_icmp .le 6, 3) := by decide +kernel
theorem dX4_addRows_32 : decode cX4_addRows 32 = .ok (.bipush (-3), 2) := by decide +kernel
theorem dX4_addRows_34 : decode cX4_addRows 34 = .ok (.ireturn, 1) := by decide +kernel
theorem dX4_addRows_35 : decode cX4_addRows 35 = .ok (.aload_n 0, 1) := by decide +kernel
theorem dX4_addRows_36 : decode cX4_addRows 36 = .ok (.invokevirtual 72, 3) := by decide +kernel
theorem dX4_addRows_39 : decode cX4_addRows 39 = .ok (.iconst 0, 1) := by decide +kernel
theorem dX4_addRows_40 : decode cX4_addRows 40 = .ok (.istore_n 2, 1) := by decide +kernel
theorem dX4_addRows_41 : decode cX4_addRows 41 = .ok (.iload_n 2, 1) := by decide +kernel
theorem dX4_addRows_42 : decode cX4_addRows 42 = .ok (.iconst 4, 1) := by decide +kernel
theorem dX4_addRows_43 : decode cX4_addRows 43 = .ok (.aload_n 0, 1) := by decide +kernel
theorem dX4_addRows_44 : decode cX4_addRows 44 = .ok (.getfield 83, 3) := by decide +kernel
theorem dX4_addRows_47 : decode cX4_addRows 47 = .ok (.imul, 1) := by decide +kernel
theorem dX4_addRows_48 : decode cX4_addRows 48 = .ok (.if_icmp .ge 32, 3) := by decide +kernel
theorem dX4_addRows_51 : decode cX4_addRows 51 = .ok (.aload_n 0, 1) := by decide +kernel
theorem dX4_addRows_52 : decode cX4_addRows 52 = .ok (.aload_n 0, 1) := by decide +kernel
theorem dX4_addRows_53 : decode cX4_addRows 53 = .ok (.getfield 7, 3) := by decide +kernel
theorem dX4_addRows_56 : decode cX4_addRows 56 = .ok (.iconst 0, 1) := by decide +kernel
theorem dX4_addRows_57 : decode cX4_addRows 57 = .ok (.iaload, 1) := by decide +kernel
theorem dX4_addRows_58 : decode cX4_addRows 58 = .ok (.iload_n 2, 1) := by decide +kernel
theorem dX4_addRows_59 : decode cX4_addRows 59 = .ok (.iconst 4, 1) := by decide +kernel
theorem dX4_addRows_60 : decode cX4_addRows 60 = .ok (.idiv, 1) := by decide +kernel
theorem dX4_addRows_61 : decode cX4_addRows 61 = .ok (.iadd, 1) := by decide +kernel
theorem dX4_addRows_62 : decode cX4_addRows 62 = .ok (.iload_n 2, 1) := by decide +kernel
theorem dX4_addRows_63 : decode cX4_addRows 63 = .ok (.iconst 4, 1) := by decide +kernel
theorem dX4_addRows_64 : decode cX4_addRows 64 = .ok (.irem, 1) := by decide +kernel
theorem dX4_addRows_65 : decode cX4_addRows 65 = .ok (.aload_n 0, 1) := by decide +kernel
theorem dX4_addRows_66 : decode cX4_addRows 66 = .ok (.getfield 26, 3) := by decide +kernel
theorem dX4_addRows_69 : decode cX4_addRows 69 = .ok (.iload_n 2, 1) := by decide +kernel
theorem dX4_addRows_70 : decode cX4_addRows 70 = .ok (.iaload, 1) := by decide +kernel
theorem dX4_addRows_71 : decode cX4_addRows 71 = .ok (.invokevirtual 75, 3) := by decide +kernel
theorem dX4_addRows_74 : decode cX4_addRows 74 = .ok (.iinc 2 1, 3) := by decide +kernel
theorem dX4_addRows_77 : decode cX4_addRows 77 = .ok (.goto (-36), 3) := by decide +kernel
theorem dX4_addRows_80 : decode cX4_addRows 80 = .ok (.aload_n 0, 1) := by decide +kernel
theorem dX4_addRows_81 : decode cX4_addRows 81 = .ok (.getfield 7, 3) := by decide +kernel
theorem dX4_addRows_84 : decode cX4_addRows 84 = .ok (.iconst 0, 1) := by decide +kernel
theorem dX4_addRows_85 : decode cX4_addRows 85 = .ok (.dup2, 1) := by decide +kernel
theorem dX4_addRows_86 : decode cX4_addRows 86 = .ok (.iaload, 1) := by decide +kernel
theorem dX4_addRows_87 : decode cX4_addRows 87 = .ok (.aload_n 0, 1) := by decide +kernel
theorem dX4_addRows_88 : decode cX4_addRows 88 = .ok (.getfield 83, 3) := by decide +kernel
theorem dX4_addRows_91 : decode cX4_addRows 91 = .ok (.iadd, 1) := by decide +kernel
theorem dX4_addRows_92 : decode cX4_addRows 92 = .ok (.iastore, 1) := by decide +kernel
theorem dX4_addRows_93 : decode cX4_addRows 93 = .ok (.aload_n 0, 1) := by decide +kernel
theorem dX4_addRows_94 : decode cX4_addRows 94 = .ok (.getfield 83, 3) := by decide +kernel
theorem dX4_addRows_97 : decode cX4_addRows 97 = .ok (.ireturn, 1) := by decide +kernel
theorem dX4_removeRow_0 : decode cX4_removeRow 0 = .ok (.aload_n 0, 1) := by decide +kernel
theorem dX4_removeRow_1 : decode cX4_removeRow 1 = .ok (.getfield 7, 3) := by decide +kernel
theorem dX4_removeRow_4 : decode cX4_removeRow 4 = .ok (.iconst 0, 1) := by decide +kernel
theorem dX4_removeRow_5 : decode cX4_removeRow 5 = .ok (.iaload, 1) := by decide +kernel
theorem dX4_removeRow_6 : decode cX4_removeRow 6 = .ok (.ifCond .ne 6, 3) := by decide +kernel
theorem dX4_removeRow_9 : decode cX4_removeRow 9 = .ok (.bipush (-4), 2) := by decide +kernel
theorem dX4_removeRow_11 : decode cX4_removeRow 11 = .ok (.ireturn, 1) := by decide +kernel
theorem dX4_removeRow_12 : decode cX4_removeRow 12 = .ok (.aload_n 0, 1) := by decide +kernel
theorem dX4_removeRow_13 : decode cX4_removeRow 13 = .ok (.invokevirtual 72, 3) := by decide +kernel
theorem dX4_removeRow_16 : decode cX4_removeRow 16 = .ok (.aload_n 0, 1) := by decide +kernel
theorem dX4_removeRow_17 : decode cX4_removeRow 17 = .ok (.getfield 7, 3) := by decide +kernel
theorem dX4_removeRow_20 : decode cX4_removeRow 20 = .ok (.iconst 0, 1) := by decide +kernel
theorem dX4_removeRow_21 : decode cX4_removeRow 21 = .ok (.dup2, 1) := by decide +kernel
theorem dX4_removeRow_22 : decode cX4_removeRow 22 = .ok (.iaload, 1) := by decide +kernel
theorem dX4_removeRow_23 : decode cX4_removeRow 23 = .ok (.iconst 1, 1) := by decide +kernel
theorem dX4_removeRow_24 : decode cX4_removeRow 24 = .ok (.isub, 1) := by decide +kernel
theorem dX4_removeRow_25 : decode cX4_removeRow 25 = .ok (.iastore, 1) := by decide +kernel
theorem dX4_removeRow_26 : decode cX4_removeRow 26 = .ok (.aload_n 0, 1) := by decide +kernel
theorem dX4_removeRow_27 : decode cX4_removeRow 27 = .ok (.aload_n 0, 1) := by decide +kernel
theorem dX4_removeRow_28 : decode cX4_removeRow 28 = .ok (.getfield 7, 3) := by decide +kernel
theorem dX4_removeRow_31 : decode cX4_removeRow 31 = .ok (.iconst 0, 1) := by decide +kernel
theorem dX4_removeRow_32 : decode cX4_removeRow 32 = .ok (.iaload, 1) := by decide +kernel
theorem dX4_removeRow_33 : decode cX4_removeRow 33 = .ok (.invokevirtual 86, 3) := by decide +kernel
theorem dX4_removeRow_36 : decode cX4_removeRow 36 = .ok (.aload_n 0, 1) := by decide +kernel
theorem dX4_removeRow_37 : decode cX4_removeRow 37 = .ok (.getfield 7, 3) := by decide +kernel
theorem dX4_removeRow_40 : decode cX4_removeRow 40 = .ok (.iconst 0, 1) := by decide +kernel
theorem dX4_removeRow_41 : decode cX4_removeRow 41 = .ok (.iaload, 1) := by decide +kernel
theorem dX4_removeRow_42 : decode cX4_removeRow 42 = .ok (.ireturn, 1) := by decide +kernel
theorem dX4_laysMeant_0 : decode cX4_laysMeant 0 = .ok (.iconst 0, 1) := by decide +kernel
theorem dX4_laysMeant_1 : decode cX4_laysMeant 1 = .ok (.istore_n 2, 1) := by decide +kernel
theorem dX4_laysMeant_2 : decode cX4_laysMeant 2 = .ok (.iload_n 2, 1) := by decide +kernel
theorem dX4_laysMeant_3 : decode cX4_laysMeant 3 = .ok (.aload_n 0, 1) := by decide +kernel
theorem dX4_laysMeant_4 : decode cX4_laysMeant 4 = .ok (.getfield 7, 3) := by decide +kernel
theorem dX4_laysMeant_7 : decode cX4_laysMeant 7 = .ok (.iconst 0, 1) := by decide +kernel
theorem dX4_laysMeant_8 : decode cX4_laysMeant 8 = .ok (.iaload, 1) := by decide +kernel
theorem dX4_laysMeant_9 : decode cX4_laysMeant 9 = .ok (.if_icmp .ge 21, 3) := by decide +kernel
theorem dX4_laysMeant_12 : decode cX4_laysMeant 12 = .ok (.aload_n 0, 1) := by decide +kernel
theorem dX4_laysMeant_13 : decode cX4_laysMeant 13 = .ok (.getfield 23, 3) := by decide +kernel
theorem dX4_laysMeant_16 : decode cX4_laysMeant 16 = .ok (.iload_n 2, 1) := by decide +kernel
theorem dX4_laysMeant_17 : decode cX4_laysMeant 17 = .ok (.aload_n 0, 1) := by decide +kernel
theorem dX4_laysMeant_18 : decode cX4_laysMeant 18 = .ok (.iload_n 2, 1) := by decide +kernel
theorem dX4_laysMeant_19 : decode cX4_laysMeant 19 = .ok (.iload_n 1, 1) := by decide +kernel
theorem dX4_laysMeant_20 : decode cX4_laysMeant 20 = .ok (.invokevirtual 90, 3) := by decide +kernel
theorem dX4_laysMeant_23 : decode cX4_laysMeant 23 = .ok (.iastore, 1) := by decide +kernel
theorem dX4_laysMeant_24 : decode cX4_laysMeant 24 = .ok (.iinc 2 1, 3) := by decide +kernel
theorem dX4_laysMeant_27 : decode cX4_laysMeant 27 = .ok (.goto (-25), 3) := by decide +kernel
theorem dX4_laysMeant_30 : decode cX4_laysMeant 30 = .ok (.return_, 1) := by decide +kernel
theorem dX4_others_0 : decode cX4_others 0 = .ok (.iconst 0, 1) := by decide +kernel
theorem dX4_others_1 : decode cX4_others 1 = .ok (.istore_n 2, 1) := by decide +kernel
theorem dX4_others_2 : decode cX4_others 2 = .ok (.iconst 0, 1) := by decide +kernel
theorem dX4_others_3 : decode cX4_others 3 = .ok (.istore_n 3, 1) := by decide +kernel
theorem dX4_others_4 : decode cX4_others 4 = .ok (.iload_n 3, 1) := by decide +kernel
theorem dX4_others_5 : decode cX4_others 5 = .ok (.aload_n 0, 1) := by decide +kernel
theorem dX4_others_6 : decode cX4_others 6 = .ok (.getfield 7, 3) := by decide +kernel
theorem dX4_others_9 : decode cX4_others 9 = .ok (.iconst 0, 1) := by decide +kernel
theorem dX4_others_10 : decode cX4_others 10 = .ok (.iaload, 1) := by decide +kernel
theorem dX4_others_11 : decode cX4_others 11 = .ok (.if_icmp .ge 32, 3) := by decide +kernel
theorem dX4_others_14 : decode cX4_others 14 = .ok (.iload_n 2, 1) := by decide +kernel
theorem dX4_others_15 : decode cX4_others 15 = .ok (.aload_n 0, 1) := by decide +kernel
theorem dX4_others_16 : decode cX4_others 16 = .ok (.iload_n 3, 1) := by decide +kernel
theorem dX4_others_17 : decode cX4_others 17 = .ok (.iload_n 1, 1) := by decide +kernel
theorem dX4_others_18 : decode cX4_others 18 = .ok (.invokevirtual 90, 3) := by decide +kernel
theorem dX4_others_21 : decode cX4_others 21 = .ok (.aload_n 0, 1) := by decide +kernel
theorem dX4_others_22 : decode cX4_others 22 = .ok (.getfield 23, 3) := by decide +kernel
theorem dX4_others_25 : decode cX4_others 25 = .ok (.iload_n 3, 1) := by decide +kernel
theorem dX4_others_26 : decode cX4_others 26 = .ok (.iaload, 1) := by decide +kernel
theorem dX4_others_27 : decode cX4_others 27 = .ok (.if_icmp .ne 7, 3) := by decide +kernel
theorem dX4_others_30 : decode cX4_others 30 = .ok (.iconst 0, 1) := by decide +kernel
theorem dX4_others_31 : decode cX4_others 31 = .ok (.goto 4, 3) := by decide +kernel
theorem dX4_others_34 : decode cX4_others 34 = .ok (.iconst 1, 1) := by decide +kernel
theorem dX4_others_35 : decode cX4_others 35 = .ok (.iadd, 1) := by decide +kernel
theorem dX4_others_36 : decode cX4_others 36 = .ok (.istore_n 2, 1) := by decide +kernel
theorem dX4_others_37 : decode cX4_others 37 = .ok (.iinc 3 1, 3) := by decide +kernel
theorem dX4_others_40 : decode cX4_others 40 = .ok (.goto (-36), 3) := by decide +kernel
theorem dX4_others_43 : decode cX4_others 43 = .ok (.iload_n 2, 1) := by decide +kernel
theorem dX4_others_44 : decode cX4_others 44 = .ok (.ireturn, 1) := by decide +kernel
theorem dX4_correct_0 : decode cX4_correct 0 = .ok (.aload_n 0, 1) := by decide +kernel
theorem dX4_correct_1 : decode cX4_correct 1 = .ok (.iload_n 1, 1) := by decide +kernel
theorem dX4_correct_2 : decode cX4_correct 2 = .ok (.iload_n 2, 1) := by decide +kernel
theorem dX4_correct_3 : decode cX4_correct 3 = .ok (.invokevirtual 93, 3) := by decide +kernel
theorem dX4_correct_6 : decode cX4_correct 6 = .ok (.ifCond .ne 5, 3) := by decide +kernel
theorem dX4_correct_9 : decode cX4_correct 9 = .ok (.iconst (-1), 1) := by decide +kernel
theorem dX4_correct_10 : decode cX4_correct 10 = .ok (.ireturn, 1) := by decide +kernel
theorem dX4_correct_11 : decode cX4_correct 11 = .ok (.iload_n 2, 1) := by decide +kernel
theorem dX4_correct_12 : decode cX4_correct 12 = .ok (.iload_n 3, 1) := by decide +kernel
theorem dX4_correct_13 : decode cX4_correct 13 = .ok (.invokestatic 69, 3) := by decide +kernel
theorem dX4_correct_16 : decode cX4_correct 16 = .ok (.ifCond .ne 6, 3) := by decide +kernel
theorem dX4_correct_19 : decode cX4_correct 19 = .ok (.bipush (-2), 2) := by decide +kernel
theorem dX4_correct_21 : decode cX4_correct 21 = .ok (.ireturn, 1) := by decide +kernel
theorem dX4_correct_22 : decode cX4_correct 22 = .ok (.aload_n 0, 1) := by decide +kernel
theorem dX4_correct_23 : decode cX4_correct 23 = .ok (.iload_n 1, 1) := by decide +kernel
theorem dX4_correct_24 : decode cX4_correct 24 = .ok (.iload_n 2, 1) := by decide +kernel
theorem dX4_correct_25 : decode cX4_correct 25 = .ok (.invokevirtual 56, 3) := by decide +kernel
theorem dX4_correct_28 : decode cX4_correct 28 = .ok (.iconst 4, 1) := by decide +kernel
theorem dX4_correct_29 : decode cX4_correct 29 = .ok (.if_icmp .ne 6, 3) := by decide +kernel
theorem dX4_correct_32 : decode cX4_correct 32 = .ok (.bipush (-3), 2) := by decide +kernel
theorem dX4_correct_34 : decode cX4_correct 34 = .ok (.ireturn, 1) := by decide +kernel
theorem dX4_correct_35 : decode cX4_correct 35 = .ok (.aload_n 0, 1) := by decide +kernel
theorem dX4_correct_36 : decode cX4_correct 36 = .ok (.iload_n 1, 1) := by decide +kernel
theorem dX4_correct_37 : decode cX4_correct 37 = .ok (.iload_n 2, 1) := by decide +kernel
theorem dX4_correct_38 : decode cX4_correct 38 = .ok (.invokevirtual 59, 3) := by decide +kernel
theorem dX4_correct_41 : decode cX4_correct 41 = .ok (.iload_n 3, 1) := by decide +kernel
theorem dX4_correct_42 : decode cX4_correct 42 = .ok (.if_icmp .ne 6, 3) := by decide +kernel
theorem dX4_correct_45 : decode cX4_correct 45 = .ok (.bipush (-5), 2) := by decide +kernel
theorem dX4_correct_47 : decode cX4_correct 47 = .ok (.ireturn, 1) := by decide +kernel
theorem dX4_correct_48 : decode cX4_correct 48 = .ok (.aload_n 0, 1) := by decide +kernel
theorem dX4_correct_49 : decode cX4_correct 49 = .ok (.invokevirtual 72, 3) := by decide +kernel
theorem dX4_correct_52 : decode cX4_correct 52 = .ok (.aload_n 0, 1) := by decide +kernel
theorem dX4_correct_53 : decode cX4_correct 53 = .ok (.iload_n 2, 1) := by decide +kernel
theorem dX4_correct_54 : decode cX4_correct 54 = .ok (.invokevirtual 96, 3) := by decide +kernel
theorem dX4_correct_57 : decode cX4_correct 57 = .ok (.iload_n 1, 1) := by decide +kernel
theorem dX4_correct_58 : decode cX4_correct 58 = .ok (.iload_n 2, 1) := by decide +kernel
theorem dX4_correct_59 : decode cX4_correct 59 = .ok (.invokestatic 52, 3) := by decide +kernel
theorem dX4_correct_62 : decode cX4_correct 62 = .ok (.istore 4, 2) := by decide +kernel
theorem dX4_correct_64 : decode cX4_correct 64 = .ok (.aload_n 0, 1) := by decide +kernel
theorem dX4_correct_65 : decode cX4_correct 65 = .ok (.getfield 7, 3) := by decide +kernel
theorem dX4_correct_68 : decode cX4_correct 68 = .ok (.iload 4, 2) := by decide +kernel
theorem dX4_correct_70 : decode cX4_correct 70 = .ok (.dup2, 1) := by decide +kernel
theorem dX4_correct_71 : decode cX4_correct 71 = .ok (.iaload, 1) := by decide +kernel
theorem dX4_correct_72 : decode cX4_correct 72 = .ok (.iconst 1, 1) := by decide +kernel
theorem dX4_correct_73 : decode cX4_correct 73 = .ok (.iadd, 1) := by decide +kernel
theorem dX4_correct_74 : decode cX4_correct 74 = .ok (.iastore, 1) := by decide +kernel
theorem dX4_correct_75 : decode cX4_correct 75 = .ok (.aload_n 0, 1) := by decide +kernel
theorem dX4_correct_76 : decode cX4_correct 76 = .ok (.getfield 7, 3) := by decide +kernel
theorem dX4_correct_79 : decode cX4_correct 79 = .ok (.iload 4, 2) := by decide +kernel
theorem dX4_correct_81 : decode cX4_correct 81 = .ok (.aload_n 0, 1) := by decide +kernel
theorem dX4_correct_82 : decode cX4_correct 82 = .ok (.getfield 7, 3) := by decide +kernel
theorem dX4_correct_85 : decode cX4_correct 85 = .ok (.iload 4, 2) := by decide +kernel
theorem dX4_correct_87 : decode cX4_correct 87 = .ok (.iaload, 1) := by decide +kernel
theorem dX4_correct_88 : decode cX4_correct 88 = .ok (.iadd, 1) := by decide +kernel
theorem dX4_correct_89 : decode cX4_correct 89 = .ok (.iload_n 3, 1) := by decide +kernel
theorem dX4_correct_90 : decode cX4_correct 90 = .ok (.iastore, 1) := by decide +kernel
theorem dX4_correct_91 : decode cX4_correct 91 = .ok (.aload_n 0, 1) := by decide +kernel
theorem dX4_correct_92 : decode cX4_correct 92 = .ok (.iload_n 2, 1) := by decide +kernel
theorem dX4_correct_93 : decode cX4_correct 93 = .ok (.invokevirtual 99, 3) := by decide +kernel
theorem dX4_correct_96 : decode cX4_correct 96 = .ok (.ireturn, 1) := by decide +kernel
theorem dX4_takeBack_0 : decode cX4_takeBack 0 = .ok (.aload_n 0, 1) := by decide +kernel
theorem dX4_takeBack_1 : decode cX4_takeBack 1 = .ok (.iload_n 1, 1) := by decide +kernel
theorem dX4_takeBack_2 : decode cX4_takeBack 2 = .ok (.iload_n 2, 1) := by decide +kernel
theorem dX4_takeBack_3 : decode cX4_takeBack 3 = .ok (.invokevirtual 93, 3) := by decide +kernel
theorem dX4_takeBack_6 : decode cX4_takeBack 6 = .ok (.ifCond .ne 5, 3) := by decide +kernel
theorem dX4_takeBack_9 : decode cX4_takeBack 9 = .ok (.iconst (-1), 1) := by decide +kernel
theorem dX4_takeBack_10 : decode cX4_takeBack 10 = .ok (.ireturn, 1) := by decide +kernel
theorem dX4_takeBack_11 : decode cX4_takeBack 11 = .ok (.aload_n 0, 1) := by decide +kernel
theorem dX4_takeBack_12 : decode cX4_takeBack 12 = .ok (.iload_n 1, 1) := by decide +kernel
theorem dX4_takeBack_13 : decode cX4_takeBack 13 = .ok (.iload_n 2, 1) := by decide +kernel
theorem dX4_takeBack_14 : decode cX4_takeBack 14 = .ok (.invokevirtual 56, 3) := by decide +kernel
theorem dX4_takeBack_17 : decode cX4_takeBack 17 = .ok (.iconst 1, 1) := by decide +kernel
theorem dX4_takeBack_18 : decode cX4_takeBack 18 = .ok (.if_icmp .ne 6, 3) := by decide +kernel
theorem dX4_takeBack_21 : decode cX4_takeBack 21 = .ok (.bipush (-4), 2) := by decide +kernel
theorem dX4_takeBack_23 : decode cX4_takeBack 23 = .ok (.ireturn, 1) := by decide +kernel
theorem dX4_takeBack_24 : decode cX4_takeBack 24 = .ok (.aload_n 0, 1) := by decide +kernel
theorem dX4_takeBack_25 : decode cX4_takeBack 25 = .ok (.invokevirtual 72, 3) := by decide +kernel
theorem dX4_takeBack_28 : decode cX4_takeBack 28 = .ok (.aload_n 0, 1) := by decide +kernel
theorem dX4_takeBack_29 : decode cX4_takeBack 29 = .ok (.iload_n 2, 1) := by decide +kernel
theorem dX4_takeBack_30 : decode cX4_takeBack 30 = .ok (.invokevirtual 96, 3) := by decide +kernel
theorem dX4_takeBack_33 : decode cX4_takeBack 33 = .ok (.iload_n 1, 1) := by decide +kernel
theorem dX4_takeBack_34 : decode cX4_takeBack 34 = .ok (.iload_n 2, 1) := by decide +kernel
theorem dX4_takeBack_35 : decode cX4_takeBack 35 = .ok (.invokestatic 52, 3) := by decide +kernel
theorem dX4_takeBack_38 : decode cX4_takeBack 38 = .ok (.istore_n 3, 1) := by decide +kernel
theorem dX4_takeBack_39 : decode cX4_takeBack 39 = .ok (.aload_n 0, 1) := by decide +kernel
theorem dX4_takeBack_40 : decode cX4_takeBack 40 = .ok (.getfield 7, 3) := by decide +kernel
theorem dX4_takeBack_43 : decode cX4_takeBack 43 = .ok (.iload_n 3, 1) := by decide +kernel
theorem dX4_takeBack_44 : decode cX4_takeBack 44 = .ok (.aload_n 0, 1) := by decide +kernel
theorem dX4_takeBack_45 : decode cX4_takeBack 45 = .ok (.getfield 7, 3) := by decide +kernel
theorem dX4_takeBack_48 : decode cX4_takeBack 48 = .ok (.iload_n 3, 1) := by decide +kernel
theorem dX4_takeBack_49 : decode cX4_takeBack 49 = .ok (.iaload, 1) := by decide +kernel
theorem dX4_takeBack_50 : decode cX4_takeBack 50 = .ok (.iadd, 1) := by decide +kernel
theorem dX4_takeBack_51 : decode cX4_takeBack 51 = .ok (.iconst 0, 1) := by decide +kernel
theorem dX4_takeBack_52 : decode cX4_takeBack 52 = .ok (.iastore, 1) := by decide +kernel
theorem dX4_takeBack_53 : decode cX4_takeBack 53 = .ok (.aload_n 0, 1) := by decide +kernel
theorem dX4_takeBack_54 : decode cX4_takeBack 54 = .ok (.getfield 7, 3) := by decide +kernel
theorem dX4_takeBack_57 : decode cX4_takeBack 57 = .ok (.iload_n 3, 1) := by decide +kernel
theorem dX4_takeBack_58 : decode cX4_takeBack 58 = .ok (.dup2, 1) := by decide +kernel
theorem dX4_takeBack_59 : decode cX4_takeBack 59 = .ok (.iaload, 1) := by decide +kernel
theorem dX4_takeBack_60 : decode cX4_takeBack 60 = .ok (.iconst 1, 1) := by decide +kernel
theorem dX4_takeBack_61 : decode cX4_takeBack 61 = .ok (.isub, 1) := by decide +kernel
theorem dX4_takeBack_62 : decode cX4_takeBack 62 = .ok (.iastore, 1) := by decide +kernel
theorem dX4_takeBack_63 : decode cX4_takeBack 63 = .ok (.aload_n 0, 1) := by decide +kernel
theorem dX4_takeBack_64 : decode cX4_takeBack 64 = .ok (.iload_n 2, 1) := by decide +kernel
theorem dX4_takeBack_65 : decode cX4_takeBack 65 = .ok (.invokevirtual 99, 3) := by decide +kernel
theorem dX4_takeBack_68 : decode cX4_takeBack 68 = .ok (.ireturn, 1) := by decide +kernel
theorem dX4_claim_0 : decode cX4_claim 0 = .ok (.iload_n 1, 1) := by decide +kernel
theorem dX4_claim_1 : decode cX4_claim 1 = .ok (.iconst 0, 1) := by decide +kernel
theorem dX4_claim_2 : decode cX4_claim 2 = .ok (.bipush 23, 2) := by decide +kernel
theorem dX4_claim_4 : decode cX4_claim 4 = .ok (.invokestatic 37, 3) := by decide +kernel
theorem dX4_claim_7 : decode cX4_claim 7 = .ok (.ifCond .ne 5, 3) := by decide +kernel
theorem dX4_claim_10 : decode cX4_claim 10 = .ok (.iconst (-1), 1) := by decide +kernel
theorem dX4_claim_11 : decode cX4_claim 11 = .ok (.ireturn, 1) := by decide +kernel
theorem dX4_claim_12 : decode cX4_claim 12 = .ok (.iload_n 2, 1) := by decide +kernel
theorem dX4_claim_13 : decode cX4_claim 13 = .ok (.bipush (-5), 2) := by decide +kernel
theorem dX4_claim_15 : decode cX4_claim 15 = .ok (.if_icmp .eq 17, 3) := by decide +kernel
theorem dX4_claim_18 : decode cX4_claim 18 = .ok (.iload_n 2, 1) := by decide +kernel
theorem dX4_claim_19 : decode cX4_claim 19 = .ok (.iconst 0, 1) := by decide +kernel
theorem dX4_claim_20 : decode cX4_claim 20 = .ok (.sipush 9999, 3) := by decide +kernel
theorem dX4_claim_23 : decode cX4_claim 23 = .ok (.invokestatic 37, 3) := by decide +kernel
theorem dX4_claim_26 : decode cX4_claim 26 = .ok (.ifCond .ne 6, 3) := by decide +kernel
theorem dX4_claim_29 : decode cX4_claim 29 = .ok (.bipush (-2), 2) := by decide +kernel
theorem dX4_claim_31 : decode cX4_claim 31 = .ok (.ireturn, 1) := by decide +kernel
theorem dX4_claim_32 : decode cX4_claim 32 = .ok (.aload_n 0, 1) := by decide +kernel
theorem dX4_claim_33 : decode cX4_claim 33 = .ok (.getfield 7, 3) := by decide +kernel
theorem dX4_claim_36 : decode cX4_claim 36 = .ok (.iconst 4, 1) := by decide +kernel
theorem dX4_claim_37 : decode cX4_claim 37 = .ok (.iload_n 1, 1) := by decide +kernel
theorem dX4_claim_38 : decode cX4_claim 38 = .ok (.iadd, 1) := by decide +kernel
theorem dX4_claim_39 : decode cX4_claim 39 = .ok (.iaload, 1) := by decide +kernel
theorem dX4_claim_40 : decode cX4_claim 40 = .ok (.istore_n 3, 1) := by decide +kernel
theorem dX4_claim_41 : decode cX4_claim 41 = .ok (.iload_n 3, 1) := by decide +kernel
theorem dX4_claim_42 : decode cX4_claim 42 = .ok (.iload_n 2, 1) := by decide +kernel
theorem dX4_claim_43 : decode cX4_claim 43 = .ok (.if_icmp .ne 6, 3) := by decide +kernel
theorem dX4_claim_46 : decode cX4_claim 46 = .ok (.bipush (-5), 2) := by decide +kernel
theorem dX4_claim_48 : decode cX4_claim 48 = .ok (.ireturn, 1) := by decide +kernel
theorem dX4_claim_49 : decode cX4_claim 49 = .ok (.aload_n 0, 1) := by decide +kernel
theorem dX4_claim_50 : decode cX4_claim 50 = .ok (.invokevirtual 72, 3) := by decide +kernel
theorem dX4_claim_53 : decode cX4_claim 53 = .ok (.aload_n 0, 1) := by decide +kernel
theorem dX4_claim_54 : decode cX4_claim 54 = .ok (.getfield 7, 3) := by decide +kernel
theorem dX4_claim_57 : decode cX4_claim 57 = .ok (.iconst 4, 1) := by decide +kernel
theorem dX4_claim_58 : decode cX4_claim 58 = .ok (.iload_n 1, 1) := by decide +kernel
theorem dX4_claim_59 : decode cX4_claim 59 = .ok (.iadd, 1) := by decide +kernel
theorem dX4_claim_60 : decode cX4_claim 60 = .ok (.iload_n 2, 1) := by decide +kernel
theorem dX4_claim_61 : decode cX4_claim 61 = .ok (.iastore, 1) := by decide +kernel
theorem dX4_claim_62 : decode cX4_claim 62 = .ok (.iload_n 3, 1) := by decide +kernel
theorem dX4_claim_63 : decode cX4_claim 63 = .ok (.sipush 10000, 3) := by decide +kernel
theorem dX4_claim_66 : decode cX4_claim 66 = .ok (.iadd, 1) := by decide +kernel
theorem dX4_claim_67 : decode cX4_claim 67 = .ok (.ireturn, 1) := by decide +kernel
theorem dX4_isSetting_0 : decode cX4_isSetting 0 = .ok (.iload_n 0, 1) := by decide +kernel
theorem dX4_isSetting_1 : decode cX4_isSetting 1 = .ok (.tableswitch 50 0 2 #[27, 35, 42], 27) := by decide +kernel
theorem dX4_isSetting_28 : decode cX4_isSetting 28 = .ok (.iload_n 1, 1) := by decide +kernel
theorem dX4_isSetting_29 : decode cX4_isSetting 29 = .ok (.iconst 4, 1) := by decide +kernel
theorem dX4_isSetting_30 : decode cX4_isSetting 30 = .ok (.bipush 12, 2) := by decide +kernel
theorem dX4_isSetting_32 : decode cX4_isSetting 32 = .ok (.invokestatic 37, 3) := by decide +kernel
theorem dX4_isSetting_35 : decode cX4_isSetting 35 = .ok (.ireturn, 1) := by decide +kernel
theorem dX4_isSetting_36 : decode cX4_isSetting 36 = .ok (.iload_n 1, 1) := by decide +kernel
theorem dX4_isSetting_37 : decode cX4_isSetting 37 = .ok (.iconst 0, 1) := by decide +kernel
theorem dX4_isSetting_38 : decode cX4_isSetting 38 = .ok (.iconst 1, 1) := by decide +kernel
theorem dX4_isSetting_39 : decode cX4_isSetting 39 = .ok (.invokestatic 37, 3) := by decide +kernel
theorem dX4_isSetting_42 : decode cX4_isSetting 42 = .ok (.ireturn, 1) := by decide +kernel
theorem dX4_isSetting_43 : decode cX4_isSetting 43 = .ok (.iload_n 1, 1) := by decide +kernel
theorem dX4_isSetting_44 : decode cX4_isSetting 44 = .ok (.iconst 2, 1) := by decide +kernel
theorem dX4_isSetting_45 : decode cX4_isSetting 45 = .ok (.bipush 6, 2) := by decide +kernel
theorem dX4_isSetting_47 : decode cX4_isSetting 47 = .ok (.invokestatic 37, 3) := by decide +kernel
theorem dX4_isSetting_50 : decode cX4_isSetting 50 = .ok (.ireturn, 1) := by decide +kernel
theorem dX4_isSetting_51 : decode cX4_isSetting 51 = .ok (.iconst 0, 1) := by decide +kernel
theorem dX4_isSetting_52 : decode cX4_isSetting 52 = .ok (.ireturn, 1) := by decide +kernel
theorem dX4_set_0 : decode cX4_set 0 = .ok (.iload_n 1, 1) := by decide +kernel
theorem dX4_set_1 : decode cX4_set 1 = .ok (.iload_n 2, 1) := by decide +kernel
theorem dX4_set_2 : decode cX4_set 2 = .ok (.invokestatic 102, 3) := by decide +kernel
theorem dX4_set_5 : decode cX4_set 5 = .ok (.ifCond .ne 6, 3) := by decide +kernel
theorem dX4_set_8 : decode cX4_set 8 = .ok (.bipush (-2), 2) := by decide +kernel
theorem dX4_set_10 : decode cX4_set 10 = .ok (.ireturn, 1) := by decide +kernel
theorem dX4_set_11 : decode cX4_set 11 = .ok (.aload_n 0, 1) := by decide +kernel
theorem dX4_set_12 : decode cX4_set 12 = .ok (.getfield 7, 3) := by decide +kernel
theorem dX4_set_15 : decode cX4_set 15 = .ok (.iconst 1, 1) := by decide +kernel
theorem dX4_set_16 : decode cX4_set 16 = .ok (.iload_n 1, 1) := by decide +kernel
theorem dX4_set_17 : decode cX4_set 17 = .ok (.iadd, 1) := by decide +kernel
theorem dX4_set_18 : decode cX4_set 18 = .ok (.iaload, 1) := by decide +kernel
theorem dX4_set_19 : decode cX4_set 19 = .ok (.istore_n 3, 1) := by decide +kernel
theorem dX4_set_20 : decode cX4_set 20 = .ok (.iload_n 3, 1) := by decide +kernel
theorem dX4_set_21 : decode cX4_set 21 = .ok (.iload_n 2, 1) := by decide +kernel
theorem dX4_set_22 : decode cX4_set 22 = .ok (.if_icmp .ne 6, 3) := by decide +kernel
theorem dX4_set_25 : decode cX4_set 25 = .ok (.bipush (-5), 2) := by decide +kernel
theorem dX4_set_27 : decode cX4_set 27 = .ok (.ireturn, 1) := by decide +kernel
theorem dX4_set_28 : decode cX4_set 28 = .ok (.aload_n 0, 1) := by decide +kernel
theorem dX4_set_29 : decode cX4_set 29 = .ok (.invokevirtual 72, 3) := by decide +kernel
theorem dX4_set_32 : decode cX4_set 32 = .ok (.aload_n 0, 1) := by decide +kernel
theorem dX4_set_33 : decode cX4_set 33 = .ok (.getfield 7, 3) := by decide +kernel
theorem dX4_set_36 : decode cX4_set 36 = .ok (.iconst 1, 1) := by decide +kernel
theorem dX4_set_37 : decode cX4_set 37 = .ok (.iload_n 1, 1) := by decide +kernel
theorem dX4_set_38 : decode cX4_set 38 = .ok (.iadd, 1) := by decide +kernel
theorem dX4_set_39 : decode cX4_set 39 = .ok (.iload_n 2, 1) := by decide +kernel
theorem dX4_set_40 : decode cX4_set 40 = .ok (.iastore, 1) := by decide +kernel
theorem dX4_set_41 : decode cX4_set 41 = .ok (.iload_n 3, 1) := by decide +kernel
theorem dX4_set_42 : decode cX4_set 42 = .ok (.ireturn, 1) := by decide +kernel
theorem dX4_type_0 : decode cX4_type 0 = .ok (.aload_n 0, 1) := by decide +kernel
theorem dX4_type_1 : decode cX4_type 1 = .ok (.getfield 105, 3) := by decide +kernel
theorem dX4_type_4 : decode cX4_type 4 = .ok (.bipush 60, 2) := by decide +kernel
theorem dX4_type_6 : decode cX4_type 6 = .ok (.if_icmp .ne 6, 3) := by decide +kernel
theorem dX4_type_9 : decode cX4_type 9 = .ok (.bipush (-3), 2) := by decide +kernel
theorem dX4_type_11 : decode cX4_type 11 = .ok (.ireturn, 1) := by decide +kernel
theorem dX4_type_12 : decode cX4_type 12 = .ok (.aload_n 0, 1) := by decide +kernel
theorem dX4_type_13 : decode cX4_type 13 = .ok (.getfield 19, 3) := by decide +kernel
theorem dX4_type_16 : decode cX4_type 16 = .ok (.aload_n 0, 1) := by decide +kernel
theorem dX4_type_17 : decode cX4_type 17 = .ok (.getfield 105, 3) := by decide +kernel
theorem dX4_type_20 : decode cX4_type 20 = .ok (.iload_n 1, 1) := by decide +kernel
theorem dX4_type_21 : decode cX4_type 21 = .ok (.castore, 1) := by decide +kernel
theorem dX4_type_22 : decode cX4_type 22 = .ok (.aload_n 0, 1) := by decide +kernel
theorem dX4_type_23 : decode cX4_type 23 = .ok (.dup, 1) := by decide +kernel
theorem dX4_type_24 : decode cX4_type 24 = .ok (.getfield 105, 3) := by decide +kernel
theorem dX4_type_27 : decode cX4_type 27 = .ok (.iconst 1, 1) := by decide +kernel
theorem dX4_type_28 : decode cX4_type 28 = .ok (.iadd, 1) := by decide +kernel
theorem dX4_type_29 : decode cX4_type 29 = .ok (.putfield 105, 3) := by decide +kernel
theorem dX4_type_32 : decode cX4_type 32 = .ok (.aload_n 0, 1) := by decide +kernel
theorem dX4_type_33 : decode cX4_type 33 = .ok (.getfield 105, 3) := by decide +kernel
theorem dX4_type_36 : decode cX4_type 36 = .ok (.ireturn, 1) := by decide +kernel
theorem dX4_clearText_0 : decode cX4_clearText 0 = .ok (.aload_n 0, 1) := by decide +kernel
theorem dX4_clearText_1 : decode cX4_clearText 1 = .ok (.getfield 105, 3) := by decide +kernel
theorem dX4_clearText_4 : decode cX4_clearText 4 = .ok (.istore_n 1, 1) := by decide +kernel
theorem dX4_clearText_5 : decode cX4_clearText 5 = .ok (.aload_n 0, 1) := by decide +kernel
theorem dX4_clearText_6 : decode cX4_clearText 6 = .ok (.iconst 0, 1) := by decide +kernel
theorem dX4_clearText_7 : decode cX4_clearText 7 = .ok (.putfield 105, 3) := by decide +kernel
theorem dX4_clearText_10 : decode cX4_clearText 10 = .ok (.iload_n 1, 1) := by decide +kernel
theorem dX4_clearText_11 : decode cX4_clearText 11 = .ok (.ireturn, 1) := by decide +kernel
theorem dX4_sees_0 : decode cX4_sees 0 = .ok (.aload_n 0, 1) := by decide +kernel
theorem dX4_sees_1 : decode cX4_sees 1 = .ok (.getfield 108, 3) := by decide +kernel
theorem dX4_sees_4 : decode cX4_sees 4 = .ok (.aload_n 0, 1) := by decide +kernel
theorem dX4_sees_5 : decode cX4_sees 5 = .ok (.getfield 105, 3) := by decide +kernel
theorem dX4_sees_8 : decode cX4_sees 8 = .ok (.if_icmp .ge 24, 3) := by decide +kernel
theorem dX4_sees_11 : decode cX4_sees 11 = .ok (.aload_n 0, 1) := by decide +kernel
theorem dX4_sees_12 : decode cX4_sees 12 = .ok (.getfield 19, 3) := by decide +kernel
theorem dX4_sees_15 : decode cX4_sees 15 = .ok (.aload_n 0, 1) := by decide +kernel
theorem dX4_sees_16 : decode cX4_sees 16 = .ok (.getfield 108, 3) := by decide +kernel
theorem dX4_sees_19 : decode cX4_sees 19 = .ok (.caload, 1) := by decide +kernel
theorem dX4_sees_20 : decode cX4_sees 20 = .ok (.iload_n 1, 1) := by decide +kernel
theorem dX4_sees_21 : decode cX4_sees 21 = .ok (.iload_n 2, 1) := by decide +kernel
theorem dX4_sees_22 : decode cX4_sees 22 = .ok (.invokestatic 37, 3) := by decide +kernel
theorem dX4_sees_25 : decode cX4_sees 25 = .ok (.ifCond .eq 7, 3) := by decide +kernel
theorem dX4_sees_28 : decode cX4_sees 28 = .ok (.iconst 1, 1) := by decide +kernel
theorem dX4_sees_29 : decode cX4_sees 29 = .ok (.goto 4, 3) := by decide +kernel
theorem dX4_sees_32 : decode cX4_sees 32 = .ok (.iconst 0, 1) := by decide +kernel
theorem dX4_sees_33 : decode cX4_sees 33 = .ok (.ireturn, 1) := by decide +kernel
theorem dX4_takes_0 : decode cX4_takes 0 = .ok (.aload_n 0, 1) := by decide +kernel
theorem dX4_takes_1 : decode cX4_takes 1 = .ok (.iload_n 1, 1) := by decide +kernel
theorem dX4_takes_2 : decode cX4_takes 2 = .ok (.iload_n 1, 1) := by decide +kernel
theorem dX4_takes_3 : decode cX4_takes 3 = .ok (.invokevirtual 111, 3) := by decide +kernel
theorem dX4_takes_6 : decode cX4_takes 6 = .ok (.istore_n 2, 1) := by decide +kernel
theorem dX4_takes_7 : decode cX4_takes 7 = .ok (.aload_n 0, 1) := by decide +kernel
theorem dX4_takes_8 : decode cX4_takes 8 = .ok (.dup, 1) := by decide +kernel
theorem dX4_takes_9 : decode cX4_takes 9 = .ok (.getfield 108, 3) := by decide +kernel
theorem dX4_takes_12 : decode cX4_takes 12 = .ok (.iload_n 2, 1) := by decide +kernel
theorem dX4_takes_13 : decode cX4_takes 13 = .ok (.ifCond .eq 7, 3) := by decide +kernel
theorem dX4_takes_16 : decode cX4_takes 16 = .ok (.iconst 1, 1) := by decide +kernel
theorem dX4_takes_17 : decode cX4_takes 17 = .ok (.goto 4, 3) := by decide +kernel
theorem dX4_takes_20 : decode cX4_takes 20 = .ok (.iconst 0, 1) := by decide +kernel
theorem dX4_takes_21 : decode cX4_takes 21 = .ok (.iadd, 1) := by decide +kernel
theorem dX4_takes_22 : decode cX4_takes 22 = .ok (.putfield 108, 3) := by decide +kernel
theorem dX4_takes_25 : decode cX4_takes 25 = .ok (.iload_n 2, 1) := by decide +kernel
theorem dX4_takes_26 : decode cX4_takes 26 = .ok (.ireturn, 1) := by decide +kernel
theorem dX4_isCellNext_0 : decode cX4_isCellNext 0 = .ok (.iload_n 1, 1) := by decide +kernel
theorem dX4_isCellNext_1 : decode cX4_isCellNext 1 = .ok (.iconst 4, 1) := by decide +kernel
theorem dX4_isCellNext_2 : decode cX4_isCellNext 2 = .ok (.irem, 1) := by decide +kernel
theorem dX4_isCellNext_3 : decode cX4_isCellNext 3 = .ok (.istore_n 2, 1) := by decide +kernel
theorem dX4_isCellNext_4 : decode cX4_isCellNext 4 = .ok (.aload_n 0, 1) := by decide +kernel
theorem dX4_isCellNext_5 : decode cX4_isCellNext 5 = .ok (.bipush 45, 2) := by decide +kernel
theorem dX4_isCellNext_7 : decode cX4_isCellNext 7 = .ok (.invokevirtual 114, 3) := by decide +kernel
theorem dX4_isCellNext_10 : decode cX4_isCellNext 10 = .ok (.ifCond .ne 12, 3) := by decide +kernel
theorem dX4_isCellNext_13 : decode cX4_isCellNext 13 = .ok (.aload_n 0, 1) := by decide +kernel
theorem dX4_isCellNext_14 : decode cX4_isCellNext 14 = .ok (.bipush 39, 2) := by decide +kernel
theorem dX4_isCellNext_16 : decode cX4_isCellNext 16 = .ok (.invokevirtual 114, 3) := by decide +kernel
theorem dX4_isCellNext_19 : decode cX4_isCellNext 19 = .ok (.ifCond .eq 34, 3) := by decide +kernel
theorem dX4_isCellNext_22 : decode cX4_isCellNext 22 = .ok (.aload_n 0, 1) := by decide +kernel
theorem dX4_isCellNext_23 : decode cX4_isCellNext 23 = .ok (.getfield 26, 3) := by decide +kernel
theorem dX4_isCellNext_26 : decode cX4_isCellNext 26 = .ok (.iload_n 1, 1) := by decide +kernel
theorem dX4_isCellNext_27 : decode cX4_isCellNext 27 = .ok (.aload_n 0, 1) := by decide +kernel
theorem dX4_isCellNext_28 : decode cX4_isCellNext 28 = .ok (.getfield 19, 3) := by decide +kernel
theorem dX4_isCellNext_31 : decode cX4_isCellNext 31 = .ok (.aload_n 0, 1) := by decide +kernel
theorem dX4_isCellNext_32 : decode cX4_isCellNext 32 = .ok (.getfield 108, 3) := by decide +kernel
theorem dX4_isCellNext_35 : decode cX4_isCellNext 35 = .ok (.iconst 1, 1) := by decide +kernel
theorem dX4_isCellNext_36 : decode cX4_isCellNext 36 = .ok (.isub, 1) := by decide +kernel
theorem dX4_isCellNext_37 : decode cX4_isCellNext 37 = .ok (.caload, 1) := by decide +kernel
theorem dX4_isCellNext_38 : decode cX4_isCellNext 38 = .ok (.bipush 45, 2) := by decide +kernel
theorem dX4_isCellNext_40 : decode cX4_isCellNext 40 = .ok (.if_icmp .ne 8, 3) := by decide +kernel
theorem dX4_isCellNext_43 : decode cX4_isCellNext 43 = .ok (.bipush (-5), 2) := by decide +kernel
theorem dX4_isCellNext_45 : decode cX4_isCellNext 45 = .ok (.goto 5, 3) := by decide +kernel
theorem dX4_isCellNext_48 : decode cX4_isCellNext 48 = .ok (.bipush (-6), 2) := by decide +kernel
theorem dX4_isCellNext_50 : decode cX4_isCellNext 50 = .ok (.iastore, 1) := by decide +kernel
theorem dX4_isCellNext_51 : decode cX4_isCellNext 51 = .ok (.iconst 1, 1) := by decide +kernel
theorem dX4_isCellNext_52 : decode cX4_isCellNext 52 = .ok (.ireturn, 1) := by decide +kernel
theorem dX4_isCellNext_53 : decode cX4_isCellNext 53 = .ok (.aload_n 0, 1) := by decide +kernel
theorem dX4_isCellNext_54 : decode cX4_isCellNext 54 = .ok (.bipush 48, 2) := by decide +kernel
theorem dX4_isCellNext_56 : decode cX4_isCellNext 56 = .ok (.bipush 48, 2) := by decide +kernel
theorem dX4_isCellNext_58 : decode cX4_isCellNext 58 = .ok (.iload_n 2, 1) := by decide +kernel
theorem dX4_isCellNext_59 : decode cX4_isCellNext 59 = .ok (.invokestatic 48, 3) := by decide +kernel
theorem dX4_isCellNext_62 : decode cX4_isCellNext 62 = .ok (.bipush 9, 2) := by decide +kernel
theorem dX4_isCellNext_64 : decode cX4_isCellNext 64 = .ok (.if_icmp .ge 10, 3) := by decide +kernel
theorem dX4_isCellNext_67 : decode cX4_isCellNext 67 = .ok (.iload_n 2, 1) := by decide +kernel
theorem dX4_isCellNext_68 : decode cX4_isCellNext 68 = .ok (.invokestatic 48, 3) := by decide +kernel
theorem dX4_isCellNext_71 : decode cX4_isCellNext 71 = .ok (.goto 5, 3) := by decide +kernel
theorem dX4_isCellNext_74 : decode cX4_isCellNext 74 = .ok (.bipush 9, 2) := by decide +kernel
theorem dX4_isCellNext_76 : decode cX4_isCellNext 76 = .ok (.iadd, 1) := by decide +kernel
theorem dX4_isCellNext_77 : decode cX4_isCellNext 77 = .ok (.invokevirtual 111, 3) := by decide +kernel
theorem dX4_isCellNext_80 : decode cX4_isCellNext 80 = .ok (.ifCond .ne 5, 3) := by decide +kernel
theorem dX4_isCellNext_83 : decode cX4_isCellNext 83 = .ok (.iconst 0, 1) := by decide +kernel
theorem dX4_isCellNext_84 : decode cX4_isCellNext 84 = .ok (.ireturn, 1) := by decide +kernel
theorem dX4_isCellNext_85 : decode cX4_isCellNext 85 = .ok (.aload_n 0, 1) := by decide +kernel
theorem dX4_isCellNext_86 : decode cX4_isCellNext 86 = .ok (.getfield 19, 3) := by decide +kernel
theorem dX4_isCellNext_89 : decode cX4_isCellNext 89 = .ok (.aload_n 0, 1) := by decide +kernel
theorem dX4_isCellNext_90 : decode cX4_isCellNext 90 = .ok (.getfield 108, 3) := by decide +kernel
theorem dX4_isCellNext_93 : decode cX4_isCellNext 93 = .ok (.caload, 1) := by decide +kernel
theorem dX4_isCellNext_94 : decode cX4_isCellNext 94 = .ok (.bipush 48, 2) := by decide +kernel
theorem dX4_isCellNext_96 : decode cX4_isCellNext 96 = .ok (.isub, 1) := by decide +kernel
theorem dX4_isCellNext_97 : decode cX4_isCellNext 97 = .ok (.istore_n 3, 1) := by decide +kernel
theorem dX4_isCellNext_98 : decode cX4_isCellNext 98 = .ok (.aload_n 0, 1) := by decide +kernel
theorem dX4_isCellNext_99 : decode cX4_isCellNext 99 = .ok (.dup, 1) := by decide +kernel
theorem dX4_isCellNext_100 : decode cX4_isCellNext 100 = .ok (.getfield 108, 3) := by decide +kernel
theorem dX4_isCellNext_103 : decode cX4_isCellNext 103 = .ok (.iconst 1, 1) := by decide +kernel
theorem dX4_isCellNext_104 : decode cX4_isCellNext 104 = .ok (.iadd, 1) := by decide +kernel
theorem dX4_isCellNext_105 : decode cX4_isCellNext 105 = .ok (.putfield 108, 3) := by decide +kernel
theorem dX4_isCellNext_108 : decode cX4_isCellNext 108 = .ok (.iload_n 3, 1) := by decide +kernel
theorem dX4_isCellNext_109 : decode cX4_isCellNext 109 = .ok (.ifCond .le 69, 3) := by decide +kernel
theorem dX4_isCellNext_112 : decode cX4_isCellNext 112 = .ok (.aload_n 0, 1) := by decide +kernel
theorem dX4_isCellNext_113 : decode cX4_isCellNext 113 = .ok (.bipush 48, 2) := by decide +kernel
theorem dX4_isCellNext_115 : decode cX4_isCellNext 115 = .ok (.bipush 57, 2) := by decide +kernel
theorem dX4_isCellNext_117 : decode cX4_isCellNext 117 = .ok (.invokevirtual 111, 3) := by decide +kernel
theorem dX4_isCellNext_120 : decode cX4_isCellNext 120 = .ok (.ifCond .eq 58, 3) := by decide +kernel
theorem dX4_isCellNext_123 : decode cX4_isCellNext 123 = .ok (.bipush 10, 2) := by decide +kernel
theorem dX4_isCellNext_125 : decode cX4_isCellNext 125 = .ok (.iload_n 3, 1) := by decide +kernel
theorem dX4_isCellNext_126 : decode cX4_isCellNext 126 = .ok (.imul, 1) := by decide +kernel
theorem dX4_isCellNext_127 : decode cX4_isCellNext 127 = .ok (.aload_n 0, 1) := by decide +kernel
theorem dX4_isCellNext_128 : decode cX4_isCellNext 128 = .ok (.getfield 19, 3) := by decide +kernel
theorem dX4_isCellNext_131 : decode cX4_isCellNext 131 = .ok (.aload_n 0, 1) := by decide +kernel
theorem dX4_isCellNext_132 : decode cX4_isCellNext 132 = .ok (.getfield 108, 3) := by decide +kernel
theorem dX4_isCellNext_135 : decode cX4_isCellNext 135 = .ok (.caload, 1) := by decide +kernel
theorem dX4_isCellNext_136 : decode cX4_isCellNext 136 = .ok (.iadd, 1) := by decide +kernel
theorem dX4_isCellNext_137 : decode cX4_isCellNext 137 = .ok (.bipush 48, 2) := by decide +kernel
theorem dX4_isCellNext_139 : decode cX4_isCellNext 139 = .ok (.isub, 1) := by decide +kernel
theorem dX4_isCellNext_140 : decode cX4_isCellNext 140 = .ok (.iload_n 2, 1) := by decide +kernel
theorem dX4_isCellNext_141 : decode cX4_isCellNext 141 = .ok (.invokestatic 48, 3) := by decide +kernel
theorem dX4_isCellNext_144 : decode cX4_isCellNext 144 = .ok (.if_icmp .gt 34, 3) := by decide +kernel
theorem dX4_isCellNext_147 : decode cX4_isCellNext 147 = .ok (.bipush 10, 2) := by decide +kernel
theorem dX4_isCellNext_149 : decode cX4_isCellNext 149 = .ok (.iload_n 3, 1) := by decide +kernel
theorem dX4_isCellNext_150 : decode cX4_isCellNext 150 = .ok (.imul, 1) := by decide +kernel
theorem dX4_isCellNext_151 : decode cX4_isCellNext 151 = .ok (.aload_n 0, 1) := by decide +kernel
theorem dX4_isCellNext_152 : decode cX4_isCellNext 152 = .ok (.getfield 19, 3) := by decide +kernel
theorem dX4_isCellNext_155 : decode cX4_isCellNext 155 = .ok (.aload_n 0, 1) := by decide +kernel
theorem dX4_isCellNext_156 : decode cX4_isCellNext 156 = .ok (.getfield 108, 3) := by decide +kernel
theorem dX4_isCellNext_159 : decode cX4_isCellNext 159 = .ok (.caload, 1) := by decide +kernel
theorem dX4_isCellNext_160 : decode cX4_isCellNext 160 = .ok (.iadd, 1) := by decide +kernel
theorem dX4_isCellNext_161 : decode cX4_isCellNext 161 = .ok (.bipush 48, 2) := by decide +kernel
theorem dX4_isCellNext_163 : decode cX4_isCellNext 163 = .ok (.isub, 1) := by decide +kernel
theorem dX4_isCellNext_164 : decode cX4_isCellNext 164 = .ok (.istore_n 3, 1) := by decide +kernel
theorem dX4_isCellNext_165 : decode cX4_isCellNext 165 = .ok (.aload_n 0, 1) := by decide +kernel
theorem dX4_isCellNext_166 : decode cX4_isCellNext 166 = .ok (.dup, 1) := by decide +kernel
theorem dX4_isCellNext_167 : decode cX4_isCellNext 167 = .ok (.getfield 108, 3) := by decide +kernel
theorem dX4_isCellNext_170 : decode cX4_isCellNext 170 = .ok (.iconst 1, 1) := by decide +kernel
theorem dX4_isCellNext_171 : decode cX4_isCellNext 171 = .ok (.iadd, 1) := by decide +kernel
theorem dX4_isCellNext_172 : decode cX4_isCellNext 172 = .ok (.putfield 108, 3) := by decide +kernel
theorem dX4_isCellNext_175 : decode cX4_isCellNext 175 = .ok (.goto (-67), 3) := by decide +kernel
theorem dX4_isCellNext_178 : decode cX4_isCellNext 178 = .ok (.aload_n 0, 1) := by decide +kernel
theorem dX4_isCellNext_179 : decode cX4_isCellNext 179 = .ok (.getfield 26, 3) := by decide +kernel
theorem dX4_isCellNext_182 : decode cX4_isCellNext 182 = .ok (.iload_n 1, 1) := by decide +kernel
theorem dX4_isCellNext_183 : decode cX4_isCellNext 183 = .ok (.iload_n 3, 1) := by decide +kernel
theorem dX4_isCellNext_184 : decode cX4_isCellNext 184 = .ok (.iastore, 1) := by decide +kernel
theorem dX4_isCellNext_185 : decode cX4_isCellNext 185 = .ok (.iconst 1, 1) := by decide +kernel
theorem dX4_isCellNext_186 : decode cX4_isCellNext 186 = .ok (.ireturn, 1) := by decide +kernel
theorem dX4_isRowNext_0 : decode cX4_isRowNext 0 = .ok (.iconst 4, 1) := by decide +kernel
theorem dX4_isRowNext_1 : decode cX4_isRowNext 1 = .ok (.aload_n 0, 1) := by decide +kernel
theorem dX4_isRowNext_2 : decode cX4_isRowNext 2 = .ok (.getfield 83, 3) := by decide +kernel
theorem dX4_isRowNext_5 : decode cX4_isRowNext 5 = .ok (.imul, 1) := by decide +kernel
theorem dX4_isRowNext_6 : decode cX4_isRowNext 6 = .ok (.istore_n 1, 1) := by decide +kernel
theorem dX4_isRowNext_7 : decode cX4_isRowNext 7 = .ok (.aload_n 0, 1) := by decide +kernel
theorem dX4_isRowNext_8 : decode cX4_isRowNext 8 = .ok (.iload_n 1, 1) := by decide +kernel
theorem dX4_isRowNext_9 : decode cX4_isRowNext 9 = .ok (.invokevirtual 117, 3) := by decide +kernel
theorem dX4_isRowNext_12 : decode cX4_isRowNext 12 = .ok (.ifCond .eq 64, 3) := by decide +kernel
theorem dX4_isRowNext_15 : decode cX4_isRowNext 15 = .ok (.aload_n 0, 1) := by decide +kernel
theorem dX4_isRowNext_16 : decode cX4_isRowNext 16 = .ok (.bipush 44, 2) := by decide +kernel
theorem dX4_isRowNext_18 : decode cX4_isRowNext 18 = .ok (.invokevirtual 114, 3) := by decide +kernel
theorem dX4_isRowNext_21 : decode cX4_isRowNext 21 = .ok (.ifCond .eq 55, 3) := by decide +kernel
theorem dX4_isRowNext_24 : decode cX4_isRowNext 24 = .ok (.aload_n 0, 1) := by decide +kernel
theorem dX4_isRowNext_25 : decode cX4_isRowNext 25 = .ok (.iload_n 1, 1) := by decide +kernel
theorem dX4_isRowNext_26 : decode cX4_isRowNext 26 = .ok (.iconst 1, 1) := by decide +kernel
theorem dX4_isRowNext_27 : decode cX4_isRowNext 27 = .ok (.iadd, 1) := by decide +kernel
theorem dX4_isRowNext_28 : decode cX4_isRowNext 28 = .ok (.invokevirtual 117, 3) := by decide +kernel
theorem dX4_isRowNext_31 : decode cX4_isRowNext 31 = .ok (.ifCond .eq 45, 3) := by decide +kernel
theorem dX4_isRowNext_34 : decode cX4_isRowNext 34 = .ok (.aload_n 0, 1) := by decide +kernel
theorem dX4_isRowNext_35 : decode cX4_isRowNext 35 = .ok (.bipush 44, 2) := by decide +kernel
theorem dX4_isRowNext_37 : decode cX4_isRowNext 37 = .ok (.invokevirtual 114, 3) := by decide +kernel
theorem dX4_isRowNext_40 : decode cX4_isRowNext 40 = .ok (.ifCond .eq 36, 3) := by decide +kernel
theorem dX4_isRowNext_43 : decode cX4_isRowNext 43 = .ok (.aload_n 0, 1) := by decide +kernel
theorem dX4_isRowNext_44 : decode cX4_isRowNext 44 = .ok (.iload_n 1, 1) := by decide +kernel
theorem dX4_isRowNext_45 : decode cX4_isRowNext 45 = .ok (.iconst 2, 1) := by decide +kernel
theorem dX4_isRowNext_46 : decode cX4_isRowNext 46 = .ok (.iadd, 1) := by decide +kernel
theorem dX4_isRowNext_47 : decode cX4_isRowNext 47 = .ok (.invokevirtual 117, 3) := by decide +kernel
theorem dX4_isRowNext_50 : decode cX4_isRowNext 50 = .ok (.ifCond .eq 26, 3) := by decide +kernel
theorem dX4_isRowNext_53 : decode cX4_isRowNext 53 = .ok (.aload_n 0, 1) := by decide +kernel
theorem dX4_isRowNext_54 : decode cX4_isRowNext 54 = .ok (.bipush 44, 2) := by decide +kernel
theorem dX4_isRowNext_56 : decode cX4_isRowNext 56 = .ok (.invokevirtual 114, 3) := by decide +kernel
theorem dX4_isRowNext_59 : decode cX4_isRowNext 59 = .ok (.ifCond .eq 17, 3) := by decide +kernel
theorem dX4_isRowNext_62 : decode cX4_isRowNext 62 = .ok (.aload_n 0, 1) := by decide +kernel
theorem dX4_isRowNext_63 : decode cX4_isRowNext 63 = .ok (.iload_n 1, 1) := by decide +kernel
theorem dX4_isRowNext_64 : decode cX4_isRowNext 64 = .ok (.iconst 3, 1) := by decide +kernel
theorem dX4_isRowNext_65 : decode cX4_isRowNext 65 = .ok (.iadd, 1) := by decide +kernel
theorem dX4_isRowNext_66 : decode cX4_isRowNext 66 = .ok (.invokevirtual 117, 3) := by decide +kernel
theorem dX4_isRowNext_69 : decode cX4_isRowNext 69 = .ok (.ifCond .eq 7, 3) := by decide +kernel
theorem dX4_isRowNext_72 : decode cX4_isRowNext 72 = .ok (.iconst 1, 1) := by decide +kernel
theorem dX4_isRowNext_73 : decode cX4_isRowNext 73 = .ok (.goto 4, 3) := by decide +kernel
theorem dX4_isRowNext_76 : decode cX4_isRowNext 76 = .ok (.iconst 0, 1) := by decide +kernel
theorem dX4_isRowNext_77 : decode cX4_isRowNext 77 = .ok (.ireturn, 1) := by decide +kernel
theorem dX4_fault_0 : decode cX4_fault 0 = .ok (.aload_n 0, 1) := by decide +kernel
theorem dX4_fault_1 : decode cX4_fault 1 = .ok (.iconst 0, 1) := by decide +kernel
theorem dX4_fault_2 : decode cX4_fault 2 = .ok (.putfield 108, 3) := by decide +kernel
theorem dX4_fault_5 : decode cX4_fault 5 = .ok (.aload_n 0, 1) := by decide +kernel
theorem dX4_fault_6 : decode cX4_fault 6 = .ok (.iconst 0, 1) := by decide +kernel
theorem dX4_fault_7 : decode cX4_fault 7 = .ok (.putfield 83, 3) := by decide +kernel
theorem dX4_fault_10 : decode cX4_fault 10 = .ok (.iconst 1, 1) := by decide +kernel
theorem dX4_fault_11 : decode cX4_fault 11 = .ok (.istore_n 1, 1) := by decide +kernel
theorem dX4_fault_12 : decode cX4_fault 12 = .ok (.iload_n 1, 1) := by decide +kernel
theorem dX4_fault_13 : decode cX4_fault 13 = .ok (.ifCond .eq 35, 3) := by decide +kernel
theorem dX4_fault_16 : decode cX4_fault 16 = .ok (.aload_n 0, 1) := by decide +kernel
theorem dX4_fault_17 : decode cX4_fault 17 = .ok (.invokevirtual 120, 3) := by decide +kernel
theorem dX4_fault_20 : decode cX4_fault 20 = .ok (.ifCond .ne 8, 3) := by decide +kernel
theorem dX4_fault_23 : decode cX4_fault 23 = .ok (.aload_n 0, 1) := by decide +kernel
theorem dX4_fault_24 : decode cX4_fault 24 = .ok (.getfield 108, 3) := by decide +kernel
theorem dX4_fault_27 : decode cX4_fault 27 = .ok (.ireturn, 1) := by decide +kernel
theorem dX4_fault_28 : decode cX4_fault 28 = .ok (.aload_n 0, 1) := by decide +kernel
theorem dX4_fault_29 : decode cX4_fault 29 = .ok (.dup, 1) := by decide +kernel
theorem dX4_fault_30 : decode cX4_fault 30 = .ok (.getfield 83, 3) := by decide +kernel
theorem dX4_fault_33 : decode cX4_fault 33 = .ok (.iconst 1, 1) := by decide +kernel
theorem dX4_fault_34 : decode cX4_fault 34 = .ok (.iadd, 1) := by decide +kernel
theorem dX4_fault_35 : decode cX4_fault 35 = .ok (.putfield 83, 3) := by decide +kernel
theorem dX4_fault_38 : decode cX4_fault 38 = .ok (.aload_n 0, 1) := by decide +kernel
theorem dX4_fault_39 : decode cX4_fault 39 = .ok (.bipush 59, 2) := by decide +kernel
theorem dX4_fault_41 : decode cX4_fault 41 = .ok (.invokevirtual 114, 3) := by decide +kernel
theorem dX4_fault_44 : decode cX4_fault 44 = .ok (.istore_n 1, 1) := by decide +kernel
theorem dX4_fault_45 : decode cX4_fault 45 = .ok (.goto (-33), 3) := by decide +kernel
theorem dX4_fault_48 : decode cX4_fault 48 = .ok (.aload_n 0, 1) := by decide +kernel
theorem dX4_fault_49 : decode cX4_fault 49 = .ok (.getfield 108, 3) := by decide +kernel
theorem dX4_fault_52 : decode cX4_fault 52 = .ok (.aload_n 0, 1) := by decide +kernel
theorem dX4_fault_53 : decode cX4_fault 53 = .ok (.getfield 105, 3) := by decide +kernel
theorem dX4_fault_56 : decode cX4_fault 56 = .ok (.if_icmp .ne 8, 3) := by decide +kernel
theorem dX4_fault_59 : decode cX4_fault 59 = .ok (.bipush (-5), 2) := by decide +kernel
theorem dX4_fault_61 : decode cX4_fault 61 = .ok (.goto 7, 3) := by decide +kernel
theorem dX4_fault_64 : decode cX4_fault 64 = .ok (.aload_n 0, 1) := by decide +kernel
theorem dX4_fault_65 : decode cX4_fault 65 = .ok (.getfield 108, 3) := by decide +kernel
theorem dX4_fault_68 : decode cX4_fault 68 = .ok (.ireturn, 1) := by decide +kernel
theorem dX4_undo_0 : decode cX4_undo 0 = .ok (.aload_n 0, 1) := by decide +kernel
theorem dX4_undo_1 : decode cX4_undo 1 = .ok (.getfield 29, 3) := by decide +kernel
theorem dX4_undo_4 : decode cX4_undo 4 = .ok (.ifCond .ne 6, 3) := by decide +kernel
theorem dX4_undo_7 : decode cX4_undo 7 = .ok (.bipush (-5), 2) := by decide +kernel
theorem dX4_undo_9 : decode cX4_undo 9 = .ok (.ireturn, 1) := by decide +kernel
theorem dX4_undo_10 : decode cX4_undo 10 = .ok (.aload_n 0, 1) := by decide +kernel
theorem dX4_undo_11 : decode cX4_undo 11 = .ok (.dup, 1) := by decide +kernel
theorem dX4_undo_12 : decode cX4_undo 12 = .ok (.getfield 29, 3) := by decide +kernel
theorem dX4_undo_15 : decode cX4_undo 15 = .ok (.iconst 1, 1) := by decide +kernel
theorem dX4_undo_16 : decode cX4_undo 16 = .ok (.isub, 1) := by decide +kernel
theorem dX4_undo_17 : decode cX4_undo 17 = .ok (.putfield 29, 3) := by decide +kernel
theorem dX4_undo_20 : decode cX4_undo 20 = .ok (.aload_n 0, 1) := by decide +kernel
theorem dX4_undo_21 : decode cX4_undo 21 = .ok (.getfield 13, 3) := by decide +kernel
theorem dX4_undo_24 : decode cX4_undo 24 = .ok (.sipush 988, 3) := by decide +kernel
theorem dX4_undo_27 : decode cX4_undo 27 = .ok (.aload_n 0, 1) := by decide +kernel
theorem dX4_undo_28 : decode cX4_undo 28 = .ok (.getfield 29, 3) := by decide +kernel
theorem dX4_undo_31 : decode cX4_undo 31 = .ok (.imul, 1) := by decide +kernel
theorem dX4_undo_32 : decode cX4_undo 32 = .ok (.aload_n 0, 1) := by decide +kernel
theorem dX4_undo_33 : decode cX4_undo 33 = .ok (.getfield 7, 3) := by decide +kernel
theorem dX4_undo_36 : decode cX4_undo 36 = .ok (.iconst 0, 1) := by decide +kernel
theorem dX4_undo_37 : decode cX4_undo 37 = .ok (.invokestatic 33, 3) := by decide +kernel
theorem dX4_undo_40 : decode cX4_undo 40 = .ok (.aload_n 0, 1) := by decide +kernel
theorem dX4_undo_41 : decode cX4_undo 41 = .ok (.getfield 29, 3) := by decide +kernel
theorem dX4_undo_44 : decode cX4_undo 44 = .ok (.ireturn, 1) := by decide +kernel
theorem dX4_keep_0 : decode cX4_keep 0 = .ok (.aload_n 0, 1) := by decide +kernel
theorem dX4_keep_1 : decode cX4_keep 1 = .ok (.getfield 7, 3) := by decide +kernel
theorem dX4_keep_4 : decode cX4_keep 4 = .ok (.iconst 0, 1) := by decide +kernel
theorem dX4_keep_5 : decode cX4_keep 5 = .ok (.aload_n 0, 1) := by decide +kernel
theorem dX4_keep_6 : decode cX4_keep 6 = .ok (.getfield 16, 3) := by decide +kernel
theorem dX4_keep_9 : decode cX4_keep 9 = .ok (.iconst 0, 1) := by decide +kernel
theorem dX4_keep_10 : decode cX4_keep 10 = .ok (.invokestatic 33, 3) := by decide +kernel
theorem dX4_keep_13 : decode cX4_keep 13 = .ok (.aload_n 0, 1) := by decide +kernel
theorem dX4_keep_14 : decode cX4_keep 14 = .ok (.iconst 1, 1) := by decide +kernel
theorem dX4_keep_15 : decode cX4_keep 15 = .ok (.putfield 124, 3) := by decide +kernel
theorem dX4_keep_18 : decode cX4_keep 18 = .ok (.aload_n 0, 1) := by decide +kernel
theorem dX4_keep_19 : decode cX4_keep 19 = .ok (.getfield 7, 3) := by decide +kernel
theorem dX4_keep_22 : decode cX4_keep 22 = .ok (.iconst 0, 1) := by decide +kernel
theorem dX4_keep_23 : decode cX4_keep 23 = .ok (.iaload, 1) := by decide +kernel
theorem dX4_keep_24 : decode cX4_keep 24 = .ok (.ireturn, 1) := by decide +kernel
theorem dX4_restore_0 : decode cX4_restore 0 = .ok (.aload_n 0, 1) := by decide +kernel
theorem dX4_restore_1 : decode cX4_restore 1 = .ok (.getfield 124, 3) := by decide +kernel
theorem dX4_restore_4 : decode cX4_restore 4 = .ok (.ifCond .ne 6, 3) := by decide +kernel
theorem dX4_restore_7 : decode cX4_restore 7 = .ok (.bipush (-5), 2) := by decide +kernel
theorem dX4_restore_9 : decode cX4_restore 9 = .ok (.ireturn, 1) := by decide +kernel
theorem dX4_restore_10 : decode cX4_restore 10 = .ok (.aload_n 0, 1) := by decide +kernel
theorem dX4_restore_11 : decode cX4_restore 11 = .ok (.invokevirtual 72, 3) := by decide +kernel
theorem dX4_restore_14 : decode cX4_restore 14 = .ok (.aload_n 0, 1) := by decide +kernel
theorem dX4_restore_15 : decode cX4_restore 15 = .ok (.getfield 16, 3) := by decide +kernel
theorem dX4_restore_18 : decode cX4_restore 18 = .ok (.iconst 0, 1) := by decide +kernel
theorem dX4_restore_19 : decode cX4_restore 19 = .ok (.aload_n 0, 1) := by decide +kernel
theorem dX4_restore_20 : decode cX4_restore 20 = .ok (.getfield 7, 3) := by decide +kernel
theorem dX4_restore_23 : decode cX4_restore 23 = .ok (.iconst 0, 1) := by decide +kernel
theorem dX4_restore_24 : decode cX4_restore 24 = .ok (.invokestatic 33, 3) := by decide +kernel
theorem dX4_restore_27 : decode cX4_restore 27 = .ok (.aload_n 0, 1) := by decide +kernel
theorem dX4_restore_28 : decode cX4_restore 28 = .ok (.getfield 7, 3) := by decide +kernel
theorem dX4_restore_31 : decode cX4_restore 31 = .ok (.iconst 0, 1) := by decide +kernel
theorem dX4_restore_32 : decode cX4_restore 32 = .ok (.iaload, 1) := by decide +kernel
theorem dX4_restore_33 : decode cX4_restore 33 = .ok (.ireturn, 1) := by decide +kernel
theorem dX4_cell_0 : decode cX4_cell 0 = .ok (.aload_n 0, 1) := by decide +kernel
theorem dX4_cell_1 : decode cX4_cell 1 = .ok (.iload_n 1, 1) := by decide +kernel
theorem dX4_cell_2 : decode cX4_cell 2 = .ok (.iload_n 2, 1) := by decide +kernel
theorem dX4_cell_3 : decode cX4_cell 3 = .ok (.invokevirtual 93, 3) := by decide +kernel
theorem dX4_cell_6 : decode cX4_cell 6 = .ok (.ifCond .ne 5, 3) := by decide +kernel
theorem dX4_cell_9 : decode cX4_cell 9 = .ok (.iconst (-1), 1) := by decide +kernel
theorem dX4_cell_10 : decode cX4_cell 10 = .ok (.ireturn, 1) := by decide +kernel
theorem dX4_cell_11 : decode cX4_cell 11 = .ok (.iload_n 3, 1) := by decide +kernel
theorem dX4_cell_12 : decode cX4_cell 12 = .ok (.tableswitch 90 0 5 #[40, 47, 54, 61, 68, 83], 40) := by decide +kernel
theorem dX4_cell_52 : decode cX4_cell 52 = .ok (.aload_n 0, 1) := by decide +kernel
theorem dX4_cell_53 : decode cX4_cell 53 = .ok (.iload_n 1, 1) := by decide +kernel
theorem dX4_cell_54 : decode cX4_cell 54 = .ok (.iload_n 2, 1) := by decide +kernel
theorem dX4_cell_55 : decode cX4_cell 55 = .ok (.invokevirtual 90, 3) := by decide +kernel
theorem dX4_cell_58 : decode cX4_cell 58 = .ok (.ireturn, 1) := by decide +kernel
theorem dX4_cell_59 : decode cX4_cell 59 = .ok (.aload_n 0, 1) := by decide +kernel
theorem dX4_cell_60 : decode cX4_cell 60 = .ok (.iload_n 1, 1) := by decide +kernel
theorem dX4_cell_61 : decode cX4_cell 61 = .ok (.iload_n 2, 1) := by decide +kernel
theorem dX4_cell_62 : decode cX4_cell 62 = .ok (.invokevirtual 128, 3) := by decide +kernel
theorem dX4_cell_65 : decode cX4_cell 65 = .ok (.ireturn, 1) := by decide +kernel
theorem dX4_cell_66 : decode cX4_cell 66 = .ok (.aload_n 0, 1) := by decide +kernel
theorem dX4_cell_67 : decode cX4_cell 67 = .ok (.iload_n 1, 1) := by decide +kernel
theorem dX4_cell_68 : decode cX4_cell 68 = .ok (.iload_n 2, 1) := by decide +kernel
theorem dX4_cell_69 : decode cX4_cell 69 = .ok (.invokevirtual 56, 3) := by decide +kernel
theorem dX4_cell_72 : decode cX4_cell 72 = .ok (.ireturn, 1) := by decide +kernel
theorem dX4_cell_73 : decode cX4_cell 73 = .ok (.aload_n 0, 1) := by decide +kernel
theorem dX4_cell_74 : decode cX4_cell 74 = .ok (.iload_n 1, 1) := by decide +kernel
theorem dX4_cell_75 : decode cX4_cell 75 = .ok (.iload_n 2, 1) := by decide +kernel
theorem dX4_cell_76 : decode cX4_cell 76 = .ok (.invokevirtual 131, 3) := by decide +kernel
theorem dX4_cell_79 : decode cX4_cell 79 = .ok (.ireturn, 1) := by decide +kernel
theorem dX4_cell_80 : decode cX4_cell 80 = .ok (.aload_n 0, 1) := by decide +kernel
theorem dX4_cell_81 : decode cX4_cell 81 = .ok (.iload_n 1, 1) := by decide +kernel
theorem dX4_cell_82 : decode cX4_cell 82 = .ok (.iload_n 2, 1) := by decide +kernel
theorem dX4_cell_83 : decode cX4_cell 83 = .ok (.invokevirtual 134, 3) := by decide +kernel
theorem dX4_cell_86 : decode cX4_cell 86 = .ok (.ifCond .eq 7, 3) := by decide +kernel
theorem dX4_cell_89 : decode cX4_cell 89 = .ok (.iconst 1, 1) := by decide +kernel
theorem dX4_cell_90 : decode cX4_cell 90 = .ok (.goto 4, 3) := by decide +kernel
theorem dX4_cell_93 : decode cX4_cell 93 = .ok (.iconst 0, 1) := by decide +kernel
theorem dX4_cell_94 : decode cX4_cell 94 = .ok (.ireturn, 1) := by decide +kernel
theorem dX4_cell_95 : decode cX4_cell 95 = .ok (.aload_n 0, 1) := by decide +kernel
theorem dX4_cell_96 : decode cX4_cell 96 = .ok (.iload_n 1, 1) := by decide +kernel
theorem dX4_cell_97 : decode cX4_cell 97 = .ok (.iload_n 2, 1) := by decide +kernel
theorem dX4_cell_98 : decode cX4_cell 98 = .ok (.invokevirtual 137, 3) := by decide +kernel
theorem dX4_cell_101 : decode cX4_cell 101 = .ok (.ireturn, 1) := by decide +kernel
theorem dX4_cell_102 : decode cX4_cell 102 = .ok (.bipush (-2), 2) := by decide +kernel
theorem dX4_cell_104 : decode cX4_cell 104 = .ok (.ireturn, 1) := by decide +kernel
theorem dX4_entry_0 : decode cX4_entry 0 = .ok (.aload_n 0, 1) := by decide +kernel
theorem dX4_entry_1 : decode cX4_entry 1 = .ok (.iload_n 1, 1) := by decide +kernel
theorem dX4_entry_2 : decode cX4_entry 2 = .ok (.iload_n 2, 1) := by decide +kernel
theorem dX4_entry_3 : decode cX4_entry 3 = .ok (.invokevirtual 93, 3) := by decide +kernel
theorem dX4_entry_6 : decode cX4_entry 6 = .ok (.ifCond .ne 5, 3) := by decide +kernel
theorem dX4_entry_9 : decode cX4_entry 9 = .ok (.iconst (-1), 1) := by decide +kernel
theorem dX4_entry_10 : decode cX4_entry 10 = .ok (.ireturn, 1) := by decide +kernel
theorem dX4_entry_11 : decode cX4_entry 11 = .ok (.iload_n 3, 1) := by decide +kernel
theorem dX4_entry_12 : decode cX4_entry 12 = .ok (.iconst 0, 1) := by decide +kernel
theorem dX4_entry_13 : decode cX4_entry 13 = .ok (.aload_n 0, 1) := by decide +kernel
theorem dX4_entry_14 : decode cX4_entry 14 = .ok (.iload_n 1, 1) := by decide +kernel
theorem dX4_entry_15 : decode cX4_entry 15 = .ok (.iload_n 2, 1) := by decide +kernel
theorem dX4_entry_16 : decode cX4_entry 16 = .ok (.invokevirtual 56, 3) := by decide +kernel
theorem dX4_entry_19 : decode cX4_entry 19 = .ok (.iconst 1, 1) := by decide +kernel
theorem dX4_entry_20 : decode cX4_entry 20 = .ok (.isub, 1) := by decide +kernel
theorem dX4_entry_21 : decode cX4_entry 21 = .ok (.invokestatic 37, 3) := by decide +kernel
theorem dX4_entry_24 : decode cX4_entry 24 = .ok (.ifCond .eq 20, 3) := by decide +kernel
theorem dX4_entry_27 : decode cX4_entry 27 = .ok (.aload_n 0, 1) := by decide +kernel
theorem dX4_entry_28 : decode cX4_entry 28 = .ok (.getfield 7, 3) := by decide +kernel
theorem dX4_entry_31 : decode cX4_entry 31 = .ok (.iload_n 1, 1) := by decide +kernel
theorem dX4_entry_32 : decode cX4_entry 32 = .ok (.iload_n 2, 1) := by decide +kernel
theorem dX4_entry_33 : decode cX4_entry 33 = .ok (.invokestatic 52, 3) := by decide +kernel
theorem dX4_entry_36 : decode cX4_entry 36 = .ok (.iconst 1, 1) := by decide +kernel
theorem dX4_entry_37 : decode cX4_entry 37 = .ok (.iadd, 1) := by decide +kernel
theorem dX4_entry_38 : decode cX4_entry 38 = .ok (.iload_n 3, 1) := by decide +kernel
theorem dX4_entry_39 : decode cX4_entry 39 = .ok (.iadd, 1) := by decide +kernel
theorem dX4_entry_40 : decode cX4_entry 40 = .ok (.iaload, 1) := by decide +kernel
theorem dX4_entry_41 : decode cX4_entry 41 = .ok (.goto 5, 3) := by decide +kernel
theorem dX4_entry_44 : decode cX4_entry 44 = .ok (.bipush (-2), 2) := by decide +kernel
theorem dX4_entry_46 : decode cX4_entry 46 = .ok (.ireturn, 1) := by decide +kernel
theorem dX4_written_0 : decode cX4_written 0 = .ok (.iconst 1, 1) := by decide +kernel
theorem dX4_written_1 : decode cX4_written 1 = .ok (.istore_n 2, 1) := by decide +kernel
theorem dX4_written_2 : decode cX4_written 2 = .ok (.iconst 0, 1) := by decide +kernel
theorem dX4_written_3 : decode cX4_written 3 = .ok (.istore_n 3, 1) := by decide +kernel
theorem dX4_written_4 : decode cX4_written 4 = .ok (.iload_n 3, 1) := by decide +kernel
theorem dX4_written_5 : decode cX4_written 5 = .ok (.iconst 4, 1) := by decide +kernel
theorem dX4_written_6 : decode cX4_written 6 = .ok (.if_icmp .ge 28, 3) := by decide +kernel
theorem dX4_written_9 : decode cX4_written 9 = .ok (.iload_n 2, 1) := by decide +kernel
theorem dX4_written_10 : decode cX4_written 10 = .ok (.ifCond .eq 16, 3) := by decide +kernel
theorem dX4_written_13 : decode cX4_written 13 = .ok (.aload_n 0, 1) := by decide +kernel
theorem dX4_written_14 : decode cX4_written 14 = .ok (.iload_n 1, 1) := by decide +kernel
theorem dX4_written_15 : decode cX4_written 15 = .ok (.iload_n 3, 1) := by decide +kernel
theorem dX4_written_16 : decode cX4_written 16 = .ok (.invokevirtual 59, 3) := by decide +kernel
theorem dX4_written_19 : decode cX4_written 19 = .ok (.ifCond .lt 7, 3) := by decide +kernel
theorem dX4_written_22 : decode cX4_written 22 = .ok (.iconst 1, 1) := by decide +kernel
theorem dX4_written_23 : decode cX4_written 23 = .ok (.goto 4, 3) := by decide +kernel
theorem dX4_written_26 : decode cX4_written 26 = .ok (.iconst 0, 1) := by decide +kernel
theorem dX4_written_27 : decode cX4_written 27 = .ok (.istore_n 2, 1) := by decide +kernel
theorem dX4_written_28 : decode cX4_written 28 = .ok (.iinc 3 1, 3) := by decide +kernel
theorem dX4_written_31 : decode cX4_written 31 = .ok (.goto (-27), 3) := by decide +kernel
theorem dX4_written_34 : decode cX4_written 34 = .ok (.iload_n 2, 1) := by decide +kernel
theorem dX4_written_35 : decode cX4_written 35 = .ok (.ifCond .eq 7, 3) := by decide +kernel
theorem dX4_written_38 : decode cX4_written 38 = .ok (.iconst 1, 1) := by decide +kernel
theorem dX4_written_39 : decode cX4_written 39 = .ok (.goto 4, 3) := by decide +kernel
theorem dX4_written_42 : decode cX4_written 42 = .ok (.iconst 0, 1) := by decide +kernel
theorem dX4_written_43 : decode cX4_written 43 = .ok (.ireturn, 1) := by decide +kernel
theorem dX4_isWritten_0 : decode cX4_isWritten 0 = .ok (.aload_n 0, 1) := by decide +kernel
theorem dX4_isWritten_1 : decode cX4_isWritten 1 = .ok (.iload_n 1, 1) := by decide +kernel
theorem dX4_isWritten_2 : decode cX4_isWritten 2 = .ok (.invokevirtual 41, 3) := by decide +kernel
theorem dX4_isWritten_5 : decode cX4_isWritten 5 = .ok (.ifCond .eq 11, 3) := by decide +kernel
theorem dX4_isWritten_8 : decode cX4_isWritten 8 = .ok (.aload_n 0, 1) := by decide +kernel
theorem dX4_isWritten_9 : decode cX4_isWritten 9 = .ok (.iload_n 1, 1) := by decide +kernel
theorem dX4_isWritten_10 : decode cX4_isWritten 10 = .ok (.invokevirtual 140, 3) := by decide +kernel
theorem dX4_isWritten_13 : decode cX4_isWritten 13 = .ok (.goto 4, 3) := by decide +kernel
theorem dX4_isWritten_16 : decode cX4_isWritten 16 = .ok (.iconst (-1), 1) := by decide +kernel
theorem dX4_isWritten_17 : decode cX4_isWritten 17 = .ok (.ireturn, 1) := by decide +kernel
theorem dX4_withLatest_0 : decode cX4_withLatest 0 = .ok (.iconst 0, 1) := by decide +kernel
theorem dX4_withLatest_1 : decode cX4_withLatest 1 = .ok (.istore_n 3, 1) := by decide +kernel
theorem dX4_withLatest_2 : decode cX4_withLatest 2 = .ok (.iconst 0, 1) := by decide +kernel
theorem dX4_withLatest_3 : decode cX4_withLatest 3 = .ok (.istore 4, 2) := by decide +kernel
theorem dX4_withLatest_5 : decode cX4_withLatest 5 = .ok (.iload 4, 2) := by decide +kernel
theorem dX4_withLatest_7 : decode cX4_withLatest 7 = .ok (.aload_n 0, 1) := by decide +kernel
theorem dX4_withLatest_8 : decode cX4_withLatest 8 = .ok (.getfield 7, 3) := by decide +kernel
theorem dX4_withLatest_11 : decode cX4_withLatest 11 = .ok (.iconst 0, 1) := by decide +kernel
theorem dX4_withLatest_12 : decode cX4_withLatest 12 = .ok (.iaload, 1) := by decide +kernel
theorem dX4_withLatest_13 : decode cX4_withLatest 13 = .ok (.if_icmp .ge 28, 3) := by decide +kernel
theorem dX4_withLatest_16 : decode cX4_withLatest 16 = .ok (.iload_n 3, 1) := by decide +kernel
theorem dX4_withLatest_17 : decode cX4_withLatest 17 = .ok (.aload_n 0, 1) := by decide +kernel
theorem dX4_withLatest_18 : decode cX4_withLatest 18 = .ok (.iload 4, 2) := by decide +kernel
theorem dX4_withLatest_20 : decode cX4_withLatest 20 = .ok (.iload_n 1, 1) := by decide +kernel
theorem dX4_withLatest_21 : decode cX4_withLatest 21 = .ok (.invokevirtual 59, 3) := by decide +kernel
theorem dX4_withLatest_24 : decode cX4_withLatest 24 = .ok (.iload_n 2, 1) := by decide +kernel
theorem dX4_withLatest_25 : decode cX4_withLatest 25 = .ok (.if_icmp .ne 7, 3) := by decide +kernel
theorem dX4_withLatest_28 : decode cX4_withLatest 28 = .ok (.iconst 1, 1) := by decide +kernel
theorem dX4_withLatest_29 : decode cX4_withLatest 29 = .ok (.goto 4, 3) := by decide +kernel
theorem dX4_withLatest_32 : decode cX4_withLatest 32 = .ok (.iconst 0, 1) := by decide +kernel
theorem dX4_withLatest_33 : decode cX4_withLatest 33 = .ok (.iadd, 1) := by decide +kernel
theorem dX4_withLatest_34 : decode cX4_withLatest 34 = .ok (.istore_n 3, 1) := by decide +kernel
theorem dX4_withLatest_35 : decode cX4_withLatest 35 = .ok (.iinc 4 1, 3) := by decide +kernel
theorem dX4_withLatest_38 : decode cX4_withLatest 38 = .ok (.goto (-33), 3) := by decide +kernel
theorem dX4_withLatest_41 : decode cX4_withLatest 41 = .ok (.iload_n 3, 1) := by decide +kernel
theorem dX4_withLatest_42 : decode cX4_withLatest 42 = .ok (.ireturn, 1) := by decide +kernel
theorem dX4_corrections_0 : decode cX4_corrections 0 = .ok (.iconst 0, 1) := by decide +kernel
theorem dX4_corrections_1 : decode cX4_corrections 1 = .ok (.istore_n 2, 1) := by decide +kernel
theorem dX4_corrections_2 : decode cX4_corrections 2 = .ok (.iconst 0, 1) := by decide +kernel
theorem dX4_corrections_3 : decode cX4_corrections 3 = .ok (.istore_n 3, 1) := by decide +kernel
theorem dX4_corrections_4 : decode cX4_corrections 4 = .ok (.iload_n 3, 1) := by decide +kernel
theorem dX4_corrections_5 : decode cX4_corrections 5 = .ok (.aload_n 0, 1) := by decide +kernel
theorem dX4_corrections_6 : decode cX4_corrections 6 = .ok (.getfield 7, 3) := by decide +kernel
theorem dX4_corrections_9 : decode cX4_corrections 9 = .ok (.iconst 0, 1) := by decide +kernel
theorem dX4_corrections_10 : decode cX4_corrections 10 = .ok (.iaload, 1) := by decide +kernel
theorem dX4_corrections_11 : decode cX4_corrections 11 = .ok (.if_icmp .ge 20, 3) := by decide +kernel
theorem dX4_corrections_14 : decode cX4_corrections 14 = .ok (.iload_n 2, 1) := by decide +kernel
theorem dX4_corrections_15 : decode cX4_corrections 15 = .ok (.aload_n 0, 1) := by decide +kernel
theorem dX4_corrections_16 : decode cX4_corrections 16 = .ok (.iload_n 3, 1) := by decide +kernel
theorem dX4_corrections_17 : decode cX4_corrections 17 = .ok (.iload_n 1, 1) := by decide +kernel
theorem dX4_corrections_18 : decode cX4_corrections 18 = .ok (.invokevirtual 56, 3) := by decide +kernel
theorem dX4_corrections_21 : decode cX4_corrections 21 = .ok (.iconst 1, 1) := by decide +kernel
theorem dX4_corrections_22 : decode cX4_corrections 22 = .ok (.isub, 1) := by decide +kernel
theorem dX4_corrections_23 : decode cX4_corrections 23 = .ok (.iadd, 1) := by decide +kernel
theorem dX4_corrections_24 : decode cX4_corrections 24 = .ok (.istore_n 2, 1) := by decide +kernel
theorem dX4_corrections_25 : decode cX4_corrections 25 = .ok (.iinc 3 1, 3) := by decide +kernel
theorem dX4_corrections_28 : decode cX4_corrections 28 = .ok (.goto (-24), 3) := by decide +kernel
theorem dX4_corrections_31 : decode cX4_corrections 31 = .ok (.iload_n 2, 1) := by decide +kernel
theorem dX4_corrections_32 : decode cX4_corrections 32 = .ok (.ireturn, 1) := by decide +kernel
theorem dX4_meaning_0 : decode cX4_meaning 0 = .ok (.iconst 0, 1) := by decide +kernel
theorem dX4_meaning_1 : decode cX4_meaning 1 = .ok (.istore 5, 2) := by decide +kernel
theorem dX4_meaning_3 : decode cX4_meaning 3 = .ok (.iload_n 1, 1) := by decide +kernel
theorem dX4_meaning_4 : decode cX4_meaning 4 = .ok (.istore 6, 2) := by decide +kernel
theorem dX4_meaning_6 : decode cX4_meaning 6 = .ok (.iload 6, 2) := by decide +kernel
theorem dX4_meaning_8 : decode cX4_meaning 8 = .ok (.iload_n 2, 1) := by decide +kernel
theorem dX4_meaning_9 : decode cX4_meaning 9 = .ok (.if_icmp .gt 31, 3) := by decide +kernel
theorem dX4_meaning_12 : decode cX4_meaning 12 = .ok (.iload 5, 2) := by decide +kernel
theorem dX4_meaning_14 : decode cX4_meaning 14 = .ok (.aload_n 0, 1) := by decide +kernel
theorem dX4_meaning_15 : decode cX4_meaning 15 = .ok (.iload 6, 2) := by decide +kernel
theorem dX4_meaning_17 : decode cX4_meaning 17 = .ok (.iload_n 3, 1) := by decide +kernel
theorem dX4_meaning_18 : decode cX4_meaning 18 = .ok (.invokevirtual 90, 3) := by decide +kernel
theorem dX4_meaning_21 : decode cX4_meaning 21 = .ok (.iload 4, 2) := by decide +kernel
theorem dX4_meaning_23 : decode cX4_meaning 23 = .ok (.if_icmp .ne 7, 3) := by decide +kernel
theorem dX4_meaning_26 : decode cX4_meaning 26 = .ok (.iconst 1, 1) := by decide +kernel
theorem dX4_meaning_27 : decode cX4_meaning 27 = .ok (.goto 4, 3) := by decide +kernel
theorem dX4_meaning_30 : decode cX4_meaning 30 = .ok (.iconst 0, 1) := by decide +kernel
theorem dX4_meaning_31 : decode cX4_meaning 31 = .ok (.iadd, 1) := by decide +kernel
theorem dX4_meaning_32 : decode cX4_meaning 32 = .ok (.istore 5, 2) := by decide +kernel
theorem dX4_meaning_34 : decode cX4_meaning 34 = .ok (.iinc 6 1, 3) := by decide +kernel
theorem dX4_meaning_37 : decode cX4_meaning 37 = .ok (.goto (-31), 3) := by decide +kernel
theorem dX4_meaning_40 : decode cX4_meaning 40 = .ok (.iload 5, 2) := by decide +kernel
theorem dX4_meaning_42 : decode cX4_meaning 42 = .ok (.ireturn, 1) := by decide +kernel
theorem dX4_longest_0 : decode cX4_longest 0 = .ok (.iconst 0, 1) := by decide +kernel
theorem dX4_longest_1 : decode cX4_longest 1 = .ok (.istore_n 2, 1) := by decide +kernel
theorem dX4_longest_2 : decode cX4_longest 2 = .ok (.iconst 0, 1) := by decide +kernel
theorem dX4_longest_3 : decode cX4_longest 3 = .ok (.istore_n 3, 1) := by decide +kernel
theorem dX4_longest_4 : decode cX4_longest 4 = .ok (.iload_n 3, 1) := by decide +kernel
theorem dX4_longest_5 : decode cX4_longest 5 = .ok (.aload_n 0, 1) := by decide +kernel
theorem dX4_longest_6 : decode cX4_longest 6 = .ok (.getfield 7, 3) := by decide +kernel
theorem dX4_longest_9 : decode cX4_longest 9 = .ok (.iconst 0, 1) := by decide +kernel
theorem dX4_longest_10 : decode cX4_longest 10 = .ok (.iaload, 1) := by decide +kernel
theorem dX4_longest_11 : decode cX4_longest 11 = .ok (.if_icmp .ge 30, 3) := by decide +kernel
theorem dX4_longest_14 : decode cX4_longest 14 = .ok (.aload_n 0, 1) := by decide +kernel
theorem dX4_longest_15 : decode cX4_longest 15 = .ok (.iload_n 3, 1) := by decide +kernel
theorem dX4_longest_16 : decode cX4_longest 16 = .ok (.iload_n 1, 1) := by decide +kernel
theorem dX4_longest_17 : decode cX4_longest 17 = .ok (.invokevirtual 131, 3) := by decide +kernel
theorem dX4_longest_20 : decode cX4_longest 20 = .ok (.iload_n 2, 1) := by decide +kernel
theorem dX4_longest_21 : decode cX4_longest 21 = .ok (.if_icmp .le 12, 3) := by decide +kernel
theorem dX4_longest_24 : decode cX4_longest 24 = .ok (.aload_n 0, 1) := by decide +kernel
theorem dX4_longest_25 : decode cX4_longest 25 = .ok (.iload_n 3, 1) := by decide +kernel
theorem dX4_longest_26 : decode cX4_longest 26 = .ok (.iload_n 1, 1) := by decide +kernel
theorem dX4_longest_27 : decode cX4_longest 27 = .ok (.invokevirtual 131, 3) := by decide +kernel
theorem dX4_longest_30 : decode cX4_longest 30 = .ok (.goto 4, 3) := by decide +kernel
theorem dX4_longest_33 : decode cX4_longest 33 = .ok (.iload_n 2, 1) := by decide +kernel
theorem dX4_longest_34 : decode cX4_longest 34 = .ok (.istore_n 2, 1) := by decide +kernel
theorem dX4_longest_35 : decode cX4_longest 35 = .ok (.iinc 3 1, 3) := by decide +kernel
theorem dX4_longest_38 : decode cX4_longest 38 = .ok (.goto (-34), 3) := by decide +kernel
theorem dX4_longest_41 : decode cX4_longest 41 = .ok (.iload_n 2, 1) := by decide +kernel
theorem dX4_longest_42 : decode cX4_longest 42 = .ok (.ireturn, 1) := by decide +kernel
theorem dX4_commonest_0 : decode cX4_commonest 0 = .ok (.bipush (-5), 2) := by decide +kernel
theorem dX4_commonest_2 : decode cX4_commonest 2 = .ok (.istore 4, 2) := by decide +kernel
theorem dX4_commonest_4 : decode cX4_commonest 4 = .ok (.iconst 0, 1) := by decide +kernel
theorem dX4_commonest_5 : decode cX4_commonest 5 = .ok (.istore 5, 2) := by decide +kernel
theorem dX4_commonest_7 : decode cX4_commonest 7 = .ok (.iconst 0, 1) := by decide +kernel
theorem dX4_commonest_8 : decode cX4_commonest 8 = .ok (.istore 6, 2) := by decide +kernel
theorem dX4_commonest_10 : decode cX4_commonest 10 = .ok (.iload 6, 2) := by decide +kernel
theorem dX4_commonest_12 : decode cX4_commonest 12 = .ok (.iload_n 3, 1) := by decide +kernel
theorem dX4_commonest_13 : decode cX4_commonest 13 = .ok (.invokestatic 48, 3) := by decide +kernel
theorem dX4_commonest_16 : decode cX4_commonest 16 = .ok (.if_icmp .gt 52, 3) := by decide +kernel
theorem dX4_commonest_19 : decode cX4_commonest 19 = .ok (.aload_n 0, 1) := by decide +kernel
theorem dX4_commonest_20 : decode cX4_commonest 20 = .ok (.iload_n 1, 1) := by decide +kernel
theorem dX4_commonest_21 : decode cX4_commonest 21 = .ok (.iload_n 2, 1) := by decide +kernel
theorem dX4_commonest_22 : decode cX4_commonest 22 = .ok (.iload_n 3, 1) := by decide +kernel
theorem dX4_commonest_23 : decode cX4_commonest 23 = .ok (.iload 6, 2) := by decide +kernel
theorem dX4_commonest_25 : decode cX4_commonest 25 = .ok (.invokevirtual 143, 3) := by decide +kernel
theorem dX4_commonest_28 : decode cX4_commonest 28 = .ok (.istore 7, 2) := by decide +kernel
theorem dX4_commonest_30 : decode cX4_commonest 30 = .ok (.iload 7, 2) := by decide +kernel
theorem dX4_commonest_32 : decode cX4_commonest 32 = .ok (.iload 5, 2) := by decide +kernel
theorem dX4_commonest_34 : decode cX4_commonest 34 = .ok (.if_icmp .le 8, 3) := by decide +kernel
theorem dX4_commonest_37 : decode cX4_commonest 37 = .ok (.iload 6, 2) := by decide +kernel
theorem dX4_commonest_39 : decode cX4_commonest 39 = .ok (.goto 5, 3) := by decide +kernel
theorem dX4_commonest_42 : decode cX4_commonest 42 = .ok (.iload 4, 2) := by decide +kernel
theorem dX4_commonest_44 : decode cX4_commonest 44 = .ok (.istore 4, 2) := by decide +kernel
theorem dX4_commonest_46 : decode cX4_commonest 46 = .ok (.iload 7, 2) := by decide +kernel
theorem dX4_commonest_48 : decode cX4_commonest 48 = .ok (.iload 5, 2) := by decide +kernel
theorem dX4_commonest_50 : decode cX4_commonest 50 = .ok (.if_icmp .le 8, 3) := by decide +kernel
theorem dX4_commonest_53 : decode cX4_commonest 53 = .ok (.iload 7, 2) := by decide +kernel
theorem dX4_commonest_55 : decode cX4_commonest 55 = .ok (.goto 5, 3) := by decide +kernel
theorem dX4_commonest_58 : decode cX4_commonest 58 = .ok (.iload 5, 2) := by decide +kernel
theorem dX4_commonest_60 : decode cX4_commonest 60 = .ok (.istore 5, 2) := by decide +kernel
theorem dX4_commonest_62 : decode cX4_commonest 62 = .ok (.iinc 6 1, 3) := by decide +kernel
theorem dX4_commonest_65 : decode cX4_commonest 65 = .ok (.goto (-55), 3) := by decide +kernel
theorem dX4_commonest_68 : decode cX4_commonest 68 = .ok (.iload 4, 2) := by decide +kernel
theorem dX4_commonest_70 : decode cX4_commonest 70 = .ok (.ireturn, 1) := by decide +kernel
theorem dX4_doubtful_0 : decode cX4_doubtful 0 = .ok (.iconst 0, 1) := by decide +kernel
theorem dX4_doubtful_1 : decode cX4_doubtful 1 = .ok (.istore 4, 2) := by decide +kernel
theorem dX4_doubtful_3 : decode cX4_doubtful 3 = .ok (.iload_n 1, 1) := by decide +kernel
theorem dX4_doubtful_4 : decode cX4_doubtful 4 = .ok (.istore 5, 2) := by decide +kernel
theorem dX4_doubtful_6 : decode cX4_doubtful 6 = .ok (.iload 5, 2) := by decide +kernel
theorem dX4_doubtful_8 : decode cX4_doubtful 8 = .ok (.iload_n 2, 1) := by decide +kernel
theorem dX4_doubtful_9 : decode cX4_doubtful 9 = .ok (.if_icmp .gt 29, 3) := by decide +kernel
theorem dX4_doubtful_12 : decode cX4_doubtful 12 = .ok (.iload 4, 2) := by decide +kernel
theorem dX4_doubtful_14 : decode cX4_doubtful 14 = .ok (.aload_n 0, 1) := by decide +kernel
theorem dX4_doubtful_15 : decode cX4_doubtful 15 = .ok (.iload 5, 2) := by decide +kernel
theorem dX4_doubtful_17 : decode cX4_doubtful 17 = .ok (.iload_n 3, 1) := by decide +kernel
theorem dX4_doubtful_18 : decode cX4_doubtful 18 = .ok (.invokevirtual 134, 3) := by decide +kernel
theorem dX4_doubtful_21 : decode cX4_doubtful 21 = .ok (.ifCond .eq 7, 3) := by decide +kernel
theorem dX4_doubtful_24 : decode cX4_doubtful 24 = .ok (.iconst 1, 1) := by decide +kernel
theorem dX4_doubtful_25 : decode cX4_doubtful 25 = .ok (.goto 4, 3) := by decide +kernel
theorem dX4_doubtful_28 : decode cX4_doubtful 28 = .ok (.iconst 0, 1) := by decide +kernel
theorem dX4_doubtful_29 : decode cX4_doubtful 29 = .ok (.iadd, 1) := by decide +kernel
theorem dX4_doubtful_30 : decode cX4_doubtful 30 = .ok (.istore 4, 2) := by decide +kernel
theorem dX4_doubtful_32 : decode cX4_doubtful 32 = .ok (.iinc 5 1, 3) := by decide +kernel
theorem dX4_doubtful_35 : decode cX4_doubtful 35 = .ok (.goto (-29), 3) := by decide +kernel
theorem dX4_doubtful_38 : decode cX4_doubtful 38 = .ok (.iload 4, 2) := by decide +kernel
theorem dX4_doubtful_40 : decode cX4_doubtful 40 = .ok (.ireturn, 1) := by decide +kernel
theorem dX4_column_0 : decode cX4_column 0 = .ok (.iload_n 1, 1) := by decide +kernel
theorem dX4_column_1 : decode cX4_column 1 = .ok (.invokestatic 45, 3) := by decide +kernel
theorem dX4_column_4 : decode cX4_column 4 = .ok (.ifCond .ne 5, 3) := by decide +kernel
theorem dX4_column_7 : decode cX4_column 7 = .ok (.iconst (-1), 1) := by decide +kernel
theorem dX4_column_8 : decode cX4_column 8 = .ok (.ireturn, 1) := by decide +kernel
theorem dX4_column_9 : decode cX4_column 9 = .ok (.aload_n 0, 1) := by decide +kernel
theorem dX4_column_10 : decode cX4_column 10 = .ok (.getfield 7, 3) := by decide +kernel
theorem dX4_column_13 : decode cX4_column 13 = .ok (.iconst 0, 1) := by decide +kernel
theorem dX4_column_14 : decode cX4_column 14 = .ok (.iaload, 1) := by decide +kernel
theorem dX4_column_15 : decode cX4_column 15 = .ok (.iconst 1, 1) := by decide +kernel
theorem dX4_column_16 : decode cX4_column 16 = .ok (.isub, 1) := by decide +kernel
theorem dX4_column_17 : decode cX4_column 17 = .ok (.istore_n 3, 1) := by decide +kernel
theorem dX4_column_18 : decode cX4_column 18 = .ok (.iload_n 2, 1) := by decide +kernel
theorem dX4_column_19 : decode cX4_column 19 = .ok (.tableswitch 95 0 6 #[41, 49, 57, 63, 73, 79, 87], 41) := by decide +kernel
theorem dX4_column_60 : decode cX4_column 60 = .ok (.aload_n 0, 1) := by decide +kernel
theorem dX4_column_61 : decode cX4_column 61 = .ok (.iload_n 1, 1) := by decide +kernel
theorem dX4_column_62 : decode cX4_column 62 = .ok (.bipush (-6), 2) := by decide +kernel
theorem dX4_column_64 : decode cX4_column 64 = .ok (.invokevirtual 147, 3) := by decide +kernel
theorem dX4_column_67 : decode cX4_column 67 = .ok (.ireturn, 1) := by decide +kernel
theorem dX4_column_68 : decode cX4_column 68 = .ok (.aload_n 0, 1) := by decide +kernel
theorem dX4_column_69 : decode cX4_column 69 = .ok (.iload_n 1, 1) := by decide +kernel
theorem dX4_column_70 : decode cX4_column 70 = .ok (.bipush (-5), 2) := by decide +kernel
theorem dX4_column_72 : decode cX4_column 72 = .ok (.invokevirtual 147, 3) := by decide +kernel
theorem dX4_column_75 : decode cX4_column 75 = .ok (.ireturn, 1) := by decide +kernel
theorem dX4_column_76 : decode cX4_column 76 = .ok (.aload_n 0, 1) := by decide +kernel
theorem dX4_column_77 : decode cX4_column 77 = .ok (.iload_n 1, 1) := by decide +kernel
theorem dX4_column_78 : decode cX4_column 78 = .ok (.invokevirtual 150, 3) := by decide +kernel
theorem dX4_column_81 : decode cX4_column 81 = .ok (.ireturn, 1) := by decide +kernel
theorem dX4_column_82 : decode cX4_column 82 = .ok (.aload_n 0, 1) := by decide +kernel
theorem dX4_column_83 : decode cX4_column 83 = .ok (.iconst 0, 1) := by decide +kernel
theorem dX4_column_84 : decode cX4_column 84 = .ok (.iload_n 3, 1) := by decide +kernel
theorem dX4_column_85 : decode cX4_column 85 = .ok (.iload_n 1, 1) := by decide +kernel
theorem dX4_column_86 : decode cX4_column 86 = .ok (.bipush (-5), 2) := by decide +kernel
theorem dX4_column_88 : decode cX4_column 88 = .ok (.invokevirtual 143, 3) := by decide +kernel
theorem dX4_column_91 : decode cX4_column 91 = .ok (.ireturn, 1) := by decide +kernel
theorem dX4_column_92 : decode cX4_column 92 = .ok (.aload_n 0, 1) := by decide +kernel
theorem dX4_column_93 : decode cX4_column 93 = .ok (.iload_n 1, 1) := by decide +kernel
theorem dX4_column_94 : decode cX4_column 94 = .ok (.invokevirtual 153, 3) := by decide +kernel
theorem dX4_column_97 : decode cX4_column 97 = .ok (.ireturn, 1) := by decide +kernel
theorem dX4_column_98 : decode cX4_column 98 = .ok (.aload_n 0, 1) := by decide +kernel
theorem dX4_column_99 : decode cX4_column 99 = .ok (.iconst 0, 1) := by decide +kernel
theorem dX4_column_100 : decode cX4_column 100 = .ok (.iload_n 3, 1) := by decide +kernel
theorem dX4_column_101 : decode cX4_column 101 = .ok (.iload_n 1, 1) := by decide +kernel
theorem dX4_column_102 : decode cX4_column 102 = .ok (.invokevirtual 156, 3) := by decide +kernel
theorem dX4_column_105 : decode cX4_column 105 = .ok (.ireturn, 1) := by decide +kernel
theorem dX4_column_106 : decode cX4_column 106 = .ok (.aload_n 0, 1) := by decide +kernel
theorem dX4_column_107 : decode cX4_column 107 = .ok (.iconst 0, 1) := by decide +kernel
theorem dX4_column_108 : decode cX4_column 108 = .ok (.iload_n 3, 1) := by decide +kernel
theorem dX4_column_109 : decode cX4_column 109 = .ok (.iload_n 1, 1) := by decide +kernel
theorem dX4_column_110 : decode cX4_column 110 = .ok (.invokevirtual 160, 3) := by decide +kernel
theorem dX4_column_113 : decode cX4_column 113 = .ok (.ireturn, 1) := by decide +kernel
theorem dX4_column_114 : decode cX4_column 114 = .ok (.bipush (-2), 2) := by decide +kernel
theorem dX4_column_116 : decode cX4_column 116 = .ok (.ireturn, 1) := by decide +kernel
theorem dX4_watches_0 : decode cX4_watches 0 = .ok (.aload_n 0, 1) := by decide +kernel
theorem dX4_watches_1 : decode cX4_watches 1 = .ok (.getfield 7, 3) := by decide +kernel
theorem dX4_watches_4 : decode cX4_watches 4 = .ok (.iconst 0, 1) := by decide +kernel
theorem dX4_watches_5 : decode cX4_watches 5 = .ok (.iaload, 1) := by decide +kernel
theorem dX4_watches_6 : decode cX4_watches 6 = .ok (.aload_n 0, 1) := by decide +kernel
theorem dX4_watches_7 : decode cX4_watches 7 = .ok (.getfield 7, 3) := by decide +kernel
theorem dX4_watches_10 : decode cX4_watches 10 = .ok (.iconst 3, 1) := by decide +kernel
theorem dX4_watches_11 : decode cX4_watches 11 = .ok (.iaload, 1) := by decide +kernel
theorem dX4_watches_12 : decode cX4_watches 12 = .ok (.iadd, 1) := by decide +kernel
theorem dX4_watches_13 : decode cX4_watches 13 = .ok (.iconst 1, 1) := by decide +kernel
theorem dX4_watches_14 : decode cX4_watches 14 = .ok (.isub, 1) := by decide +kernel
theorem dX4_watches_15 : decode cX4_watches 15 = .ok (.aload_n 0, 1) := by decide +kernel
theorem dX4_watches_16 : decode cX4_watches 16 = .ok (.getfield 7, 3) := by decide +kernel
theorem dX4_watches_19 : decode cX4_watches 19 = .ok (.iconst 3, 1) := by decide +kernel
theorem dX4_watches_20 : decode cX4_watches 20 = .ok (.iaload, 1) := by decide +kernel
theorem dX4_watches_21 : decode cX4_watches 21 = .ok (.idiv, 1) := by decide +kernel
theorem dX4_watches_22 : decode cX4_watches 22 = .ok (.ireturn, 1) := by decide +kernel
theorem dX4_lastOf_0 : decode cX4_lastOf 0 = .ok (.iload_n 1, 1) := by decide +kernel
theorem dX4_lastOf_1 : decode cX4_lastOf 1 = .ok (.iconst 1, 1) := by decide +kernel
theorem dX4_lastOf_2 : decode cX4_lastOf 2 = .ok (.iadd, 1) := by decide +kernel
theorem dX4_lastOf_3 : decode cX4_lastOf 3 = .ok (.aload_n 0, 1) := by decide +kernel
theorem dX4_lastOf_4 : decode cX4_lastOf 4 = .ok (.getfield 7, 3) := by decide +kernel
theorem dX4_lastOf_7 : decode cX4_lastOf 7 = .ok (.iconst 3, 1) := by decide +kernel
theorem dX4_lastOf_8 : decode cX4_lastOf 8 = .ok (.iaload, 1) := by decide +kernel
theorem dX4_lastOf_9 : decode cX4_lastOf 9 = .ok (.imul, 1) := by decide +kernel
theorem dX4_lastOf_10 : decode cX4_lastOf 10 = .ok (.istore_n 2, 1) := by decide +kernel
theorem dX4_lastOf_11 : decode cX4_lastOf 11 = .ok (.iload_n 2, 1) := by decide +kernel
theorem dX4_lastOf_12 : decode cX4_lastOf 12 = .ok (.aload_n 0, 1) := by decide +kernel
theorem dX4_lastOf_13 : decode cX4_lastOf 13 = .ok (.getfield 7, 3) := by decide +kernel
theorem dX4_lastOf_16 : decode cX4_lastOf 16 = .ok (.iconst 0, 1) := by decide +kernel
theorem dX4_lastOf_17 : decode cX4_lastOf 17 = .ok (.iaload, 1) := by decide +kernel
theorem dX4_lastOf_18 : decode cX4_lastOf 18 = .ok (.if_icmp .ge 7, 3) := by decide +kernel
theorem dX4_lastOf_21 : decode cX4_lastOf 21 = .ok (.iload_n 2, 1) := by decide +kernel
theorem dX4_lastOf_22 : decode cX4_lastOf 22 = .ok (.goto 9, 3) := by decide +kernel
theorem dX4_lastOf_25 : decode cX4_lastOf 25 = .ok (.aload_n 0, 1) := by decide +kernel
theorem dX4_lastOf_26 : decode cX4_lastOf 26 = .ok (.getfield 7, 3) := by decide +kernel
theorem dX4_lastOf_29 : decode cX4_lastOf 29 = .ok (.iconst 0, 1) := by decide +kernel
theorem dX4_lastOf_30 : decode cX4_lastOf 30 = .ok (.iaload, 1) := by decide +kernel
theorem dX4_lastOf_31 : decode cX4_lastOf 31 = .ok (.iconst 1, 1) := by decide +kernel
theorem dX4_lastOf_32 : decode cX4_lastOf 32 = .ok (.isub, 1) := by decide +kernel
theorem dX4_lastOf_33 : decode cX4_lastOf 33 = .ok (.ireturn, 1) := by decide +kernel
theorem dX4_runOf_0 : decode cX4_runOf 0 = .ok (.iconst 0, 1) := by decide +kernel
theorem dX4_runOf_1 : decode cX4_runOf 1 = .ok (.istore_n 3, 1) := by decide +kernel
theorem dX4_runOf_2 : decode cX4_runOf 2 = .ok (.iload_n 1, 1) := by decide +kernel
theorem dX4_runOf_3 : decode cX4_runOf 3 = .ok (.istore 4, 2) := by decide +kernel
theorem dX4_runOf_5 : decode cX4_runOf 5 = .ok (.iload 4, 2) := by decide +kernel
theorem dX4_runOf_7 : decode cX4_runOf 7 = .ok (.iload_n 2, 1) := by decide +kernel
theorem dX4_runOf_8 : decode cX4_runOf 8 = .ok (.if_icmp .gt 33, 3) := by decide +kernel
theorem dX4_runOf_11 : decode cX4_runOf 11 = .ok (.iload_n 3, 1) := by decide +kernel
theorem dX4_runOf_12 : decode cX4_runOf 12 = .ok (.aload_n 0, 1) := by decide +kernel
theorem dX4_runOf_13 : decode cX4_runOf 13 = .ok (.iload 4, 2) := by decide +kernel
theorem dX4_runOf_15 : decode cX4_runOf 15 = .ok (.iconst 1, 1) := by decide +kernel
theorem dX4_runOf_16 : decode cX4_runOf 16 = .ok (.invokevirtual 90, 3) := by decide +kernel
theorem dX4_runOf_19 : decode cX4_runOf 19 = .ok (.ifCond .lt 13, 3) := by decide +kernel
theorem dX4_runOf_22 : decode cX4_runOf 22 = .ok (.aload_n 0, 1) := by decide +kernel
theorem dX4_runOf_23 : decode cX4_runOf 23 = .ok (.iload 4, 2) := by decide +kernel
theorem dX4_runOf_25 : decode cX4_runOf 25 = .ok (.iconst 1, 1) := by decide +kernel
theorem dX4_runOf_26 : decode cX4_runOf 26 = .ok (.invokevirtual 90, 3) := by decide +kernel
theorem dX4_runOf_29 : decode cX4_runOf 29 = .ok (.goto 4, 3) := by decide +kernel
theorem dX4_runOf_32 : decode cX4_runOf 32 = .ok (.iconst 0, 1) := by decide +kernel
theorem dX4_runOf_33 : decode cX4_runOf 33 = .ok (.iadd, 1) := by decide +kernel
theorem dX4_runOf_34 : decode cX4_runOf 34 = .ok (.istore_n 3, 1) := by decide +kernel
theorem dX4_runOf_35 : decode cX4_runOf 35 = .ok (.iinc 4 1, 3) := by decide +kernel
theorem dX4_runOf_38 : decode cX4_runOf 38 = .ok (.goto (-33), 3) := by decide +kernel
theorem dX4_runOf_41 : decode cX4_runOf 41 = .ok (.iload_n 3, 1) := by decide +kernel
theorem dX4_runOf_42 : decode cX4_runOf 42 = .ok (.ireturn, 1) := by decide +kernel
theorem dX4_inDoubt_0 : decode cX4_inDoubt 0 = .ok (.iconst 0, 1) := by decide +kernel
theorem dX4_inDoubt_1 : decode cX4_inDoubt 1 = .ok (.istore_n 3, 1) := by decide +kernel
theorem dX4_inDoubt_2 : decode cX4_inDoubt 2 = .ok (.iconst 0, 1) := by decide +kernel
theorem dX4_inDoubt_3 : decode cX4_inDoubt 3 = .ok (.istore 4, 2) := by decide +kernel
theorem dX4_inDoubt_5 : decode cX4_inDoubt 5 = .ok (.iload 4, 2) := by decide +kernel
theorem dX4_inDoubt_7 : decode cX4_inDoubt 7 = .ok (.iconst 4, 1) := by decide +kernel
theorem dX4_inDoubt_8 : decode cX4_inDoubt 8 = .ok (.if_icmp .ge 20, 3) := by decide +kernel
theorem dX4_inDoubt_11 : decode cX4_inDoubt 11 = .ok (.iload_n 3, 1) := by decide +kernel
theorem dX4_inDoubt_12 : decode cX4_inDoubt 12 = .ok (.aload_n 0, 1) := by decide +kernel
theorem dX4_inDoubt_13 : decode cX4_inDoubt 13 = .ok (.iload_n 1, 1) := by decide +kernel
theorem dX4_inDoubt_14 : decode cX4_inDoubt 14 = .ok (.iload_n 2, 1) := by decide +kernel
theorem dX4_inDoubt_15 : decode cX4_inDoubt 15 = .ok (.iload 4, 2) := by decide +kernel
theorem dX4_inDoubt_17 : decode cX4_inDoubt 17 = .ok (.invokevirtual 160, 3) := by decide +kernel
theorem dX4_inDoubt_20 : decode cX4_inDoubt 20 = .ok (.iadd, 1) := by decide +kernel
theorem dX4_inDoubt_21 : decode cX4_inDoubt 21 = .ok (.istore_n 3, 1) := by decide +kernel
theorem dX4_inDoubt_22 : decode cX4_inDoubt 22 = .ok (.iinc 4 1, 3) := by decide +kernel
theorem dX4_inDoubt_25 : decode cX4_inDoubt 25 = .ok (.goto (-20), 3) := by decide +kernel
theorem dX4_inDoubt_28 : decode cX4_inDoubt 28 = .ok (.iload_n 3, 1) := by decide +kernel
theorem dX4_inDoubt_29 : decode cX4_inDoubt 29 = .ok (.ireturn, 1) := by decide +kernel
theorem dX4_watch_0 : decode cX4_watch 0 = .ok (.iload_n 1, 1) := by decide +kernel
theorem dX4_watch_1 : decode cX4_watch 1 = .ok (.iconst 0, 1) := by decide +kernel
theorem dX4_watch_2 : decode cX4_watch 2 = .ok (.aload_n 0, 1) := by decide +kernel
theorem dX4_watch_3 : decode cX4_watch 3 = .ok (.invokevirtual 163, 3) := by decide +kernel
theorem dX4_watch_6 : decode cX4_watch 6 = .ok (.iconst 1, 1) := by decide +kernel
theorem dX4_watch_7 : decode cX4_watch 7 = .ok (.isub, 1) := by decide +kernel
theorem dX4_watch_8 : decode cX4_watch 8 = .ok (.invokestatic 37, 3) := by decide +kernel
theorem dX4_watch_11 : decode cX4_watch 11 = .ok (.ifCond .ne 5, 3) := by decide +kernel
theorem dX4_watch_14 : decode cX4_watch 14 = .ok (.iconst (-1), 1) := by decide +kernel
theorem dX4_watch_15 : decode cX4_watch 15 = .ok (.ireturn, 1) := by decide +kernel
theorem dX4_watch_16 : decode cX4_watch 16 = .ok (.iload_n 1, 1) := by decide +kernel
theorem dX4_watch_17 : decode cX4_watch 17 = .ok (.aload_n 0, 1) := by decide +kernel
theorem dX4_watch_18 : decode cX4_watch 18 = .ok (.getfield 7, 3) := by decide +kernel
theorem dX4_watch_21 : decode cX4_watch 21 = .ok (.iconst 3, 1) := by decide +kernel
theorem dX4_watch_22 : decode cX4_watch 22 = .ok (.iaload, 1) := by decide +kernel
theorem dX4_watch_23 : decode cX4_watch 23 = .ok (.imul, 1) := by decide +kernel
theorem dX4_watch_24 : decode cX4_watch 24 = .ok (.istore_n 3, 1) := by decide +kernel
theorem dX4_watch_25 : decode cX4_watch 25 = .ok (.aload_n 0, 1) := by decide +kernel
theorem dX4_watch_26 : decode cX4_watch 26 = .ok (.iload_n 1, 1) := by decide +kernel
theorem dX4_watch_27 : decode cX4_watch 27 = .ok (.invokevirtual 166, 3) := by decide +kernel
theorem dX4_watch_30 : decode cX4_watch 30 = .ok (.istore 4, 2) := by decide +kernel
theorem dX4_watch_32 : decode cX4_watch 32 = .ok (.aload_n 0, 1) := by decide +kernel
theorem dX4_watch_33 : decode cX4_watch 33 = .ok (.getfield 7, 3) := by decide +kernel
theorem dX4_watch_36 : decode cX4_watch 36 = .ok (.iconst 4, 1) := by decide +kernel
theorem dX4_watch_37 : decode cX4_watch 37 = .ok (.iload_n 1, 1) := by decide +kernel
theorem dX4_watch_38 : decode cX4_watch 38 = .ok (.iadd, 1) := by decide +kernel
theorem dX4_watch_39 : decode cX4_watch 39 = .ok (.iaload, 1) := by decide +kernel
theorem dX4_watch_40 : decode cX4_watch 40 = .ok (.istore 5, 2) := by decide +kernel
theorem dX4_watch_42 : decode cX4_watch 42 = .ok (.iload_n 2, 1) := by decide +kernel
theorem dX4_watch_43 : decode cX4_watch 43 = .ok (.tableswitch 114 0 6 #[41, 48, 56, 65, 68, 95, 106], 41) := by decide +kernel
theorem dX4_watch_84 : decode cX4_watch 84 = .ok (.iload 4, 2) := by decide +kernel
theorem dX4_watch_86 : decode cX4_watch 86 = .ok (.iload_n 3, 1) := by decide +kernel
theorem dX4_watch_87 : decode cX4_watch 87 = .ok (.isub, 1) := by decide +kernel
theorem dX4_watch_88 : decode cX4_watch 88 = .ok (.iconst 1, 1) := by decide +kernel
theorem dX4_watch_89 : decode cX4_watch 89 = .ok (.iadd, 1) := by decide +kernel
theorem dX4_watch_90 : decode cX4_watch 90 = .ok (.ireturn, 1) := by decide +kernel
theorem dX4_watch_91 : decode cX4_watch 91 = .ok (.aload_n 0, 1) := by decide +kernel
theorem dX4_watch_92 : decode cX4_watch 92 = .ok (.iload_n 3, 1) := by decide +kernel
theorem dX4_watch_93 : decode cX4_watch 93 = .ok (.iload 4, 2) := by decide +kernel
theorem dX4_watch_95 : decode cX4_watch 95 = .ok (.invokevirtual 169, 3) := by decide +kernel
theorem dX4_watch_98 : decode cX4_watch 98 = .ok (.ireturn, 1) := by decide +kernel
theorem dX4_watch_99 : decode cX4_watch 99 = .ok (.aload_n 0, 1) := by decide +kernel
theorem dX4_watch_100 : decode cX4_watch 100 = .ok (.iload_n 3, 1) := by decide +kernel
theorem dX4_watch_101 : decode cX4_watch 101 = .ok (.iload 4, 2) := by decide +kernel
theorem dX4_watch_103 : decode cX4_watch 103 = .ok (.iconst 3, 1) := by decide +kernel
theorem dX4_watch_104 : decode cX4_watch 104 = .ok (.invokevirtual 156, 3) := by decide +kernel
theorem dX4_watch_107 : decode cX4_watch 107 = .ok (.ireturn, 1) := by decide +kernel
theorem dX4_watch_108 : decode cX4_watch 108 = .ok (.iload 5, 2) := by decide +kernel
theorem dX4_watch_110 : decode cX4_watch 110 = .ok (.ireturn, 1) := by decide +kernel
theorem dX4_watch_111 : decode cX4_watch 111 = .ok (.iload 5, 2) := by decide +kernel
theorem dX4_watch_113 : decode cX4_watch 113 = .ok (.bipush (-5), 2) := by decide +kernel
theorem dX4_watch_115 : decode cX4_watch 115 = .ok (.if_icmp .ne 8, 3) := by decide +kernel
theorem dX4_watch_118 : decode cX4_watch 118 = .ok (.bipush (-5), 2) := by decide +kernel
theorem dX4_watch_120 : decode cX4_watch 120 = .ok (.goto 17, 3) := by decide +kernel
theorem dX4_watch_123 : decode cX4_watch 123 = .ok (.aload_n 0, 1) := by decide +kernel
theorem dX4_watch_124 : decode cX4_watch 124 = .ok (.iload_n 3, 1) := by decide +kernel
theorem dX4_watch_125 : decode cX4_watch 125 = .ok (.iload 4, 2) := by decide +kernel
theorem dX4_watch_127 : decode cX4_watch 127 = .ok (.invokevirtual 169, 3) := by decide +kernel
theorem dX4_watch_130 : decode cX4_watch 130 = .ok (.iload 5, 2) := by decide +kernel
theorem dX4_watch_132 : decode cX4_watch 132 = .ok (.isub, 1) := by decide +kernel
theorem dX4_watch_133 : decode cX4_watch 133 = .ok (.sipush 10000, 3) := by decide +kernel
theorem dX4_watch_136 : decode cX4_watch 136 = .ok (.iadd, 1) := by decide +kernel
theorem dX4_watch_137 : decode cX4_watch 137 = .ok (.ireturn, 1) := by decide +kernel
theorem dX4_watch_138 : decode cX4_watch 138 = .ok (.aload_n 0, 1) := by decide +kernel
theorem dX4_watch_139 : decode cX4_watch 139 = .ok (.iload_n 3, 1) := by decide +kernel
theorem dX4_watch_140 : decode cX4_watch 140 = .ok (.iload 4, 2) := by decide +kernel
theorem dX4_watch_142 : decode cX4_watch 142 = .ok (.iconst 1, 1) := by decide +kernel
theorem dX4_watch_143 : decode cX4_watch 143 = .ok (.bipush (-5), 2) := by decide +kernel
theorem dX4_watch_145 : decode cX4_watch 145 = .ok (.invokevirtual 143, 3) := by decide +kernel
theorem dX4_watch_148 : decode cX4_watch 148 = .ok (.ireturn, 1) := by decide +kernel
theorem dX4_watch_149 : decode cX4_watch 149 = .ok (.aload_n 0, 1) := by decide +kernel
theorem dX4_watch_150 : decode cX4_watch 150 = .ok (.iload_n 3, 1) := by decide +kernel
theorem dX4_watch_151 : decode cX4_watch 151 = .ok (.iload 4, 2) := by decide +kernel
theorem dX4_watch_153 : decode cX4_watch 153 = .ok (.invokevirtual 172, 3) := by decide +kernel
theorem dX4_watch_156 : decode cX4_watch 156 = .ok (.ireturn, 1) := by decide +kernel
theorem dX4_watch_157 : decode cX4_watch 157 = .ok (.bipush (-2), 2) := by decide +kernel
theorem dX4_watch_159 : decode cX4_watch 159 = .ok (.ireturn, 1) := by decide +kernel
theorem dX4_mayGo_0 : decode cX4_mayGo 0 = .ok (.aload_n 0, 1) := by decide +kernel
theorem dX4_mayGo_1 : decode cX4_mayGo 1 = .ok (.iload_n 1, 1) := by decide +kernel
theorem dX4_mayGo_2 : decode cX4_mayGo 2 = .ok (.invokevirtual 41, 3) := by decide +kernel
theorem dX4_mayGo_5 : decode cX4_mayGo 5 = .ok (.ifCond .eq 11, 3) := by decide +kernel
theorem dX4_mayGo_8 : decode cX4_mayGo 8 = .ok (.aload_n 0, 1) := by decide +kernel
theorem dX4_mayGo_9 : decode cX4_mayGo 9 = .ok (.iload_n 2, 1) := by decide +kernel
theorem dX4_mayGo_10 : decode cX4_mayGo 10 = .ok (.invokevirtual 41, 3) := by decide +kernel
theorem dX4_mayGo_13 : decode cX4_mayGo 13 = .ok (.ifCond .ne 7, 3) := by decide +kernel
theorem dX4_mayGo_16 : decode cX4_mayGo 16 = .ok (.iconst (-1), 1) := by decide +kernel
theorem dX4_mayGo_17 : decode cX4_mayGo 17 = .ok (.goto 14, 3) := by decide +kernel
theorem dX4_mayGo_20 : decode cX4_mayGo 20 = .ok (.iload_n 2, 1) := by decide +kernel
theorem dX4_mayGo_21 : decode cX4_mayGo 21 = .ok (.iload_n 1, 1) := by decide +kernel
theorem dX4_mayGo_22 : decode cX4_mayGo 22 = .ok (.if_icmp .ge 8, 3) := by decide +kernel
theorem dX4_mayGo_25 : decode cX4_mayGo 25 = .ok (.bipush (-2), 2) := by decide +kernel
theorem dX4_mayGo_27 : decode cX4_mayGo 27 = .ok (.goto 4, 3) := by decide +kernel
theorem dX4_mayGo_30 : decode cX4_mayGo 30 = .ok (.iconst 0, 1) := by decide +kernel
theorem dX4_mayGo_31 : decode cX4_mayGo 31 = .ok (.ireturn, 1) := by decide +kernel
theorem dX4_run_0 : decode cX4_run 0 = .ok (.aload_n 0, 1) := by decide +kernel
theorem dX4_run_1 : decode cX4_run 1 = .ok (.iload_n 1, 1) := by decide +kernel
theorem dX4_run_2 : decode cX4_run 2 = .ok (.iload_n 2, 1) := by decide +kernel
theorem dX4_run_3 : decode cX4_run 3 = .ok (.invokevirtual 175, 3) := by decide +kernel
theorem dX4_run_6 : decode cX4_run 6 = .ok (.istore_n 3, 1) := by decide +kernel
theorem dX4_run_7 : decode cX4_run 7 = .ok (.iload_n 3, 1) := by decide +kernel
theorem dX4_run_8 : decode cX4_run 8 = .ok (.ifCond .ge 7, 3) := by decide +kernel
theorem dX4_run_11 : decode cX4_run 11 = .ok (.iload_n 3, 1) := by decide +kernel
theorem dX4_run_12 : decode cX4_run 12 = .ok (.goto 9, 3) := by decide +kernel
theorem dX4_run_15 : decode cX4_run 15 = .ok (.aload_n 0, 1) := by decide +kernel
theorem dX4_run_16 : decode cX4_run 16 = .ok (.iload_n 1, 1) := by decide +kernel
theorem dX4_run_17 : decode cX4_run 17 = .ok (.iload_n 2, 1) := by decide +kernel
theorem dX4_run_18 : decode cX4_run 18 = .ok (.invokevirtual 169, 3) := by decide +kernel
theorem dX4_run_21 : decode cX4_run 21 = .ok (.ireturn, 1) := by decide +kernel
theorem dX4_northBy_0 : decode cX4_northBy 0 = .ok (.iload_n 0, 1) := by decide +kernel
theorem dX4_northBy_1 : decode cX4_northBy 1 = .ok (.tableswitch 61 0 7 #[47, 49, 61, 53, 57, 53, 61, 49], 47) := by decide +kernel
theorem dX4_northBy_48 : decode cX4_northBy 48 = .ok (.dconst 1, 1) := by decide +kernel
theorem dX4_northBy_49 : decode cX4_northBy 49 = .ok (.dreturn, 1) := by decide +kernel
theorem dX4_northBy_50 : decode cX4_northBy 50 = .ok (.ldc2_w 178, 3) := by decide +kernel
theorem dX4_northBy_53 : decode cX4_northBy 53 = .ok (.dreturn, 1) := by decide +kernel
theorem dX4_northBy_54 : decode cX4_northBy 54 = .ok (.ldc2_w 180, 3) := by decide +kernel
theorem dX4_northBy_57 : decode cX4_northBy 57 = .ok (.dreturn, 1) := by decide +kernel
theorem dX4_northBy_58 : decode cX4_northBy 58 = .ok (.ldc2_w 182, 3) := by decide +kernel
theorem dX4_northBy_61 : decode cX4_northBy 61 = .ok (.dreturn, 1) := by decide +kernel
theorem dX4_northBy_62 : decode cX4_northBy 62 = .ok (.dconst 0, 1) := by decide +kernel
theorem dX4_northBy_63 : decode cX4_northBy 63 = .ok (.dreturn, 1) := by decide +kernel
theorem dX4_brings_0 : decode cX4_brings 0 = .ok (.dconst 0, 1) := by decide +kernel
theorem dX4_brings_1 : decode cX4_brings 1 = .ok (.dstore 4, 2) := by decide +kernel
theorem dX4_brings_3 : decode cX4_brings 3 = .ok (.iload_n 1, 1) := by decide +kernel
theorem dX4_brings_4 : decode cX4_brings 4 = .ok (.istore 6, 2) := by decide +kernel
theorem dX4_brings_6 : decode cX4_brings 6 = .ok (.iload 6, 2) := by decide +kernel
theorem dX4_brings_8 : decode cX4_brings 8 = .ok (.iload_n 2, 1) := by decide +kernel
theorem dX4_brings_9 : decode cX4_brings 9 = .ok (.if_icmp .gt 60, 3) := by decide +kernel
theorem dX4_brings_12 : decode cX4_brings 12 = .ok (.aload_n 0, 1) := by decide +kernel
theorem dX4_brings_13 : decode cX4_brings 13 = .ok (.iload 6, 2) := by decide +kernel
theorem dX4_brings_15 : decode cX4_brings 15 = .ok (.iconst 0, 1) := by decide +kernel
theorem dX4_brings_16 : decode cX4_brings 16 = .ok (.invokevirtual 90, 3) := by decide +kernel
theorem dX4_brings_19 : decode cX4_brings 19 = .ok (.istore 7, 2) := by decide +kernel
theorem dX4_brings_21 : decode cX4_brings 21 = .ok (.aload_n 0, 1) := by decide +kernel
theorem dX4_brings_22 : decode cX4_brings 22 = .ok (.iload 6, 2) := by decide +kernel
theorem dX4_brings_24 : decode cX4_brings 24 = .ok (.iconst 1, 1) := by decide +kernel
theorem dX4_brings_25 : decode cX4_brings 25 = .ok (.invokevirtual 90, 3) := by decide +kernel
theorem dX4_brings_28 : decode cX4_brings 28 = .ok (.istore 8, 2) := by decide +kernel
theorem dX4_brings_30 : decode cX4_brings 30 = .ok (.iload 7, 2) := by decide +kernel
theorem dX4_brings_32 : decode cX4_brings 32 = .ok (.ifCond .lt 31, 3) := by decide +kernel
theorem dX4_brings_35 : decode cX4_brings 35 = .ok (.iload 8, 2) := by decide +kernel
theorem dX4_brings_37 : decode cX4_brings 37 = .ok (.ifCond .lt 26, 3) := by decide +kernel
theorem dX4_brings_40 : decode cX4_brings 40 = .ok (.dload 4, 2) := by decide +kernel
theorem dX4_brings_42 : decode cX4_brings 42 = .ok (.iload 8, 2) := by decide +kernel
theorem dX4_brings_44 : decode cX4_brings 44 = .ok (.i2d, 1) := by decide +kernel
theorem dX4_brings_45 : decode cX4_brings 45 = .ok (.ldc2_w 184, 3) := by decide +kernel
theorem dX4_brings_48 : decode cX4_brings 48 = .ok (.ddiv, 1) := by decide +kernel
theorem dX4_brings_49 : decode cX4_brings 49 = .ok (.iload 7, 2) := by decide +kernel
theorem dX4_brings_51 : decode cX4_brings 51 = .ok (.iload_n 3, 1) := by decide +kernel
theorem dX4_brings_52 : decode cX4_brings 52 = .ok (.iadd, 1) := by decide +kernel
theorem dX4_brings_53 : decode cX4_brings 53 = .ok (.bipush 8, 2) := by decide +kernel
theorem dX4_brings_55 : decode cX4_brings 55 = .ok (.irem, 1) := by decide +kernel
theorem dX4_brings_56 : decode cX4_brings 56 = .ok (.invokestatic 186, 3) := by decide +kernel
theorem dX4_brings_59 : decode cX4_brings 59 = .ok (.dmul, 1) := by decide +kernel
theorem dX4_brings_60 : decode cX4_brings 60 = .ok (.dadd, 1) := by decide +kernel
theorem dX4_brings_61 : decode cX4_brings 61 = .ok (.dstore 4, 2) := by decide +kernel
theorem dX4_brings_63 : decode cX4_brings 63 = .ok (.iinc 6 1, 3) := by decide +kernel
theorem dX4_brings_66 : decode cX4_brings 66 = .ok (.goto (-60), 3) := by decide +kernel
theorem dX4_brings_69 : decode cX4_brings 69 = .ok (.dload 4, 2) := by decide +kernel
theorem dX4_brings_71 : decode cX4_brings 71 = .ok (.dreturn, 1) := by decide +kernel
theorem dX4_north_0 : decode cX4_north 0 = .ok (.aload_n 0, 1) := by decide +kernel
theorem dX4_north_1 : decode cX4_north 1 = .ok (.iload_n 1, 1) := by decide +kernel
theorem dX4_north_2 : decode cX4_north 2 = .ok (.iload_n 2, 1) := by decide +kernel
theorem dX4_north_3 : decode cX4_north 3 = .ok (.invokevirtual 175, 3) := by decide +kernel
theorem dX4_north_6 : decode cX4_north 6 = .ok (.ifCond .ge 9, 3) := by decide +kernel
theorem dX4_north_9 : decode cX4_north 9 = .ok (.ldc2_w 190, 3) := by decide +kernel
theorem dX4_north_12 : decode cX4_north 12 = .ok (.goto 10, 3) := by decide +kernel
theorem dX4_north_15 : decode cX4_north 15 = .ok (.aload_n 0, 1) := by decide +kernel
theorem dX4_north_16 : decode cX4_north 16 = .ok (.iload_n 1, 1) := by decide +kernel
theorem dX4_north_17 : decode cX4_north 17 = .ok (.iload_n 2, 1) := by decide +kernel
theorem dX4_north_18 : decode cX4_north 18 = .ok (.iconst 0, 1) := by decide +kernel
theorem dX4_north_19 : decode cX4_north 19 = .ok (.invokevirtual 192, 3) := by decide +kernel
theorem dX4_north_22 : decode cX4_north 22 = .ok (.dreturn, 1) := by decide +kernel
theorem dX4_east_0 : decode cX4_east 0 = .ok (.aload_n 0, 1) := by decide +kernel
theorem dX4_east_1 : decode cX4_east 1 = .ok (.iload_n 1, 1) := by decide +kernel
theorem dX4_east_2 : decode cX4_east 2 = .ok (.iload_n 2, 1) := by decide +kernel
theorem dX4_east_3 : decode cX4_east 3 = .ok (.invokevirtual 175, 3) := by decide +kernel
theorem dX4_east_6 : decode cX4_east 6 = .ok (.ifCond .ge 9, 3) := by decide +kernel
theorem dX4_east_9 : decode cX4_east 9 = .ok (.ldc2_w 190, 3) := by decide +kernel
theorem dX4_east_12 : decode cX4_east 12 = .ok (.goto 11, 3) := by decide +kernel
theorem dX4_east_15 : decode cX4_east 15 = .ok (.aload_n 0, 1) := by decide +kernel
theorem dX4_east_16 : decode cX4_east 16 = .ok (.iload_n 1, 1) := by decide +kernel
theorem dX4_east_17 : decode cX4_east 17 = .ok (.iload_n 2, 1) := by decide +kernel
theorem dX4_east_18 : decode cX4_east 18 = .ok (.bipush 6, 2) := by decide +kernel
theorem dX4_east_20 : decode cX4_east 20 = .ok (.invokevirtual 192, 3) := by decide +kernel
theorem dX4_east_23 : decode cX4_east 23 = .ok (.dreturn, 1) := by decide +kernel
theorem dX4_square_0 : decode cX4_square 0 = .ok (.aload_n 0, 1) := by decide +kernel
theorem dX4_square_1 : decode cX4_square 1 = .ok (.iload_n 1, 1) := by decide +kernel
theorem dX4_square_2 : decode cX4_square 2 = .ok (.iload_n 2, 1) := by decide +kernel
theorem dX4_square_3 : decode cX4_square 3 = .ok (.iconst 0, 1) := by decide +kernel
theorem dX4_square_4 : decode cX4_square 4 = .ok (.invokevirtual 192, 3) := by decide +kernel
theorem dX4_square_7 : decode cX4_square 7 = .ok (.dstore_n 3, 1) := by decide +kernel
theorem dX4_square_8 : decode cX4_square 8 = .ok (.aload_n 0, 1) := by decide +kernel
theorem dX4_square_9 : decode cX4_square 9 = .ok (.iload_n 1, 1) := by decide +kernel
theorem dX4_square_10 : decode cX4_square 10 = .ok (.iload_n 2, 1) := by decide +kernel
theorem dX4_square_11 : decode cX4_square 11 = .ok (.bipush 6, 2) := by decide +kernel
theorem dX4_square_13 : decode cX4_square 13 = .ok (.invokevirtual 192, 3) := by decide +kernel
theorem dX4_square_16 : decode cX4_square 16 = .ok (.dstore 5, 2) := by decide +kernel
theorem dX4_square_18 : decode cX4_square 18 = .ok (.dload_n 3, 1) := by decide +kernel
theorem dX4_square_19 : decode cX4_square 19 = .ok (.dload_n 3, 1) := by decide +kernel
theorem dX4_square_20 : decode cX4_square 20 = .ok (.dmul, 1) := by decide +kernel
theorem dX4_square_21 : decode cX4_square 21 = .ok (.dload 5, 2) := by decide +kernel
theorem dX4_square_23 : decode cX4_square 23 = .ok (.dload 5, 2) := by decide +kernel
theorem dX4_square_25 : decode cX4_square 25 = .ok (.dmul, 1) := by decide +kernel
theorem dX4_square_26 : decode cX4_square 26 = .ok (.dadd, 1) := by decide +kernel
theorem dX4_square_27 : decode cX4_square 27 = .ok (.d2f, 1) := by decide +kernel
theorem dX4_square_28 : decode cX4_square 28 = .ok (.invokestatic 196, 3) := by decide +kernel
theorem dX4_square_31 : decode cX4_square 31 = .ok (.ireturn, 1) := by decide +kernel
theorem dX4_squareBits_0 : decode cX4_squareBits 0 = .ok (.aload_n 0, 1) := by decide +kernel
theorem dX4_squareBits_1 : decode cX4_squareBits 1 = .ok (.iload_n 1, 1) := by decide +kernel
theorem dX4_squareBits_2 : decode cX4_squareBits 2 = .ok (.iload_n 2, 1) := by decide +kernel
theorem dX4_squareBits_3 : decode cX4_squareBits 3 = .ok (.invokevirtual 175, 3) := by decide +kernel
theorem dX4_squareBits_6 : decode cX4_squareBits 6 = .ok (.istore_n 3, 1) := by decide +kernel
theorem dX4_squareBits_7 : decode cX4_squareBits 7 = .ok (.iload_n 3, 1) := by decide +kernel
theorem dX4_squareBits_8 : decode cX4_squareBits 8 = .ok (.ifCond .ge 7, 3) := by decide +kernel
theorem dX4_squareBits_11 : decode cX4_squareBits 11 = .ok (.iload_n 3, 1) := by decide +kernel
theorem dX4_squareBits_12 : decode cX4_squareBits 12 = .ok (.goto 9, 3) := by decide +kernel
theorem dX4_squareBits_15 : decode cX4_squareBits 15 = .ok (.aload_n 0, 1) := by decide +kernel
theorem dX4_squareBits_16 : decode cX4_squareBits 16 = .ok (.iload_n 1, 1) := by decide +kernel
theorem dX4_squareBits_17 : decode cX4_squareBits 17 = .ok (.iload_n 2, 1) := by decide +kernel
theorem dX4_squareBits_18 : decode cX4_squareBits 18 = .ok (.invokevirtual 202, 3) := by decide +kernel
theorem dX4_squareBits_21 : decode cX4_squareBits 21 = .ok (.ireturn, 1) := by decide +kernel
theorem dX4_wouldChange_0 : decode cX4_wouldChange 0 = .ok (.aload_n 0, 1) := by decide +kernel
theorem dX4_wouldChange_1 : decode cX4_wouldChange 1 = .ok (.iload_n 1, 1) := by decide +kernel
theorem dX4_wouldChange_2 : decode cX4_wouldChange 2 = .ok (.iload_n 2, 1) := by decide +kernel
theorem dX4_wouldChange_3 : decode cX4_wouldChange 3 = .ok (.invokevirtual 93, 3) := by decide +kernel
theorem dX4_wouldChange_6 : decode cX4_wouldChange 6 = .ok (.ifCond .ne 5, 3) := by decide +kernel
theorem dX4_wouldChange_9 : decode cX4_wouldChange 9 = .ok (.iconst (-1), 1) := by decide +kernel
theorem dX4_wouldChange_10 : decode cX4_wouldChange 10 = .ok (.ireturn, 1) := by decide +kernel
theorem dX4_wouldChange_11 : decode cX4_wouldChange 11 = .ok (.iload_n 2, 1) := by decide +kernel
theorem dX4_wouldChange_12 : decode cX4_wouldChange 12 = .ok (.iload_n 3, 1) := by decide +kernel
theorem dX4_wouldChange_13 : decode cX4_wouldChange 13 = .ok (.invokestatic 69, 3) := by decide +kernel
theorem dX4_wouldChange_16 : decode cX4_wouldChange 16 = .ok (.ifCond .ne 6, 3) := by decide +kernel
theorem dX4_wouldChange_19 : decode cX4_wouldChange 19 = .ok (.bipush (-2), 2) := by decide +kernel
theorem dX4_wouldChange_21 : decode cX4_wouldChange 21 = .ok (.ireturn, 1) := by decide +kernel
theorem dX4_wouldChange_22 : decode cX4_wouldChange 22 = .ok (.aload_n 0, 1) := by decide +kernel
theorem dX4_wouldChange_23 : decode cX4_wouldChange 23 = .ok (.iload_n 2, 1) := by decide +kernel
theorem dX4_wouldChange_24 : decode cX4_wouldChange 24 = .ok (.invokevirtual 96, 3) := by decide +kernel
theorem dX4_wouldChange_27 : decode cX4_wouldChange 27 = .ok (.iload_n 1, 1) := by decide +kernel
theorem dX4_wouldChange_28 : decode cX4_wouldChange 28 = .ok (.iload_n 2, 1) := by decide +kernel
theorem dX4_wouldChange_29 : decode cX4_wouldChange 29 = .ok (.invokestatic 52, 3) := by decide +kernel
theorem dX4_wouldChange_32 : decode cX4_wouldChange 32 = .ok (.aload_n 0, 1) := by decide +kernel
theorem dX4_wouldChange_33 : decode cX4_wouldChange 33 = .ok (.iload_n 1, 1) := by decide +kernel
theorem dX4_wouldChange_34 : decode cX4_wouldChange 34 = .ok (.iload_n 2, 1) := by decide +kernel
theorem dX4_wouldChange_35 : decode cX4_wouldChange 35 = .ok (.invokevirtual 56, 3) := by decide +kernel
theorem dX4_wouldChange_38 : decode cX4_wouldChange 38 = .ok (.iadd, 1) := by decide +kernel
theorem dX4_wouldChange_39 : decode cX4_wouldChange 39 = .ok (.istore 4, 2) := by decide +kernel
theorem dX4_wouldChange_41 : decode cX4_wouldChange 41 = .ok (.aload_n 0, 1) := by decide +kernel
theorem dX4_wouldChange_42 : decode cX4_wouldChange 42 = .ok (.getfield 7, 3) := by decide +kernel
theorem dX4_wouldChange_45 : decode cX4_wouldChange 45 = .ok (.iload 4, 2) := by decide +kernel
theorem dX4_wouldChange_47 : decode cX4_wouldChange 47 = .ok (.iaload, 1) := by decide +kernel
theorem dX4_wouldChange_48 : decode cX4_wouldChange 48 = .ok (.istore 5, 2) := by decide +kernel
theorem dX4_wouldChange_50 : decode cX4_wouldChange 50 = .ok (.aload_n 0, 1) := by decide +kernel
theorem dX4_wouldChange_51 : decode cX4_wouldChange 51 = .ok (.getfield 7, 3) := by decide +kernel
theorem dX4_wouldChange_54 : decode cX4_wouldChange 54 = .ok (.iload 4, 2) := by decide +kernel
theorem dX4_wouldChange_56 : decode cX4_wouldChange 56 = .ok (.iload_n 3, 1) := by decide +kernel
theorem dX4_wouldChange_57 : decode cX4_wouldChange 57 = .ok (.iastore, 1) := by decide +kernel
theorem dX4_wouldChange_58 : decode cX4_wouldChange 58 = .ok (.aload_n 0, 1) := by decide +kernel
theorem dX4_wouldChange_59 : decode cX4_wouldChange 59 = .ok (.iload_n 2, 1) := by decide +kernel
theorem dX4_wouldChange_60 : decode cX4_wouldChange 60 = .ok (.invokevirtual 99, 3) := by decide +kernel
theorem dX4_wouldChange_63 : decode cX4_wouldChange 63 = .ok (.istore 6, 2) := by decide +kernel
theorem dX4_wouldChange_65 : decode cX4_wouldChange 65 = .ok (.aload_n 0, 1) := by decide +kernel
theorem dX4_wouldChange_66 : decode cX4_wouldChange 66 = .ok (.getfield 7, 3) := by decide +kernel
theorem dX4_wouldChange_69 : decode cX4_wouldChange 69 = .ok (.iload 4, 2) := by decide +kernel
theorem dX4_wouldChange_71 : decode cX4_wouldChange 71 = .ok (.iload 5, 2) := by decide +kernel
theorem dX4_wouldChange_73 : decode cX4_wouldChange 73 = .ok (.iastore, 1) := by decide +kernel
theorem dX4_wouldChange_74 : decode cX4_wouldChange 74 = .ok (.iload 6, 2) := by decide +kernel
theorem dX4_wouldChange_76 : decode cX4_wouldChange 76 = .ok (.ireturn, 1) := by decide +kernel
theorem dX4_overColumns_0 : decode cX4_overColumns 0 = .ok (.iconst 0, 1) := by decide +kernel
theorem dX4_overColumns_1 : decode cX4_overColumns 1 = .ok (.istore_n 2, 1) := by decide +kernel
theorem dX4_overColumns_2 : decode cX4_overColumns 2 = .ok (.iconst 0, 1) := by decide +kernel
theorem dX4_overColumns_3 : decode cX4_overColumns 3 = .ok (.istore_n 3, 1) := by decide +kernel
theorem dX4_overColumns_4 : decode cX4_overColumns 4 = .ok (.iload_n 3, 1) := by decide +kernel
theorem dX4_overColumns_5 : decode cX4_overColumns 5 = .ok (.iconst 4, 1) := by decide +kernel
theorem dX4_overColumns_6 : decode cX4_overColumns 6 = .ok (.if_icmp .ge 18, 3) := by decide +kernel
theorem dX4_overColumns_9 : decode cX4_overColumns 9 = .ok (.iload_n 2, 1) := by decide +kernel
theorem dX4_overColumns_10 : decode cX4_overColumns 10 = .ok (.aload_n 0, 1) := by decide +kernel
theorem dX4_overColumns_11 : decode cX4_overColumns 11 = .ok (.iload_n 3, 1) := by decide +kernel
theorem dX4_overColumns_12 : decode cX4_overColumns 12 = .ok (.iload_n 1, 1) := by decide +kernel
theorem dX4_overColumns_13 : decode cX4_overColumns 13 = .ok (.invokevirtual 205, 3) := by decide +kernel
theorem dX4_overColumns_16 : decode cX4_overColumns 16 = .ok (.iadd, 1) := by decide +kernel
theorem dX4_overColumns_17 : decode cX4_overColumns 17 = .ok (.istore_n 2, 1) := by decide +kernel
theorem dX4_overColumns_18 : decode cX4_overColumns 18 = .ok (.iinc 3 1, 3) := by decide +kernel
theorem dX4_overColumns_21 : decode cX4_overColumns 21 = .ok (.goto (-17), 3) := by decide +kernel
theorem dX4_overColumns_24 : decode cX4_overColumns 24 = .ok (.iload_n 2, 1) := by decide +kernel
theorem dX4_overColumns_25 : decode cX4_overColumns 25 = .ok (.ireturn, 1) := by decide +kernel
theorem dX4_allWritten_0 : decode cX4_allWritten 0 = .ok (.iconst 0, 1) := by decide +kernel
theorem dX4_allWritten_1 : decode cX4_allWritten 1 = .ok (.istore_n 1, 1) := by decide +kernel
theorem dX4_allWritten_2 : decode cX4_allWritten 2 = .ok (.iconst 0, 1) := by decide +kernel
theorem dX4_allWritten_3 : decode cX4_allWritten 3 = .ok (.istore_n 2, 1) := by decide +kernel
theorem dX4_allWritten_4 : decode cX4_allWritten 4 = .ok (.iload_n 2, 1) := by decide +kernel
theorem dX4_allWritten_5 : decode cX4_allWritten 5 = .ok (.aload_n 0, 1) := by decide +kernel
theorem dX4_allWritten_6 : decode cX4_allWritten 6 = .ok (.getfield 7, 3) := by decide +kernel
theorem dX4_allWritten_9 : decode cX4_allWritten 9 = .ok (.iconst 0, 1) := by decide +kernel
theorem dX4_allWritten_10 : decode cX4_allWritten 10 = .ok (.iaload, 1) := by decide +kernel
theorem dX4_allWritten_11 : decode cX4_allWritten 11 = .ok (.if_icmp .ge 17, 3) := by decide +kernel
theorem dX4_allWritten_14 : decode cX4_allWritten 14 = .ok (.iload_n 1, 1) := by decide +kernel
theorem dX4_allWritten_15 : decode cX4_allWritten 15 = .ok (.aload_n 0, 1) := by decide +kernel
theorem dX4_allWritten_16 : decode cX4_allWritten 16 = .ok (.iload_n 2, 1) := by decide +kernel
theorem dX4_allWritten_17 : decode cX4_allWritten 17 = .ok (.invokevirtual 140, 3) := by decide +kernel
theorem dX4_allWritten_20 : decode cX4_allWritten 20 = .ok (.iadd, 1) := by decide +kernel
theorem dX4_allWritten_21 : decode cX4_allWritten 21 = .ok (.istore_n 1, 1) := by decide +kernel
theorem dX4_allWritten_22 : decode cX4_allWritten 22 = .ok (.iinc 2 1, 3) := by decide +kernel
theorem dX4_allWritten_25 : decode cX4_allWritten 25 = .ok (.goto (-21), 3) := by decide +kernel
theorem dX4_allWritten_28 : decode cX4_allWritten 28 = .ok (.iload_n 1, 1) := by decide +kernel
theorem dX4_allWritten_29 : decode cX4_allWritten 29 = .ok (.ireturn, 1) := by decide +kernel
theorem dX4_unlike_0 : decode cX4_unlike 0 = .ok (.iconst 0, 1) := by decide +kernel
theorem dX4_unlike_1 : decode cX4_unlike 1 = .ok (.istore_n 1, 1) := by decide +kernel
theorem dX4_unlike_2 : decode cX4_unlike 2 = .ok (.iconst 0, 1) := by decide +kernel
theorem dX4_unlike_3 : decode cX4_unlike 3 = .ok (.istore_n 2, 1) := by decide +kernel
theorem dX4_unlike_4 : decode cX4_unlike 4 = .ok (.iload_n 2, 1) := by decide +kernel
theorem dX4_unlike_5 : decode cX4_unlike 5 = .ok (.aload_n 0, 1) := by decide +kernel
theorem dX4_unlike_6 : decode cX4_unlike 6 = .ok (.invokevirtual 163, 3) := by decide +kernel
theorem dX4_unlike_9 : decode cX4_unlike 9 = .ok (.if_icmp .ge 53, 3) := by decide +kernel
theorem dX4_unlike_12 : decode cX4_unlike 12 = .ok (.aload_n 0, 1) := by decide +kernel
theorem dX4_unlike_13 : decode cX4_unlike 13 = .ok (.getfield 7, 3) := by decide +kernel
theorem dX4_unlike_16 : decode cX4_unlike 16 = .ok (.iconst 4, 1) := by decide +kernel
theorem dX4_unlike_17 : decode cX4_unlike 17 = .ok (.iload_n 2, 1) := by decide +kernel
theorem dX4_unlike_18 : decode cX4_unlike 18 = .ok (.iadd, 1) := by decide +kernel
theorem dX4_unlike_19 : decode cX4_unlike 19 = .ok (.iaload, 1) := by decide +kernel
theorem dX4_unlike_20 : decode cX4_unlike 20 = .ok (.istore_n 3, 1) := by decide +kernel
theorem dX4_unlike_21 : decode cX4_unlike 21 = .ok (.iload_n 1, 1) := by decide +kernel
theorem dX4_unlike_22 : decode cX4_unlike 22 = .ok (.iload_n 3, 1) := by decide +kernel
theorem dX4_unlike_23 : decode cX4_unlike 23 = .ok (.bipush (-5), 2) := by decide +kernel
theorem dX4_unlike_25 : decode cX4_unlike 25 = .ok (.if_icmp .eq 28, 3) := by decide +kernel
theorem dX4_unlike_28 : decode cX4_unlike 28 = .ok (.iload_n 3, 1) := by decide +kernel
theorem dX4_unlike_29 : decode cX4_unlike 29 = .ok (.aload_n 0, 1) := by decide +kernel
theorem dX4_unlike_30 : decode cX4_unlike 30 = .ok (.iload_n 2, 1) := by decide +kernel
theorem dX4_unlike_31 : decode cX4_unlike 31 = .ok (.aload_n 0, 1) := by decide +kernel
theorem dX4_unlike_32 : decode cX4_unlike 32 = .ok (.getfield 7, 3) := by decide +kernel
theorem dX4_unlike_35 : decode cX4_unlike 35 = .ok (.iconst 3, 1) := by decide +kernel
theorem dX4_unlike_36 : decode cX4_unlike 36 = .ok (.iaload, 1) := by decide +kernel
theorem dX4_unlike_37 : decode cX4_unlike 37 = .ok (.imul, 1) := by decide +kernel
theorem dX4_unlike_38 : decode cX4_unlike 38 = .ok (.aload_n 0, 1) := by decide +kernel
theorem dX4_unlike_39 : decode cX4_unlike 39 = .ok (.iload_n 2, 1) := by decide +kernel
theorem dX4_unlike_40 : decode cX4_unlike 40 = .ok (.invokevirtual 166, 3) := by decide +kernel
theorem dX4_unlike_43 : decode cX4_unlike 43 = .ok (.invokevirtual 169, 3) := by decide +kernel
theorem dX4_unlike_46 : decode cX4_unlike 46 = .ok (.if_icmp .eq 7, 3) := by decide +kernel
theorem dX4_unlike_49 : decode cX4_unlike 49 = .ok (.iconst 1, 1) := by decide +kernel
theorem dX4_unlike_50 : decode cX4_unlike 50 = .ok (.goto 4, 3) := by decide +kernel
theorem dX4_unlike_53 : decode cX4_unlike 53 = .ok (.iconst 0, 1) := by decide +kernel
theorem dX4_unlike_54 : decode cX4_unlike 54 = .ok (.iadd, 1) := by decide +kernel
theorem dX4_unlike_55 : decode cX4_unlike 55 = .ok (.istore_n 1, 1) := by decide +kernel
theorem dX4_unlike_56 : decode cX4_unlike 56 = .ok (.iinc 2 1, 3) := by decide +kernel
theorem dX4_unlike_59 : decode cX4_unlike 59 = .ok (.goto (-55), 3) := by decide +kernel
theorem dX4_unlike_62 : decode cX4_unlike 62 = .ok (.iload_n 1, 1) := by decide +kernel
theorem dX4_unlike_63 : decode cX4_unlike 63 = .ok (.ireturn, 1) := by decide +kernel
theorem dX4_count_0 : decode cX4_count 0 = .ok (.iload_n 1, 1) := by decide +kernel
theorem dX4_count_1 : decode cX4_count 1 = .ok (.tableswitch 126 0 11 #[63, 70, 76, 82, 89, 94, 99, 104, 104, 104, 116, 121], 63) := by decide +kernel
theorem dX4_count_64 : decode cX4_count 64 = .ok (.aload_n 0, 1) := by decide +kernel
theorem dX4_count_65 : decode cX4_count 65 = .ok (.getfield 7, 3) := by decide +kernel
theorem dX4_count_68 : decode cX4_count 68 = .ok (.iconst 0, 1) := by decide +kernel
theorem dX4_count_69 : decode cX4_count 69 = .ok (.iaload, 1) := by decide +kernel
theorem dX4_count_70 : decode cX4_count 70 = .ok (.ireturn, 1) := by decide +kernel
theorem dX4_count_71 : decode cX4_count 71 = .ok (.aload_n 0, 1) := by decide +kernel
theorem dX4_count_72 : decode cX4_count 72 = .ok (.iconst 0, 1) := by decide +kernel
theorem dX4_count_73 : decode cX4_count 73 = .ok (.invokevirtual 208, 3) := by decide +kernel
theorem dX4_count_76 : decode cX4_count 76 = .ok (.ireturn, 1) := by decide +kernel
theorem dX4_count_77 : decode cX4_count 77 = .ok (.aload_n 0, 1) := by decide +kernel
theorem dX4_count_78 : decode cX4_count 78 = .ok (.iconst 2, 1) := by decide +kernel
theorem dX4_count_79 : decode cX4_count 79 = .ok (.invokevirtual 208, 3) := by decide +kernel
theorem dX4_count_82 : decode cX4_count 82 = .ok (.ireturn, 1) := by decide +kernel
theorem dX4_count_83 : decode cX4_count 83 = .ok (.aload_n 0, 1) := by decide +kernel
theorem dX4_count_84 : decode cX4_count 84 = .ok (.bipush 6, 2) := by decide +kernel
theorem dX4_count_86 : decode cX4_count 86 = .ok (.invokevirtual 208, 3) := by decide +kernel
theorem dX4_count_89 : decode cX4_count 89 = .ok (.ireturn, 1) := by decide +kernel
theorem dX4_count_90 : decode cX4_count 90 = .ok (.aload_n 0, 1) := by decide +kernel
theorem dX4_count_91 : decode cX4_count 91 = .ok (.invokevirtual 211, 3) := by decide +kernel
theorem dX4_count_94 : decode cX4_count 94 = .ok (.ireturn, 1) := by decide +kernel
theorem dX4_count_95 : decode cX4_count 95 = .ok (.aload_n 0, 1) := by decide +kernel
theorem dX4_count_96 : decode cX4_count 96 = .ok (.invokevirtual 163, 3) := by decide +kernel
theorem dX4_count_99 : decode cX4_count 99 = .ok (.ireturn, 1) := by decide +kernel
theorem dX4_count_100 : decode cX4_count 100 = .ok (.aload_n 0, 1) := by decide +kernel
theorem dX4_count_101 : decode cX4_count 101 = .ok (.invokevirtual 214, 3) := by decide +kernel
theorem dX4_count_104 : decode cX4_count 104 = .ok (.ireturn, 1) := by decide +kernel
theorem dX4_count_105 : decode cX4_count 105 = .ok (.aload_n 0, 1) := by decide +kernel
theorem dX4_count_106 : decode cX4_count 106 = .ok (.getfield 7, 3) := by decide +kernel
theorem dX4_count_109 : decode cX4_count 109 = .ok (.iconst 1, 1) := by decide +kernel
theorem dX4_count_110 : decode cX4_count 110 = .ok (.iload_n 1, 1) := by decide +kernel
theorem dX4_count_111 : decode cX4_count 111 = .ok (.iadd, 1) := by decide +kernel
theorem dX4_count_112 : decode cX4_count 112 = .ok (.bipush 7, 2) := by decide +kernel
theorem dX4_count_114 : decode cX4_count 114 = .ok (.isub, 1) := by decide +kernel
theorem dX4_count_115 : decode cX4_count 115 = .ok (.iaload, 1) := by decide +kernel
theorem dX4_count_116 : decode cX4_count 116 = .ok (.ireturn, 1) := by decide +kernel
theorem dX4_count_117 : decode cX4_count 117 = .ok (.aload_n 0, 1) := by decide +kernel
theorem dX4_count_118 : decode cX4_count 118 = .ok (.getfield 29, 3) := by decide +kernel
theorem dX4_count_121 : decode cX4_count 121 = .ok (.ireturn, 1) := by decide +kernel
theorem dX4_count_122 : decode cX4_count 122 = .ok (.aload_n 0, 1) := by decide +kernel
theorem dX4_count_123 : decode cX4_count 123 = .ok (.getfield 105, 3) := by decide +kernel
theorem dX4_count_126 : decode cX4_count 126 = .ok (.ireturn, 1) := by decide +kernel
theorem dX4_count_127 : decode cX4_count 127 = .ok (.bipush (-2), 2) := by decide +kernel
theorem dX4_count_129 : decode cX4_count 129 = .ok (.ireturn, 1) := by decide +kernel

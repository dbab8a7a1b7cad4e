theorem dX0_init_0 : decode cX0_init 0 = .ok (.aload_n 0, 1) := by decide +kernel
theorem dX0_init_1 : decode cX0_init 1 = .ok (.invokespecial 3, 3) := by decide +kernel
theorem dX0_init_4 : decode cX0_init 4 = .ok (.aload_n 0, 1) := by decide +kernel
theorem dX0_init_5 : decode cX0_init 5 = .ok (.iconst 4, 1) := by decide +kernel
theorem dX0_init_6 : decode cX0_init 6 = .ok (.anewarray 9, 3) := by decide +kernel
theorem dX0_init_9 : decode cX0_init 9 = .ok (.putfield 11, 3) := by decide +kernel
theorem dX0_init_12 : decode cX0_init 12 = .ok (.iconst 0, 1) := by decide +kernel
theorem dX0_init_13 : decode cX0_init 13 = .ok (.istore_n 1, 1) := by decide +kernel
theorem dX0_init_14 : decode cX0_init 14 = .ok (.iload_n 1, 1) := by decide +kernel
theorem dX0_init_15 : decode cX0_init 15 = .ok (.aload_n 0, 1) := by decide +kernel
theorem dX0_init_16 : decode cX0_init 16 = .ok (.getfield 11, 3) := by decide +kernel
theorem dX0_init_19 : decode cX0_init 19 = .ok (.arraylength, 1) := by decide +kernel
theorem dX0_init_20 : decode cX0_init 20 = .ok (.if_icmp .ge 22, 3) := by decide +kernel
theorem dX0_init_23 : decode cX0_init 23 = .ok (.aload_n 0, 1) := by decide +kernel
theorem dX0_init_24 : decode cX0_init 24 = .ok (.getfield 11, 3) := by decide +kernel
theorem dX0_init_27 : decode cX0_init 27 = .ok (.iload_n 1, 1) := by decide +kernel
theorem dX0_init_28 : decode cX0_init 28 = .ok (.new 9, 3) := by decide +kernel
theorem dX0_init_31 : decode cX0_init 31 = .ok (.dup, 1) := by decide +kernel
theorem dX0_init_32 : decode cX0_init 32 = .ok (.invokespecial 17, 3) := by decide +kernel
theorem dX0_init_35 : decode cX0_init 35 = .ok (.aastore, 1) := by decide +kernel
theorem dX0_init_36 : decode cX0_init 36 = .ok (.iinc 1 1, 3) := by decide +kernel
theorem dX0_init_39 : decode cX0_init 39 = .ok (.goto (-25), 3) := by decide +kernel
theorem dX0_init_42 : decode cX0_init 42 = .ok (.aload_n 0, 1) := by decide +kernel
theorem dX0_init_43 : decode cX0_init 43 = .ok (.iconst 0, 1) := by decide +kernel
theorem dX0_init_44 : decode cX0_init 44 = .ok (.putfield 18, 3) := by decide +kernel
theorem dX0_init_47 : decode cX0_init 47 = .ok (.aload_n 0, 1) := by decide +kernel
theorem dX0_init_48 : decode cX0_init 48 = .ok (.iconst 0, 1) := by decide +kernel
theorem dX0_init_49 : decode cX0_init 49 = .ok (.putfield 22, 3) := by decide +kernel
theorem dX0_init_52 : decode cX0_init 52 = .ok (.return_, 1) := by decide +kernel
theorem dX0_remember_0 : decode cX0_remember 0 = .ok (.aload_n 0, 1) := by decide +kernel
theorem dX0_remember_1 : decode cX0_remember 1 = .ok (.getfield 22, 3) := by decide +kernel
theorem dX0_remember_4 : decode cX0_remember 4 = .ok (.iconst 4, 1) := by decide +kernel
theorem dX0_remember_5 : decode cX0_remember 5 = .ok (.if_icmp .ge 16, 3) := by decide +kernel
theorem dX0_remember_8 : decode cX0_remember 8 = .ok (.aload_n 0, 1) := by decide +kernel
theorem dX0_remember_9 : decode cX0_remember 9 = .ok (.dup, 1) := by decide +kernel
theorem dX0_remember_10 : decode cX0_remember 10 = .ok (.getfield 22, 3) := by decide +kernel
theorem dX0_remember_13 : decode cX0_remember 13 = .ok (.iconst 1, 1) := by decide +kernel
theorem dX0_remember_14 : decode cX0_remember 14 = .ok (.iadd, 1) := by decide +kernel
theorem dX0_remember_15 : decode cX0_remember 15 = .ok (.putfield 22, 3) := by decide +kernel
theorem dX0_remember_18 : decode cX0_remember 18 = .ok (.goto 15, 3) := by decide +kernel
theorem dX0_remember_21 : decode cX0_remember 21 = .ok (.aload_n 0, 1) := by decide +kernel
theorem dX0_remember_22 : decode cX0_remember 22 = .ok (.aload_n 0, 1) := by decide +kernel
theorem dX0_remember_23 : decode cX0_remember 23 = .ok (.getfield 18, 3) := by decide +kernel
theorem dX0_remember_26 : decode cX0_remember 26 = .ok (.iconst 1, 1) := by decide +kernel
theorem dX0_remember_27 : decode cX0_remember 27 = .ok (.iadd, 1) := by decide +kernel
theorem dX0_remember_28 : decode cX0_remember 28 = .ok (.iconst 4, 1) := by decide +kernel
theorem dX0_remember_29 : decode cX0_remember 29 = .ok (.irem, 1) := by decide +kernel
theorem dX0_remember_30 : decode cX0_remember 30 = .ok (.putfield 18, 3) := by decide +kernel
theorem dX0_remember_33 : decode cX0_remember 33 = .ok (.aload_n 0, 1) := by decide +kernel
theorem dX0_remember_34 : decode cX0_remember 34 = .ok (.invokevirtual 25, 3) := by decide +kernel
theorem dX0_remember_37 : decode cX0_remember 37 = .ok (.astore_n 2, 1) := by decide +kernel
theorem dX0_remember_38 : decode cX0_remember 38 = .ok (.aload_n 2, 1) := by decide +kernel
theorem dX0_remember_39 : decode cX0_remember 39 = .ok (.ifnull 8, 3) := by decide +kernel
theorem dX0_remember_42 : decode cX0_remember 42 = .ok (.aload_n 2, 1) := by decide +kernel
theorem dX0_remember_43 : decode cX0_remember 43 = .ok (.aload_n 1, 1) := by decide +kernel
theorem dX0_remember_44 : decode cX0_remember 44 = .ok (.invokevirtual 29, 3) := by decide +kernel
theorem dX0_remember_47 : decode cX0_remember 47 = .ok (.return_, 1) := by decide +kernel
theorem dX0_takeInto_0 : decode cX0_takeInto 0 = .ok (.aload_n 0, 1) := by decide +kernel
theorem dX0_takeInto_1 : decode cX0_takeInto 1 = .ok (.getfield 22, 3) := by decide +kernel
theorem dX0_takeInto_4 : decode cX0_takeInto 4 = .ok (.ifCond .gt 5, 3) := by decide +kernel
theorem dX0_takeInto_7 : decode cX0_takeInto 7 = .ok (.iconst 0, 1) := by decide +kernel
theorem dX0_takeInto_8 : decode cX0_takeInto 8 = .ok (.ireturn, 1) := by decide +kernel
theorem dX0_takeInto_9 : decode cX0_takeInto 9 = .ok (.aload_n 0, 1) := by decide +kernel
theorem dX0_takeInto_10 : decode cX0_takeInto 10 = .ok (.invokevirtual 25, 3) := by decide +kernel
theorem dX0_takeInto_13 : decode cX0_takeInto 13 = .ok (.astore_n 2, 1) := by decide +kernel
theorem dX0_takeInto_14 : decode cX0_takeInto 14 = .ok (.aload_n 2, 1) := by decide +kernel
theorem dX0_takeInto_15 : decode cX0_takeInto 15 = .ok (.ifnull 8, 3) := by decide +kernel
theorem dX0_takeInto_18 : decode cX0_takeInto 18 = .ok (.aload_n 1, 1) := by decide +kernel
theorem dX0_takeInto_19 : decode cX0_takeInto 19 = .ok (.aload_n 2, 1) := by decide +kernel
theorem dX0_takeInto_20 : decode cX0_takeInto 20 = .ok (.invokevirtual 29, 3) := by decide +kernel
theorem dX0_takeInto_23 : decode cX0_takeInto 23 = .ok (.aload_n 0, 1) := by decide +kernel
theorem dX0_takeInto_24 : decode cX0_takeInto 24 = .ok (.dup, 1) := by decide +kernel
theorem dX0_takeInto_25 : decode cX0_takeInto 25 = .ok (.getfield 22, 3) := by decide +kernel
theorem dX0_takeInto_28 : decode cX0_takeInto 28 = .ok (.iconst 1, 1) := by decide +kernel
theorem dX0_takeInto_29 : decode cX0_takeInto 29 = .ok (.isub, 1) := by decide +kernel
theorem dX0_takeInto_30 : decode cX0_takeInto 30 = .ok (.putfield 22, 3) := by decide +kernel
theorem dX0_takeInto_33 : decode cX0_takeInto 33 = .ok (.iconst 1, 1) := by decide +kernel
theorem dX0_takeInto_34 : decode cX0_takeInto 34 = .ok (.ireturn, 1) := by decide +kernel
theorem dX0_latest_0 : decode cX0_latest 0 = .ok (.aload_n 0, 1) := by decide +kernel
theorem dX0_latest_1 : decode cX0_latest 1 = .ok (.getfield 18, 3) := by decide +kernel
theorem dX0_latest_4 : decode cX0_latest 4 = .ok (.aload_n 0, 1) := by decide +kernel
theorem dX0_latest_5 : decode cX0_latest 5 = .ok (.getfield 22, 3) := by decide +kernel
theorem dX0_latest_8 : decode cX0_latest 8 = .ok (.iadd, 1) := by decide +kernel
theorem dX0_latest_9 : decode cX0_latest 9 = .ok (.iconst 1, 1) := by decide +kernel
theorem dX0_latest_10 : decode cX0_latest 10 = .ok (.isub, 1) := by decide +kernel
theorem dX0_latest_11 : decode cX0_latest 11 = .ok (.iconst 4, 1) := by decide +kernel
theorem dX0_latest_12 : decode cX0_latest 12 = .ok (.irem, 1) := by decide +kernel
theorem dX0_latest_13 : decode cX0_latest 13 = .ok (.istore_n 1, 1) := by decide +kernel
theorem dX0_latest_14 : decode cX0_latest 14 = .ok (.iload_n 1, 1) := by decide +kernel
theorem dX0_latest_15 : decode cX0_latest 15 = .ok (.ifCond .lt 21, 3) := by decide +kernel
theorem dX0_latest_18 : decode cX0_latest 18 = .ok (.iload_n 1, 1) := by decide +kernel
theorem dX0_latest_19 : decode cX0_latest 19 = .ok (.aload_n 0, 1) := by decide +kernel
theorem dX0_latest_20 : decode cX0_latest 20 = .ok (.getfield 11, 3) := by decide +kernel
theorem dX0_latest_23 : decode cX0_latest 23 = .ok (.arraylength, 1) := by decide +kernel
theorem dX0_latest_24 : decode cX0_latest 24 = .ok (.if_icmp .ge 12, 3) := by decide +kernel
theorem dX0_latest_27 : decode cX0_latest 27 = .ok (.aload_n 0, 1) := by decide +kernel
theorem dX0_latest_28 : decode cX0_latest 28 = .ok (.getfield 11, 3) := by decide +kernel
theorem dX0_latest_31 : decode cX0_latest 31 = .ok (.iload_n 1, 1) := by decide +kernel
theorem dX0_latest_32 : decode cX0_latest 32 = .ok (.aaload, 1) := by decide +kernel
theorem dX0_latest_33 : decode cX0_latest 33 = .ok (.goto 4, 3) := by decide +kernel
theorem dX0_latest_36 : decode cX0_latest 36 = .ok (.aconst_null, 1) := by decide +kernel
theorem dX0_latest_37 : decode cX0_latest 37 = .ok (.areturn, 1) := by decide +kernel
theorem dX1_init_0 : decode cX1_init 0 = .ok (.aload_n 0, 1) := by decide +kernel
theorem dX1_init_1 : decode cX1_init 1 = .ok (.invokespecial 3, 3) := by decide +kernel
theorem dX1_init_4 : decode cX1_init 4 = .ok (.aload_n 0, 1) := by decide +kernel
theorem dX1_init_5 : decode cX1_init 5 = .ok (.sipush 768, 3) := by decide +kernel
theorem dX1_init_8 : decode cX1_init 8 = .ok (.newarray .int, 2) := by decide +kernel
theorem dX1_init_10 : decode cX1_init 10 = .ok (.putfield 9, 3) := by decide +kernel
theorem dX1_init_13 : decode cX1_init 13 = .ok (.aload_n 0, 1) := by decide +kernel
theorem dX1_init_14 : decode cX1_init 14 = .ok (.sipush 192, 3) := by decide +kernel
theorem dX1_init_17 : decode cX1_init 17 = .ok (.newarray .int, 2) := by decide +kernel
theorem dX1_init_19 : decode cX1_init 19 = .ok (.putfield 15, 3) := by decide +kernel
theorem dX1_init_22 : decode cX1_init 22 = .ok (.aload_n 0, 1) := by decide +kernel
theorem dX1_init_23 : decode cX1_init 23 = .ok (.bipush 24, 2) := by decide +kernel
theorem dX1_init_25 : decode cX1_init 25 = .ok (.newarray .int, 2) := by decide +kernel
theorem dX1_init_27 : decode cX1_init 27 = .ok (.putfield 18, 3) := by decide +kernel
theorem dX1_init_30 : decode cX1_init 30 = .ok (.aload_n 0, 1) := by decide +kernel
theorem dX1_init_31 : decode cX1_init 31 = .ok (.getfield 18, 3) := by decide +kernel
theorem dX1_init_34 : decode cX1_init 34 = .ok (.bipush (-5), 2) := by decide +kernel
theorem dX1_init_36 : decode cX1_init 36 = .ok (.invokestatic 21, 3) := by decide +kernel
theorem dX1_init_39 : decode cX1_init 39 = .ok (.aload_n 0, 1) := by decide +kernel
theorem dX1_init_40 : decode cX1_init 40 = .ok (.iconst 0, 1) := by decide +kernel
theorem dX1_init_41 : decode cX1_init 41 = .ok (.putfield 27, 3) := by decide +kernel
theorem dX1_init_44 : decode cX1_init 44 = .ok (.aload_n 0, 1) := by decide +kernel
theorem dX1_init_45 : decode cX1_init 45 = .ok (.bipush 12, 2) := by decide +kernel
theorem dX1_init_47 : decode cX1_init 47 = .ok (.putfield 31, 3) := by decide +kernel
theorem dX1_init_50 : decode cX1_init 50 = .ok (.aload_n 0, 1) := by decide +kernel
theorem dX1_init_51 : decode cX1_init 51 = .ok (.iconst 0, 1) := by decide +kernel
theorem dX1_init_52 : decode cX1_init 52 = .ok (.putfield 34, 3) := by decide +kernel
theorem dX1_init_55 : decode cX1_init 55 = .ok (.aload_n 0, 1) := by decide +kernel
theorem dX1_init_56 : decode cX1_init 56 = .ok (.iconst 4, 1) := by decide +kernel
theorem dX1_init_57 : decode cX1_init 57 = .ok (.putfield 37, 3) := by decide +kernel
theorem dX1_init_60 : decode cX1_init 60 = .ok (.return_, 1) := by decide +kernel
theorem dX1_copyFrom_0 : decode cX1_copyFrom 0 = .ok (.aload_n 1, 1) := by decide +kernel
theorem dX1_copyFrom_1 : decode cX1_copyFrom 1 = .ok (.getfield 9, 3) := by decide +kernel
theorem dX1_copyFrom_4 : decode cX1_copyFrom 4 = .ok (.aload_n 0, 1) := by decide +kernel
theorem dX1_copyFrom_5 : decode cX1_copyFrom 5 = .ok (.getfield 9, 3) := by decide +kernel
theorem dX1_copyFrom_8 : decode cX1_copyFrom 8 = .ok (.invokestatic 40, 3) := by decide +kernel
theorem dX1_copyFrom_11 : decode cX1_copyFrom 11 = .ok (.aload_n 1, 1) := by decide +kernel
theorem dX1_copyFrom_12 : decode cX1_copyFrom 12 = .ok (.getfield 15, 3) := by decide +kernel
theorem dX1_copyFrom_15 : decode cX1_copyFrom 15 = .ok (.aload_n 0, 1) := by decide +kernel
theorem dX1_copyFrom_16 : decode cX1_copyFrom 16 = .ok (.getfield 15, 3) := by decide +kernel
theorem dX1_copyFrom_19 : decode cX1_copyFrom 19 = .ok (.invokestatic 40, 3) := by decide +kernel
theorem dX1_copyFrom_22 : decode cX1_copyFrom 22 = .ok (.aload_n 1, 1) := by decide +kernel
theorem dX1_copyFrom_23 : decode cX1_copyFrom 23 = .ok (.getfield 18, 3) := by decide +kernel
theorem dX1_copyFrom_26 : decode cX1_copyFrom 26 = .ok (.aload_n 0, 1) := by decide +kernel
theorem dX1_copyFrom_27 : decode cX1_copyFrom 27 = .ok (.getfield 18, 3) := by decide +kernel
theorem dX1_copyFrom_30 : decode cX1_copyFrom 30 = .ok (.invokestatic 40, 3) := by decide +kernel
theorem dX1_copyFrom_33 : decode cX1_copyFrom 33 = .ok (.aload_n 0, 1) := by decide +kernel
theorem dX1_copyFrom_34 : decode cX1_copyFrom 34 = .ok (.aload_n 1, 1) := by decide +kernel
theorem dX1_copyFrom_35 : decode cX1_copyFrom 35 = .ok (.getfield 27, 3) := by decide +kernel
theorem dX1_copyFrom_38 : decode cX1_copyFrom 38 = .ok (.putfield 27, 3) := by decide +kernel
theorem dX1_copyFrom_41 : decode cX1_copyFrom 41 = .ok (.aload_n 0, 1) := by decide +kernel
theorem dX1_copyFrom_42 : decode cX1_copyFrom 42 = .ok (.aload_n 1, 1) := by decide +kernel
theorem dX1_copyFrom_43 : decode cX1_copyFrom 43 = .ok (.getfield 31, 3) := by decide +kernel
theorem dX1_copyFrom_46 : decode cX1_copyFrom 46 = .ok (.putfield 31, 3) := by decide +kernel
theorem dX1_copyFrom_49 : decode cX1_copyFrom 49 = .ok (.aload_n 0, 1) := by decide +kernel
theorem dX1_copyFrom_50 : decode cX1_copyFrom 50 = .ok (.aload_n 1, 1) := by decide +kernel
theorem dX1_copyFrom_51 : decode cX1_copyFrom 51 = .ok (.getfield 34, 3) := by decide +kernel
theorem dX1_copyFrom_54 : decode cX1_copyFrom 54 = .ok (.putfield 34, 3) := by decide +kernel
theorem dX1_copyFrom_57 : decode cX1_copyFrom 57 = .ok (.aload_n 0, 1) := by decide +kernel
theorem dX1_copyFrom_58 : decode cX1_copyFrom 58 = .ok (.aload_n 1, 1) := by decide +kernel
theorem dX1_copyFrom_59 : decode cX1_copyFrom 59 = .ok (.getfield 37, 3) := by decide +kernel
theorem dX1_copyFrom_62 : decode cX1_copyFrom 62 = .ok (.putfield 37, 3) := by decide +kernel
theorem dX1_copyFrom_65 : decode cX1_copyFrom 65 = .ok (.return_, 1) := by decide +kernel
theorem dX1_settingOf_0 : decode cX1_settingOf 0 = .ok (.iload_n 1, 1) := by decide +kernel
theorem dX1_settingOf_1 : decode cX1_settingOf 1 = .ok (.lookupswitch 37 #[(0, 27), (1, 32)], 27) := by decide +kernel
theorem dX1_settingOf_28 : decode cX1_settingOf 28 = .ok (.aload_n 0, 1) := by decide +kernel
theorem dX1_settingOf_29 : decode cX1_settingOf 29 = .ok (.getfield 31, 3) := by decide +kernel
theorem dX1_settingOf_32 : decode cX1_settingOf 32 = .ok (.ireturn, 1) := by decide +kernel
theorem dX1_settingOf_33 : decode cX1_settingOf 33 = .ok (.aload_n 0, 1) := by decide +kernel
theorem dX1_settingOf_34 : decode cX1_settingOf 34 = .ok (.getfield 34, 3) := by decide +kernel
theorem dX1_settingOf_37 : decode cX1_settingOf 37 = .ok (.ireturn, 1) := by decide +kernel
theorem dX1_settingOf_38 : decode cX1_settingOf 38 = .ok (.aload_n 0, 1) := by decide +kernel
theorem dX1_settingOf_39 : decode cX1_settingOf 39 = .ok (.getfield 37, 3) := by decide +kernel
theorem dX1_settingOf_42 : decode cX1_settingOf 42 = .ok (.ireturn, 1) := by decide +kernel
theorem dX1_changeSetting_0 : decode cX1_changeSetting 0 = .ok (.iload_n 1, 1) := by decide +kernel
theorem dX1_changeSetting_1 : decode cX1_changeSetting 1 = .ok (.lookupswitch 43 #[(0, 27), (1, 35)], 27) := by decide +kernel
theorem dX1_changeSetting_28 : decode cX1_changeSetting 28 = .ok (.aload_n 0, 1) := by decide +kernel
theorem dX1_changeSetting_29 : decode cX1_changeSetting 29 = .ok (.iload_n 2, 1) := by decide +kernel
theorem dX1_changeSetting_30 : decode cX1_changeSetting 30 = .ok (.putfield 31, 3) := by decide +kernel
theorem dX1_changeSetting_33 : decode cX1_changeSetting 33 = .ok (.goto 16, 3) := by decide +kernel
theorem dX1_changeSetting_36 : decode cX1_changeSetting 36 = .ok (.aload_n 0, 1) := by decide +kernel
theorem dX1_changeSetting_37 : decode cX1_changeSetting 37 = .ok (.iload_n 2, 1) := by decide +kernel
theorem dX1_changeSetting_38 : decode cX1_changeSetting 38 = .ok (.putfield 34, 3) := by decide +kernel
theorem dX1_changeSetting_41 : decode cX1_changeSetting 41 = .ok (.goto 8, 3) := by decide +kernel
theorem dX1_changeSetting_44 : decode cX1_changeSetting 44 = .ok (.aload_n 0, 1) := by decide +kernel
theorem dX1_changeSetting_45 : decode cX1_changeSetting 45 = .ok (.iload_n 2, 1) := by decide +kernel
theorem dX1_changeSetting_46 : decode cX1_changeSetting 46 = .ok (.putfield 37, 3) := by decide +kernel
theorem dX1_changeSetting_49 : decode cX1_changeSetting 49 = .ok (.return_, 1) := by decide +kernel
theorem dX1_sumOf_0 : decode cX1_sumOf 0 = .ok (.aload_n 0, 1) := by decide +kernel
theorem dX1_sumOf_1 : decode cX1_sumOf 1 = .ok (.getfield 18, 3) := by decide +kernel
theorem dX1_sumOf_4 : decode cX1_sumOf 4 = .ok (.iload_n 1, 1) := by decide +kernel
theorem dX1_sumOf_5 : decode cX1_sumOf 5 = .ok (.invokestatic 44, 3) := by decide +kernel
theorem dX1_sumOf_8 : decode cX1_sumOf 8 = .ok (.ireturn, 1) := by decide +kernel
theorem dX1_writeSum_0 : decode cX1_writeSum 0 = .ok (.iload_n 1, 1) := by decide +kernel
theorem dX1_writeSum_1 : decode cX1_writeSum 1 = .ok (.ifCond .lt 19, 3) := by decide +kernel
theorem dX1_writeSum_4 : decode cX1_writeSum 4 = .ok (.iload_n 1, 1) := by decide +kernel
theorem dX1_writeSum_5 : decode cX1_writeSum 5 = .ok (.aload_n 0, 1) := by decide +kernel
theorem dX1_writeSum_6 : decode cX1_writeSum 6 = .ok (.getfield 18, 3) := by decide +kernel
theorem dX1_writeSum_9 : decode cX1_writeSum 9 = .ok (.arraylength, 1) := by decide +kernel
theorem dX1_writeSum_10 : decode cX1_writeSum 10 = .ok (.if_icmp .ge 10, 3) := by decide +kernel
theorem dX1_writeSum_13 : decode cX1_writeSum 13 = .ok (.aload_n 0, 1) := by decide +kernel
theorem dX1_writeSum_14 : decode cX1_writeSum 14 = .ok (.getfield 18, 3) := by decide +kernel
theorem dX1_writeSum_17 : decode cX1_writeSum 17 = .ok (.iload_n 1, 1) := by decide +kernel
theorem dX1_writeSum_18 : decode cX1_writeSum 18 = .ok (.iload_n 2, 1) := by decide +kernel
theorem dX1_writeSum_19 : decode cX1_writeSum 19 = .ok (.iastore, 1) := by decide +kernel
theorem dX1_writeSum_20 : decode cX1_writeSum 20 = .ok (.return_, 1) := by decide +kernel
theorem dX1_isRow_0 : decode cX1_isRow 0 = .ok (.iload_n 1, 1) := by decide +kernel
theorem dX1_isRow_1 : decode cX1_isRow 1 = .ok (.ifCond .lt 15, 3) := by decide +kernel
theorem dX1_isRow_4 : decode cX1_isRow 4 = .ok (.iload_n 1, 1) := by decide +kernel
theorem dX1_isRow_5 : decode cX1_isRow 5 = .ok (.aload_n 0, 1) := by decide +kernel
theorem dX1_isRow_6 : decode cX1_isRow 6 = .ok (.getfield 27, 3) := by decide +kernel
theorem dX1_isRow_9 : decode cX1_isRow 9 = .ok (.if_icmp .ge 7, 3) := by decide +kernel
theorem dX1_isRow_12 : decode cX1_isRow 12 = .ok (.iconst 1, 1) := by decide +kernel
theorem dX1_isRow_13 : decode cX1_isRow 13 = .ok (.goto 4, 3) := by decide +kernel
theorem dX1_isRow_16 : decode cX1_isRow 16 = .ok (.iconst 0, 1) := by decide +kernel
theorem dX1_isRow_17 : decode cX1_isRow 17 = .ok (.ireturn, 1) := by decide +kernel
theorem dX1_areRows_0 : decode cX1_areRows 0 = .ok (.aload_n 0, 1) := by decide +kernel
theorem dX1_areRows_1 : decode cX1_areRows 1 = .ok (.iload_n 1, 1) := by decide +kernel
theorem dX1_areRows_2 : decode cX1_areRows 2 = .ok (.invokevirtual 48, 3) := by decide +kernel
theorem dX1_areRows_5 : decode cX1_areRows 5 = .ok (.ifCond .eq 20, 3) := by decide +kernel
theorem dX1_areRows_8 : decode cX1_areRows 8 = .ok (.aload_n 0, 1) := by decide +kernel
theorem dX1_areRows_9 : decode cX1_areRows 9 = .ok (.iload_n 2, 1) := by decide +kernel
theorem dX1_areRows_10 : decode cX1_areRows 10 = .ok (.invokevirtual 48, 3) := by decide +kernel
theorem dX1_areRows_13 : decode cX1_areRows 13 = .ok (.ifCond .eq 12, 3) := by decide +kernel
theorem dX1_areRows_16 : decode cX1_areRows 16 = .ok (.iload_n 1, 1) := by decide +kernel
theorem dX1_areRows_17 : decode cX1_areRows 17 = .ok (.iload_n 2, 1) := by decide +kernel
theorem dX1_areRows_18 : decode cX1_areRows 18 = .ok (.if_icmp .gt 7, 3) := by decide +kernel
theorem dX1_areRows_21 : decode cX1_areRows 21 = .ok (.iconst 1, 1) := by decide +kernel
theorem dX1_areRows_22 : decode cX1_areRows 22 = .ok (.goto 4, 3) := by decide +kernel
theorem dX1_areRows_25 : decode cX1_areRows 25 = .ok (.iconst 0, 1) := by decide +kernel
theorem dX1_areRows_26 : decode cX1_areRows 26 = .ok (.ireturn, 1) := by decide +kernel
theorem dX1_isCell_0 : decode cX1_isCell 0 = .ok (.aload_n 0, 1) := by decide +kernel
theorem dX1_isCell_1 : decode cX1_isCell 1 = .ok (.iload_n 1, 1) := by decide +kernel
theorem dX1_isCell_2 : decode cX1_isCell 2 = .ok (.invokevirtual 48, 3) := by decide +kernel
theorem dX1_isCell_5 : decode cX1_isCell 5 = .ok (.ifCond .eq 14, 3) := by decide +kernel
theorem dX1_isCell_8 : decode cX1_isCell 8 = .ok (.iload_n 2, 1) := by decide +kernel
theorem dX1_isCell_9 : decode cX1_isCell 9 = .ok (.invokestatic 52, 3) := by decide +kernel
theorem dX1_isCell_12 : decode cX1_isCell 12 = .ok (.ifCond .eq 7, 3) := by decide +kernel
theorem dX1_isCell_15 : decode cX1_isCell 15 = .ok (.iconst 1, 1) := by decide +kernel
theorem dX1_isCell_16 : decode cX1_isCell 16 = .ok (.goto 4, 3) := by decide +kernel
theorem dX1_isCell_19 : decode cX1_isCell 19 = .ok (.iconst 0, 1) := by decide +kernel
theorem dX1_isCell_20 : decode cX1_isCell 20 = .ok (.ireturn, 1) := by decide +kernel
theorem dX1_appendRow_0 : decode cX1_appendRow 0 = .ok (.aload_n 0, 1) := by decide +kernel
theorem dX1_appendRow_1 : decode cX1_appendRow 1 = .ok (.getfield 27, 3) := by decide +kernel
theorem dX1_appendRow_4 : decode cX1_appendRow 4 = .ok (.istore 5, 2) := by decide +kernel
theorem dX1_appendRow_6 : decode cX1_appendRow 6 = .ok (.aload_n 0, 1) := by decide +kernel
theorem dX1_appendRow_7 : decode cX1_appendRow 7 = .ok (.dup, 1) := by decide +kernel
theorem dX1_appendRow_8 : decode cX1_appendRow 8 = .ok (.getfield 27, 3) := by decide +kernel
theorem dX1_appendRow_11 : decode cX1_appendRow 11 = .ok (.iconst 1, 1) := by decide +kernel
theorem dX1_appendRow_12 : decode cX1_appendRow 12 = .ok (.iadd, 1) := by decide +kernel
theorem dX1_appendRow_13 : decode cX1_appendRow 13 = .ok (.putfield 27, 3) := by decide +kernel
theorem dX1_appendRow_16 : decode cX1_appendRow 16 = .ok (.aload_n 0, 1) := by decide +kernel
theorem dX1_appendRow_17 : decode cX1_appendRow 17 = .ok (.iload 5, 2) := by decide +kernel
theorem dX1_appendRow_19 : decode cX1_appendRow 19 = .ok (.iconst 0, 1) := by decide +kernel
theorem dX1_appendRow_20 : decode cX1_appendRow 20 = .ok (.iload_n 1, 1) := by decide +kernel
theorem dX1_appendRow_21 : decode cX1_appendRow 21 = .ok (.invokevirtual 55, 3) := by decide +kernel
theorem dX1_appendRow_24 : decode cX1_appendRow 24 = .ok (.aload_n 0, 1) := by decide +kernel
theorem dX1_appendRow_25 : decode cX1_appendRow 25 = .ok (.iload 5, 2) := by decide +kernel
theorem dX1_appendRow_27 : decode cX1_appendRow 27 = .ok (.iconst 1, 1) := by decide +kernel
theorem dX1_appendRow_28 : decode cX1_appendRow 28 = .ok (.iload_n 2, 1) := by decide +kernel
theorem dX1_appendRow_29 : decode cX1_appendRow 29 = .ok (.invokevirtual 55, 3) := by decide +kernel
theorem dX1_appendRow_32 : decode cX1_appendRow 32 = .ok (.aload_n 0, 1) := by decide +kernel
theorem dX1_appendRow_33 : decode cX1_appendRow 33 = .ok (.iload 5, 2) := by decide +kernel
theorem dX1_appendRow_35 : decode cX1_appendRow 35 = .ok (.iconst 2, 1) := by decide +kernel
theorem dX1_appendRow_36 : decode cX1_appendRow 36 = .ok (.iload_n 3, 1) := by decide +kernel
theorem dX1_appendRow_37 : decode cX1_appendRow 37 = .ok (.invokevirtual 55, 3) := by decide +kernel
theorem dX1_appendRow_40 : decode cX1_appendRow 40 = .ok (.aload_n 0, 1) := by decide +kernel
theorem dX1_appendRow_41 : decode cX1_appendRow 41 = .ok (.iload 5, 2) := by decide +kernel
theorem dX1_appendRow_43 : decode cX1_appendRow 43 = .ok (.iconst 3, 1) := by decide +kernel
theorem dX1_appendRow_44 : decode cX1_appendRow 44 = .ok (.iload 4, 2) := by decide +kernel
theorem dX1_appendRow_46 : decode cX1_appendRow 46 = .ok (.invokevirtual 55, 3) := by decide +kernel
theorem dX1_appendRow_49 : decode cX1_appendRow 49 = .ok (.return_, 1) := by decide +kernel
theorem dX1_startCell_0 : decode cX1_startCell 0 = .ok (.iload_n 1, 1) := by decide +kernel
theorem dX1_startCell_1 : decode cX1_startCell 1 = .ok (.iconst 4, 1) := by decide +kernel
theorem dX1_startCell_2 : decode cX1_startCell 2 = .ok (.imul, 1) := by decide +kernel
theorem dX1_startCell_3 : decode cX1_startCell 3 = .ok (.iload_n 2, 1) := by decide +kernel
theorem dX1_startCell_4 : decode cX1_startCell 4 = .ok (.iadd, 1) := by decide +kernel
theorem dX1_startCell_5 : decode cX1_startCell 5 = .ok (.istore 4, 2) := by decide +kernel
theorem dX1_startCell_7 : decode cX1_startCell 7 = .ok (.iload 4, 2) := by decide +kernel
theorem dX1_startCell_9 : decode cX1_startCell 9 = .ok (.ifCond .lt 21, 3) := by decide +kernel
theorem dX1_startCell_12 : decode cX1_startCell 12 = .ok (.iload 4, 2) := by decide +kernel
theorem dX1_startCell_14 : decode cX1_startCell 14 = .ok (.aload_n 0, 1) := by decide +kernel
theorem dX1_startCell_15 : decode cX1_startCell 15 = .ok (.getfield 15, 3) := by decide +kernel
theorem dX1_startCell_18 : decode cX1_startCell 18 = .ok (.arraylength, 1) := by decide +kernel
theorem dX1_startCell_19 : decode cX1_startCell 19 = .ok (.if_icmp .ge 11, 3) := by decide +kernel
theorem dX1_startCell_22 : decode cX1_startCell 22 = .ok (.aload_n 0, 1) := by decide +kernel
theorem dX1_startCell_23 : decode cX1_startCell 23 = .ok (.getfield 15, 3) := by decide +kernel
theorem dX1_startCell_26 : decode cX1_startCell 26 = .ok (.iload 4, 2) := by decide +kernel
theorem dX1_startCell_28 : decode cX1_startCell 28 = .ok (.iconst 0, 1) := by decide +kernel
theorem dX1_startCell_29 : decode cX1_startCell 29 = .ok (.iastore, 1) := by decide +kernel
theorem dX1_startCell_30 : decode cX1_startCell 30 = .ok (.aload_n 0, 1) := by decide +kernel
theorem dX1_startCell_31 : decode cX1_startCell 31 = .ok (.iload_n 1, 1) := by decide +kernel
theorem dX1_startCell_32 : decode cX1_startCell 32 = .ok (.iload_n 2, 1) := by decide +kernel
theorem dX1_startCell_33 : decode cX1_startCell 33 = .ok (.iload_n 3, 1) := by decide +kernel
theorem dX1_startCell_34 : decode cX1_startCell 34 = .ok (.invokevirtual 59, 3) := by decide +kernel
theorem dX1_startCell_37 : decode cX1_startCell 37 = .ok (.return_, 1) := by decide +kernel
theorem dX1_dropRow_0 : decode cX1_dropRow 0 = .ok (.aload_n 0, 1) := by decide +kernel
theorem dX1_dropRow_1 : decode cX1_dropRow 1 = .ok (.dup, 1) := by decide +kernel
theorem dX1_dropRow_2 : decode cX1_dropRow 2 = .ok (.getfield 27, 3) := by decide +kernel
theorem dX1_dropRow_5 : decode cX1_dropRow 5 = .ok (.iconst 1, 1) := by decide +kernel
theorem dX1_dropRow_6 : decode cX1_dropRow 6 = .ok (.isub, 1) := by decide +kernel
theorem dX1_dropRow_7 : decode cX1_dropRow 7 = .ok (.putfield 27, 3) := by decide +kernel
theorem dX1_dropRow_10 : decode cX1_dropRow 10 = .ok (.return_, 1) := by decide +kernel
theorem dX1_pushEntry_0 : decode cX1_pushEntry 0 = .ok (.iload_n 1, 1) := by decide +kernel
theorem dX1_pushEntry_1 : decode cX1_pushEntry 1 = .ok (.iconst 4, 1) := by decide +kernel
theorem dX1_pushEntry_2 : decode cX1_pushEntry 2 = .ok (.imul, 1) := by decide +kernel
theorem dX1_pushEntry_3 : decode cX1_pushEntry 3 = .ok (.iload_n 2, 1) := by decide +kernel
theorem dX1_pushEntry_4 : decode cX1_pushEntry 4 = .ok (.iadd, 1) := by decide +kernel
theorem dX1_pushEntry_5 : decode cX1_pushEntry 5 = .ok (.istore 4, 2) := by decide +kernel
theorem dX1_pushEntry_7 : decode cX1_pushEntry 7 = .ok (.iload 4, 2) := by decide +kernel
theorem dX1_pushEntry_9 : decode cX1_pushEntry 9 = .ok (.ifCond .lt 13, 3) := by decide +kernel
theorem dX1_pushEntry_12 : decode cX1_pushEntry 12 = .ok (.iload 4, 2) := by decide +kernel
theorem dX1_pushEntry_14 : decode cX1_pushEntry 14 = .ok (.aload_n 0, 1) := by decide +kernel
theorem dX1_pushEntry_15 : decode cX1_pushEntry 15 = .ok (.getfield 15, 3) := by decide +kernel
theorem dX1_pushEntry_18 : decode cX1_pushEntry 18 = .ok (.arraylength, 1) := by decide +kernel
theorem dX1_pushEntry_19 : decode cX1_pushEntry 19 = .ok (.if_icmp .lt 4, 3) := by decide +kernel
theorem dX1_pushEntry_22 : decode cX1_pushEntry 22 = .ok (.return_, 1) := by decide +kernel
theorem dX1_pushEntry_23 : decode cX1_pushEntry 23 = .ok (.iload 4, 2) := by decide +kernel
theorem dX1_pushEntry_25 : decode cX1_pushEntry 25 = .ok (.iconst 4, 1) := by decide +kernel
theorem dX1_pushEntry_26 : decode cX1_pushEntry 26 = .ok (.imul, 1) := by decide +kernel
theorem dX1_pushEntry_27 : decode cX1_pushEntry 27 = .ok (.aload_n 0, 1) := by decide +kernel
theorem dX1_pushEntry_28 : decode cX1_pushEntry 28 = .ok (.getfield 15, 3) := by decide +kernel
theorem dX1_pushEntry_31 : decode cX1_pushEntry 31 = .ok (.iload 4, 2) := by decide +kernel
theorem dX1_pushEntry_33 : decode cX1_pushEntry 33 = .ok (.iaload, 1) := by decide +kernel
theorem dX1_pushEntry_34 : decode cX1_pushEntry 34 = .ok (.iadd, 1) := by decide +kernel
theorem dX1_pushEntry_35 : decode cX1_pushEntry 35 = .ok (.istore 5, 2) := by decide +kernel
theorem dX1_pushEntry_37 : decode cX1_pushEntry 37 = .ok (.iload 5, 2) := by decide +kernel
theorem dX1_pushEntry_39 : decode cX1_pushEntry 39 = .ok (.ifCond .lt 32, 3) := by decide +kernel
theorem dX1_pushEntry_42 : decode cX1_pushEntry 42 = .ok (.iload 5, 2) := by decide +kernel
theorem dX1_pushEntry_44 : decode cX1_pushEntry 44 = .ok (.aload_n 0, 1) := by decide +kernel
theorem dX1_pushEntry_45 : decode cX1_pushEntry 45 = .ok (.getfield 9, 3) := by decide +kernel
theorem dX1_pushEntry_48 : decode cX1_pushEntry 48 = .ok (.arraylength, 1) := by decide +kernel
theorem dX1_pushEntry_49 : decode cX1_pushEntry 49 = .ok (.if_icmp .ge 22, 3) := by decide +kernel
theorem dX1_pushEntry_52 : decode cX1_pushEntry 52 = .ok (.aload_n 0, 1) := by decide +kernel
theorem dX1_pushEntry_53 : decode cX1_pushEntry 53 = .ok (.getfield 9, 3) := by decide +kernel
theorem dX1_pushEntry_56 : decode cX1_pushEntry 56 = .ok (.iload 5, 2) := by decide +kernel
theorem dX1_pushEntry_58 : decode cX1_pushEntry 58 = .ok (.iload_n 3, 1) := by decide +kernel
theorem dX1_pushEntry_59 : decode cX1_pushEntry 59 = .ok (.iastore, 1) := by decide +kernel
theorem dX1_pushEntry_60 : decode cX1_pushEntry 60 = .ok (.aload_n 0, 1) := by decide +kernel
theorem dX1_pushEntry_61 : decode cX1_pushEntry 61 = .ok (.getfield 15, 3) := by decide +kernel
theorem dX1_pushEntry_64 : decode cX1_pushEntry 64 = .ok (.iload 4, 2) := by decide +kernel
theorem dX1_pushEntry_66 : decode cX1_pushEntry 66 = .ok (.dup2, 1) := by decide +kernel
theorem dX1_pushEntry_67 : decode cX1_pushEntry 67 = .ok (.iaload, 1) := by decide +kernel
theorem dX1_pushEntry_68 : decode cX1_pushEntry 68 = .ok (.iconst 1, 1) := by decide +kernel
theorem dX1_pushEntry_69 : decode cX1_pushEntry 69 = .ok (.iadd, 1) := by decide +kernel
theorem dX1_pushEntry_70 : decode cX1_pushEntry 70 = .ok (.iastore, 1) := by decide +kernel
theorem dX1_pushEntry_71 : decode cX1_pushEntry 71 = .ok (.return_, 1) := by decide +kernel
theorem dX1_popEntry_0 : decode cX1_popEntry 0 = .ok (.iload_n 1, 1) := by decide +kernel
theorem dX1_popEntry_1 : decode cX1_popEntry 1 = .ok (.iconst 4, 1) := by decide +kernel
theorem dX1_popEntry_2 : decode cX1_popEntry 2 = .ok (.imul, 1) := by decide +kernel
theorem dX1_popEntry_3 : decode cX1_popEntry 3 = .ok (.iload_n 2, 1) := by decide +kernel
theorem dX1_popEntry_4 : decode cX1_popEntry 4 = .ok (.iadd, 1) := by decide +kernel
theorem dX1_popEntry_5 : decode cX1_popEntry 5 = .ok (.istore_n 3, 1) := by decide +kernel
theorem dX1_popEntry_6 : decode cX1_popEntry 6 = .ok (.iload_n 3, 1) := by decide +kernel
theorem dX1_popEntry_7 : decode cX1_popEntry 7 = .ok (.ifCond .lt 22, 3) := by decide +kernel
theorem dX1_popEntry_10 : decode cX1_popEntry 10 = .ok (.iload_n 3, 1) := by decide +kernel
theorem dX1_popEntry_11 : decode cX1_popEntry 11 = .ok (.aload_n 0, 1) := by decide +kernel
theorem dX1_popEntry_12 : decode cX1_popEntry 12 = .ok (.getfield 15, 3) := by decide +kernel
theorem dX1_popEntry_15 : decode cX1_popEntry 15 = .ok (.arraylength, 1) := by decide +kernel
theorem dX1_popEntry_16 : decode cX1_popEntry 16 = .ok (.if_icmp .ge 13, 3) := by decide +kernel
theorem dX1_popEntry_19 : decode cX1_popEntry 19 = .ok (.aload_n 0, 1) := by decide +kernel
theorem dX1_popEntry_20 : decode cX1_popEntry 20 = .ok (.getfield 15, 3) := by decide +kernel
theorem dX1_popEntry_23 : decode cX1_popEntry 23 = .ok (.iload_n 3, 1) := by decide +kernel
theorem dX1_popEntry_24 : decode cX1_popEntry 24 = .ok (.dup2, 1) := by decide +kernel
theorem dX1_popEntry_25 : decode cX1_popEntry 25 = .ok (.iaload, 1) := by decide +kernel
theorem dX1_popEntry_26 : decode cX1_popEntry 26 = .ok (.iconst 1, 1) := by decide +kernel
theorem dX1_popEntry_27 : decode cX1_popEntry 27 = .ok (.isub, 1) := by decide +kernel
theorem dX1_popEntry_28 : decode cX1_popEntry 28 = .ok (.iastore, 1) := by decide +kernel
theorem dX1_popEntry_29 : decode cX1_popEntry 29 = .ok (.return_, 1) := by decide +kernel
theorem dX1_entriesOf_0 : decode cX1_entriesOf 0 = .ok (.aload_n 0, 1) := by decide +kernel
theorem dX1_entriesOf_1 : decode cX1_entriesOf 1 = .ok (.getfield 15, 3) := by decide +kernel
theorem dX1_entriesOf_4 : decode cX1_entriesOf 4 = .ok (.iload_n 1, 1) := by decide +kernel
theorem dX1_entriesOf_5 : decode cX1_entriesOf 5 = .ok (.iconst 4, 1) := by decide +kernel
theorem dX1_entriesOf_6 : decode cX1_entriesOf 6 = .ok (.imul, 1) := by decide +kernel
theorem dX1_entriesOf_7 : decode cX1_entriesOf 7 = .ok (.iload_n 2, 1) := by decide +kernel
theorem dX1_entriesOf_8 : decode cX1_entriesOf 8 = .ok (.iadd, 1) := by decide +kernel
theorem dX1_entriesOf_9 : decode cX1_entriesOf 9 = .ok (.invokestatic 44, 3) := by decide +kernel
theorem dX1_entriesOf_12 : decode cX1_entriesOf 12 = .ok (.ireturn, 1) := by decide +kernel
theorem dX1_entryOf_0 : decode cX1_entryOf 0 = .ok (.aload_n 0, 1) := by decide +kernel
theorem dX1_entryOf_1 : decode cX1_entryOf 1 = .ok (.getfield 9, 3) := by decide +kernel
theorem dX1_entryOf_4 : decode cX1_entryOf 4 = .ok (.iload_n 1, 1) := by decide +kernel
theorem dX1_entryOf_5 : decode cX1_entryOf 5 = .ok (.iconst 4, 1) := by decide +kernel
theorem dX1_entryOf_6 : decode cX1_entryOf 6 = .ok (.imul, 1) := by decide +kernel
theorem dX1_entryOf_7 : decode cX1_entryOf 7 = .ok (.iload_n 2, 1) := by decide +kernel
theorem dX1_entryOf_8 : decode cX1_entryOf 8 = .ok (.iadd, 1) := by decide +kernel
theorem dX1_entryOf_9 : decode cX1_entryOf 9 = .ok (.iconst 4, 1) := by decide +kernel
theorem dX1_entryOf_10 : decode cX1_entryOf 10 = .ok (.imul, 1) := by decide +kernel
theorem dX1_entryOf_11 : decode cX1_entryOf 11 = .ok (.iload_n 3, 1) := by decide +kernel
theorem dX1_entryOf_12 : decode cX1_entryOf 12 = .ok (.iadd, 1) := by decide +kernel
theorem dX1_entryOf_13 : decode cX1_entryOf 13 = .ok (.invokestatic 44, 3) := by decide +kernel
theorem dX1_entryOf_16 : decode cX1_entryOf 16 = .ok (.ireturn, 1) := by decide +kernel
theorem dX1_latestOf_0 : decode cX1_latestOf 0 = .ok (.iload_n 1, 1) := by decide +kernel
theorem dX1_latestOf_1 : decode cX1_latestOf 1 = .ok (.iconst 4, 1) := by decide +kernel
theorem dX1_latestOf_2 : decode cX1_latestOf 2 = .ok (.imul, 1) := by decide +kernel
theorem dX1_latestOf_3 : decode cX1_latestOf 3 = .ok (.iload_n 2, 1) := by decide +kernel
theorem dX1_latestOf_4 : decode cX1_latestOf 4 = .ok (.iadd, 1) := by decide +kernel
theorem dX1_latestOf_5 : decode cX1_latestOf 5 = .ok (.istore_n 3, 1) := by decide +kernel
theorem dX1_latestOf_6 : decode cX1_latestOf 6 = .ok (.iload_n 3, 1) := by decide +kernel
theorem dX1_latestOf_7 : decode cX1_latestOf 7 = .ok (.ifCond .lt 12, 3) := by decide +kernel
theorem dX1_latestOf_10 : decode cX1_latestOf 10 = .ok (.iload_n 3, 1) := by decide +kernel
theorem dX1_latestOf_11 : decode cX1_latestOf 11 = .ok (.aload_n 0, 1) := by decide +kernel
theorem dX1_latestOf_12 : decode cX1_latestOf 12 = .ok (.getfield 15, 3) := by decide +kernel
theorem dX1_latestOf_15 : decode cX1_latestOf 15 = .ok (.arraylength, 1) := by decide +kernel
theorem dX1_latestOf_16 : decode cX1_latestOf 16 = .ok (.if_icmp .lt 6, 3) := by decide +kernel
theorem dX1_latestOf_19 : decode cX1_latestOf 19 = .ok (.bipush (-5), 2) := by decide +kernel
theorem dX1_latestOf_21 : decode cX1_latestOf 21 = .ok (.ireturn, 1) := by decide +kernel
theorem dX1_latestOf_22 : decode cX1_latestOf 22 = .ok (.iload_n 3, 1) := by decide +kernel
theorem dX1_latestOf_23 : decode cX1_latestOf 23 = .ok (.iconst 4, 1) := by decide +kernel
theorem dX1_latestOf_24 : decode cX1_latestOf 24 = .ok (.imul, 1) := by decide +kernel
theorem dX1_latestOf_25 : decode cX1_latestOf 25 = .ok (.aload_n 0, 1) := by decide +kernel
theorem dX1_latestOf_26 : decode cX1_latestOf 26 = .ok (.getfield 15, 3) := by decide +kernel
theorem dX1_latestOf_29 : decode cX1_latestOf 29 = .ok (.iload_n 3, 1) := by decide +kernel
theorem dX1_latestOf_30 : decode cX1_latestOf 30 = .ok (.iaload, 1) := by decide +kernel
theorem dX1_latestOf_31 : decode cX1_latestOf 31 = .ok (.iadd, 1) := by decide +kernel
theorem dX1_latestOf_32 : decode cX1_latestOf 32 = .ok (.iconst 1, 1) := by decide +kernel
theorem dX1_latestOf_33 : decode cX1_latestOf 33 = .ok (.isub, 1) := by decide +kernel
theorem dX1_latestOf_34 : decode cX1_latestOf 34 = .ok (.istore 4, 2) := by decide +kernel
theorem dX1_latestOf_36 : decode cX1_latestOf 36 = .ok (.iload 4, 2) := by decide +kernel
theorem dX1_latestOf_38 : decode cX1_latestOf 38 = .ok (.ifCond .lt 23, 3) := by decide +kernel
theorem dX1_latestOf_41 : decode cX1_latestOf 41 = .ok (.iload 4, 2) := by decide +kernel
theorem dX1_latestOf_43 : decode cX1_latestOf 43 = .ok (.aload_n 0, 1) := by decide +kernel
theorem dX1_latestOf_44 : decode cX1_latestOf 44 = .ok (.getfield 9, 3) := by decide +kernel
theorem dX1_latestOf_47 : decode cX1_latestOf 47 = .ok (.arraylength, 1) := by decide +kernel
theorem dX1_latestOf_48 : decode cX1_latestOf 48 = .ok (.if_icmp .ge 13, 3) := by decide +kernel
theorem dX1_latestOf_51 : decode cX1_latestOf 51 = .ok (.aload_n 0, 1) := by decide +kernel
theorem dX1_latestOf_52 : decode cX1_latestOf 52 = .ok (.getfield 9, 3) := by decide +kernel
theorem dX1_latestOf_55 : decode cX1_latestOf 55 = .ok (.iload 4, 2) := by decide +kernel
theorem dX1_latestOf_57 : decode cX1_latestOf 57 = .ok (.iaload, 1) := by decide +kernel
theorem dX1_latestOf_58 : decode cX1_latestOf 58 = .ok (.goto 5, 3) := by decide +kernel
theorem dX1_latestOf_61 : decode cX1_latestOf 61 = .ok (.bipush (-5), 2) := by decide +kernel
theorem dX1_latestOf_63 : decode cX1_latestOf 63 = .ok (.ireturn, 1) := by decide +kernel
theorem dX1_isWrittenOut_0 : decode cX1_isWrittenOut 0 = .ok (.iconst 0, 1) := by decide +kernel
theorem dX1_isWrittenOut_1 : decode cX1_isWrittenOut 1 = .ok (.istore_n 2, 1) := by decide +kernel
theorem dX1_isWrittenOut_2 : decode cX1_isWrittenOut 2 = .ok (.iload_n 2, 1) := by decide +kernel
theorem dX1_isWrittenOut_3 : decode cX1_isWrittenOut 3 = .ok (.iconst 4, 1) := by decide +kernel
theorem dX1_isWrittenOut_4 : decode cX1_isWrittenOut 4 = .ok (.if_icmp .ge 20, 3) := by decide +kernel
theorem dX1_isWrittenOut_7 : decode cX1_isWrittenOut 7 = .ok (.aload_n 0, 1) := by decide +kernel
theorem dX1_isWrittenOut_8 : decode cX1_isWrittenOut 8 = .ok (.iload_n 1, 1) := by decide +kernel
theorem dX1_isWrittenOut_9 : decode cX1_isWrittenOut 9 = .ok (.iload_n 2, 1) := by decide +kernel
theorem dX1_isWrittenOut_10 : decode cX1_isWrittenOut 10 = .ok (.invokevirtual 62, 3) := by decide +kernel
theorem dX1_isWrittenOut_13 : decode cX1_isWrittenOut 13 = .ok (.ifCond .ge 5, 3) := by decide +kernel
theorem dX1_isWrittenOut_16 : decode cX1_isWrittenOut 16 = .ok (.iconst 0, 1) := by decide +kernel
theorem dX1_isWrittenOut_17 : decode cX1_isWrittenOut 17 = .ok (.ireturn, 1) := by decide +kernel
theorem dX1_isWrittenOut_18 : decode cX1_isWrittenOut 18 = .ok (.iinc 2 1, 3) := by decide +kernel
theorem dX1_isWrittenOut_21 : decode cX1_isWrittenOut 21 = .ok (.goto (-19), 3) := by decide +kernel
theorem dX1_isWrittenOut_24 : decode cX1_isWrittenOut 24 = .ok (.iconst 1, 1) := by decide +kernel
theorem dX1_isWrittenOut_25 : decode cX1_isWrittenOut 25 = .ok (.ireturn, 1) := by decide +kernel
theorem dX1_hasAbove_0 : decode cX1_hasAbove 0 = .ok (.iload_n 1, 1) := by decide +kernel
theorem dX1_hasAbove_1 : decode cX1_hasAbove 1 = .ok (.ifCond .le 30, 3) := by decide +kernel
theorem dX1_hasAbove_4 : decode cX1_hasAbove 4 = .ok (.aload_n 0, 1) := by decide +kernel
theorem dX1_hasAbove_5 : decode cX1_hasAbove 5 = .ok (.getfield 34, 3) := by decide +kernel
theorem dX1_hasAbove_8 : decode cX1_hasAbove 8 = .ok (.ifCond .eq 19, 3) := by decide +kernel
theorem dX1_hasAbove_11 : decode cX1_hasAbove 11 = .ok (.aload_n 0, 1) := by decide +kernel
theorem dX1_hasAbove_12 : decode cX1_hasAbove 12 = .ok (.getfield 31, 3) := by decide +kernel
theorem dX1_hasAbove_15 : decode cX1_hasAbove 15 = .ok (.ifCond .le 12, 3) := by decide +kernel
theorem dX1_hasAbove_18 : decode cX1_hasAbove 18 = .ok (.iload_n 1, 1) := by decide +kernel
theorem dX1_hasAbove_19 : decode cX1_hasAbove 19 = .ok (.aload_n 0, 1) := by decide +kernel
theorem dX1_hasAbove_20 : decode cX1_hasAbove 20 = .ok (.getfield 31, 3) := by decide +kernel
theorem dX1_hasAbove_23 : decode cX1_hasAbove 23 = .ok (.irem, 1) := by decide +kernel
theorem dX1_hasAbove_24 : decode cX1_hasAbove 24 = .ok (.ifCond .eq 7, 3) := by decide +kernel
theorem dX1_hasAbove_27 : decode cX1_hasAbove 27 = .ok (.iconst 1, 1) := by decide +kernel
theorem dX1_hasAbove_28 : decode cX1_hasAbove 28 = .ok (.goto 4, 3) := by decide +kernel
theorem dX1_hasAbove_31 : decode cX1_hasAbove 31 = .ok (.iconst 0, 1) := by decide +kernel
theorem dX1_hasAbove_32 : decode cX1_hasAbove 32 = .ok (.ireturn, 1) := by decide +kernel
theorem dX1_leansUp_0 : decode cX1_leansUp 0 = .ok (.aload_n 0, 1) := by decide +kernel
theorem dX1_leansUp_1 : decode cX1_leansUp 1 = .ok (.iload_n 1, 1) := by decide +kernel
theorem dX1_leansUp_2 : decode cX1_leansUp 2 = .ok (.invokevirtual 66, 3) := by decide +kernel
theorem dX1_leansUp_5 : decode cX1_leansUp 5 = .ok (.ifCond .eq 18, 3) := by decide +kernel
theorem dX1_leansUp_8 : decode cX1_leansUp 8 = .ok (.aload_n 0, 1) := by decide +kernel
theorem dX1_leansUp_9 : decode cX1_leansUp 9 = .ok (.iload_n 1, 1) := by decide +kernel
theorem dX1_leansUp_10 : decode cX1_leansUp 10 = .ok (.iload_n 2, 1) := by decide +kernel
theorem dX1_leansUp_11 : decode cX1_leansUp 11 = .ok (.invokevirtual 62, 3) := by decide +kernel
theorem dX1_leansUp_14 : decode cX1_leansUp 14 = .ok (.bipush (-6), 2) := by decide +kernel
theorem dX1_leansUp_16 : decode cX1_leansUp 16 = .ok (.if_icmp .ne 7, 3) := by decide +kernel
theorem dX1_leansUp_19 : decode cX1_leansUp 19 = .ok (.iconst 1, 1) := by decide +kernel
theorem dX1_leansUp_20 : decode cX1_leansUp 20 = .ok (.goto 4, 3) := by decide +kernel
theorem dX1_leansUp_23 : decode cX1_leansUp 23 = .ok (.iconst 0, 1) := by decide +kernel
theorem dX1_leansUp_24 : decode cX1_leansUp 24 = .ok (.ireturn, 1) := by decide +kernel
theorem dX1_topOfChain_0 : decode cX1_topOfChain 0 = .ok (.iload_n 1, 1) := by decide +kernel
theorem dX1_topOfChain_1 : decode cX1_topOfChain 1 = .ok (.istore_n 3, 1) := by decide +kernel
theorem dX1_topOfChain_2 : decode cX1_topOfChain 2 = .ok (.iload_n 3, 1) := by decide +kernel
theorem dX1_topOfChain_3 : decode cX1_topOfChain 3 = .ok (.ifCond .le 18, 3) := by decide +kernel
theorem dX1_topOfChain_6 : decode cX1_topOfChain 6 = .ok (.aload_n 0, 1) := by decide +kernel
theorem dX1_topOfChain_7 : decode cX1_topOfChain 7 = .ok (.iload_n 3, 1) := by decide +kernel
theorem dX1_topOfChain_8 : decode cX1_topOfChain 8 = .ok (.iload_n 2, 1) := by decide +kernel
theorem dX1_topOfChain_9 : decode cX1_topOfChain 9 = .ok (.invokevirtual 69, 3) := by decide +kernel
theorem dX1_topOfChain_12 : decode cX1_topOfChain 12 = .ok (.ifCond .eq 9, 3) := by decide +kernel
theorem dX1_topOfChain_15 : decode cX1_topOfChain 15 = .ok (.iinc 3 (-1), 3) := by decide +kernel
theorem dX1_topOfChain_18 : decode cX1_topOfChain 18 = .ok (.goto (-16), 3) := by decide +kernel
theorem dX1_topOfChain_21 : decode cX1_topOfChain 21 = .ok (.iload_n 3, 1) := by decide +kernel
theorem dX1_topOfChain_22 : decode cX1_topOfChain 22 = .ok (.ireturn, 1) := by decide +kernel
theorem dX1_chainOf_0 : decode cX1_chainOf 0 = .ok (.iload_n 1, 1) := by decide +kernel
theorem dX1_chainOf_1 : decode cX1_chainOf 1 = .ok (.aload_n 0, 1) := by decide +kernel
theorem dX1_chainOf_2 : decode cX1_chainOf 2 = .ok (.iload_n 1, 1) := by decide +kernel
theorem dX1_chainOf_3 : decode cX1_chainOf 3 = .ok (.iload_n 2, 1) := by decide +kernel
theorem dX1_chainOf_4 : decode cX1_chainOf 4 = .ok (.invokevirtual 73, 3) := by decide +kernel
theorem dX1_chainOf_7 : decode cX1_chainOf 7 = .ok (.isub, 1) := by decide +kernel
theorem dX1_chainOf_8 : decode cX1_chainOf 8 = .ok (.iconst 1, 1) := by decide +kernel
theorem dX1_chainOf_9 : decode cX1_chainOf 9 = .ok (.iadd, 1) := by decide +kernel
theorem dX1_chainOf_10 : decode cX1_chainOf 10 = .ok (.ireturn, 1) := by decide +kernel
theorem dX1_meaningOf_0 : decode cX1_meaningOf 0 = .ok (.aload_n 0, 1) := by decide +kernel
theorem dX1_meaningOf_1 : decode cX1_meaningOf 1 = .ok (.aload_n 0, 1) := by decide +kernel
theorem dX1_meaningOf_2 : decode cX1_meaningOf 2 = .ok (.iload_n 1, 1) := by decide +kernel
theorem dX1_meaningOf_3 : decode cX1_meaningOf 3 = .ok (.iload_n 2, 1) := by decide +kernel
theorem dX1_meaningOf_4 : decode cX1_meaningOf 4 = .ok (.invokevirtual 73, 3) := by decide +kernel
theorem dX1_meaningOf_7 : decode cX1_meaningOf 7 = .ok (.iload_n 2, 1) := by decide +kernel
theorem dX1_meaningOf_8 : decode cX1_meaningOf 8 = .ok (.invokevirtual 62, 3) := by decide +kernel
theorem dX1_meaningOf_11 : decode cX1_meaningOf 11 = .ok (.istore_n 3, 1) := by decide +kernel
theorem dX1_meaningOf_12 : decode cX1_meaningOf 12 = .ok (.iload_n 3, 1) := by decide +kernel
theorem dX1_meaningOf_13 : decode cX1_meaningOf 13 = .ok (.ifCond .lt 7, 3) := by decide +kernel
theorem dX1_meaningOf_16 : decode cX1_meaningOf 16 = .ok (.iload_n 3, 1) := by decide +kernel
theorem dX1_meaningOf_17 : decode cX1_meaningOf 17 = .ok (.goto 5, 3) := by decide +kernel
theorem dX1_meaningOf_20 : decode cX1_meaningOf 20 = .ok (.bipush (-5), 2) := by decide +kernel
theorem dX1_meaningOf_22 : decode cX1_meaningOf 22 = .ok (.ireturn, 1) := by decide +kernel
theorem dX1_sourceOf_0 : decode cX1_sourceOf 0 = .ok (.aload_n 0, 1) := by decide +kernel
theorem dX1_sourceOf_1 : decode cX1_sourceOf 1 = .ok (.iload_n 1, 1) := by decide +kernel
theorem dX1_sourceOf_2 : decode cX1_sourceOf 2 = .ok (.iload_n 2, 1) := by decide +kernel
theorem dX1_sourceOf_3 : decode cX1_sourceOf 3 = .ok (.invokevirtual 73, 3) := by decide +kernel
theorem dX1_sourceOf_6 : decode cX1_sourceOf 6 = .ok (.istore_n 3, 1) := by decide +kernel
theorem dX1_sourceOf_7 : decode cX1_sourceOf 7 = .ok (.aload_n 0, 1) := by decide +kernel
theorem dX1_sourceOf_8 : decode cX1_sourceOf 8 = .ok (.iload_n 3, 1) := by decide +kernel
theorem dX1_sourceOf_9 : decode cX1_sourceOf 9 = .ok (.iload_n 2, 1) := by decide +kernel
theorem dX1_sourceOf_10 : decode cX1_sourceOf 10 = .ok (.invokevirtual 62, 3) := by decide +kernel
theorem dX1_sourceOf_13 : decode cX1_sourceOf 13 = .ok (.ifCond .lt 7, 3) := by decide +kernel
theorem dX1_sourceOf_16 : decode cX1_sourceOf 16 = .ok (.iload_n 3, 1) := by decide +kernel
theorem dX1_sourceOf_17 : decode cX1_sourceOf 17 = .ok (.goto 5, 3) := by decide +kernel
theorem dX1_sourceOf_20 : decode cX1_sourceOf 20 = .ok (.bipush (-5), 2) := by decide +kernel
theorem dX1_sourceOf_22 : decode cX1_sourceOf 22 = .ok (.ireturn, 1) := by decide +kernel
theorem dX1_isDoubtful_0 : decode cX1_isDoubtful 0 = .ok (.aload_n 0, 1) := by decide +kernel
theorem dX1_isDoubtful_1 : decode cX1_isDoubtful 1 = .ok (.iload_n 1, 1) := by decide +kernel
theorem dX1_isDoubtful_2 : decode cX1_isDoubtful 2 = .ok (.iload_n 2, 1) := by decide +kernel
theorem dX1_isDoubtful_3 : decode cX1_isDoubtful 3 = .ok (.invokevirtual 73, 3) := by decide +kernel
theorem dX1_isDoubtful_6 : decode cX1_isDoubtful 6 = .ok (.istore_n 3, 1) := by decide +kernel
theorem dX1_isDoubtful_7 : decode cX1_isDoubtful 7 = .ok (.iload_n 1, 1) := by decide +kernel
theorem dX1_isDoubtful_8 : decode cX1_isDoubtful 8 = .ok (.istore 4, 2) := by decide +kernel
theorem dX1_isDoubtful_10 : decode cX1_isDoubtful 10 = .ok (.iload 4, 2) := by decide +kernel
theorem dX1_isDoubtful_12 : decode cX1_isDoubtful 12 = .ok (.iload_n 3, 1) := by decide +kernel
theorem dX1_isDoubtful_13 : decode cX1_isDoubtful 13 = .ok (.if_icmp .lt 22, 3) := by decide +kernel
theorem dX1_isDoubtful_16 : decode cX1_isDoubtful 16 = .ok (.aload_n 0, 1) := by decide +kernel
theorem dX1_isDoubtful_17 : decode cX1_isDoubtful 17 = .ok (.iload 4, 2) := by decide +kernel
theorem dX1_isDoubtful_19 : decode cX1_isDoubtful 19 = .ok (.iload_n 2, 1) := by decide +kernel
theorem dX1_isDoubtful_20 : decode cX1_isDoubtful 20 = .ok (.invokevirtual 76, 3) := by decide +kernel
theorem dX1_isDoubtful_23 : decode cX1_isDoubtful 23 = .ok (.iconst 1, 1) := by decide +kernel
theorem dX1_isDoubtful_24 : decode cX1_isDoubtful 24 = .ok (.if_icmp .le 5, 3) := by decide +kernel
theorem dX1_isDoubtful_27 : decode cX1_isDoubtful 27 = .ok (.iconst 1, 1) := by decide +kernel
theorem dX1_isDoubtful_28 : decode cX1_isDoubtful 28 = .ok (.ireturn, 1) := by decide +kernel
theorem dX1_isDoubtful_29 : decode cX1_isDoubtful 29 = .ok (.iinc 4 (-1), 3) := by decide +kernel
theorem dX1_isDoubtful_32 : decode cX1_isDoubtful 32 = .ok (.goto (-22), 3) := by decide +kernel
theorem dX1_isDoubtful_35 : decode cX1_isDoubtful 35 = .ok (.iconst 0, 1) := by decide +kernel
theorem dX1_isDoubtful_36 : decode cX1_isDoubtful 36 = .ok (.ireturn, 1) := by decide +kernel
theorem dX1_followersOf_0 : decode cX1_followersOf 0 = .ok (.iload_n 1, 1) := by decide +kernel
theorem dX1_followersOf_1 : decode cX1_followersOf 1 = .ok (.istore_n 3, 1) := by decide +kernel
theorem dX1_followersOf_2 : decode cX1_followersOf 2 = .ok (.iload_n 3, 1) := by decide +kernel
theorem dX1_followersOf_3 : decode cX1_followersOf 3 = .ok (.iconst 1, 1) := by decide +kernel
theorem dX1_followersOf_4 : decode cX1_followersOf 4 = .ok (.iadd, 1) := by decide +kernel
theorem dX1_followersOf_5 : decode cX1_followersOf 5 = .ok (.aload_n 0, 1) := by decide +kernel
theorem dX1_followersOf_6 : decode cX1_followersOf 6 = .ok (.getfield 27, 3) := by decide +kernel
theorem dX1_followersOf_9 : decode cX1_followersOf 9 = .ok (.if_icmp .ge 20, 3) := by decide +kernel
theorem dX1_followersOf_12 : decode cX1_followersOf 12 = .ok (.aload_n 0, 1) := by decide +kernel
theorem dX1_followersOf_13 : decode cX1_followersOf 13 = .ok (.iload_n 3, 1) := by decide +kernel
theorem dX1_followersOf_14 : decode cX1_followersOf 14 = .ok (.iconst 1, 1) := by decide +kernel
theorem dX1_followersOf_15 : decode cX1_followersOf 15 = .ok (.iadd, 1) := by decide +kernel
theorem dX1_followersOf_16 : decode cX1_followersOf 16 = .ok (.iload_n 2, 1) := by decide +kernel
theorem dX1_followersOf_17 : decode cX1_followersOf 17 = .ok (.invokevirtual 69, 3) := by decide +kernel
theorem dX1_followersOf_20 : decode cX1_followersOf 20 = .ok (.ifCond .eq 9, 3) := by decide +kernel
theorem dX1_followersOf_23 : decode cX1_followersOf 23 = .ok (.iinc 3 1, 3) := by decide +kernel
theorem dX1_followersOf_26 : decode cX1_followersOf 26 = .ok (.goto (-24), 3) := by decide +kernel
theorem dX1_followersOf_29 : decode cX1_followersOf 29 = .ok (.iload_n 3, 1) := by decide +kernel
theorem dX1_followersOf_30 : decode cX1_followersOf 30 = .ok (.iload_n 1, 1) := by decide +kernel
theorem dX1_followersOf_31 : decode cX1_followersOf 31 = .ok (.isub, 1) := by decide +kernel
theorem dX1_followersOf_32 : decode cX1_followersOf 32 = .ok (.ireturn, 1) := by decide +kernel
theorem dX1_meaningWith_0 : decode cX1_meaningWith 0 = .ok (.iload_n 3, 1) := by decide +kernel
theorem dX1_meaningWith_1 : decode cX1_meaningWith 1 = .ok (.bipush (-6), 2) := by decide +kernel
theorem dX1_meaningWith_3 : decode cX1_meaningWith 3 = .ok (.if_icmp .ne 25, 3) := by decide +kernel
theorem dX1_meaningWith_6 : decode cX1_meaningWith 6 = .ok (.aload_n 0, 1) := by decide +kernel
theorem dX1_meaningWith_7 : decode cX1_meaningWith 7 = .ok (.iload_n 1, 1) := by decide +kernel
theorem dX1_meaningWith_8 : decode cX1_meaningWith 8 = .ok (.invokevirtual 66, 3) := by decide +kernel
theorem dX1_meaningWith_11 : decode cX1_meaningWith 11 = .ok (.ifCond .eq 14, 3) := by decide +kernel
theorem dX1_meaningWith_14 : decode cX1_meaningWith 14 = .ok (.aload_n 0, 1) := by decide +kernel
theorem dX1_meaningWith_15 : decode cX1_meaningWith 15 = .ok (.iload_n 1, 1) := by decide +kernel
theorem dX1_meaningWith_16 : decode cX1_meaningWith 16 = .ok (.iconst 1, 1) := by decide +kernel
theorem dX1_meaningWith_17 : decode cX1_meaningWith 17 = .ok (.isub, 1) := by decide +kernel
theorem dX1_meaningWith_18 : decode cX1_meaningWith 18 = .ok (.iload_n 2, 1) := by decide +kernel
theorem dX1_meaningWith_19 : decode cX1_meaningWith 19 = .ok (.invokevirtual 79, 3) := by decide +kernel
theorem dX1_meaningWith_22 : decode cX1_meaningWith 22 = .ok (.goto 5, 3) := by decide +kernel
theorem dX1_meaningWith_25 : decode cX1_meaningWith 25 = .ok (.bipush (-5), 2) := by decide +kernel
theorem dX1_meaningWith_27 : decode cX1_meaningWith 27 = .ok (.ireturn, 1) := by decide +kernel
theorem dX1_meaningWith_28 : decode cX1_meaningWith 28 = .ok (.iload_n 3, 1) := by decide +kernel
theorem dX1_meaningWith_29 : decode cX1_meaningWith 29 = .ok (.ireturn, 1) := by decide +kernel
theorem dX1_changedBy_0 : decode cX1_changedBy 0 = .ok (.aload_n 0, 1) := by decide +kernel
theorem dX1_changedBy_1 : decode cX1_changedBy 1 = .ok (.iload_n 1, 1) := by decide +kernel
theorem dX1_changedBy_2 : decode cX1_changedBy 2 = .ok (.iload_n 2, 1) := by decide +kernel
theorem dX1_changedBy_3 : decode cX1_changedBy 3 = .ok (.iload_n 3, 1) := by decide +kernel
theorem dX1_changedBy_4 : decode cX1_changedBy 4 = .ok (.invokevirtual 82, 3) := by decide +kernel
theorem dX1_changedBy_7 : decode cX1_changedBy 7 = .ok (.aload_n 0, 1) := by decide +kernel
theorem dX1_changedBy_8 : decode cX1_changedBy 8 = .ok (.iload_n 1, 1) := by decide +kernel
theorem dX1_changedBy_9 : decode cX1_changedBy 9 = .ok (.iload_n 2, 1) := by decide +kernel
theorem dX1_changedBy_10 : decode cX1_changedBy 10 = .ok (.invokevirtual 79, 3) := by decide +kernel
theorem dX1_changedBy_13 : decode cX1_changedBy 13 = .ok (.if_icmp .ne 5, 3) := by decide +kernel
theorem dX1_changedBy_16 : decode cX1_changedBy 16 = .ok (.iconst 0, 1) := by decide +kernel
theorem dX1_changedBy_17 : decode cX1_changedBy 17 = .ok (.ireturn, 1) := by decide +kernel
theorem dX1_changedBy_18 : decode cX1_changedBy 18 = .ok (.iconst 1, 1) := by decide +kernel
theorem dX1_changedBy_19 : decode cX1_changedBy 19 = .ok (.aload_n 0, 1) := by decide +kernel
theorem dX1_changedBy_20 : decode cX1_changedBy 20 = .ok (.iload_n 1, 1) := by decide +kernel
theorem dX1_changedBy_21 : decode cX1_changedBy 21 = .ok (.iload_n 2, 1) := by decide +kernel
theorem dX1_changedBy_22 : decode cX1_changedBy 22 = .ok (.invokevirtual 86, 3) := by decide +kernel
theorem dX1_changedBy_25 : decode cX1_changedBy 25 = .ok (.iadd, 1) := by decide +kernel
theorem dX1_changedBy_26 : decode cX1_changedBy 26 = .ok (.ireturn, 1) := by decide +kernel
theorem dX1_countLatest_0 : decode cX1_countLatest 0 = .ok (.iconst 0, 1) := by decide +kernel
theorem dX1_countLatest_1 : decode cX1_countLatest 1 = .ok (.istore_n 3, 1) := by decide +kernel
theorem dX1_countLatest_2 : decode cX1_countLatest 2 = .ok (.iconst 0, 1) := by decide +kernel
theorem dX1_countLatest_3 : decode cX1_countLatest 3 = .ok (.istore 4, 2) := by decide +kernel
theorem dX1_countLatest_5 : decode cX1_countLatest 5 = .ok (.iload 4, 2) := by decide +kernel
theorem dX1_countLatest_7 : decode cX1_countLatest 7 = .ok (.aload_n 0, 1) := by decide +kernel
theorem dX1_countLatest_8 : decode cX1_countLatest 8 = .ok (.getfield 27, 3) := by decide +kernel
theorem dX1_countLatest_11 : decode cX1_countLatest 11 = .ok (.if_icmp .ge 23, 3) := by decide +kernel
theorem dX1_countLatest_14 : decode cX1_countLatest 14 = .ok (.aload_n 0, 1) := by decide +kernel
theorem dX1_countLatest_15 : decode cX1_countLatest 15 = .ok (.iload 4, 2) := by decide +kernel
theorem dX1_countLatest_17 : decode cX1_countLatest 17 = .ok (.iload_n 1, 1) := by decide +kernel
theorem dX1_countLatest_18 : decode cX1_countLatest 18 = .ok (.invokevirtual 62, 3) := by decide +kernel
theorem dX1_countLatest_21 : decode cX1_countLatest 21 = .ok (.iload_n 2, 1) := by decide +kernel
theorem dX1_countLatest_22 : decode cX1_countLatest 22 = .ok (.if_icmp .ne 6, 3) := by decide +kernel
theorem dX1_countLatest_25 : decode cX1_countLatest 25 = .ok (.iinc 3 1, 3) := by decide +kernel
theorem dX1_countLatest_28 : decode cX1_countLatest 28 = .ok (.iinc 4 1, 3) := by decide +kernel
theorem dX1_countLatest_31 : decode cX1_countLatest 31 = .ok (.goto (-26), 3) := by decide +kernel
theorem dX1_countLatest_34 : decode cX1_countLatest 34 = .ok (.iload_n 3, 1) := by decide +kernel
theorem dX1_countLatest_35 : decode cX1_countLatest 35 = .ok (.ireturn, 1) := by decide +kernel
theorem dX1_countCorrections_0 : decode cX1_countCorrections 0 = .ok (.iconst 0, 1) := by decide +kernel
theorem dX1_countCorrections_1 : decode cX1_countCorrections 1 = .ok (.istore_n 2, 1) := by decide +kernel
theorem dX1_countCorrections_2 : decode cX1_countCorrections 2 = .ok (.iconst 0, 1) := by decide +kernel
theorem dX1_countCorrections_3 : decode cX1_countCorrections 3 = .ok (.istore_n 3, 1) := by decide +kernel
theorem dX1_countCorrections_4 : decode cX1_countCorrections 4 = .ok (.iload_n 3, 1) := by decide +kernel
theorem dX1_countCorrections_5 : decode cX1_countCorrections 5 = .ok (.aload_n 0, 1) := by decide +kernel
theorem dX1_countCorrections_6 : decode cX1_countCorrections 6 = .ok (.getfield 27, 3) := by decide +kernel
theorem dX1_countCorrections_9 : decode cX1_countCorrections 9 = .ok (.if_icmp .ge 20, 3) := by decide +kernel
theorem dX1_countCorrections_12 : decode cX1_countCorrections 12 = .ok (.iload_n 2, 1) := by decide +kernel
theorem dX1_countCorrections_13 : decode cX1_countCorrections 13 = .ok (.aload_n 0, 1) := by decide +kernel
theorem dX1_countCorrections_14 : decode cX1_countCorrections 14 = .ok (.iload_n 3, 1) := by decide +kernel
theorem dX1_countCorrections_15 : decode cX1_countCorrections 15 = .ok (.iload_n 1, 1) := by decide +kernel
theorem dX1_countCorrections_16 : decode cX1_countCorrections 16 = .ok (.invokevirtual 76, 3) := by decide +kernel
theorem dX1_countCorrections_19 : decode cX1_countCorrections 19 = .ok (.iconst 1, 1) := by decide +kernel
theorem dX1_countCorrections_20 : decode cX1_countCorrections 20 = .ok (.isub, 1) := by decide +kernel
theorem dX1_countCorrections_21 : decode cX1_countCorrections 21 = .ok (.iadd, 1) := by decide +kernel
theorem dX1_countCorrections_22 : decode cX1_countCorrections 22 = .ok (.istore_n 2, 1) := by decide +kernel
theorem dX1_countCorrections_23 : decode cX1_countCorrections 23 = .ok (.iinc 3 1, 3) := by decide +kernel
theorem dX1_countCorrections_26 : decode cX1_countCorrections 26 = .ok (.goto (-22), 3) := by decide +kernel
theorem dX1_countCorrections_29 : decode cX1_countCorrections 29 = .ok (.iload_n 2, 1) := by decide +kernel
theorem dX1_countCorrections_30 : decode cX1_countCorrections 30 = .ok (.ireturn, 1) := by decide +kernel
theorem dX1_countMeaningless_0 : decode cX1_countMeaningless 0 = .ok (.iconst 0, 1) := by decide +kernel
theorem dX1_countMeaningless_1 : decode cX1_countMeaningless 1 = .ok (.istore 4, 2) := by decide +kernel
theorem dX1_countMeaningless_3 : decode cX1_countMeaningless 3 = .ok (.iload_n 2, 1) := by decide +kernel
theorem dX1_countMeaningless_4 : decode cX1_countMeaningless 4 = .ok (.istore 5, 2) := by decide +kernel
theorem dX1_countMeaningless_6 : decode cX1_countMeaningless 6 = .ok (.iload 5, 2) := by decide +kernel
theorem dX1_countMeaningless_8 : decode cX1_countMeaningless 8 = .ok (.iload_n 3, 1) := by decide +kernel
theorem dX1_countMeaningless_9 : decode cX1_countMeaningless 9 = .ok (.if_icmp .gt 24, 3) := by decide +kernel
theorem dX1_countMeaningless_12 : decode cX1_countMeaningless 12 = .ok (.aload_n 0, 1) := by decide +kernel
theorem dX1_countMeaningless_13 : decode cX1_countMeaningless 13 = .ok (.iload 5, 2) := by decide +kernel
theorem dX1_countMeaningless_15 : decode cX1_countMeaningless 15 = .ok (.iload_n 1, 1) := by decide +kernel
theorem dX1_countMeaningless_16 : decode cX1_countMeaningless 16 = .ok (.invokevirtual 79, 3) := by decide +kernel
theorem dX1_countMeaningless_19 : decode cX1_countMeaningless 19 = .ok (.bipush (-5), 2) := by decide +kernel
theorem dX1_countMeaningless_21 : decode cX1_countMeaningless 21 = .ok (.if_icmp .ne 6, 3) := by decide +kernel
theorem dX1_countMeaningless_24 : decode cX1_countMeaningless 24 = .ok (.iinc 4 1, 3) := by decide +kernel
theorem dX1_countMeaningless_27 : decode cX1_countMeaningless 27 = .ok (.iinc 5 1, 3) := by decide +kernel
theorem dX1_countMeaningless_30 : decode cX1_countMeaningless 30 = .ok (.goto (-24), 3) := by decide +kernel
theorem dX1_countMeaningless_33 : decode cX1_countMeaningless 33 = .ok (.iload 4, 2) := by decide +kernel
theorem dX1_countMeaningless_35 : decode cX1_countMeaningless 35 = .ok (.ireturn, 1) := by decide +kernel
theorem dX1_countDoubtful_0 : decode cX1_countDoubtful 0 = .ok (.iconst 0, 1) := by decide +kernel
theorem dX1_countDoubtful_1 : decode cX1_countDoubtful 1 = .ok (.istore 4, 2) := by decide +kernel
theorem dX1_countDoubtful_3 : decode cX1_countDoubtful 3 = .ok (.iload_n 2, 1) := by decide +kernel
theorem dX1_countDoubtful_4 : decode cX1_countDoubtful 4 = .ok (.istore 5, 2) := by decide +kernel
theorem dX1_countDoubtful_6 : decode cX1_countDoubtful 6 = .ok (.iload 5, 2) := by decide +kernel
theorem dX1_countDoubtful_8 : decode cX1_countDoubtful 8 = .ok (.iload_n 3, 1) := by decide +kernel
theorem dX1_countDoubtful_9 : decode cX1_countDoubtful 9 = .ok (.if_icmp .gt 22, 3) := by decide +kernel
theorem dX1_countDoubtful_12 : decode cX1_countDoubtful 12 = .ok (.aload_n 0, 1) := by decide +kernel
theorem dX1_countDoubtful_13 : decode cX1_countDoubtful 13 = .ok (.iload 5, 2) := by decide +kernel
theorem dX1_countDoubtful_15 : decode cX1_countDoubtful 15 = .ok (.iload_n 1, 1) := by decide +kernel
theorem dX1_countDoubtful_16 : decode cX1_countDoubtful 16 = .ok (.invokevirtual 89, 3) := by decide +kernel
theorem dX1_countDoubtful_19 : decode cX1_countDoubtful 19 = .ok (.ifCond .eq 6, 3) := by decide +kernel
theorem dX1_countDoubtful_22 : decode cX1_countDoubtful 22 = .ok (.iinc 4 1, 3) := by decide +kernel
theorem dX1_countDoubtful_25 : decode cX1_countDoubtful 25 = .ok (.iinc 5 1, 3) := by decide +kernel
theorem dX1_countDoubtful_28 : decode cX1_countDoubtful 28 = .ok (.goto (-22), 3) := by decide +kernel
theorem dX1_countDoubtful_31 : decode cX1_countDoubtful 31 = .ok (.iload 4, 2) := by decide +kernel
theorem dX1_countDoubtful_33 : decode cX1_countDoubtful 33 = .ok (.ireturn, 1) := by decide +kernel
theorem dX1_longestChain_0 : decode cX1_longestChain 0 = .ok (.iconst 0, 1) := by decide +kernel
theorem dX1_longestChain_1 : decode cX1_longestChain 1 = .ok (.istore_n 2, 1) := by decide +kernel
theorem dX1_longestChain_2 : decode cX1_longestChain 2 = .ok (.iconst 0, 1) := by decide +kernel
theorem dX1_longestChain_3 : decode cX1_longestChain 3 = .ok (.istore_n 3, 1) := by decide +kernel
theorem dX1_longestChain_4 : decode cX1_longestChain 4 = .ok (.iload_n 3, 1) := by decide +kernel
theorem dX1_longestChain_5 : decode cX1_longestChain 5 = .ok (.aload_n 0, 1) := by decide +kernel
theorem dX1_longestChain_6 : decode cX1_longestChain 6 = .ok (.getfield 27, 3) := by decide +kernel
theorem dX1_longestChain_9 : decode cX1_longestChain 9 = .ok (.if_icmp .ge 20, 3) := by decide +kernel
theorem dX1_longestChain_12 : decode cX1_longestChain 12 = .ok (.iload_n 2, 1) := by decide +kernel
theorem dX1_longestChain_13 : decode cX1_longestChain 13 = .ok (.aload_n 0, 1) := by decide +kernel
theorem dX1_longestChain_14 : decode cX1_longestChain 14 = .ok (.iload_n 3, 1) := by decide +kernel
theorem dX1_longestChain_15 : decode cX1_longestChain 15 = .ok (.iload_n 1, 1) := by decide +kernel
theorem dX1_longestChain_16 : decode cX1_longestChain 16 = .ok (.invokevirtual 92, 3) := by decide +kernel
theorem dX1_longestChain_19 : decode cX1_longestChain 19 = .ok (.invokestatic 95, 3) := by decide +kernel
theorem dX1_longestChain_22 : decode cX1_longestChain 22 = .ok (.istore_n 2, 1) := by decide +kernel
theorem dX1_longestChain_23 : decode cX1_longestChain 23 = .ok (.iinc 3 1, 3) := by decide +kernel
theorem dX1_longestChain_26 : decode cX1_longestChain 26 = .ok (.goto (-22), 3) := by decide +kernel
theorem dX1_longestChain_29 : decode cX1_longestChain 29 = .ok (.iload_n 2, 1) := by decide +kernel
theorem dX1_longestChain_30 : decode cX1_longestChain 30 = .ok (.ireturn, 1) := by decide +kernel
theorem dX1_countWrittenOut_0 : decode cX1_countWrittenOut 0 = .ok (.iconst 0, 1) := by decide +kernel
theorem dX1_countWrittenOut_1 : decode cX1_countWrittenOut 1 = .ok (.istore_n 1, 1) := by decide +kernel
theorem dX1_countWrittenOut_2 : decode cX1_countWrittenOut 2 = .ok (.iconst 0, 1) := by decide +kernel
theorem dX1_countWrittenOut_3 : decode cX1_countWrittenOut 3 = .ok (.istore_n 2, 1) := by decide +kernel
theorem dX1_countWrittenOut_4 : decode cX1_countWrittenOut 4 = .ok (.iload_n 2, 1) := by decide +kernel
theorem dX1_countWrittenOut_5 : decode cX1_countWrittenOut 5 = .ok (.aload_n 0, 1) := by decide +kernel
theorem dX1_countWrittenOut_6 : decode cX1_countWrittenOut 6 = .ok (.getfield 27, 3) := by decide +kernel
theorem dX1_countWrittenOut_9 : decode cX1_countWrittenOut 9 = .ok (.if_icmp .ge 20, 3) := by decide +kernel
theorem dX1_countWrittenOut_12 : decode cX1_countWrittenOut 12 = .ok (.aload_n 0, 1) := by decide +kernel
theorem dX1_countWrittenOut_13 : decode cX1_countWrittenOut 13 = .ok (.iload_n 2, 1) := by decide +kernel
theorem dX1_countWrittenOut_14 : decode cX1_countWrittenOut 14 = .ok (.invokevirtual 100, 3) := by decide +kernel
theorem dX1_countWrittenOut_17 : decode cX1_countWrittenOut 17 = .ok (.ifCond .eq 6, 3) := by decide +kernel
theorem dX1_countWrittenOut_20 : decode cX1_countWrittenOut 20 = .ok (.iinc 1 1, 3) := by decide +kernel
theorem dX1_countWrittenOut_23 : decode cX1_countWrittenOut 23 = .ok (.iinc 2 1, 3) := by decide +kernel
theorem dX1_countWrittenOut_26 : decode cX1_countWrittenOut 26 = .ok (.goto (-22), 3) := by decide +kernel
theorem dX1_countWrittenOut_29 : decode cX1_countWrittenOut 29 = .ok (.iload_n 1, 1) := by decide +kernel
theorem dX1_countWrittenOut_30 : decode cX1_countWrittenOut 30 = .ok (.ireturn, 1) := by decide +kernel
theorem dX1_watches_0 : decode cX1_watches 0 = .ok (.aload_n 0, 1) := by decide +kernel
theorem dX1_watches_1 : decode cX1_watches 1 = .ok (.getfield 37, 3) := by decide +kernel
theorem dX1_watches_4 : decode cX1_watches 4 = .ok (.ifCond .le 22, 3) := by decide +kernel
theorem dX1_watches_7 : decode cX1_watches 7 = .ok (.aload_n 0, 1) := by decide +kernel
theorem dX1_watches_8 : decode cX1_watches 8 = .ok (.getfield 27, 3) := by decide +kernel
theorem dX1_watches_11 : decode cX1_watches 11 = .ok (.aload_n 0, 1) := by decide +kernel
theorem dX1_watches_12 : decode cX1_watches 12 = .ok (.getfield 37, 3) := by decide +kernel
theorem dX1_watches_15 : decode cX1_watches 15 = .ok (.iadd, 1) := by decide +kernel
theorem dX1_watches_16 : decode cX1_watches 16 = .ok (.iconst 1, 1) := by decide +kernel
theorem dX1_watches_17 : decode cX1_watches 17 = .ok (.isub, 1) := by decide +kernel
theorem dX1_watches_18 : decode cX1_watches 18 = .ok (.aload_n 0, 1) := by decide +kernel
theorem dX1_watches_19 : decode cX1_watches 19 = .ok (.getfield 37, 3) := by decide +kernel
theorem dX1_watches_22 : decode cX1_watches 22 = .ok (.idiv, 1) := by decide +kernel
theorem dX1_watches_23 : decode cX1_watches 23 = .ok (.goto 4, 3) := by decide +kernel
theorem dX1_watches_26 : decode cX1_watches 26 = .ok (.iconst 0, 1) := by decide +kernel
theorem dX1_watches_27 : decode cX1_watches 27 = .ok (.ireturn, 1) := by decide +kernel
theorem dX1_firstRowOf_0 : decode cX1_firstRowOf 0 = .ok (.iload_n 1, 1) := by decide +kernel
theorem dX1_firstRowOf_1 : decode cX1_firstRowOf 1 = .ok (.aload_n 0, 1) := by decide +kernel
theorem dX1_firstRowOf_2 : decode cX1_firstRowOf 2 = .ok (.getfield 37, 3) := by decide +kernel
theorem dX1_firstRowOf_5 : decode cX1_firstRowOf 5 = .ok (.imul, 1) := by decide +kernel
theorem dX1_firstRowOf_6 : decode cX1_firstRowOf 6 = .ok (.ireturn, 1) := by decide +kernel
theorem dX1_lastRowOf_0 : decode cX1_lastRowOf 0 = .ok (.iload_n 1, 1) := by decide +kernel
theorem dX1_lastRowOf_1 : decode cX1_lastRowOf 1 = .ok (.aload_n 0, 1) := by decide +kernel
theorem dX1_lastRowOf_2 : decode cX1_lastRowOf 2 = .ok (.getfield 37, 3) := by decide +kernel
theorem dX1_lastRowOf_5 : decode cX1_lastRowOf 5 = .ok (.imul, 1) := by decide +kernel
theorem dX1_lastRowOf_6 : decode cX1_lastRowOf 6 = .ok (.aload_n 0, 1) := by decide +kernel
theorem dX1_lastRowOf_7 : decode cX1_lastRowOf 7 = .ok (.getfield 37, 3) := by decide +kernel
theorem dX1_lastRowOf_10 : decode cX1_lastRowOf 10 = .ok (.iadd, 1) := by decide +kernel
theorem dX1_lastRowOf_11 : decode cX1_lastRowOf 11 = .ok (.aload_n 0, 1) := by decide +kernel
theorem dX1_lastRowOf_12 : decode cX1_lastRowOf 12 = .ok (.getfield 27, 3) := by decide +kernel
theorem dX1_lastRowOf_15 : decode cX1_lastRowOf 15 = .ok (.invokestatic 103, 3) := by decide +kernel
theorem dX1_lastRowOf_18 : decode cX1_lastRowOf 18 = .ok (.iconst 1, 1) := by decide +kernel
theorem dX1_lastRowOf_19 : decode cX1_lastRowOf 19 = .ok (.isub, 1) := by decide +kernel
theorem dX1_lastRowOf_20 : decode cX1_lastRowOf 20 = .ok (.ireturn, 1) := by decide +kernel
theorem dX1_runOf_0 : decode cX1_runOf 0 = .ok (.iconst 0, 1) := by decide +kernel
theorem dX1_runOf_1 : decode cX1_runOf 1 = .ok (.istore_n 3, 1) := by decide +kernel
theorem dX1_runOf_2 : decode cX1_runOf 2 = .ok (.iload_n 1, 1) := by decide +kernel
theorem dX1_runOf_3 : decode cX1_runOf 3 = .ok (.istore 4, 2) := by decide +kernel
theorem dX1_runOf_5 : decode cX1_runOf 5 = .ok (.iload 4, 2) := by decide +kernel
theorem dX1_runOf_7 : decode cX1_runOf 7 = .ok (.iload_n 2, 1) := by decide +kernel
theorem dX1_runOf_8 : decode cX1_runOf 8 = .ok (.if_icmp .gt 23, 3) := by decide +kernel
theorem dX1_runOf_11 : decode cX1_runOf 11 = .ok (.iload_n 3, 1) := by decide +kernel
theorem dX1_runOf_12 : decode cX1_runOf 12 = .ok (.iconst 0, 1) := by decide +kernel
theorem dX1_runOf_13 : decode cX1_runOf 13 = .ok (.aload_n 0, 1) := by decide +kernel
theorem dX1_runOf_14 : decode cX1_runOf 14 = .ok (.iload 4, 2) := by decide +kernel
theorem dX1_runOf_16 : decode cX1_runOf 16 = .ok (.iconst 1, 1) := by decide +kernel
theorem dX1_runOf_17 : decode cX1_runOf 17 = .ok (.invokevirtual 79, 3) := by decide +kernel
theorem dX1_runOf_20 : decode cX1_runOf 20 = .ok (.invokestatic 95, 3) := by decide +kernel
theorem dX1_runOf_23 : decode cX1_runOf 23 = .ok (.iadd, 1) := by decide +kernel
theorem dX1_runOf_24 : decode cX1_runOf 24 = .ok (.istore_n 3, 1) := by decide +kernel
theorem dX1_runOf_25 : decode cX1_runOf 25 = .ok (.iinc 4 1, 3) := by decide +kernel
theorem dX1_runOf_28 : decode cX1_runOf 28 = .ok (.goto (-23), 3) := by decide +kernel
theorem dX1_runOf_31 : decode cX1_runOf 31 = .ok (.iload_n 3, 1) := by decide +kernel
theorem dX1_runOf_32 : decode cX1_runOf 32 = .ok (.ireturn, 1) := by decide +kernel
theorem dX1_countWrongSums_0 : decode cX1_countWrongSums 0 = .ok (.iconst 0, 1) := by decide +kernel
theorem dX1_countWrongSums_1 : decode cX1_countWrongSums 1 = .ok (.istore_n 1, 1) := by decide +kernel
theorem dX1_countWrongSums_2 : decode cX1_countWrongSums 2 = .ok (.aload_n 0, 1) := by decide +kernel
theorem dX1_countWrongSums_3 : decode cX1_countWrongSums 3 = .ok (.invokevirtual 106, 3) := by decide +kernel
theorem dX1_countWrongSums_6 : decode cX1_countWrongSums 6 = .ok (.istore_n 2, 1) := by decide +kernel
theorem dX1_countWrongSums_7 : decode cX1_countWrongSums 7 = .ok (.iconst 0, 1) := by decide +kernel
theorem dX1_countWrongSums_8 : decode cX1_countWrongSums 8 = .ok (.istore_n 3, 1) := by decide +kernel
theorem dX1_countWrongSums_9 : decode cX1_countWrongSums 9 = .ok (.iload_n 3, 1) := by decide +kernel
theorem dX1_countWrongSums_10 : decode cX1_countWrongSums 10 = .ok (.iload_n 2, 1) := by decide +kernel
theorem dX1_countWrongSums_11 : decode cX1_countWrongSums 11 = .ok (.if_icmp .ge 45, 3) := by decide +kernel
theorem dX1_countWrongSums_14 : decode cX1_countWrongSums 14 = .ok (.aload_n 0, 1) := by decide +kernel
theorem dX1_countWrongSums_15 : decode cX1_countWrongSums 15 = .ok (.iload_n 3, 1) := by decide +kernel
theorem dX1_countWrongSums_16 : decode cX1_countWrongSums 16 = .ok (.invokevirtual 110, 3) := by decide +kernel
theorem dX1_countWrongSums_19 : decode cX1_countWrongSums 19 = .ok (.istore 4, 2) := by decide +kernel
theorem dX1_countWrongSums_21 : decode cX1_countWrongSums 21 = .ok (.iload 4, 2) := by decide +kernel
theorem dX1_countWrongSums_23 : decode cX1_countWrongSums 23 = .ok (.bipush (-5), 2) := by decide +kernel
theorem dX1_countWrongSums_25 : decode cX1_countWrongSums 25 = .ok (.if_icmp .eq 25, 3) := by decide +kernel
theorem dX1_countWrongSums_28 : decode cX1_countWrongSums 28 = .ok (.iload 4, 2) := by decide +kernel
theorem dX1_countWrongSums_30 : decode cX1_countWrongSums 30 = .ok (.aload_n 0, 1) := by decide +kernel
theorem dX1_countWrongSums_31 : decode cX1_countWrongSums 31 = .ok (.aload_n 0, 1) := by decide +kernel
theorem dX1_countWrongSums_32 : decode cX1_countWrongSums 32 = .ok (.iload_n 3, 1) := by decide +kernel
theorem dX1_countWrongSums_33 : decode cX1_countWrongSums 33 = .ok (.invokevirtual 114, 3) := by decide +kernel
theorem dX1_countWrongSums_36 : decode cX1_countWrongSums 36 = .ok (.aload_n 0, 1) := by decide +kernel
theorem dX1_countWrongSums_37 : decode cX1_countWrongSums 37 = .ok (.iload_n 3, 1) := by decide +kernel
theorem dX1_countWrongSums_38 : decode cX1_countWrongSums 38 = .ok (.invokevirtual 117, 3) := by decide +kernel
theorem dX1_countWrongSums_41 : decode cX1_countWrongSums 41 = .ok (.invokevirtual 120, 3) := by decide +kernel
theorem dX1_countWrongSums_44 : decode cX1_countWrongSums 44 = .ok (.if_icmp .eq 6, 3) := by decide +kernel
theorem dX1_countWrongSums_47 : decode cX1_countWrongSums 47 = .ok (.iinc 1 1, 3) := by decide +kernel
theorem dX1_countWrongSums_50 : decode cX1_countWrongSums 50 = .ok (.iinc 3 1, 3) := by decide +kernel
theorem dX1_countWrongSums_53 : decode cX1_countWrongSums 53 = .ok (.goto (-44), 3) := by decide +kernel
theorem dX1_countWrongSums_56 : decode cX1_countWrongSums 56 = .ok (.iload_n 1, 1) := by decide +kernel
theorem dX1_countWrongSums_57 : decode cX1_countWrongSums 57 = .ok (.ireturn, 1) := by decide +kernel
theorem dX1_wayOf_0 : decode cX1_wayOf 0 = .ok (.dconst 0, 1) := by decide +kernel
theorem dX1_wayOf_1 : decode cX1_wayOf 1 = .ok (.dstore 4, 2) := by decide +kernel
theorem dX1_wayOf_3 : decode cX1_wayOf 3 = .ok (.iload_n 1, 1) := by decide +kernel
theorem dX1_wayOf_4 : decode cX1_wayOf 4 = .ok (.istore 6, 2) := by decide +kernel
theorem dX1_wayOf_6 : decode cX1_wayOf 6 = .ok (.iload 6, 2) := by decide +kernel
theorem dX1_wayOf_8 : decode cX1_wayOf 8 = .ok (.iload_n 2, 1) := by decide +kernel
theorem dX1_wayOf_9 : decode cX1_wayOf 9 = .ok (.if_icmp .gt 60, 3) := by decide +kernel
theorem dX1_wayOf_12 : decode cX1_wayOf 12 = .ok (.aload_n 0, 1) := by decide +kernel
theorem dX1_wayOf_13 : decode cX1_wayOf 13 = .ok (.iload 6, 2) := by decide +kernel
theorem dX1_wayOf_15 : decode cX1_wayOf 15 = .ok (.iconst 0, 1) := by decide +kernel
theorem dX1_wayOf_16 : decode cX1_wayOf 16 = .ok (.invokevirtual 79, 3) := by decide +kernel
theorem dX1_wayOf_19 : decode cX1_wayOf 19 = .ok (.istore 7, 2) := by decide +kernel
theorem dX1_wayOf_21 : decode cX1_wayOf 21 = .ok (.aload_n 0, 1) := by decide +kernel
theorem dX1_wayOf_22 : decode cX1_wayOf 22 = .ok (.iload 6, 2) := by decide +kernel
theorem dX1_wayOf_24 : decode cX1_wayOf 24 = .ok (.iconst 1, 1) := by decide +kernel
theorem dX1_wayOf_25 : decode cX1_wayOf 25 = .ok (.invokevirtual 79, 3) := by decide +kernel
theorem dX1_wayOf_28 : decode cX1_wayOf 28 = .ok (.istore 8, 2) := by decide +kernel
theorem dX1_wayOf_30 : decode cX1_wayOf 30 = .ok (.iload 7, 2) := by decide +kernel
theorem dX1_wayOf_32 : decode cX1_wayOf 32 = .ok (.ifCond .lt 31, 3) := by decide +kernel
theorem dX1_wayOf_35 : decode cX1_wayOf 35 = .ok (.iload 8, 2) := by decide +kernel
theorem dX1_wayOf_37 : decode cX1_wayOf 37 = .ok (.ifCond .lt 26, 3) := by decide +kernel
theorem dX1_wayOf_40 : decode cX1_wayOf 40 = .ok (.dload 4, 2) := by decide +kernel
theorem dX1_wayOf_42 : decode cX1_wayOf 42 = .ok (.iload 8, 2) := by decide +kernel
theorem dX1_wayOf_44 : decode cX1_wayOf 44 = .ok (.i2d, 1) := by decide +kernel
theorem dX1_wayOf_45 : decode cX1_wayOf 45 = .ok (.ldc2_w 123, 3) := by decide +kernel
theorem dX1_wayOf_48 : decode cX1_wayOf 48 = .ok (.ddiv, 1) := by decide +kernel
theorem dX1_wayOf_49 : decode cX1_wayOf 49 = .ok (.iload 7, 2) := by decide +kernel
theorem dX1_wayOf_51 : decode cX1_wayOf 51 = .ok (.iload_n 3, 1) := by decide +kernel
theorem dX1_wayOf_52 : decode cX1_wayOf 52 = .ok (.iadd, 1) := by decide +kernel
theorem dX1_wayOf_53 : decode cX1_wayOf 53 = .ok (.bipush 8, 2) := by decide +kernel
theorem dX1_wayOf_55 : decode cX1_wayOf 55 = .ok (.irem, 1) := by decide +kernel
theorem dX1_wayOf_56 : decode cX1_wayOf 56 = .ok (.invokestatic 125, 3) := by decide +kernel
theorem dX1_wayOf_59 : decode cX1_wayOf 59 = .ok (.dmul, 1) := by decide +kernel
theorem dX1_wayOf_60 : decode cX1_wayOf 60 = .ok (.dadd, 1) := by decide +kernel
theorem dX1_wayOf_61 : decode cX1_wayOf 61 = .ok (.dstore 4, 2) := by decide +kernel
theorem dX1_wayOf_63 : decode cX1_wayOf 63 = .ok (.iinc 6 1, 3) := by decide +kernel
theorem dX1_wayOf_66 : decode cX1_wayOf 66 = .ok (.goto (-60), 3) := by decide +kernel
theorem dX1_wayOf_69 : decode cX1_wayOf 69 = .ok (.dload 4, 2) := by decide +kernel
theorem dX1_wayOf_71 : decode cX1_wayOf 71 = .ok (.dreturn, 1) := by decide +kernel
theorem dX2_init_0 : decode cX2_init 0 = .ok (.aload_n 0, 1) := by decide +kernel
theorem dX2_init_1 : decode cX2_init 1 = .ok (.invokespecial 3, 3) := by decide +kernel
theorem dX2_init_4 : decode cX2_init 4 = .ok (.aload_n 0, 1) := by decide +kernel
theorem dX2_init_5 : decode cX2_init 5 = .ok (.bipush 60, 2) := by decide +kernel
theorem dX2_init_7 : decode cX2_init 7 = .ok (.newarray .char, 2) := by decide +kernel
theorem dX2_init_9 : decode cX2_init 9 = .ok (.putfield 9, 3) := by decide +kernel
theorem dX2_init_12 : decode cX2_init 12 = .ok (.aload_n 0, 1) := by decide +kernel
theorem dX2_init_13 : decode cX2_init 13 = .ok (.bipush 60, 2) := by decide +kernel
theorem dX2_init_15 : decode cX2_init 15 = .ok (.newarray .int, 2) := by decide +kernel
theorem dX2_init_17 : decode cX2_init 17 = .ok (.putfield 15, 3) := by decide +kernel
theorem dX2_init_20 : decode cX2_init 20 = .ok (.aload_n 0, 1) := by decide +kernel
theorem dX2_init_21 : decode cX2_init 21 = .ok (.iconst 0, 1) := by decide +kernel
theorem dX2_init_22 : decode cX2_init 22 = .ok (.putfield 19, 3) := by decide +kernel
theorem dX2_init_25 : decode cX2_init 25 = .ok (.aload_n 0, 1) := by decide +kernel
theorem dX2_init_26 : decode cX2_init 26 = .ok (.iconst 0, 1) := by decide +kernel
theorem dX2_init_27 : decode cX2_init 27 = .ok (.putfield 23, 3) := by decide +kernel
theorem dX2_init_30 : decode cX2_init 30 = .ok (.return_, 1) := by decide +kernel
theorem dX2_append_0 : decode cX2_append 0 = .ok (.aload_n 0, 1) := by decide +kernel
theorem dX2_append_1 : decode cX2_append 1 = .ok (.getfield 19, 3) := by decide +kernel
theorem dX2_append_4 : decode cX2_append 4 = .ok (.ifCond .lt 15, 3) := by decide +kernel
theorem dX2_append_7 : decode cX2_append 7 = .ok (.aload_n 0, 1) := by decide +kernel
theorem dX2_append_8 : decode cX2_append 8 = .ok (.getfield 19, 3) := by decide +kernel
theorem dX2_append_11 : decode cX2_append 11 = .ok (.aload_n 0, 1) := by decide +kernel
theorem dX2_append_12 : decode cX2_append 12 = .ok (.getfield 9, 3) := by decide +kernel
theorem dX2_append_15 : decode cX2_append 15 = .ok (.arraylength, 1) := by decide +kernel
theorem dX2_append_16 : decode cX2_append 16 = .ok (.if_icmp .lt 5, 3) := by decide +kernel
theorem dX2_append_19 : decode cX2_append 19 = .ok (.iconst 0, 1) := by decide +kernel
theorem dX2_append_20 : decode cX2_append 20 = .ok (.ireturn, 1) := by decide +kernel
theorem dX2_append_21 : decode cX2_append 21 = .ok (.aload_n 0, 1) := by decide +kernel
theorem dX2_append_22 : decode cX2_append 22 = .ok (.getfield 9, 3) := by decide +kernel
theorem dX2_append_25 : decode cX2_append 25 = .ok (.aload_n 0, 1) := by decide +kernel
theorem dX2_append_26 : decode cX2_append 26 = .ok (.getfield 19, 3) := by decide +kernel
theorem dX2_append_29 : decode cX2_append 29 = .ok (.iload_n 1, 1) := by decide +kernel
theorem dX2_append_30 : decode cX2_append 30 = .ok (.castore, 1) := by decide +kernel
theorem dX2_append_31 : decode cX2_append 31 = .ok (.aload_n 0, 1) := by decide +kernel
theorem dX2_append_32 : decode cX2_append 32 = .ok (.dup, 1) := by decide +kernel
theorem dX2_append_33 : decode cX2_append 33 = .ok (.getfield 19, 3) := by decide +kernel
theorem dX2_append_36 : decode cX2_append 36 = .ok (.iconst 1, 1) := by decide +kernel
theorem dX2_append_37 : decode cX2_append 37 = .ok (.iadd, 1) := by decide +kernel
theorem dX2_append_38 : decode cX2_append 38 = .ok (.putfield 19, 3) := by decide +kernel
theorem dX2_append_41 : decode cX2_append 41 = .ok (.iconst 1, 1) := by decide +kernel
theorem dX2_append_42 : decode cX2_append 42 = .ok (.ireturn, 1) := by decide +kernel
theorem dX2_readRows_0 : decode cX2_readRows 0 = .ok (.aload_n 0, 1) := by decide +kernel
theorem dX2_readRows_1 : decode cX2_readRows 1 = .ok (.iconst 0, 1) := by decide +kernel
theorem dX2_readRows_2 : decode cX2_readRows 2 = .ok (.putfield 23, 3) := by decide +kernel
theorem dX2_readRows_5 : decode cX2_readRows 5 = .ok (.bipush (-7), 2) := by decide +kernel
theorem dX2_readRows_7 : decode cX2_readRows 7 = .ok (.istore_n 1, 1) := by decide +kernel
theorem dX2_readRows_8 : decode cX2_readRows 8 = .ok (.iconst 0, 1) := by decide +kernel
theorem dX2_readRows_9 : decode cX2_readRows 9 = .ok (.istore_n 2, 1) := by decide +kernel
theorem dX2_readRows_10 : decode cX2_readRows 10 = .ok (.iload_n 2, 1) := by decide +kernel
theorem dX2_readRows_11 : decode cX2_readRows 11 = .ok (.aload_n 0, 1) := by decide +kernel
theorem dX2_readRows_12 : decode cX2_readRows 12 = .ok (.getfield 19, 3) := by decide +kernel
theorem dX2_readRows_15 : decode cX2_readRows 15 = .ok (.if_icmp .ge 73, 3) := by decide +kernel
theorem dX2_readRows_18 : decode cX2_readRows 18 = .ok (.iload_n 2, 1) := by decide +kernel
theorem dX2_readRows_19 : decode cX2_readRows 19 = .ok (.aload_n 0, 1) := by decide +kernel
theorem dX2_readRows_20 : decode cX2_readRows 20 = .ok (.getfield 9, 3) := by decide +kernel
theorem dX2_readRows_23 : decode cX2_readRows 23 = .ok (.arraylength, 1) := by decide +kernel
theorem dX2_readRows_24 : decode cX2_readRows 24 = .ok (.if_icmp .ge 64, 3) := by decide +kernel
theorem dX2_readRows_27 : decode cX2_readRows 27 = .ok (.aload_n 0, 1) := by decide +kernel
theorem dX2_readRows_28 : decode cX2_readRows 28 = .ok (.getfield 9, 3) := by decide +kernel
theorem dX2_readRows_31 : decode cX2_readRows 31 = .ok (.iload_n 2, 1) := by decide +kernel
theorem dX2_readRows_32 : decode cX2_readRows 32 = .ok (.caload, 1) := by decide +kernel
theorem dX2_readRows_33 : decode cX2_readRows 33 = .ok (.istore_n 3, 1) := by decide +kernel
theorem dX2_readRows_34 : decode cX2_readRows 34 = .ok (.aload_n 0, 1) := by decide +kernel
theorem dX2_readRows_35 : decode cX2_readRows 35 = .ok (.iload_n 1, 1) := by decide +kernel
theorem dX2_readRows_36 : decode cX2_readRows 36 = .ok (.iload_n 3, 1) := by decide +kernel
theorem dX2_readRows_37 : decode cX2_readRows 37 = .ok (.invokevirtual 26, 3) := by decide +kernel
theorem dX2_readRows_40 : decode cX2_readRows 40 = .ok (.istore 4, 2) := by decide +kernel
theorem dX2_readRows_42 : decode cX2_readRows 42 = .ok (.iload 4, 2) := by decide +kernel
theorem dX2_readRows_44 : decode cX2_readRows 44 = .ok (.bipush (-8), 2) := by decide +kernel
theorem dX2_readRows_46 : decode cX2_readRows 46 = .ok (.if_icmp .eq 9, 3) := by decide +kernel
theorem dX2_readRows_49 : decode cX2_readRows 49 = .ok (.iload 4, 2) := by decide +kernel
theorem dX2_readRows_51 : decode cX2_readRows 51 = .ok (.istore_n 1, 1) := by decide +kernel
theorem dX2_readRows_52 : decode cX2_readRows 52 = .ok (.goto 30, 3) := by decide +kernel
theorem dX2_readRows_55 : decode cX2_readRows 55 = .ok (.iload_n 1, 1) := by decide +kernel
theorem dX2_readRows_56 : decode cX2_readRows 56 = .ok (.bipush (-7), 2) := by decide +kernel
theorem dX2_readRows_58 : decode cX2_readRows 58 = .ok (.if_icmp .eq 22, 3) := by decide +kernel
theorem dX2_readRows_61 : decode cX2_readRows 61 = .ok (.iload_n 3, 1) := by decide +kernel
theorem dX2_readRows_62 : decode cX2_readRows 62 = .ok (.aload_n 0, 1) := by decide +kernel
theorem dX2_readRows_63 : decode cX2_readRows 63 = .ok (.invokevirtual 30, 3) := by decide +kernel
theorem dX2_readRows_66 : decode cX2_readRows 66 = .ok (.if_icmp .ne 14, 3) := by decide +kernel
theorem dX2_readRows_69 : decode cX2_readRows 69 = .ok (.aload_n 0, 1) := by decide +kernel
theorem dX2_readRows_70 : decode cX2_readRows 70 = .ok (.iload_n 1, 1) := by decide +kernel
theorem dX2_readRows_71 : decode cX2_readRows 71 = .ok (.invokevirtual 34, 3) := by decide +kernel
theorem dX2_readRows_74 : decode cX2_readRows 74 = .ok (.bipush (-7), 2) := by decide +kernel
theorem dX2_readRows_76 : decode cX2_readRows 76 = .ok (.istore_n 1, 1) := by decide +kernel
theorem dX2_readRows_77 : decode cX2_readRows 77 = .ok (.goto 5, 3) := by decide +kernel
theorem dX2_readRows_80 : decode cX2_readRows 80 = .ok (.iload_n 2, 1) := by decide +kernel
theorem dX2_readRows_81 : decode cX2_readRows 81 = .ok (.ireturn, 1) := by decide +kernel
theorem dX2_readRows_82 : decode cX2_readRows 82 = .ok (.iinc 2 1, 3) := by decide +kernel
theorem dX2_readRows_85 : decode cX2_readRows 85 = .ok (.goto (-75), 3) := by decide +kernel
theorem dX2_readRows_88 : decode cX2_readRows 88 = .ok (.iload_n 1, 1) := by decide +kernel
theorem dX2_readRows_89 : decode cX2_readRows 89 = .ok (.bipush (-7), 2) := by decide +kernel
theorem dX2_readRows_91 : decode cX2_readRows 91 = .ok (.if_icmp .eq 11, 3) := by decide +kernel
theorem dX2_readRows_94 : decode cX2_readRows 94 = .ok (.aload_n 0, 1) := by decide +kernel
theorem dX2_readRows_95 : decode cX2_readRows 95 = .ok (.invokevirtual 38, 3) := by decide +kernel
theorem dX2_readRows_98 : decode cX2_readRows 98 = .ok (.iconst 3, 1) := by decide +kernel
theorem dX2_readRows_99 : decode cX2_readRows 99 = .ok (.if_icmp .eq 8, 3) := by decide +kernel
theorem dX2_readRows_102 : decode cX2_readRows 102 = .ok (.aload_n 0, 1) := by decide +kernel
theorem dX2_readRows_103 : decode cX2_readRows 103 = .ok (.getfield 19, 3) := by decide +kernel
theorem dX2_readRows_106 : decode cX2_readRows 106 = .ok (.ireturn, 1) := by decide +kernel
theorem dX2_readRows_107 : decode cX2_readRows 107 = .ok (.aload_n 0, 1) := by decide +kernel
theorem dX2_readRows_108 : decode cX2_readRows 108 = .ok (.iload_n 1, 1) := by decide +kernel
theorem dX2_readRows_109 : decode cX2_readRows 109 = .ok (.invokevirtual 34, 3) := by decide +kernel
theorem dX2_readRows_112 : decode cX2_readRows 112 = .ok (.iconst (-1), 1) := by decide +kernel
theorem dX2_readRows_113 : decode cX2_readRows 113 = .ok (.ireturn, 1) := by decide +kernel
theorem dX2_columnRead_0 : decode cX2_columnRead 0 = .ok (.aload_n 0, 1) := by decide +kernel
theorem dX2_columnRead_1 : decode cX2_columnRead 1 = .ok (.getfield 23, 3) := by decide +kernel
theorem dX2_columnRead_4 : decode cX2_columnRead 4 = .ok (.iconst 4, 1) := by decide +kernel
theorem dX2_columnRead_5 : decode cX2_columnRead 5 = .ok (.irem, 1) := by decide +kernel
theorem dX2_columnRead_6 : decode cX2_columnRead 6 = .ok (.ireturn, 1) := by decide +kernel
theorem dX2_separator_0 : decode cX2_separator 0 = .ok (.aload_n 0, 1) := by decide +kernel
theorem dX2_separator_1 : decode cX2_separator 1 = .ok (.invokevirtual 38, 3) := by decide +kernel
theorem dX2_separator_4 : decode cX2_separator 4 = .ok (.iconst 3, 1) := by decide +kernel
theorem dX2_separator_5 : decode cX2_separator 5 = .ok (.if_icmp .ne 8, 3) := by decide +kernel
theorem dX2_separator_8 : decode cX2_separator 8 = .ok (.bipush 59, 2) := by decide +kernel
theorem dX2_separator_10 : decode cX2_separator 10 = .ok (.goto 5, 3) := by decide +kernel
theorem dX2_separator_13 : decode cX2_separator 13 = .ok (.bipush 44, 2) := by decide +kernel
theorem dX2_separator_15 : decode cX2_separator 15 = .ok (.ireturn, 1) := by decide +kernel
theorem dX2_grownBy_0 : decode cX2_grownBy 0 = .ok (.iload_n 2, 1) := by decide +kernel
theorem dX2_grownBy_1 : decode cX2_grownBy 1 = .ok (.bipush 48, 2) := by decide +kernel
theorem dX2_grownBy_3 : decode cX2_grownBy 3 = .ok (.if_icmp .lt 19, 3) := by decide +kernel
theorem dX2_grownBy_6 : decode cX2_grownBy 6 = .ok (.iload_n 2, 1) := by decide +kernel
theorem dX2_grownBy_7 : decode cX2_grownBy 7 = .ok (.bipush 57, 2) := by decide +kernel
theorem dX2_grownBy_9 : decode cX2_grownBy 9 = .ok (.if_icmp .gt 13, 3) := by decide +kernel
theorem dX2_grownBy_12 : decode cX2_grownBy 12 = .ok (.aload_n 0, 1) := by decide +kernel
theorem dX2_grownBy_13 : decode cX2_grownBy 13 = .ok (.iload_n 1, 1) := by decide +kernel
theorem dX2_grownBy_14 : decode cX2_grownBy 14 = .ok (.iload_n 2, 1) := by decide +kernel
theorem dX2_grownBy_15 : decode cX2_grownBy 15 = .ok (.bipush 48, 2) := by decide +kernel
theorem dX2_grownBy_17 : decode cX2_grownBy 17 = .ok (.isub, 1) := by decide +kernel
theorem dX2_grownBy_18 : decode cX2_grownBy 18 = .ok (.invokevirtual 42, 3) := by decide +kernel
theorem dX2_grownBy_21 : decode cX2_grownBy 21 = .ok (.ireturn, 1) := by decide +kernel
theorem dX2_grownBy_22 : decode cX2_grownBy 22 = .ok (.iload_n 1, 1) := by decide +kernel
theorem dX2_grownBy_23 : decode cX2_grownBy 23 = .ok (.bipush (-7), 2) := by decide +kernel
theorem dX2_grownBy_25 : decode cX2_grownBy 25 = .ok (.if_icmp .ne 12, 3) := by decide +kernel
theorem dX2_grownBy_28 : decode cX2_grownBy 28 = .ok (.iload_n 2, 1) := by decide +kernel
theorem dX2_grownBy_29 : decode cX2_grownBy 29 = .ok (.bipush 45, 2) := by decide +kernel
theorem dX2_grownBy_31 : decode cX2_grownBy 31 = .ok (.if_icmp .ne 6, 3) := by decide +kernel
theorem dX2_grownBy_34 : decode cX2_grownBy 34 = .ok (.bipush (-5), 2) := by decide +kernel
theorem dX2_grownBy_36 : decode cX2_grownBy 36 = .ok (.ireturn, 1) := by decide +kernel
theorem dX2_grownBy_37 : decode cX2_grownBy 37 = .ok (.iload_n 1, 1) := by decide +kernel
theorem dX2_grownBy_38 : decode cX2_grownBy 38 = .ok (.bipush (-7), 2) := by decide +kernel
theorem dX2_grownBy_40 : decode cX2_grownBy 40 = .ok (.if_icmp .ne 14, 3) := by decide +kernel
theorem dX2_grownBy_43 : decode cX2_grownBy 43 = .ok (.iload_n 2, 1) := by decide +kernel
theorem dX2_grownBy_44 : decode cX2_grownBy 44 = .ok (.bipush 39, 2) := by decide +kernel
theorem dX2_grownBy_46 : decode cX2_grownBy 46 = .ok (.if_icmp .ne 8, 3) := by decide +kernel
theorem dX2_grownBy_49 : decode cX2_grownBy 49 = .ok (.bipush (-6), 2) := by decide +kernel
theorem dX2_grownBy_51 : decode cX2_grownBy 51 = .ok (.goto 5, 3) := by decide +kernel
theorem dX2_grownBy_54 : decode cX2_grownBy 54 = .ok (.bipush (-8), 2) := by decide +kernel
theorem dX2_grownBy_56 : decode cX2_grownBy 56 = .ok (.ireturn, 1) := by decide +kernel
theorem dX2_withDigit_0 : decode cX2_withDigit 0 = .ok (.iload_n 1, 1) := by decide +kernel
theorem dX2_withDigit_1 : decode cX2_withDigit 1 = .ok (.bipush (-7), 2) := by decide +kernel
theorem dX2_withDigit_3 : decode cX2_withDigit 3 = .ok (.if_icmp .eq 10, 3) := by decide +kernel
theorem dX2_withDigit_6 : decode cX2_withDigit 6 = .ok (.iload_n 1, 1) := by decide +kernel
theorem dX2_withDigit_7 : decode cX2_withDigit 7 = .ok (.ifCond .gt 6, 3) := by decide +kernel
theorem dX2_withDigit_10 : decode cX2_withDigit 10 = .ok (.bipush (-8), 2) := by decide +kernel
theorem dX2_withDigit_12 : decode cX2_withDigit 12 = .ok (.ireturn, 1) := by decide +kernel
theorem dX2_withDigit_13 : decode cX2_withDigit 13 = .ok (.iload_n 1, 1) := by decide +kernel
theorem dX2_withDigit_14 : decode cX2_withDigit 14 = .ok (.bipush (-7), 2) := by decide +kernel
theorem dX2_withDigit_16 : decode cX2_withDigit 16 = .ok (.if_icmp .ne 7, 3) := by decide +kernel
theorem dX2_withDigit_19 : decode cX2_withDigit 19 = .ok (.iload_n 2, 1) := by decide +kernel
theorem dX2_withDigit_20 : decode cX2_withDigit 20 = .ok (.goto 9, 3) := by decide +kernel
theorem dX2_withDigit_23 : decode cX2_withDigit 23 = .ok (.iload_n 1, 1) := by decide +kernel
theorem dX2_withDigit_24 : decode cX2_withDigit 24 = .ok (.bipush 10, 2) := by decide +kernel
theorem dX2_withDigit_26 : decode cX2_withDigit 26 = .ok (.imul, 1) := by decide +kernel
theorem dX2_withDigit_27 : decode cX2_withDigit 27 = .ok (.iload_n 2, 1) := by decide +kernel
theorem dX2_withDigit_28 : decode cX2_withDigit 28 = .ok (.iadd, 1) := by decide +kernel
theorem dX2_withDigit_29 : decode cX2_withDigit 29 = .ok (.istore_n 3, 1) := by decide +kernel
theorem dX2_withDigit_30 : decode cX2_withDigit 30 = .ok (.iload_n 3, 1) := by decide +kernel
theorem dX2_withDigit_31 : decode cX2_withDigit 31 = .ok (.getstatic 46, 3) := by decide +kernel
theorem dX2_withDigit_34 : decode cX2_withDigit 34 = .ok (.aload_n 0, 1) := by decide +kernel
theorem dX2_withDigit_35 : decode cX2_withDigit 35 = .ok (.invokevirtual 38, 3) := by decide +kernel
theorem dX2_withDigit_38 : decode cX2_withDigit 38 = .ok (.invokestatic 49, 3) := by decide +kernel
theorem dX2_withDigit_41 : decode cX2_withDigit 41 = .ok (.if_icmp .gt 7, 3) := by decide +kernel
theorem dX2_withDigit_44 : decode cX2_withDigit 44 = .ok (.iload_n 3, 1) := by decide +kernel
theorem dX2_withDigit_45 : decode cX2_withDigit 45 = .ok (.goto 5, 3) := by decide +kernel
theorem dX2_withDigit_48 : decode cX2_withDigit 48 = .ok (.bipush (-8), 2) := by decide +kernel
theorem dX2_withDigit_50 : decode cX2_withDigit 50 = .ok (.ireturn, 1) := by decide +kernel
theorem dX2_endCell_0 : decode cX2_endCell 0 = .ok (.aload_n 0, 1) := by decide +kernel
theorem dX2_endCell_1 : decode cX2_endCell 1 = .ok (.getfield 23, 3) := by decide +kernel
theorem dX2_endCell_4 : decode cX2_endCell 4 = .ok (.ifCond .lt 35, 3) := by decide +kernel
theorem dX2_endCell_7 : decode cX2_endCell 7 = .ok (.aload_n 0, 1) := by decide +kernel
theorem dX2_endCell_8 : decode cX2_endCell 8 = .ok (.getfield 23, 3) := by decide +kernel
theorem dX2_endCell_11 : decode cX2_endCell 11 = .ok (.aload_n 0, 1) := by decide +kernel
theorem dX2_endCell_12 : decode cX2_endCell 12 = .ok (.getfield 15, 3) := by decide +kernel
theorem dX2_endCell_15 : decode cX2_endCell 15 = .ok (.arraylength, 1) := by decide +kernel
theorem dX2_endCell_16 : decode cX2_endCell 16 = .ok (.if_icmp .ge 23, 3) := by decide +kernel
theorem dX2_endCell_19 : decode cX2_endCell 19 = .ok (.aload_n 0, 1) := by decide +kernel
theorem dX2_endCell_20 : decode cX2_endCell 20 = .ok (.getfield 15, 3) := by decide +kernel
theorem dX2_endCell_23 : decode cX2_endCell 23 = .ok (.aload_n 0, 1) := by decide +kernel
theorem dX2_endCell_24 : decode cX2_endCell 24 = .ok (.getfield 23, 3) := by decide +kernel
theorem dX2_endCell_27 : decode cX2_endCell 27 = .ok (.iload_n 1, 1) := by decide +kernel
theorem dX2_endCell_28 : decode cX2_endCell 28 = .ok (.iastore, 1) := by decide +kernel
theorem dX2_endCell_29 : decode cX2_endCell 29 = .ok (.aload_n 0, 1) := by decide +kernel
theorem dX2_endCell_30 : decode cX2_endCell 30 = .ok (.dup, 1) := by decide +kernel
theorem dX2_endCell_31 : decode cX2_endCell 31 = .ok (.getfield 23, 3) := by decide +kernel
theorem dX2_endCell_34 : decode cX2_endCell 34 = .ok (.iconst 1, 1) := by decide +kernel
theorem dX2_endCell_35 : decode cX2_endCell 35 = .ok (.iadd, 1) := by decide +kernel
theorem dX2_endCell_36 : decode cX2_endCell 36 = .ok (.putfield 23, 3) := by decide +kernel
theorem dX2_endCell_39 : decode cX2_endCell 39 = .ok (.return_, 1) := by decide +kernel
theorem dX2_rowsRead_0 : decode cX2_rowsRead 0 = .ok (.aload_n 0, 1) := by decide +kernel
theorem dX2_rowsRead_1 : decode cX2_rowsRead 1 = .ok (.getfield 23, 3) := by decide +kernel
theorem dX2_rowsRead_4 : decode cX2_rowsRead 4 = .ok (.iconst 4, 1) := by decide +kernel
theorem dX2_rowsRead_5 : decode cX2_rowsRead 5 = .ok (.idiv, 1) := by decide +kernel
theorem dX2_rowsRead_6 : decode cX2_rowsRead 6 = .ok (.ireturn, 1) := by decide +kernel
theorem dX2_read_0 : decode cX2_read 0 = .ok (.aload_n 0, 1) := by decide +kernel
theorem dX2_read_1 : decode cX2_read 1 = .ok (.getfield 15, 3) := by decide +kernel
theorem dX2_read_4 : decode cX2_read 4 = .ok (.iload_n 1, 1) := by decide +kernel
theorem dX2_read_5 : decode cX2_read 5 = .ok (.iconst 4, 1) := by decide +kernel
theorem dX2_read_6 : decode cX2_read 6 = .ok (.imul, 1) := by decide +kernel
theorem dX2_read_7 : decode cX2_read 7 = .ok (.iload_n 2, 1) := by decide +kernel
theorem dX2_read_8 : decode cX2_read 8 = .ok (.iadd, 1) := by decide +kernel
theorem dX2_read_9 : decode cX2_read 9 = .ok (.invokestatic 49, 3) := by decide +kernel
theorem dX2_read_12 : decode cX2_read 12 = .ok (.ireturn, 1) := by decide +kernel
theorem dJxf58ca_isNaN_12338_0 : decode cJxf58ca_isNaN_12338 0 = .ok (.fload_n 0, 1) := by decide +kernel
theorem dJxf58ca_isNaN_12338_1 : decode cJxf58ca_isNaN_12338 1 = .ok (.fload_n 0, 1) := by decide +kernel
theorem dJxf58ca_isNaN_12338_2 : decode cJxf58ca_isNaN_12338 2 = .ok (.fcmp .l, 1) := by decide +kernel
theorem dJxf58ca_isNaN_12338_3 : decode cJxf58ca_isNaN_12338 3 = .ok (.ifCond .eq 7, 3) := by decide +kernel
theorem dJxf58ca_isNaN_12338_6 : decode cJxf58ca_isNaN_12338 6 = .ok (.iconst 1, 1) := by decide +kernel
theorem dJxf58ca_isNaN_12338_7 : decode cJxf58ca_isNaN_12338 7 = .ok (.goto 4, 3) := by decide +kernel
theorem dJxf58ca_isNaN_12338_10 : decode cJxf58ca_isNaN_12338 10 = .ok (.iconst 0, 1) := by decide +kernel
theorem dJxf58ca_isNaN_12338_11 : decode cJxf58ca_isNaN_12338 11 = .ok (.ireturn, 1) := by decide +kernel
theorem dJxf58ca_floatToIntBits_5c35a_0 : decode cJxf58ca_floatToIntBits_5c35a 0 = .ok (.fload_n 0, 1) := by decide +kernel
theorem dJxf58ca_floatToIntBits_5c35a_1 : decode cJxf58ca_floatToIntBits_5c35a 1 = .ok (.invokestatic 59, 3) := by decide +kernel
theorem dJxf58ca_floatToIntBits_5c35a_4 : decode cJxf58ca_floatToIntBits_5c35a 4 = .ok (.ifCond .ne 8, 3) := by decide +kernel
theorem dJxf58ca_floatToIntBits_5c35a_7 : decode cJxf58ca_floatToIntBits_5c35a 7 = .ok (.fload_n 0, 1) := by decide +kernel
theorem dJxf58ca_floatToIntBits_5c35a_8 : decode cJxf58ca_floatToIntBits_5c35a 8 = .ok (.invokestatic 74, 3) := by decide +kernel
theorem dJxf58ca_floatToIntBits_5c35a_11 : decode cJxf58ca_floatToIntBits_5c35a 11 = .ok (.ireturn, 1) := by decide +kernel
theorem dJxf58ca_floatToIntBits_5c35a_12 : decode cJxf58ca_floatToIntBits_5c35a 12 = .ok (.ldc 77, 2) := by decide +kernel
theorem dJxf58ca_floatToIntBits_5c35a_14 : decode cJxf58ca_floatToIntBits_5c35a 14 = .ok (.ireturn, 1) := by decide +kernel
theorem dJ9_max_7cf53_0 : decode cJ9_max_7cf53 0 = .ok (.iload_n 0, 1) := by decide +kernel
theorem dJ9_max_7cf53_1 : decode cJ9_max_7cf53 1 = .ok (.iload_n 1, 1) := by decide +kernel
theorem dJ9_max_7cf53_2 : decode cJ9_max_7cf53 2 = .ok (.if_icmp .lt 7, 3) := by decide +kernel
theorem dJ9_max_7cf53_5 : decode cJ9_max_7cf53 5 = .ok (.iload_n 0, 1) := by decide +kernel
theorem dJ9_max_7cf53_6 : decode cJ9_max_7cf53 6 = .ok (.goto 4, 3) := by decide +kernel
theorem dJ9_max_7cf53_9 : decode cJ9_max_7cf53 9 = .ok (.iload_n 1, 1) := by decide +kernel
theorem dJ9_max_7cf53_10 : decode cJ9_max_7cf53 10 = .ok (.ireturn, 1) := by decide +kernel
theorem dJ9_min_7cf53_0 : decode cJ9_min_7cf53 0 = .ok (.iload_n 0, 1) := by decide +kernel
theorem dJ9_min_7cf53_1 : decode cJ9_min_7cf53 1 = .ok (.iload_n 1, 1) := by decide +kernel
theorem dJ9_min_7cf53_2 : decode cJ9_min_7cf53 2 = .ok (.if_icmp .gt 7, 3) := by decide +kernel
theorem dJ9_min_7cf53_5 : decode cJ9_min_7cf53 5 = .ok (.iload_n 0, 1) := by decide +kernel
theorem dJ9_min_7cf53_6 : decode cJ9_min_7cf53 6 = .ok (.goto 4, 3) := by decide +kernel
theorem dJ9_min_7cf53_9 : decode cJ9_min_7cf53 9 = .ok (.iload_n 1, 1) := by decide +kernel
theorem dJ9_min_7cf53_10 : decode cJ9_min_7cf53 10 = .ok (.ireturn, 1) := by decide +kernel
theorem dJ7_fill_53178_0 : decode cJ7_fill_53178 0 = .ok (.iconst 0, 1) := by decide +kernel
theorem dJ7_fill_53178_1 : decode cJ7_fill_53178 1 = .ok (.istore_n 2, 1) := by decide +kernel
theorem dJ7_fill_53178_2 : decode cJ7_fill_53178 2 = .ok (.aload_n 0, 1) := by decide +kernel
theorem dJ7_fill_53178_3 : decode cJ7_fill_53178 3 = .ok (.arraylength, 1) := by decide +kernel
theorem dJ7_fill_53178_4 : decode cJ7_fill_53178 4 = .ok (.istore_n 3, 1) := by decide +kernel
theorem dJ7_fill_53178_5 : decode cJ7_fill_53178 5 = .ok (.iload_n 2, 1) := by decide +kernel
theorem dJ7_fill_53178_6 : decode cJ7_fill_53178 6 = .ok (.iload_n 3, 1) := by decide +kernel
theorem dJ7_fill_53178_7 : decode cJ7_fill_53178 7 = .ok (.if_icmp .ge 13, 3) := by decide +kernel
theorem dJ7_fill_53178_10 : decode cJ7_fill_53178 10 = .ok (.aload_n 0, 1) := by decide +kernel
theorem dJ7_fill_53178_11 : decode cJ7_fill_53178 11 = .ok (.iload_n 2, 1) := by decide +kernel
theorem dJ7_fill_53178_12 : decode cJ7_fill_53178 12 = .ok (.iload_n 1, 1) := by decide +kernel
theorem dJ7_fill_53178_13 : decode cJ7_fill_53178 13 = .ok (.iastore, 1) := by decide +kernel
theorem dJ7_fill_53178_14 : decode cJ7_fill_53178 14 = .ok (.iinc 2 1, 3) := by decide +kernel
theorem dJ7_fill_53178_17 : decode cJ7_fill_53178 17 = .ok (.goto (-12), 3) := by decide +kernel
theorem dJ7_fill_53178_20 : decode cJ7_fill_53178 20 = .ok (.return_, 1) := by decide +kernel

theorem d_Lo_pickedOption_0 : decode b_Lo_pickedOption 0 = .ok (.aload_n 0, 1) := by decide +kernel
theorem d_Lo_pickedOption_1 : decode b_Lo_pickedOption 1 = .ok (.getfield 35, 3) := by decide +kernel
theorem d_Lo_pickedOption_4 : decode b_Lo_pickedOption 4 = .ok (.ifCond .lt 26, 3) := by decide +kernel
theorem d_Lo_pickedOption_7 : decode b_Lo_pickedOption 7 = .ok (.aload_n 0, 1) := by decide +kernel
theorem d_Lo_pickedOption_8 : decode b_Lo_pickedOption 8 = .ok (.getfield 35, 3) := by decide +kernel
theorem d_Lo_pickedOption_11 : decode b_Lo_pickedOption 11 = .ok (.aload_n 0, 1) := by decide +kernel
theorem d_Lo_pickedOption_12 : decode b_Lo_pickedOption 12 = .ok (.getfield 32, 3) := by decide +kernel
theorem d_Lo_pickedOption_15 : decode b_Lo_pickedOption 15 = .ok (.if_icmp .ge 15, 3) := by decide +kernel
theorem d_Lo_pickedOption_18 : decode b_Lo_pickedOption 18 = .ok (.aload_n 0, 1) := by decide +kernel
theorem d_Lo_pickedOption_19 : decode b_Lo_pickedOption 19 = .ok (.getfield 11, 3) := by decide +kernel
theorem d_Lo_pickedOption_22 : decode b_Lo_pickedOption 22 = .ok (.aload_n 0, 1) := by decide +kernel
theorem d_Lo_pickedOption_23 : decode b_Lo_pickedOption 23 = .ok (.getfield 35, 3) := by decide +kernel
theorem d_Lo_pickedOption_26 : decode b_Lo_pickedOption 26 = .ok (.aaload, 1) := by decide +kernel
theorem d_Lo_pickedOption_27 : decode b_Lo_pickedOption 27 = .ok (.goto 4, 3) := by decide +kernel
theorem d_Lo_pickedOption_30 : decode b_Lo_pickedOption 30 = .ok (.aconst_null, 1) := by decide +kernel
theorem d_Lo_pickedOption_31 : decode b_Lo_pickedOption 31 = .ok (.areturn, 1) := by decide +kernel
theorem d_Lo_comeAndHold_0 : decode b_Lo_comeAndHold 0 = .ok (.aload_n 0, 1) := by decide +kernel
theorem d_Lo_comeAndHold_1 : decode b_Lo_comeAndHold 1 = .ok (.aload_n 0, 1) := by decide +kernel
theorem d_Lo_comeAndHold_2 : decode b_Lo_comeAndHold 2 = .ok (.getfield 17, 3) := by decide +kernel
theorem d_Lo_comeAndHold_5 : decode b_Lo_comeAndHold 5 = .ok (.invokevirtual 60, 3) := by decide +kernel
theorem d_Lo_comeAndHold_8 : decode b_Lo_comeAndHold 8 = .ok (.putfield 64, 3) := by decide +kernel
theorem d_Lo_comeAndHold_11 : decode b_Lo_comeAndHold 11 = .ok (.aload_n 0, 1) := by decide +kernel
theorem d_Lo_comeAndHold_12 : decode b_Lo_comeAndHold 12 = .ok (.invokevirtual 67, 3) := by decide +kernel
theorem d_Lo_comeAndHold_15 : decode b_Lo_comeAndHold 15 = .ok (.astore_n 1, 1) := by decide +kernel
theorem d_Lo_comeAndHold_16 : decode b_Lo_comeAndHold 16 = .ok (.aload_n 1, 1) := by decide +kernel
theorem d_Lo_comeAndHold_17 : decode b_Lo_comeAndHold 17 = .ok (.ifnull 33, 3) := by decide +kernel
theorem d_Lo_comeAndHold_20 : decode b_Lo_comeAndHold 20 = .ok (.aload_n 1, 1) := by decide +kernel
theorem d_Lo_comeAndHold_21 : decode b_Lo_comeAndHold 21 = .ok (.getfield 71, 3) := by decide +kernel
theorem d_Lo_comeAndHold_24 : decode b_Lo_comeAndHold 24 = .ok (.iconst 1, 1) := by decide +kernel
theorem d_Lo_comeAndHold_25 : decode b_Lo_comeAndHold 25 = .ok (.if_icmp .ne 25, 3) := by decide +kernel
theorem d_Lo_comeAndHold_28 : decode b_Lo_comeAndHold 28 = .ok (.aload_n 1, 1) := by decide +kernel
theorem d_Lo_comeAndHold_29 : decode b_Lo_comeAndHold 29 = .ok (.getfield 57, 3) := by decide +kernel
theorem d_Lo_comeAndHold_32 : decode b_Lo_comeAndHold 32 = .ok (.ifnull 18, 3) := by decide +kernel
theorem d_Lo_comeAndHold_35 : decode b_Lo_comeAndHold 35 = .ok (.aload_n 1, 1) := by decide +kernel
theorem d_Lo_comeAndHold_36 : decode b_Lo_comeAndHold 36 = .ok (.getfield 57, 3) := by decide +kernel
theorem d_Lo_comeAndHold_39 : decode b_Lo_comeAndHold 39 = .ok (.aload_n 0, 1) := by decide +kernel
theorem d_Lo_comeAndHold_40 : decode b_Lo_comeAndHold 40 = .ok (.getfield 64, 3) := by decide +kernel
theorem d_Lo_comeAndHold_43 : decode b_Lo_comeAndHold 43 = .ok (.ldc2_w 74, 3) := by decide +kernel
theorem d_Lo_comeAndHold_46 : decode b_Lo_comeAndHold 46 = .ok (.ladd, 1) := by decide +kernel
theorem d_Lo_comeAndHold_47 : decode b_Lo_comeAndHold 47 = .ok (.invokevirtual 76, 3) := by decide +kernel
theorem d_Lo_comeAndHold_50 : decode b_Lo_comeAndHold 50 = .ok (.return_, 1) := by decide +kernel
theorem d_Lo_isDirect_0 : decode b_Lo_isDirect 0 = .ok (.aload_n 0, 1) := by decide +kernel
theorem d_Lo_isDirect_1 : decode b_Lo_isDirect 1 = .ok (.getfield 17, 3) := by decide +kernel
theorem d_Lo_isDirect_4 : decode b_Lo_isDirect 4 = .ok (.getfield 41, 3) := by decide +kernel
theorem d_Lo_isDirect_7 : decode b_Lo_isDirect 7 = .ok (.aload_n 0, 1) := by decide +kernel
theorem d_Lo_isDirect_8 : decode b_Lo_isDirect 8 = .ok (.getfield 21, 3) := by decide +kernel
theorem d_Lo_isDirect_11 : decode b_Lo_isDirect 11 = .ok (.if_icmp .ne 7, 3) := by decide +kernel
theorem d_Lo_isDirect_14 : decode b_Lo_isDirect 14 = .ok (.iconst 1, 1) := by decide +kernel
theorem d_Lo_isDirect_15 : decode b_Lo_isDirect 15 = .ok (.goto 4, 3) := by decide +kernel
theorem d_Lo_isDirect_18 : decode b_Lo_isDirect 18 = .ok (.iconst 0, 1) := by decide +kernel
theorem d_Lo_isDirect_19 : decode b_Lo_isDirect 19 = .ok (.ireturn, 1) := by decide +kernel
theorem d_Lo_catches_0 : decode b_Lo_catches 0 = .ok (.aload_n 1, 1) := by decide +kernel
theorem d_Lo_catches_1 : decode b_Lo_catches 1 = .ok (.getfield 97, 3) := by decide +kernel
theorem d_Lo_catches_4 : decode b_Lo_catches 4 = .ok (.aload_n 0, 1) := by decide +kernel
theorem d_Lo_catches_5 : decode b_Lo_catches 5 = .ok (.getfield 64, 3) := by decide +kernel
theorem d_Lo_catches_8 : decode b_Lo_catches 8 = .ok (.ldc2_w 74, 3) := by decide +kernel
theorem d_Lo_catches_11 : decode b_Lo_catches 11 = .ok (.ladd, 1) := by decide +kernel
theorem d_Lo_catches_12 : decode b_Lo_catches 12 = .ok (.lcmp, 1) := by decide +kernel
theorem d_Lo_catches_13 : decode b_Lo_catches 13 = .ok (.ifCond .lt 7, 3) := by decide +kernel
theorem d_Lo_catches_16 : decode b_Lo_catches 16 = .ok (.iconst 1, 1) := by decide +kernel
theorem d_Lo_catches_17 : decode b_Lo_catches 17 = .ok (.goto 4, 3) := by decide +kernel
theorem d_Lo_catches_20 : decode b_Lo_catches 20 = .ok (.iconst 0, 1) := by decide +kernel
theorem d_Lo_catches_21 : decode b_Lo_catches 21 = .ok (.ireturn, 1) := by decide +kernel
theorem d_Lo_arrive_0 : decode b_Lo_arrive 0 = .ok (.aload_n 0, 1) := by decide +kernel
theorem d_Lo_arrive_1 : decode b_Lo_arrive 1 = .ok (.invokevirtual 67, 3) := by decide +kernel
theorem d_Lo_arrive_4 : decode b_Lo_arrive 4 = .ok (.astore_n 1, 1) := by decide +kernel
theorem d_Lo_arrive_5 : decode b_Lo_arrive 5 = .ok (.aload_n 0, 1) := by decide +kernel
theorem d_Lo_arrive_6 : decode b_Lo_arrive 6 = .ok (.iconst 0, 1) := by decide +kernel
theorem d_Lo_arrive_7 : decode b_Lo_arrive 7 = .ok (.putfield 80, 3) := by decide +kernel
theorem d_Lo_arrive_10 : decode b_Lo_arrive 10 = .ok (.aload_n 0, 1) := by decide +kernel
theorem d_Lo_arrive_11 : decode b_Lo_arrive 11 = .ok (.invokevirtual 84, 3) := by decide +kernel
theorem d_Lo_arrive_14 : decode b_Lo_arrive 14 = .ok (.ifCond .eq 14, 3) := by decide +kernel
theorem d_Lo_arrive_17 : decode b_Lo_arrive 17 = .ok (.aload_n 0, 1) := by decide +kernel
theorem d_Lo_arrive_18 : decode b_Lo_arrive 18 = .ok (.aload_n 0, 1) := by decide +kernel
theorem d_Lo_arrive_19 : decode b_Lo_arrive 19 = .ok (.getfield 64, 3) := by decide +kernel
theorem d_Lo_arrive_22 : decode b_Lo_arrive 22 = .ok (.putfield 87, 3) := by decide +kernel
theorem d_Lo_arrive_25 : decode b_Lo_arrive 25 = .ok (.goto 83, 3) := by decide +kernel
theorem d_Lo_arrive_28 : decode b_Lo_arrive 28 = .ok (.aload_n 1, 1) := by decide +kernel
theorem d_Lo_arrive_29 : decode b_Lo_arrive 29 = .ok (.ifnull 26, 3) := by decide +kernel
theorem d_Lo_arrive_32 : decode b_Lo_arrive 32 = .ok (.aload_n 1, 1) := by decide +kernel
theorem d_Lo_arrive_33 : decode b_Lo_arrive 33 = .ok (.getfield 71, 3) := by decide +kernel
theorem d_Lo_arrive_36 : decode b_Lo_arrive 36 = .ok (.iconst 2, 1) := by decide +kernel
theorem d_Lo_arrive_37 : decode b_Lo_arrive 37 = .ok (.if_icmp .ne 18, 3) := by decide +kernel
theorem d_Lo_arrive_40 : decode b_Lo_arrive 40 = .ok (.aload_n 0, 1) := by decide +kernel
theorem d_Lo_arrive_41 : decode b_Lo_arrive 41 = .ok (.aload_n 0, 1) := by decide +kernel
theorem d_Lo_arrive_42 : decode b_Lo_arrive 42 = .ok (.getfield 64, 3) := by decide +kernel
theorem d_Lo_arrive_45 : decode b_Lo_arrive 45 = .ok (.ldc2_w 89, 3) := by decide +kernel
theorem d_Lo_arrive_48 : decode b_Lo_arrive 48 = .ok (.ladd, 1) := by decide +kernel
theorem d_Lo_arrive_49 : decode b_Lo_arrive 49 = .ok (.putfield 87, 3) := by decide +kernel
theorem d_Lo_arrive_52 : decode b_Lo_arrive 52 = .ok (.goto 56, 3) := by decide +kernel
theorem d_Lo_arrive_55 : decode b_Lo_arrive 55 = .ok (.aload_n 1, 1) := by decide +kernel
theorem d_Lo_arrive_56 : decode b_Lo_arrive 56 = .ok (.ifnull 35, 3) := by decide +kernel
theorem d_Lo_arrive_59 : decode b_Lo_arrive 59 = .ok (.aload_n 1, 1) := by decide +kernel
theorem d_Lo_arrive_60 : decode b_Lo_arrive 60 = .ok (.getfield 57, 3) := by decide +kernel
theorem d_Lo_arrive_63 : decode b_Lo_arrive 63 = .ok (.ifnull 28, 3) := by decide +kernel
theorem d_Lo_arrive_66 : decode b_Lo_arrive 66 = .ok (.aload_n 0, 1) := by decide +kernel
theorem d_Lo_arrive_67 : decode b_Lo_arrive 67 = .ok (.aload_n 1, 1) := by decide +kernel
theorem d_Lo_arrive_68 : decode b_Lo_arrive 68 = .ok (.getfield 57, 3) := by decide +kernel
theorem d_Lo_arrive_71 : decode b_Lo_arrive 71 = .ok (.invokevirtual 91, 3) := by decide +kernel
theorem d_Lo_arrive_74 : decode b_Lo_arrive 74 = .ok (.ifCond .eq 17, 3) := by decide +kernel
theorem d_Lo_arrive_77 : decode b_Lo_arrive 77 = .ok (.aload_n 0, 1) := by decide +kernel
theorem d_Lo_arrive_78 : decode b_Lo_arrive 78 = .ok (.aload_n 1, 1) := by decide +kernel
theorem d_Lo_arrive_79 : decode b_Lo_arrive 79 = .ok (.getfield 57, 3) := by decide +kernel
theorem d_Lo_arrive_82 : decode b_Lo_arrive 82 = .ok (.invokevirtual 60, 3) := by decide +kernel
theorem d_Lo_arrive_85 : decode b_Lo_arrive 85 = .ok (.putfield 87, 3) := by decide +kernel
theorem d_Lo_arrive_88 : decode b_Lo_arrive 88 = .ok (.goto 20, 3) := by decide +kernel
theorem d_Lo_arrive_91 : decode b_Lo_arrive 91 = .ok (.aload_n 0, 1) := by decide +kernel
theorem d_Lo_arrive_92 : decode b_Lo_arrive 92 = .ok (.aload_n 0, 1) := by decide +kernel
theorem d_Lo_arrive_93 : decode b_Lo_arrive 93 = .ok (.getfield 64, 3) := by decide +kernel
theorem d_Lo_arrive_96 : decode b_Lo_arrive 96 = .ok (.ldc2_w 95, 3) := by decide +kernel
theorem d_Lo_arrive_99 : decode b_Lo_arrive 99 = .ok (.ladd, 1) := by decide +kernel
theorem d_Lo_arrive_100 : decode b_Lo_arrive 100 = .ok (.putfield 87, 3) := by decide +kernel
theorem d_Lo_arrive_103 : decode b_Lo_arrive 103 = .ok (.aload_n 0, 1) := by decide +kernel
theorem d_Lo_arrive_104 : decode b_Lo_arrive 104 = .ok (.iconst 1, 1) := by decide +kernel
theorem d_Lo_arrive_105 : decode b_Lo_arrive 105 = .ok (.putfield 80, 3) := by decide +kernel
theorem d_Lo_arrive_108 : decode b_Lo_arrive 108 = .ok (.return_, 1) := by decide +kernel
theorem d_Lo_init_0 : decode b_Lo_init 0 = .ok (.aload_n 0, 1) := by decide +kernel
theorem d_Lo_init_1 : decode b_Lo_init 1 = .ok (.invokespecial 3, 3) := by decide +kernel
theorem d_Lo_init_4 : decode b_Lo_init 4 = .ok (.aload_n 0, 1) := by decide +kernel
theorem d_Lo_init_5 : decode b_Lo_init 5 = .ok (.iconst 4, 1) := by decide +kernel
theorem d_Lo_init_6 : decode b_Lo_init 6 = .ok (.anewarray 9, 3) := by decide +kernel
theorem d_Lo_init_9 : decode b_Lo_init 9 = .ok (.putfield 11, 3) := by decide +kernel
theorem d_Lo_init_12 : decode b_Lo_init 12 = .ok (.aload_n 0, 1) := by decide +kernel
theorem d_Lo_init_13 : decode b_Lo_init 13 = .ok (.aload_n 1, 1) := by decide +kernel
theorem d_Lo_init_14 : decode b_Lo_init 14 = .ok (.putfield 17, 3) := by decide +kernel
theorem d_Lo_init_17 : decode b_Lo_init 17 = .ok (.aload_n 0, 1) := by decide +kernel
theorem d_Lo_init_18 : decode b_Lo_init 18 = .ok (.iload_n 2, 1) := by decide +kernel
theorem d_Lo_init_19 : decode b_Lo_init 19 = .ok (.putfield 21, 3) := by decide +kernel
theorem d_Lo_init_22 : decode b_Lo_init 22 = .ok (.aload_n 0, 1) := by decide +kernel
theorem d_Lo_init_23 : decode b_Lo_init 23 = .ok (.lload_n 3, 1) := by decide +kernel
theorem d_Lo_init_24 : decode b_Lo_init 24 = .ok (.putfield 25, 3) := by decide +kernel
theorem d_Lo_init_27 : decode b_Lo_init 27 = .ok (.aload_n 0, 1) := by decide +kernel
theorem d_Lo_init_28 : decode b_Lo_init 28 = .ok (.iload 5, 2) := by decide +kernel
theorem d_Lo_init_30 : decode b_Lo_init 30 = .ok (.putfield 29, 3) := by decide +kernel
theorem d_Lo_init_33 : decode b_Lo_init 33 = .ok (.aload_n 0, 1) := by decide +kernel
theorem d_Lo_init_34 : decode b_Lo_init 34 = .ok (.iconst 0, 1) := by decide +kernel
theorem d_Lo_init_35 : decode b_Lo_init 35 = .ok (.putfield 32, 3) := by decide +kernel
theorem d_Lo_init_38 : decode b_Lo_init 38 = .ok (.aload_n 0, 1) := by decide +kernel
theorem d_Lo_init_39 : decode b_Lo_init 39 = .ok (.iconst (-1), 1) := by decide +kernel
theorem d_Lo_init_40 : decode b_Lo_init 40 = .ok (.putfield 35, 3) := by decide +kernel
theorem d_Lo_init_43 : decode b_Lo_init 43 = .ok (.aload_n 0, 1) := by decide +kernel
theorem d_Lo_init_44 : decode b_Lo_init 44 = .ok (.iconst (-1), 1) := by decide +kernel
theorem d_Lo_init_45 : decode b_Lo_init 45 = .ok (.putfield 38, 3) := by decide +kernel
theorem d_Lo_init_48 : decode b_Lo_init 48 = .ok (.return_, 1) := by decide +kernel
theorem d_Lo_canGoOnBy_0 : decode b_Lo_canGoOnBy 0 = .ok (.aload_n 1, 1) := by decide +kernel
theorem d_Lo_canGoOnBy_1 : decode b_Lo_canGoOnBy 1 = .ok (.getfield 44, 3) := by decide +kernel
theorem d_Lo_canGoOnBy_4 : decode b_Lo_canGoOnBy 4 = .ok (.aload_n 0, 1) := by decide +kernel
theorem d_Lo_canGoOnBy_5 : decode b_Lo_canGoOnBy 5 = .ok (.getfield 17, 3) := by decide +kernel
theorem d_Lo_canGoOnBy_8 : decode b_Lo_canGoOnBy 8 = .ok (.getfield 41, 3) := by decide +kernel
theorem d_Lo_canGoOnBy_11 : decode b_Lo_canGoOnBy 11 = .ok (.if_icmp .ne 33, 3) := by decide +kernel
theorem d_Lo_canGoOnBy_14 : decode b_Lo_canGoOnBy 14 = .ok (.aload_n 1, 1) := by decide +kernel
theorem d_Lo_canGoOnBy_15 : decode b_Lo_canGoOnBy 15 = .ok (.getfield 41, 3) := by decide +kernel
theorem d_Lo_canGoOnBy_18 : decode b_Lo_canGoOnBy 18 = .ok (.aload_n 0, 1) := by decide +kernel
theorem d_Lo_canGoOnBy_19 : decode b_Lo_canGoOnBy 19 = .ok (.getfield 21, 3) := by decide +kernel
theorem d_Lo_canGoOnBy_22 : decode b_Lo_canGoOnBy 22 = .ok (.if_icmp .ne 22, 3) := by decide +kernel
theorem d_Lo_canGoOnBy_25 : decode b_Lo_canGoOnBy 25 = .ok (.aload_n 1, 1) := by decide +kernel
theorem d_Lo_canGoOnBy_26 : decode b_Lo_canGoOnBy 26 = .ok (.getfield 47, 3) := by decide +kernel
theorem d_Lo_canGoOnBy_29 : decode b_Lo_canGoOnBy 29 = .ok (.aload_n 0, 1) := by decide +kernel
theorem d_Lo_canGoOnBy_30 : decode b_Lo_canGoOnBy 30 = .ok (.getfield 17, 3) := by decide +kernel
theorem d_Lo_canGoOnBy_33 : decode b_Lo_canGoOnBy 33 = .ok (.getfield 47, 3) := by decide +kernel
theorem d_Lo_canGoOnBy_36 : decode b_Lo_canGoOnBy 36 = .ok (.lcmp, 1) := by decide +kernel
theorem d_Lo_canGoOnBy_37 : decode b_Lo_canGoOnBy 37 = .ok (.ifCond .le 7, 3) := by decide +kernel
theorem d_Lo_canGoOnBy_40 : decode b_Lo_canGoOnBy 40 = .ok (.iconst 1, 1) := by decide +kernel
theorem d_Lo_canGoOnBy_41 : decode b_Lo_canGoOnBy 41 = .ok (.goto 4, 3) := by decide +kernel
theorem d_Lo_canGoOnBy_44 : decode b_Lo_canGoOnBy 44 = .ok (.iconst 0, 1) := by decide +kernel
theorem d_Lo_canGoOnBy_45 : decode b_Lo_canGoOnBy 45 = .ok (.ireturn, 1) := by decide +kernel
theorem d_Lo_hasRoom_0 : decode b_Lo_hasRoom 0 = .ok (.aload_n 0, 1) := by decide +kernel
theorem d_Lo_hasRoom_1 : decode b_Lo_hasRoom 1 = .ok (.getfield 32, 3) := by decide +kernel
theorem d_Lo_hasRoom_4 : decode b_Lo_hasRoom 4 = .ok (.aload_n 0, 1) := by decide +kernel
theorem d_Lo_hasRoom_5 : decode b_Lo_hasRoom 5 = .ok (.getfield 11, 3) := by decide +kernel
theorem d_Lo_hasRoom_8 : decode b_Lo_hasRoom 8 = .ok (.arraylength, 1) := by decide +kernel
theorem d_Lo_hasRoom_9 : decode b_Lo_hasRoom 9 = .ok (.if_icmp .ge 7, 3) := by decide +kernel
theorem d_Lo_hasRoom_12 : decode b_Lo_hasRoom 12 = .ok (.iconst 1, 1) := by decide +kernel
theorem d_Lo_hasRoom_13 : decode b_Lo_hasRoom 13 = .ok (.goto 4, 3) := by decide +kernel
theorem d_Lo_hasRoom_16 : decode b_Lo_hasRoom 16 = .ok (.iconst 0, 1) := by decide +kernel
theorem d_Lo_hasRoom_17 : decode b_Lo_hasRoom 17 = .ok (.ireturn, 1) := by decide +kernel
theorem d_Lo_addOption_0 : decode b_Lo_addOption 0 = .ok (.aload_n 0, 1) := by decide +kernel
theorem d_Lo_addOption_1 : decode b_Lo_addOption 1 = .ok (.invokevirtual 50, 3) := by decide +kernel
theorem d_Lo_addOption_4 : decode b_Lo_addOption 4 = .ok (.ifCond .ne 5, 3) := by decide +kernel
theorem d_Lo_addOption_7 : decode b_Lo_addOption 7 = .ok (.iconst (-1), 1) := by decide +kernel
theorem d_Lo_addOption_8 : decode b_Lo_addOption 8 = .ok (.ireturn, 1) := by decide +kernel
theorem d_Lo_addOption_9 : decode b_Lo_addOption 9 = .ok (.aload_n 0, 1) := by decide +kernel
theorem d_Lo_addOption_10 : decode b_Lo_addOption 10 = .ok (.getfield 11, 3) := by decide +kernel
theorem d_Lo_addOption_13 : decode b_Lo_addOption 13 = .ok (.aload_n 0, 1) := by decide +kernel
theorem d_Lo_addOption_14 : decode b_Lo_addOption 14 = .ok (.getfield 32, 3) := by decide +kernel
theorem d_Lo_addOption_17 : decode b_Lo_addOption 17 = .ok (.aload_n 1, 1) := by decide +kernel
theorem d_Lo_addOption_18 : decode b_Lo_addOption 18 = .ok (.aastore, 1) := by decide +kernel
theorem d_Lo_addOption_19 : decode b_Lo_addOption 19 = .ok (.aload_n 0, 1) := by decide +kernel
theorem d_Lo_addOption_20 : decode b_Lo_addOption 20 = .ok (.dup, 1) := by decide +kernel
theorem d_Lo_addOption_21 : decode b_Lo_addOption 21 = .ok (.getfield 32, 3) := by decide +kernel
theorem d_Lo_addOption_24 : decode b_Lo_addOption 24 = .ok (.iconst 1, 1) := by decide +kernel
theorem d_Lo_addOption_25 : decode b_Lo_addOption 25 = .ok (.iadd, 1) := by decide +kernel
theorem d_Lo_addOption_26 : decode b_Lo_addOption 26 = .ok (.putfield 32, 3) := by decide +kernel
theorem d_Lo_addOption_29 : decode b_Lo_addOption 29 = .ok (.aload_n 0, 1) := by decide +kernel
theorem d_Lo_addOption_30 : decode b_Lo_addOption 30 = .ok (.getfield 35, 3) := by decide +kernel
theorem d_Lo_addOption_33 : decode b_Lo_addOption 33 = .ok (.ifCond .ge 8, 3) := by decide +kernel
theorem d_Lo_addOption_36 : decode b_Lo_addOption 36 = .ok (.aload_n 0, 1) := by decide +kernel
theorem d_Lo_addOption_37 : decode b_Lo_addOption 37 = .ok (.iconst 0, 1) := by decide +kernel
theorem d_Lo_addOption_38 : decode b_Lo_addOption 38 = .ok (.putfield 35, 3) := by decide +kernel
theorem d_Lo_addOption_41 : decode b_Lo_addOption 41 = .ok (.aload_n 0, 1) := by decide +kernel
theorem d_Lo_addOption_42 : decode b_Lo_addOption 42 = .ok (.getfield 32, 3) := by decide +kernel
theorem d_Lo_addOption_45 : decode b_Lo_addOption 45 = .ok (.iconst 1, 1) := by decide +kernel
theorem d_Lo_addOption_46 : decode b_Lo_addOption 46 = .ok (.isub, 1) := by decide +kernel
theorem d_Lo_addOption_47 : decode b_Lo_addOption 47 = .ok (.ireturn, 1) := by decide +kernel
theorem d_Lo_minutesBehind_0 : decode b_Lo_minutesBehind 0 = .ok (.lconst 0, 1) := by decide +kernel
theorem d_Lo_minutesBehind_1 : decode b_Lo_minutesBehind 1 = .ok (.aload_n 0, 1) := by decide +kernel
theorem d_Lo_minutesBehind_2 : decode b_Lo_minutesBehind 2 = .ok (.getfield 87, 3) := by decide +kernel
theorem d_Lo_minutesBehind_5 : decode b_Lo_minutesBehind 5 = .ok (.aload_n 0, 1) := by decide +kernel
theorem d_Lo_minutesBehind_6 : decode b_Lo_minutesBehind 6 = .ok (.getfield 25, 3) := by decide +kernel
theorem d_Lo_minutesBehind_9 : decode b_Lo_minutesBehind 9 = .ok (.lsub, 1) := by decide +kernel
theorem d_Lo_minutesBehind_10 : decode b_Lo_minutesBehind 10 = .ok (.invokestatic 103, 3) := by decide +kernel
theorem d_Lo_minutesBehind_13 : decode b_Lo_minutesBehind 13 = .ok (.lreturn, 1) := by decide +kernel
theorem d_Lo_rememberArrival_0 : decode b_Lo_rememberArrival 0 = .ok (.aload_n 0, 1) := by decide +kernel
theorem d_Lo_rememberArrival_1 : decode b_Lo_rememberArrival 1 = .ok (.aload_n 0, 1) := by decide +kernel
theorem d_Lo_rememberArrival_2 : decode b_Lo_rememberArrival 2 = .ok (.getfield 87, 3) := by decide +kernel
theorem d_Lo_rememberArrival_5 : decode b_Lo_rememberArrival 5 = .ok (.putfield 100, 3) := by decide +kernel
theorem d_Lo_rememberArrival_8 : decode b_Lo_rememberArrival 8 = .ok (.return_, 1) := by decide +kernel
theorem d_Lo_concerns_0 : decode b_Lo_concerns 0 = .ok (.aload_n 0, 1) := by decide +kernel
theorem d_Lo_concerns_1 : decode b_Lo_concerns 1 = .ok (.getfield 17, 3) := by decide +kernel
theorem d_Lo_concerns_4 : decode b_Lo_concerns 4 = .ok (.getfield 54, 3) := by decide +kernel
theorem d_Lo_concerns_7 : decode b_Lo_concerns 7 = .ok (.aload_n 1, 1) := by decide +kernel
theorem d_Lo_concerns_8 : decode b_Lo_concerns 8 = .ok (.getfield 54, 3) := by decide +kernel
theorem d_Lo_concerns_11 : decode b_Lo_concerns 11 = .ok (.if_icmp .ne 5, 3) := by decide +kernel
theorem d_Lo_concerns_14 : decode b_Lo_concerns 14 = .ok (.iconst 1, 1) := by decide +kernel
theorem d_Lo_concerns_15 : decode b_Lo_concerns 15 = .ok (.ireturn, 1) := by decide +kernel
theorem d_Lo_concerns_16 : decode b_Lo_concerns 16 = .ok (.iconst 0, 1) := by decide +kernel
theorem d_Lo_concerns_17 : decode b_Lo_concerns 17 = .ok (.istore_n 2, 1) := by decide +kernel
theorem d_Lo_concerns_18 : decode b_Lo_concerns 18 = .ok (.iload_n 2, 1) := by decide +kernel
theorem d_Lo_concerns_19 : decode b_Lo_concerns 19 = .ok (.aload_n 0, 1) := by decide +kernel
theorem d_Lo_concerns_20 : decode b_Lo_concerns 20 = .ok (.getfield 32, 3) := by decide +kernel
theorem d_Lo_concerns_23 : decode b_Lo_concerns 23 = .ok (.if_icmp .ge 36, 3) := by decide +kernel
theorem d_Lo_concerns_26 : decode b_Lo_concerns 26 = .ok (.aload_n 0, 1) := by decide +kernel
theorem d_Lo_concerns_27 : decode b_Lo_concerns 27 = .ok (.getfield 11, 3) := by decide +kernel
theorem d_Lo_concerns_30 : decode b_Lo_concerns 30 = .ok (.iload_n 2, 1) := by decide +kernel
theorem d_Lo_concerns_31 : decode b_Lo_concerns 31 = .ok (.aaload, 1) := by decide +kernel
theorem d_Lo_concerns_32 : decode b_Lo_concerns 32 = .ok (.getfield 57, 3) := by decide +kernel
theorem d_Lo_concerns_35 : decode b_Lo_concerns 35 = .ok (.astore_n 3, 1) := by decide +kernel
theorem d_Lo_concerns_36 : decode b_Lo_concerns 36 = .ok (.aload_n 3, 1) := by decide +kernel
theorem d_Lo_concerns_37 : decode b_Lo_concerns 37 = .ok (.ifnull 16, 3) := by decide +kernel
theorem d_Lo_concerns_40 : decode b_Lo_concerns 40 = .ok (.aload_n 3, 1) := by decide +kernel
theorem d_Lo_concerns_41 : decode b_Lo_concerns 41 = .ok (.getfield 54, 3) := by decide +kernel
theorem d_Lo_concerns_44 : decode b_Lo_concerns 44 = .ok (.aload_n 1, 1) := by decide +kernel
theorem d_Lo_concerns_45 : decode b_Lo_concerns 45 = .ok (.getfield 54, 3) := by decide +kernel
theorem d_Lo_concerns_48 : decode b_Lo_concerns 48 = .ok (.if_icmp .ne 5, 3) := by decide +kernel
theorem d_Lo_concerns_51 : decode b_Lo_concerns 51 = .ok (.iconst 1, 1) := by decide +kernel
theorem d_Lo_concerns_52 : decode b_Lo_concerns 52 = .ok (.ireturn, 1) := by decide +kernel
theorem d_Lo_concerns_53 : decode b_Lo_concerns 53 = .ok (.iinc 2 1, 3) := by decide +kernel
theorem d_Lo_concerns_56 : decode b_Lo_concerns 56 = .ok (.goto (-38), 3) := by decide +kernel
theorem d_Lo_concerns_59 : decode b_Lo_concerns 59 = .ok (.iconst 0, 1) := by decide +kernel
theorem d_Lo_concerns_60 : decode b_Lo_concerns 60 = .ok (.ireturn, 1) := by decide +kernel
theorem d_Lo_pickFirst_0 : decode b_Lo_pickFirst 0 = .ok (.aload_n 0, 1) := by decide +kernel
theorem d_Lo_pickFirst_1 : decode b_Lo_pickFirst 1 = .ok (.aload_n 0, 1) := by decide +kernel
theorem d_Lo_pickFirst_2 : decode b_Lo_pickFirst 2 = .ok (.getfield 32, 3) := by decide +kernel
theorem d_Lo_pickFirst_5 : decode b_Lo_pickFirst 5 = .ok (.ifCond .le 7, 3) := by decide +kernel
theorem d_Lo_pickFirst_8 : decode b_Lo_pickFirst 8 = .ok (.iconst 0, 1) := by decide +kernel
theorem d_Lo_pickFirst_9 : decode b_Lo_pickFirst 9 = .ok (.goto 4, 3) := by decide +kernel
theorem d_Lo_pickFirst_12 : decode b_Lo_pickFirst 12 = .ok (.iconst (-1), 1) := by decide +kernel
theorem d_Lo_pickFirst_13 : decode b_Lo_pickFirst 13 = .ok (.putfield 35, 3) := by decide +kernel
theorem d_Lo_pickFirst_16 : decode b_Lo_pickFirst 16 = .ok (.return_, 1) := by decide +kernel
theorem d_Lo_hasMoved_0 : decode b_Lo_hasMoved 0 = .ok (.aload_n 0, 1) := by decide +kernel
theorem d_Lo_hasMoved_1 : decode b_Lo_hasMoved 1 = .ok (.getfield 87, 3) := by decide +kernel
theorem d_Lo_hasMoved_4 : decode b_Lo_hasMoved 4 = .ok (.aload_n 0, 1) := by decide +kernel
theorem d_Lo_hasMoved_5 : decode b_Lo_hasMoved 5 = .ok (.getfield 100, 3) := by decide +kernel
theorem d_Lo_hasMoved_8 : decode b_Lo_hasMoved 8 = .ok (.lcmp, 1) := by decide +kernel
theorem d_Lo_hasMoved_9 : decode b_Lo_hasMoved 9 = .ok (.ifCond .eq 7, 3) := by decide +kernel
theorem d_Lo_hasMoved_12 : decode b_Lo_hasMoved 12 = .ok (.iconst 1, 1) := by decide +kernel
theorem d_Lo_hasMoved_13 : decode b_Lo_hasMoved 13 = .ok (.goto 4, 3) := by decide +kernel
theorem d_Lo_hasMoved_16 : decode b_Lo_hasMoved 16 = .ok (.iconst 0, 1) := by decide +kernel
theorem d_Lo_hasMoved_17 : decode b_Lo_hasMoved 17 = .ok (.ireturn, 1) := by decide +kernel
theorem d_Lo_harm_0 : decode b_Lo_harm 0 = .ok (.aload_n 0, 1) := by decide +kernel
theorem d_Lo_harm_1 : decode b_Lo_harm 1 = .ok (.invokevirtual 67, 3) := by decide +kernel
theorem d_Lo_harm_4 : decode b_Lo_harm 4 = .ok (.astore_n 1, 1) := by decide +kernel
theorem d_Lo_harm_5 : decode b_Lo_harm 5 = .ok (.aload_n 0, 1) := by decide +kernel
theorem d_Lo_harm_6 : decode b_Lo_harm 6 = .ok (.getfield 29, 3) := by decide +kernel
theorem d_Lo_harm_9 : decode b_Lo_harm 9 = .ok (.i2l, 1) := by decide +kernel
theorem d_Lo_harm_10 : decode b_Lo_harm 10 = .ok (.aload_n 0, 1) := by decide +kernel
theorem d_Lo_harm_11 : decode b_Lo_harm 11 = .ok (.invokevirtual 109, 3) := by decide +kernel
theorem d_Lo_harm_14 : decode b_Lo_harm 14 = .ok (.lmul, 1) := by decide +kernel
theorem d_Lo_harm_15 : decode b_Lo_harm 15 = .ok (.aload_n 1, 1) := by decide +kernel
theorem d_Lo_harm_16 : decode b_Lo_harm 16 = .ok (.ifnonnull 7, 3) := by decide +kernel
theorem d_Lo_harm_19 : decode b_Lo_harm 19 = .ok (.lconst 0, 1) := by decide +kernel
theorem d_Lo_harm_20 : decode b_Lo_harm 20 = .ok (.goto 7, 3) := by decide +kernel
theorem d_Lo_harm_23 : decode b_Lo_harm 23 = .ok (.aload_n 1, 1) := by decide +kernel
theorem d_Lo_harm_24 : decode b_Lo_harm 24 = .ok (.getfield 112, 3) := by decide +kernel
theorem d_Lo_harm_27 : decode b_Lo_harm 27 = .ok (.ladd, 1) := by decide +kernel
theorem d_Lo_harm_28 : decode b_Lo_harm 28 = .ok (.lreturn, 1) := by decide +kernel
theorem d_Lo_isAct_0 : decode b_Lo_isAct 0 = .ok (.aload_n 0, 1) := by decide +kernel
theorem d_Lo_isAct_1 : decode b_Lo_isAct 1 = .ok (.invokevirtual 67, 3) := by decide +kernel
theorem d_Lo_isAct_4 : decode b_Lo_isAct 4 = .ok (.astore_n 1, 1) := by decide +kernel
theorem d_Lo_isAct_5 : decode b_Lo_isAct 5 = .ok (.aload_n 1, 1) := by decide +kernel
theorem d_Lo_isAct_6 : decode b_Lo_isAct 6 = .ok (.ifnull 14, 3) := by decide +kernel
theorem d_Lo_isAct_9 : decode b_Lo_isAct 9 = .ok (.aload_n 1, 1) := by decide +kernel
theorem d_Lo_isAct_10 : decode b_Lo_isAct 10 = .ok (.getfield 71, 3) := by decide +kernel
theorem d_Lo_isAct_13 : decode b_Lo_isAct 13 = .ok (.ifCond .eq 7, 3) := by decide +kernel
theorem d_Lo_isAct_16 : decode b_Lo_isAct 16 = .ok (.iconst 1, 1) := by decide +kernel
theorem d_Lo_isAct_17 : decode b_Lo_isAct 17 = .ok (.goto 4, 3) := by decide +kernel
theorem d_Lo_isAct_20 : decode b_Lo_isAct 20 = .ok (.iconst 0, 1) := by decide +kernel
theorem d_Lo_isAct_21 : decode b_Lo_isAct 21 = .ok (.ireturn, 1) := by decide +kernel
theorem d_Lo_keepPicked_0 : decode b_Lo_keepPicked 0 = .ok (.aload_n 0, 1) := by decide +kernel
theorem d_Lo_keepPicked_1 : decode b_Lo_keepPicked 1 = .ok (.aload_n 0, 1) := by decide +kernel
theorem d_Lo_keepPicked_2 : decode b_Lo_keepPicked 2 = .ok (.getfield 35, 3) := by decide +kernel
theorem d_Lo_keepPicked_5 : decode b_Lo_keepPicked 5 = .ok (.putfield 38, 3) := by decide +kernel
theorem d_Lo_keepPicked_8 : decode b_Lo_keepPicked 8 = .ok (.return_, 1) := by decide +kernel
theorem d_Lo_pickNext_0 : decode b_Lo_pickNext 0 = .ok (.aload_n 0, 1) := by decide +kernel
theorem d_Lo_pickNext_1 : decode b_Lo_pickNext 1 = .ok (.getfield 35, 3) := by decide +kernel
theorem d_Lo_pickNext_4 : decode b_Lo_pickNext 4 = .ok (.iconst 1, 1) := by decide +kernel
theorem d_Lo_pickNext_5 : decode b_Lo_pickNext 5 = .ok (.iadd, 1) := by decide +kernel
theorem d_Lo_pickNext_6 : decode b_Lo_pickNext 6 = .ok (.aload_n 0, 1) := by decide +kernel
theorem d_Lo_pickNext_7 : decode b_Lo_pickNext 7 = .ok (.getfield 32, 3) := by decide +kernel
theorem d_Lo_pickNext_10 : decode b_Lo_pickNext 10 = .ok (.if_icmp .lt 5, 3) := by decide +kernel
theorem d_Lo_pickNext_13 : decode b_Lo_pickNext 13 = .ok (.iconst 0, 1) := by decide +kernel
theorem d_Lo_pickNext_14 : decode b_Lo_pickNext 14 = .ok (.ireturn, 1) := by decide +kernel
theorem d_Lo_pickNext_15 : decode b_Lo_pickNext 15 = .ok (.aload_n 0, 1) := by decide +kernel
theorem d_Lo_pickNext_16 : decode b_Lo_pickNext 16 = .ok (.dup, 1) := by decide +kernel
theorem d_Lo_pickNext_17 : decode b_Lo_pickNext 17 = .ok (.getfield 35, 3) := by decide +kernel
theorem d_Lo_pickNext_20 : decode b_Lo_pickNext 20 = .ok (.iconst 1, 1) := by decide +kernel
theorem d_Lo_pickNext_21 : decode b_Lo_pickNext 21 = .ok (.iadd, 1) := by decide +kernel
theorem d_Lo_pickNext_22 : decode b_Lo_pickNext 22 = .ok (.putfield 35, 3) := by decide +kernel
theorem d_Lo_pickNext_25 : decode b_Lo_pickNext 25 = .ok (.iconst 1, 1) := by decide +kernel
theorem d_Lo_pickNext_26 : decode b_Lo_pickNext 26 = .ok (.ireturn, 1) := by decide +kernel
theorem d_Lo_takeKept_0 : decode b_Lo_takeKept 0 = .ok (.aload_n 0, 1) := by decide +kernel
theorem d_Lo_takeKept_1 : decode b_Lo_takeKept 1 = .ok (.aload_n 0, 1) := by decide +kernel
theorem d_Lo_takeKept_2 : decode b_Lo_takeKept 2 = .ok (.getfield 38, 3) := by decide +kernel
theorem d_Lo_takeKept_5 : decode b_Lo_takeKept 5 = .ok (.putfield 35, 3) := by decide +kernel
theorem d_Lo_takeKept_8 : decode b_Lo_takeKept 8 = .ok (.return_, 1) := by decide +kernel

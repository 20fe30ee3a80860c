theorem d_LR_init_0 : decode b_LR_init 0 = .ok (.aload_n 0, 1) := by decide +kernel
theorem d_LR_init_1 : decode b_LR_init 1 = .ok (.invokespecial 1, 3) := by decide +kernel
theorem d_LR_init_4 : decode b_LR_init 4 = .ok (.aload_n 0, 1) := by decide +kernel
theorem d_LR_init_5 : decode b_LR_init 5 = .ok (.bipush 12, 2) := by decide +kernel
theorem d_LR_init_7 : decode b_LR_init 7 = .ok (.anewarray 9, 3) := by decide +kernel
theorem d_LR_init_10 : decode b_LR_init 10 = .ok (.putfield 11, 3) := by decide +kernel
theorem d_LR_init_13 : decode b_LR_init 13 = .ok (.aload_n 0, 1) := by decide +kernel
theorem d_LR_init_14 : decode b_LR_init 14 = .ok (.bipush 6, 2) := by decide +kernel
theorem d_LR_init_16 : decode b_LR_init 16 = .ok (.anewarray 15, 3) := by decide +kernel
theorem d_LR_init_19 : decode b_LR_init 19 = .ok (.putfield 17, 3) := by decide +kernel
theorem d_LR_init_22 : decode b_LR_init 22 = .ok (.aload_n 0, 1) := by decide +kernel
theorem d_LR_init_23 : decode b_LR_init 23 = .ok (.bipush 6, 2) := by decide +kernel
theorem d_LR_init_25 : decode b_LR_init 25 = .ok (.anewarray 15, 3) := by decide +kernel
theorem d_LR_init_28 : decode b_LR_init 28 = .ok (.putfield 21, 3) := by decide +kernel
theorem d_LR_init_31 : decode b_LR_init 31 = .ok (.aload_n 0, 1) := by decide +kernel
theorem d_LR_init_32 : decode b_LR_init 32 = .ok (.iconst 0, 1) := by decide +kernel
theorem d_LR_init_33 : decode b_LR_init 33 = .ok (.putfield 24, 3) := by decide +kernel
theorem d_LR_init_36 : decode b_LR_init 36 = .ok (.aload_n 0, 1) := by decide +kernel
theorem d_LR_init_37 : decode b_LR_init 37 = .ok (.iconst 0, 1) := by decide +kernel
theorem d_LR_init_38 : decode b_LR_init 38 = .ok (.putfield 28, 3) := by decide +kernel
theorem d_LR_init_41 : decode b_LR_init 41 = .ok (.return_, 1) := by decide +kernel
theorem d_LR_isWithin_0 : decode b_LR_isWithin 0 = .ok (.lload_n 0, 1) := by decide +kernel
theorem d_LR_isWithin_1 : decode b_LR_isWithin 1 = .ok (.lload_n 2, 1) := by decide +kernel
theorem d_LR_isWithin_2 : decode b_LR_isWithin 2 = .ok (.lcmp, 1) := by decide +kernel
theorem d_LR_isWithin_3 : decode b_LR_isWithin 3 = .ok (.ifCond .lt 14, 3) := by decide +kernel
theorem d_LR_isWithin_6 : decode b_LR_isWithin 6 = .ok (.lload_n 0, 1) := by decide +kernel
theorem d_LR_isWithin_7 : decode b_LR_isWithin 7 = .ok (.lload 4, 2) := by decide +kernel
theorem d_LR_isWithin_9 : decode b_LR_isWithin 9 = .ok (.lcmp, 1) := by decide +kernel
theorem d_LR_isWithin_10 : decode b_LR_isWithin 10 = .ok (.ifCond .gt 7, 3) := by decide +kernel
theorem d_LR_isWithin_13 : decode b_LR_isWithin 13 = .ok (.iconst 1, 1) := by decide +kernel
theorem d_LR_isWithin_14 : decode b_LR_isWithin 14 = .ok (.goto 4, 3) := by decide +kernel
theorem d_LR_isWithin_17 : decode b_LR_isWithin 17 = .ok (.iconst 0, 1) := by decide +kernel
theorem d_LR_isWithin_18 : decode b_LR_isWithin 18 = .ok (.ireturn, 1) := by decide +kernel
theorem d_LR_isPlace_0 : decode b_LR_isPlace 0 = .ok (.iload_n 0, 1) := by decide +kernel
theorem d_LR_isPlace_1 : decode b_LR_isPlace 1 = .ok (.i2l, 1) := by decide +kernel
theorem d_LR_isPlace_2 : decode b_LR_isPlace 2 = .ok (.lconst 0, 1) := by decide +kernel
theorem d_LR_isPlace_3 : decode b_LR_isPlace 3 = .ok (.ldc2_w 150, 3) := by decide +kernel
theorem d_LR_isPlace_6 : decode b_LR_isPlace 6 = .ok (.invokestatic 37, 3) := by decide +kernel
theorem d_LR_isPlace_9 : decode b_LR_isPlace 9 = .ok (.ireturn, 1) := by decide +kernel
theorem d_LR_settle_0 : decode b_LR_settle 0 = .ok (.iconst 0, 1) := by decide +kernel
theorem d_LR_settle_1 : decode b_LR_settle 1 = .ok (.istore_n 1, 1) := by decide +kernel
theorem d_LR_settle_2 : decode b_LR_settle 2 = .ok (.iload_n 1, 1) := by decide +kernel
theorem d_LR_settle_3 : decode b_LR_settle 3 = .ok (.aload_n 0, 1) := by decide +kernel
theorem d_LR_settle_4 : decode b_LR_settle 4 = .ok (.getfield 24, 3) := by decide +kernel
theorem d_LR_settle_7 : decode b_LR_settle 7 = .ok (.if_icmp .ge 18, 3) := by decide +kernel
theorem d_LR_settle_10 : decode b_LR_settle 10 = .ok (.aload_n 0, 1) := by decide +kernel
theorem d_LR_settle_11 : decode b_LR_settle 11 = .ok (.getfield 11, 3) := by decide +kernel
theorem d_LR_settle_14 : decode b_LR_settle 14 = .ok (.iload_n 1, 1) := by decide +kernel
theorem d_LR_settle_15 : decode b_LR_settle 15 = .ok (.aaload, 1) := by decide +kernel
theorem d_LR_settle_16 : decode b_LR_settle 16 = .ok (.invokevirtual 159, 3) := by decide +kernel
theorem d_LR_settle_19 : decode b_LR_settle 19 = .ok (.iinc 1 1, 3) := by decide +kernel
theorem d_LR_settle_22 : decode b_LR_settle 22 = .ok (.goto (-20), 3) := by decide +kernel
theorem d_LR_settle_25 : decode b_LR_settle 25 = .ok (.iconst 0, 1) := by decide +kernel
theorem d_LR_settle_26 : decode b_LR_settle 26 = .ok (.istore_n 1, 1) := by decide +kernel
theorem d_LR_settle_27 : decode b_LR_settle 27 = .ok (.iload_n 1, 1) := by decide +kernel
theorem d_LR_settle_28 : decode b_LR_settle 28 = .ok (.aload_n 0, 1) := by decide +kernel
theorem d_LR_settle_29 : decode b_LR_settle 29 = .ok (.getfield 28, 3) := by decide +kernel
theorem d_LR_settle_32 : decode b_LR_settle 32 = .ok (.if_icmp .ge 18, 3) := by decide +kernel
theorem d_LR_settle_35 : decode b_LR_settle 35 = .ok (.aload_n 0, 1) := by decide +kernel
theorem d_LR_settle_36 : decode b_LR_settle 36 = .ok (.getfield 21, 3) := by decide +kernel
theorem d_LR_settle_39 : decode b_LR_settle 39 = .ok (.iload_n 1, 1) := by decide +kernel
theorem d_LR_settle_40 : decode b_LR_settle 40 = .ok (.aaload, 1) := by decide +kernel
theorem d_LR_settle_41 : decode b_LR_settle 41 = .ok (.invokevirtual 162, 3) := by decide +kernel
theorem d_LR_settle_44 : decode b_LR_settle 44 = .ok (.iinc 1 1, 3) := by decide +kernel
theorem d_LR_settle_47 : decode b_LR_settle 47 = .ok (.goto (-20), 3) := by decide +kernel
theorem d_LR_settle_50 : decode b_LR_settle 50 = .ok (.iconst 0, 1) := by decide +kernel
theorem d_LR_settle_51 : decode b_LR_settle 51 = .ok (.istore_n 1, 1) := by decide +kernel
theorem d_LR_settle_52 : decode b_LR_settle 52 = .ok (.iload_n 1, 1) := by decide +kernel
theorem d_LR_settle_53 : decode b_LR_settle 53 = .ok (.aload_n 0, 1) := by decide +kernel
theorem d_LR_settle_54 : decode b_LR_settle 54 = .ok (.getfield 28, 3) := by decide +kernel
theorem d_LR_settle_57 : decode b_LR_settle 57 = .ok (.if_icmp .ge 18, 3) := by decide +kernel
theorem d_LR_settle_60 : decode b_LR_settle 60 = .ok (.aload_n 0, 1) := by decide +kernel
theorem d_LR_settle_61 : decode b_LR_settle 61 = .ok (.getfield 17, 3) := by decide +kernel
theorem d_LR_settle_64 : decode b_LR_settle 64 = .ok (.iload_n 1, 1) := by decide +kernel
theorem d_LR_settle_65 : decode b_LR_settle 65 = .ok (.aaload, 1) := by decide +kernel
theorem d_LR_settle_66 : decode b_LR_settle 66 = .ok (.invokevirtual 165, 3) := by decide +kernel
theorem d_LR_settle_69 : decode b_LR_settle 69 = .ok (.iinc 1 1, 3) := by decide +kernel
theorem d_LR_settle_72 : decode b_LR_settle 72 = .ok (.goto (-20), 3) := by decide +kernel
theorem d_LR_settle_75 : decode b_LR_settle 75 = .ok (.return_, 1) := by decide +kernel
theorem d_LR_line_0 : decode b_LR_line 0 = .ok (.iload_n 1, 1) := by decide +kernel
theorem d_LR_line_1 : decode b_LR_line 1 = .ok (.invokestatic 31, 3) := by decide +kernel
theorem d_LR_line_4 : decode b_LR_line 4 = .ok (.ifCond .eq 15, 3) := by decide +kernel
theorem d_LR_line_7 : decode b_LR_line 7 = .ok (.iload_n 2, 1) := by decide +kernel
theorem d_LR_line_8 : decode b_LR_line 8 = .ok (.invokestatic 31, 3) := by decide +kernel
theorem d_LR_line_11 : decode b_LR_line 11 = .ok (.ifCond .eq 8, 3) := by decide +kernel
theorem d_LR_line_14 : decode b_LR_line 14 = .ok (.iload_n 1, 1) := by decide +kernel
theorem d_LR_line_15 : decode b_LR_line 15 = .ok (.iload_n 2, 1) := by decide +kernel
theorem d_LR_line_16 : decode b_LR_line 16 = .ok (.if_icmp .ne 6, 3) := by decide +kernel
theorem d_LR_line_19 : decode b_LR_line 19 = .ok (.bipush (-12), 2) := by decide +kernel
theorem d_LR_line_21 : decode b_LR_line 21 = .ok (.ireturn, 1) := by decide +kernel
theorem d_LR_line_22 : decode b_LR_line 22 = .ok (.lload_n 3, 1) := by decide +kernel
theorem d_LR_line_23 : decode b_LR_line 23 = .ok (.lconst 0, 1) := by decide +kernel
theorem d_LR_line_24 : decode b_LR_line 24 = .ok (.ldc2_w 35, 3) := by decide +kernel
theorem d_LR_line_27 : decode b_LR_line 27 = .ok (.invokestatic 37, 3) := by decide +kernel
theorem d_LR_line_30 : decode b_LR_line 30 = .ok (.ifCond .eq 22, 3) := by decide +kernel
theorem d_LR_line_33 : decode b_LR_line 33 = .ok (.lload 5, 2) := by decide +kernel
theorem d_LR_line_35 : decode b_LR_line 35 = .ok (.lconst 0, 1) := by decide +kernel
theorem d_LR_line_36 : decode b_LR_line 36 = .ok (.ldc2_w 35, 3) := by decide +kernel
theorem d_LR_line_39 : decode b_LR_line 39 = .ok (.invokestatic 37, 3) := by decide +kernel
theorem d_LR_line_42 : decode b_LR_line 42 = .ok (.ifCond .eq 10, 3) := by decide +kernel
theorem d_LR_line_45 : decode b_LR_line 45 = .ok (.lload 5, 2) := by decide +kernel
theorem d_LR_line_47 : decode b_LR_line 47 = .ok (.lload_n 3, 1) := by decide +kernel
theorem d_LR_line_48 : decode b_LR_line 48 = .ok (.lcmp, 1) := by decide +kernel
theorem d_LR_line_49 : decode b_LR_line 49 = .ok (.ifCond .gt 6, 3) := by decide +kernel
theorem d_LR_line_52 : decode b_LR_line 52 = .ok (.bipush (-12), 2) := by decide +kernel
theorem d_LR_line_54 : decode b_LR_line 54 = .ok (.ireturn, 1) := by decide +kernel
theorem d_LR_line_55 : decode b_LR_line 55 = .ok (.aload_n 0, 1) := by decide +kernel
theorem d_LR_line_56 : decode b_LR_line 56 = .ok (.getfield 24, 3) := by decide +kernel
theorem d_LR_line_59 : decode b_LR_line 59 = .ok (.aload_n 0, 1) := by decide +kernel
theorem d_LR_line_60 : decode b_LR_line 60 = .ok (.getfield 11, 3) := by decide +kernel
theorem d_LR_line_63 : decode b_LR_line 63 = .ok (.arraylength, 1) := by decide +kernel
theorem d_LR_line_64 : decode b_LR_line 64 = .ok (.if_icmp .lt 6, 3) := by decide +kernel
theorem d_LR_line_67 : decode b_LR_line 67 = .ok (.bipush (-14), 2) := by decide +kernel
theorem d_LR_line_69 : decode b_LR_line 69 = .ok (.ireturn, 1) := by decide +kernel
theorem d_LR_line_70 : decode b_LR_line 70 = .ok (.aload_n 0, 1) := by decide +kernel
theorem d_LR_line_71 : decode b_LR_line 71 = .ok (.getfield 11, 3) := by decide +kernel
theorem d_LR_line_74 : decode b_LR_line 74 = .ok (.aload_n 0, 1) := by decide +kernel
theorem d_LR_line_75 : decode b_LR_line 75 = .ok (.getfield 24, 3) := by decide +kernel
theorem d_LR_line_78 : decode b_LR_line 78 = .ok (.new 9, 3) := by decide +kernel
theorem d_LR_line_81 : decode b_LR_line 81 = .ok (.dup, 1) := by decide +kernel
theorem d_LR_line_82 : decode b_LR_line 82 = .ok (.aload_n 0, 1) := by decide +kernel
theorem d_LR_line_83 : decode b_LR_line 83 = .ok (.getfield 24, 3) := by decide +kernel
theorem d_LR_line_86 : decode b_LR_line 86 = .ok (.iconst 1, 1) := by decide +kernel
theorem d_LR_line_87 : decode b_LR_line 87 = .ok (.iadd, 1) := by decide +kernel
theorem d_LR_line_88 : decode b_LR_line 88 = .ok (.iload_n 1, 1) := by decide +kernel
theorem d_LR_line_89 : decode b_LR_line 89 = .ok (.iload_n 2, 1) := by decide +kernel
theorem d_LR_line_90 : decode b_LR_line 90 = .ok (.lload_n 3, 1) := by decide +kernel
theorem d_LR_line_91 : decode b_LR_line 91 = .ok (.lload 5, 2) := by decide +kernel
theorem d_LR_line_93 : decode b_LR_line 93 = .ok (.invokespecial 41, 3) := by decide +kernel
theorem d_LR_line_96 : decode b_LR_line 96 = .ok (.aastore, 1) := by decide +kernel
theorem d_LR_line_97 : decode b_LR_line 97 = .ok (.aload_n 0, 1) := by decide +kernel
theorem d_LR_line_98 : decode b_LR_line 98 = .ok (.dup, 1) := by decide +kernel
theorem d_LR_line_99 : decode b_LR_line 99 = .ok (.getfield 24, 3) := by decide +kernel
theorem d_LR_line_102 : decode b_LR_line 102 = .ok (.iconst 1, 1) := by decide +kernel
theorem d_LR_line_103 : decode b_LR_line 103 = .ok (.iadd, 1) := by decide +kernel
theorem d_LR_line_104 : decode b_LR_line 104 = .ok (.putfield 24, 3) := by decide +kernel
theorem d_LR_line_107 : decode b_LR_line 107 = .ok (.aload_n 0, 1) := by decide +kernel
theorem d_LR_line_108 : decode b_LR_line 108 = .ok (.invokevirtual 44, 3) := by decide +kernel
theorem d_LR_line_111 : decode b_LR_line 111 = .ok (.aload_n 0, 1) := by decide +kernel
theorem d_LR_line_112 : decode b_LR_line 112 = .ok (.getfield 24, 3) := by decide +kernel
theorem d_LR_line_115 : decode b_LR_line 115 = .ok (.ireturn, 1) := by decide +kernel
theorem d_LR_findLine_0 : decode b_LR_findLine 0 = .ok (.iload_n 1, 1) := by decide +kernel
theorem d_LR_findLine_1 : decode b_LR_findLine 1 = .ok (.iconst 1, 1) := by decide +kernel
theorem d_LR_findLine_2 : decode b_LR_findLine 2 = .ok (.if_icmp .lt 22, 3) := by decide +kernel
theorem d_LR_findLine_5 : decode b_LR_findLine 5 = .ok (.iload_n 1, 1) := by decide +kernel
theorem d_LR_findLine_6 : decode b_LR_findLine 6 = .ok (.aload_n 0, 1) := by decide +kernel
theorem d_LR_findLine_7 : decode b_LR_findLine 7 = .ok (.getfield 24, 3) := by decide +kernel
theorem d_LR_findLine_10 : decode b_LR_findLine 10 = .ok (.if_icmp .gt 14, 3) := by decide +kernel
theorem d_LR_findLine_13 : decode b_LR_findLine 13 = .ok (.aload_n 0, 1) := by decide +kernel
theorem d_LR_findLine_14 : decode b_LR_findLine 14 = .ok (.getfield 11, 3) := by decide +kernel
theorem d_LR_findLine_17 : decode b_LR_findLine 17 = .ok (.iload_n 1, 1) := by decide +kernel
theorem d_LR_findLine_18 : decode b_LR_findLine 18 = .ok (.iconst 1, 1) := by decide +kernel
theorem d_LR_findLine_19 : decode b_LR_findLine 19 = .ok (.isub, 1) := by decide +kernel
theorem d_LR_findLine_20 : decode b_LR_findLine 20 = .ok (.aaload, 1) := by decide +kernel
theorem d_LR_findLine_21 : decode b_LR_findLine 21 = .ok (.goto 4, 3) := by decide +kernel
theorem d_LR_findLine_24 : decode b_LR_findLine 24 = .ok (.aconst_null, 1) := by decide +kernel
theorem d_LR_findLine_25 : decode b_LR_findLine 25 = .ok (.areturn, 1) := by decide +kernel
theorem d_LR_fileByLeaving_0 : decode b_LR_fileByLeaving 0 = .ok (.aload_n 0, 1) := by decide +kernel
theorem d_LR_fileByLeaving_1 : decode b_LR_fileByLeaving 1 = .ok (.getfield 28, 3) := by decide +kernel
theorem d_LR_fileByLeaving_4 : decode b_LR_fileByLeaving 4 = .ok (.istore_n 2, 1) := by decide +kernel
theorem d_LR_fileByLeaving_5 : decode b_LR_fileByLeaving 5 = .ok (.iload_n 2, 1) := by decide +kernel
theorem d_LR_fileByLeaving_6 : decode b_LR_fileByLeaving 6 = .ok (.ifCond .le 48, 3) := by decide +kernel
theorem d_LR_fileByLeaving_9 : decode b_LR_fileByLeaving 9 = .ok (.aload_n 0, 1) := by decide +kernel
theorem d_LR_fileByLeaving_10 : decode b_LR_fileByLeaving 10 = .ok (.getfield 21, 3) := by decide +kernel
theorem d_LR_fileByLeaving_13 : decode b_LR_fileByLeaving 13 = .ok (.iload_n 2, 1) := by decide +kernel
theorem d_LR_fileByLeaving_14 : decode b_LR_fileByLeaving 14 = .ok (.iconst 1, 1) := by decide +kernel
theorem d_LR_fileByLeaving_15 : decode b_LR_fileByLeaving 15 = .ok (.isub, 1) := by decide +kernel
theorem d_LR_fileByLeaving_16 : decode b_LR_fileByLeaving 16 = .ok (.aaload, 1) := by decide +kernel
theorem d_LR_fileByLeaving_17 : decode b_LR_fileByLeaving 17 = .ok (.getfield 152, 3) := by decide +kernel
theorem d_LR_fileByLeaving_20 : decode b_LR_fileByLeaving 20 = .ok (.getfield 156, 3) := by decide +kernel
theorem d_LR_fileByLeaving_23 : decode b_LR_fileByLeaving 23 = .ok (.aload_n 1, 1) := by decide +kernel
theorem d_LR_fileByLeaving_24 : decode b_LR_fileByLeaving 24 = .ok (.getfield 152, 3) := by decide +kernel
theorem d_LR_fileByLeaving_27 : decode b_LR_fileByLeaving 27 = .ok (.getfield 156, 3) := by decide +kernel
theorem d_LR_fileByLeaving_30 : decode b_LR_fileByLeaving 30 = .ok (.lcmp, 1) := by decide +kernel
theorem d_LR_fileByLeaving_31 : decode b_LR_fileByLeaving 31 = .ok (.ifCond .le 23, 3) := by decide +kernel
theorem d_LR_fileByLeaving_34 : decode b_LR_fileByLeaving 34 = .ok (.aload_n 0, 1) := by decide +kernel
theorem d_LR_fileByLeaving_35 : decode b_LR_fileByLeaving 35 = .ok (.getfield 21, 3) := by decide +kernel
theorem d_LR_fileByLeaving_38 : decode b_LR_fileByLeaving 38 = .ok (.iload_n 2, 1) := by decide +kernel
theorem d_LR_fileByLeaving_39 : decode b_LR_fileByLeaving 39 = .ok (.aload_n 0, 1) := by decide +kernel
theorem d_LR_fileByLeaving_40 : decode b_LR_fileByLeaving 40 = .ok (.getfield 21, 3) := by decide +kernel
theorem d_LR_fileByLeaving_43 : decode b_LR_fileByLeaving 43 = .ok (.iload_n 2, 1) := by decide +kernel
theorem d_LR_fileByLeaving_44 : decode b_LR_fileByLeaving 44 = .ok (.iconst 1, 1) := by decide +kernel
theorem d_LR_fileByLeaving_45 : decode b_LR_fileByLeaving 45 = .ok (.isub, 1) := by decide +kernel
theorem d_LR_fileByLeaving_46 : decode b_LR_fileByLeaving 46 = .ok (.aaload, 1) := by decide +kernel
theorem d_LR_fileByLeaving_47 : decode b_LR_fileByLeaving 47 = .ok (.aastore, 1) := by decide +kernel
theorem d_LR_fileByLeaving_48 : decode b_LR_fileByLeaving 48 = .ok (.iinc 2 (-1), 3) := by decide +kernel
theorem d_LR_fileByLeaving_51 : decode b_LR_fileByLeaving 51 = .ok (.goto (-46), 3) := by decide +kernel
theorem d_LR_fileByLeaving_54 : decode b_LR_fileByLeaving 54 = .ok (.aload_n 0, 1) := by decide +kernel
theorem d_LR_fileByLeaving_55 : decode b_LR_fileByLeaving 55 = .ok (.getfield 21, 3) := by decide +kernel
theorem d_LR_fileByLeaving_58 : decode b_LR_fileByLeaving 58 = .ok (.iload_n 2, 1) := by decide +kernel
theorem d_LR_fileByLeaving_59 : decode b_LR_fileByLeaving 59 = .ok (.aload_n 1, 1) := by decide +kernel
theorem d_LR_fileByLeaving_60 : decode b_LR_fileByLeaving 60 = .ok (.aastore, 1) := by decide +kernel
theorem d_LR_fileByLeaving_61 : decode b_LR_fileByLeaving 61 = .ok (.return_, 1) := by decide +kernel
theorem d_LR_load_0 : decode b_LR_load 0 = .ok (.aload_n 0, 1) := by decide +kernel
theorem d_LR_load_1 : decode b_LR_load 1 = .ok (.iload_n 1, 1) := by decide +kernel
theorem d_LR_load_2 : decode b_LR_load 2 = .ok (.invokevirtual 47, 3) := by decide +kernel
theorem d_LR_load_5 : decode b_LR_load 5 = .ok (.astore 6, 2) := by decide +kernel
theorem d_LR_load_7 : decode b_LR_load 7 = .ok (.aload 6, 2) := by decide +kernel
theorem d_LR_load_9 : decode b_LR_load 9 = .ok (.ifnonnull 6, 3) := by decide +kernel
theorem d_LR_load_12 : decode b_LR_load 12 = .ok (.bipush (-11), 2) := by decide +kernel
theorem d_LR_load_14 : decode b_LR_load 14 = .ok (.ireturn, 1) := by decide +kernel
theorem d_LR_load_15 : decode b_LR_load 15 = .ok (.iload_n 2, 1) := by decide +kernel
theorem d_LR_load_16 : decode b_LR_load 16 = .ok (.invokestatic 31, 3) := by decide +kernel
theorem d_LR_load_19 : decode b_LR_load 19 = .ok (.ifCond .eq 27, 3) := by decide +kernel
theorem d_LR_load_22 : decode b_LR_load 22 = .ok (.lload_n 3, 1) := by decide +kernel
theorem d_LR_load_23 : decode b_LR_load 23 = .ok (.lconst 0, 1) := by decide +kernel
theorem d_LR_load_24 : decode b_LR_load 24 = .ok (.ldc2_w 51, 3) := by decide +kernel
theorem d_LR_load_27 : decode b_LR_load 27 = .ok (.invokestatic 37, 3) := by decide +kernel
theorem d_LR_load_30 : decode b_LR_load 30 = .ok (.ifCond .eq 16, 3) := by decide +kernel
theorem d_LR_load_33 : decode b_LR_load 33 = .ok (.iload 5, 2) := by decide +kernel
theorem d_LR_load_35 : decode b_LR_load 35 = .ok (.i2l, 1) := by decide +kernel
theorem d_LR_load_36 : decode b_LR_load 36 = .ok (.lconst 1, 1) := by decide +kernel
theorem d_LR_load_37 : decode b_LR_load 37 = .ok (.ldc2_w 53, 3) := by decide +kernel
theorem d_LR_load_40 : decode b_LR_load 40 = .ok (.invokestatic 37, 3) := by decide +kernel
theorem d_LR_load_43 : decode b_LR_load 43 = .ok (.ifCond .ne 6, 3) := by decide +kernel
theorem d_LR_load_46 : decode b_LR_load 46 = .ok (.bipush (-12), 2) := by decide +kernel
theorem d_LR_load_48 : decode b_LR_load 48 = .ok (.ireturn, 1) := by decide +kernel
theorem d_LR_load_49 : decode b_LR_load 49 = .ok (.aload_n 0, 1) := by decide +kernel
theorem d_LR_load_50 : decode b_LR_load 50 = .ok (.getfield 28, 3) := by decide +kernel
theorem d_LR_load_53 : decode b_LR_load 53 = .ok (.aload_n 0, 1) := by decide +kernel
theorem d_LR_load_54 : decode b_LR_load 54 = .ok (.getfield 17, 3) := by decide +kernel
theorem d_LR_load_57 : decode b_LR_load 57 = .ok (.arraylength, 1) := by decide +kernel
theorem d_LR_load_58 : decode b_LR_load 58 = .ok (.if_icmp .ge 15, 3) := by decide +kernel
theorem d_LR_load_61 : decode b_LR_load 61 = .ok (.aload_n 0, 1) := by decide +kernel
theorem d_LR_load_62 : decode b_LR_load 62 = .ok (.getfield 28, 3) := by decide +kernel
theorem d_LR_load_65 : decode b_LR_load 65 = .ok (.aload_n 0, 1) := by decide +kernel
theorem d_LR_load_66 : decode b_LR_load 66 = .ok (.getfield 21, 3) := by decide +kernel
theorem d_LR_load_69 : decode b_LR_load 69 = .ok (.arraylength, 1) := by decide +kernel
theorem d_LR_load_70 : decode b_LR_load 70 = .ok (.if_icmp .lt 6, 3) := by decide +kernel
theorem d_LR_load_73 : decode b_LR_load 73 = .ok (.bipush (-14), 2) := by decide +kernel
theorem d_LR_load_75 : decode b_LR_load 75 = .ok (.ireturn, 1) := by decide +kernel
theorem d_LR_load_76 : decode b_LR_load 76 = .ok (.new 15, 3) := by decide +kernel
theorem d_LR_load_79 : decode b_LR_load 79 = .ok (.dup, 1) := by decide +kernel
theorem d_LR_load_80 : decode b_LR_load 80 = .ok (.aload 6, 2) := by decide +kernel
theorem d_LR_load_82 : decode b_LR_load 82 = .ok (.iload_n 2, 1) := by decide +kernel
theorem d_LR_load_83 : decode b_LR_load 83 = .ok (.lload_n 3, 1) := by decide +kernel
theorem d_LR_load_84 : decode b_LR_load 84 = .ok (.iload 5, 2) := by decide +kernel
theorem d_LR_load_86 : decode b_LR_load 86 = .ok (.invokespecial 55, 3) := by decide +kernel
theorem d_LR_load_89 : decode b_LR_load 89 = .ok (.astore 7, 2) := by decide +kernel
theorem d_LR_load_91 : decode b_LR_load 91 = .ok (.aload_n 0, 1) := by decide +kernel
theorem d_LR_load_92 : decode b_LR_load 92 = .ok (.getfield 17, 3) := by decide +kernel
theorem d_LR_load_95 : decode b_LR_load 95 = .ok (.aload_n 0, 1) := by decide +kernel
theorem d_LR_load_96 : decode b_LR_load 96 = .ok (.getfield 28, 3) := by decide +kernel
theorem d_LR_load_99 : decode b_LR_load 99 = .ok (.aload 7, 2) := by decide +kernel
theorem d_LR_load_101 : decode b_LR_load 101 = .ok (.aastore, 1) := by decide +kernel
theorem d_LR_load_102 : decode b_LR_load 102 = .ok (.aload_n 0, 1) := by decide +kernel
theorem d_LR_load_103 : decode b_LR_load 103 = .ok (.aload 7, 2) := by decide +kernel
theorem d_LR_load_105 : decode b_LR_load 105 = .ok (.invokevirtual 58, 3) := by decide +kernel
theorem d_LR_load_108 : decode b_LR_load 108 = .ok (.aload_n 0, 1) := by decide +kernel
theorem d_LR_load_109 : decode b_LR_load 109 = .ok (.dup, 1) := by decide +kernel
theorem d_LR_load_110 : decode b_LR_load 110 = .ok (.getfield 28, 3) := by decide +kernel
theorem d_LR_load_113 : decode b_LR_load 113 = .ok (.iconst 1, 1) := by decide +kernel
theorem d_LR_load_114 : decode b_LR_load 114 = .ok (.iadd, 1) := by decide +kernel
theorem d_LR_load_115 : decode b_LR_load 115 = .ok (.putfield 28, 3) := by decide +kernel
theorem d_LR_load_118 : decode b_LR_load 118 = .ok (.aload_n 0, 1) := by decide +kernel
theorem d_LR_load_119 : decode b_LR_load 119 = .ok (.invokevirtual 44, 3) := by decide +kernel
theorem d_LR_load_122 : decode b_LR_load 122 = .ok (.aload_n 0, 1) := by decide +kernel
theorem d_LR_load_123 : decode b_LR_load 123 = .ok (.getfield 28, 3) := by decide +kernel
theorem d_LR_load_126 : decode b_LR_load 126 = .ok (.ireturn, 1) := by decide +kernel
theorem d_LR_findLoad_0 : decode b_LR_findLoad 0 = .ok (.iload_n 1, 1) := by decide +kernel
theorem d_LR_findLoad_1 : decode b_LR_findLoad 1 = .ok (.iconst 1, 1) := by decide +kernel
theorem d_LR_findLoad_2 : decode b_LR_findLoad 2 = .ok (.if_icmp .lt 22, 3) := by decide +kernel
theorem d_LR_findLoad_5 : decode b_LR_findLoad 5 = .ok (.iload_n 1, 1) := by decide +kernel
theorem d_LR_findLoad_6 : decode b_LR_findLoad 6 = .ok (.aload_n 0, 1) := by decide +kernel
theorem d_LR_findLoad_7 : decode b_LR_findLoad 7 = .ok (.getfield 28, 3) := by decide +kernel
theorem d_LR_findLoad_10 : decode b_LR_findLoad 10 = .ok (.if_icmp .gt 14, 3) := by decide +kernel
theorem d_LR_findLoad_13 : decode b_LR_findLoad 13 = .ok (.aload_n 0, 1) := by decide +kernel
theorem d_LR_findLoad_14 : decode b_LR_findLoad 14 = .ok (.getfield 17, 3) := by decide +kernel
theorem d_LR_findLoad_17 : decode b_LR_findLoad 17 = .ok (.iload_n 1, 1) := by decide +kernel
theorem d_LR_findLoad_18 : decode b_LR_findLoad 18 = .ok (.iconst 1, 1) := by decide +kernel
theorem d_LR_findLoad_19 : decode b_LR_findLoad 19 = .ok (.isub, 1) := by decide +kernel
theorem d_LR_findLoad_20 : decode b_LR_findLoad 20 = .ok (.aaload, 1) := by decide +kernel
theorem d_LR_findLoad_21 : decode b_LR_findLoad 21 = .ok (.goto 4, 3) := by decide +kernel
theorem d_LR_findLoad_24 : decode b_LR_findLoad 24 = .ok (.aconst_null, 1) := by decide +kernel
theorem d_LR_findLoad_25 : decode b_LR_findLoad 25 = .ok (.areturn, 1) := by decide +kernel
theorem d_LR_option_0 : decode b_LR_option 0 = .ok (.aload_n 0, 1) := by decide +kernel
theorem d_LR_option_1 : decode b_LR_option 1 = .ok (.iload_n 1, 1) := by decide +kernel
theorem d_LR_option_2 : decode b_LR_option 2 = .ok (.invokevirtual 62, 3) := by decide +kernel
theorem d_LR_option_5 : decode b_LR_option 5 = .ok (.astore 6, 2) := by decide +kernel
theorem d_LR_option_7 : decode b_LR_option 7 = .ok (.iload_n 2, 1) := by decide +kernel
theorem d_LR_option_8 : decode b_LR_option 8 = .ok (.iconst 2, 1) := by decide +kernel
theorem d_LR_option_9 : decode b_LR_option 9 = .ok (.if_icmp .ne 7, 3) := by decide +kernel
theorem d_LR_option_12 : decode b_LR_option 12 = .ok (.aconst_null, 1) := by decide +kernel
theorem d_LR_option_13 : decode b_LR_option 13 = .ok (.goto 8, 3) := by decide +kernel
theorem d_LR_option_16 : decode b_LR_option 16 = .ok (.aload_n 0, 1) := by decide +kernel
theorem d_LR_option_17 : decode b_LR_option 17 = .ok (.iload_n 3, 1) := by decide +kernel
theorem d_LR_option_18 : decode b_LR_option 18 = .ok (.invokevirtual 47, 3) := by decide +kernel
theorem d_LR_option_21 : decode b_LR_option 21 = .ok (.astore 7, 2) := by decide +kernel
theorem d_LR_option_23 : decode b_LR_option 23 = .ok (.aload 6, 2) := by decide +kernel
theorem d_LR_option_25 : decode b_LR_option 25 = .ok (.ifnull 13, 3) := by decide +kernel
theorem d_LR_option_28 : decode b_LR_option 28 = .ok (.iload_n 2, 1) := by decide +kernel
theorem d_LR_option_29 : decode b_LR_option 29 = .ok (.iconst 2, 1) := by decide +kernel
theorem d_LR_option_30 : decode b_LR_option 30 = .ok (.if_icmp .eq 11, 3) := by decide +kernel
theorem d_LR_option_33 : decode b_LR_option 33 = .ok (.aload 7, 2) := by decide +kernel
theorem d_LR_option_35 : decode b_LR_option 35 = .ok (.ifnonnull 6, 3) := by decide +kernel
theorem d_LR_option_38 : decode b_LR_option 38 = .ok (.bipush (-11), 2) := by decide +kernel
theorem d_LR_option_40 : decode b_LR_option 40 = .ok (.ireturn, 1) := by decide +kernel
theorem d_LR_option_41 : decode b_LR_option 41 = .ok (.iload_n 2, 1) := by decide +kernel
theorem d_LR_option_42 : decode b_LR_option 42 = .ok (.i2l, 1) := by decide +kernel
theorem d_LR_option_43 : decode b_LR_option 43 = .ok (.lconst 0, 1) := by decide +kernel
theorem d_LR_option_44 : decode b_LR_option 44 = .ok (.ldc2_w 66, 3) := by decide +kernel
theorem d_LR_option_47 : decode b_LR_option 47 = .ok (.invokestatic 37, 3) := by decide +kernel
theorem d_LR_option_50 : decode b_LR_option 50 = .ok (.ifCond .eq 15, 3) := by decide +kernel
theorem d_LR_option_53 : decode b_LR_option 53 = .ok (.lload 4, 2) := by decide +kernel
theorem d_LR_option_55 : decode b_LR_option 55 = .ok (.lconst 0, 1) := by decide +kernel
theorem d_LR_option_56 : decode b_LR_option 56 = .ok (.ldc2_w 35, 3) := by decide +kernel
theorem d_LR_option_59 : decode b_LR_option 59 = .ok (.invokestatic 37, 3) := by decide +kernel
theorem d_LR_option_62 : decode b_LR_option 62 = .ok (.ifCond .ne 6, 3) := by decide +kernel
theorem d_LR_option_65 : decode b_LR_option 65 = .ok (.bipush (-12), 2) := by decide +kernel
theorem d_LR_option_67 : decode b_LR_option 67 = .ok (.ireturn, 1) := by decide +kernel
theorem d_LR_option_68 : decode b_LR_option 68 = .ok (.aload 6, 2) := by decide +kernel
theorem d_LR_option_70 : decode b_LR_option 70 = .ok (.invokevirtual 68, 3) := by decide +kernel
theorem d_LR_option_73 : decode b_LR_option 73 = .ok (.ifCond .ne 18, 3) := by decide +kernel
theorem d_LR_option_76 : decode b_LR_option 76 = .ok (.aload 7, 2) := by decide +kernel
theorem d_LR_option_78 : decode b_LR_option 78 = .ok (.ifnull 16, 3) := by decide +kernel
theorem d_LR_option_81 : decode b_LR_option 81 = .ok (.aload 6, 2) := by decide +kernel
theorem d_LR_option_83 : decode b_LR_option 83 = .ok (.aload 7, 2) := by decide +kernel
theorem d_LR_option_85 : decode b_LR_option 85 = .ok (.invokevirtual 72, 3) := by decide +kernel
theorem d_LR_option_88 : decode b_LR_option 88 = .ok (.ifCond .ne 6, 3) := by decide +kernel
theorem d_LR_option_91 : decode b_LR_option 91 = .ok (.bipush (-13), 2) := by decide +kernel
theorem d_LR_option_93 : decode b_LR_option 93 = .ok (.ireturn, 1) := by decide +kernel
theorem d_LR_option_94 : decode b_LR_option 94 = .ok (.aload 6, 2) := by decide +kernel
theorem d_LR_option_96 : decode b_LR_option 96 = .ok (.invokevirtual 76, 3) := by decide +kernel
theorem d_LR_option_99 : decode b_LR_option 99 = .ok (.ifCond .ne 6, 3) := by decide +kernel
theorem d_LR_option_102 : decode b_LR_option 102 = .ok (.bipush (-14), 2) := by decide +kernel
theorem d_LR_option_104 : decode b_LR_option 104 = .ok (.ireturn, 1) := by decide +kernel
theorem d_LR_option_105 : decode b_LR_option 105 = .ok (.aload 6, 2) := by decide +kernel
theorem d_LR_option_107 : decode b_LR_option 107 = .ok (.new 79, 3) := by decide +kernel
theorem d_LR_option_110 : decode b_LR_option 110 = .ok (.dup, 1) := by decide +kernel
theorem d_LR_option_111 : decode b_LR_option 111 = .ok (.iload_n 2, 1) := by decide +kernel
theorem d_LR_option_112 : decode b_LR_option 112 = .ok (.aload 7, 2) := by decide +kernel
theorem d_LR_option_114 : decode b_LR_option 114 = .ok (.lload 4, 2) := by decide +kernel
theorem d_LR_option_116 : decode b_LR_option 116 = .ok (.invokespecial 81, 3) := by decide +kernel
theorem d_LR_option_119 : decode b_LR_option 119 = .ok (.invokevirtual 84, 3) := by decide +kernel
theorem d_LR_option_122 : decode b_LR_option 122 = .ok (.istore 8, 2) := by decide +kernel
theorem d_LR_option_124 : decode b_LR_option 124 = .ok (.aload_n 0, 1) := by decide +kernel
theorem d_LR_option_125 : decode b_LR_option 125 = .ok (.invokevirtual 44, 3) := by decide +kernel
theorem d_LR_option_128 : decode b_LR_option 128 = .ok (.iload 8, 2) := by decide +kernel
theorem d_LR_option_130 : decode b_LR_option 130 = .ok (.ireturn, 1) := by decide +kernel
theorem d_LR_waits_0 : decode b_LR_waits 0 = .ok (.aload_n 0, 1) := by decide +kernel
theorem d_LR_waits_1 : decode b_LR_waits 1 = .ok (.iload_n 1, 1) := by decide +kernel
theorem d_LR_waits_2 : decode b_LR_waits 2 = .ok (.invokevirtual 47, 3) := by decide +kernel
theorem d_LR_waits_5 : decode b_LR_waits 5 = .ok (.astore 4, 2) := by decide +kernel
theorem d_LR_waits_7 : decode b_LR_waits 7 = .ok (.aload 4, 2) := by decide +kernel
theorem d_LR_waits_9 : decode b_LR_waits 9 = .ok (.ifnonnull 6, 3) := by decide +kernel
theorem d_LR_waits_12 : decode b_LR_waits 12 = .ok (.bipush (-11), 2) := by decide +kernel
theorem d_LR_waits_14 : decode b_LR_waits 14 = .ok (.ireturn, 1) := by decide +kernel
theorem d_LR_waits_15 : decode b_LR_waits 15 = .ok (.lload_n 2, 1) := by decide +kernel
theorem d_LR_waits_16 : decode b_LR_waits 16 = .ok (.lconst 0, 1) := by decide +kernel
theorem d_LR_waits_17 : decode b_LR_waits 17 = .ok (.ldc2_w 88, 3) := by decide +kernel
theorem d_LR_waits_20 : decode b_LR_waits 20 = .ok (.invokestatic 37, 3) := by decide +kernel
theorem d_LR_waits_23 : decode b_LR_waits 23 = .ok (.ifCond .ne 6, 3) := by decide +kernel
theorem d_LR_waits_26 : decode b_LR_waits 26 = .ok (.bipush (-12), 2) := by decide +kernel
theorem d_LR_waits_28 : decode b_LR_waits 28 = .ok (.ireturn, 1) := by decide +kernel
theorem d_LR_waits_29 : decode b_LR_waits 29 = .ok (.aload 4, 2) := by decide +kernel
theorem d_LR_waits_31 : decode b_LR_waits 31 = .ok (.getfield 90, 3) := by decide +kernel
theorem d_LR_waits_34 : decode b_LR_waits 34 = .ok (.l2i, 1) := by decide +kernel
theorem d_LR_waits_35 : decode b_LR_waits 35 = .ok (.istore 5, 2) := by decide +kernel
theorem d_LR_waits_37 : decode b_LR_waits 37 = .ok (.aload 4, 2) := by decide +kernel
theorem d_LR_waits_39 : decode b_LR_waits 39 = .ok (.lload_n 2, 1) := by decide +kernel
theorem d_LR_waits_40 : decode b_LR_waits 40 = .ok (.putfield 90, 3) := by decide +kernel
theorem d_LR_waits_43 : decode b_LR_waits 43 = .ok (.aload_n 0, 1) := by decide +kernel
theorem d_LR_waits_44 : decode b_LR_waits 44 = .ok (.invokevirtual 44, 3) := by decide +kernel
theorem d_LR_waits_47 : decode b_LR_waits 47 = .ok (.iload 5, 2) := by decide +kernel
theorem d_LR_waits_49 : decode b_LR_waits 49 = .ok (.ireturn, 1) := by decide +kernel
theorem d_LR_countFailing_0 : decode b_LR_countFailing 0 = .ok (.iconst 0, 1) := by decide +kernel
theorem d_LR_countFailing_1 : decode b_LR_countFailing 1 = .ok (.istore_n 1, 1) := by decide +kernel
theorem d_LR_countFailing_2 : decode b_LR_countFailing 2 = .ok (.iconst 0, 1) := by decide +kernel
theorem d_LR_countFailing_3 : decode b_LR_countFailing 3 = .ok (.istore_n 2, 1) := by decide +kernel
theorem d_LR_countFailing_4 : decode b_LR_countFailing 4 = .ok (.iload_n 2, 1) := by decide +kernel
theorem d_LR_countFailing_5 : decode b_LR_countFailing 5 = .ok (.aload_n 0, 1) := by decide +kernel
theorem d_LR_countFailing_6 : decode b_LR_countFailing 6 = .ok (.getfield 28, 3) := by decide +kernel
theorem d_LR_countFailing_9 : decode b_LR_countFailing 9 = .ok (.if_icmp .ge 38, 3) := by decide +kernel
theorem d_LR_countFailing_12 : decode b_LR_countFailing 12 = .ok (.aload_n 0, 1) := by decide +kernel
theorem d_LR_countFailing_13 : decode b_LR_countFailing 13 = .ok (.getfield 17, 3) := by decide +kernel
theorem d_LR_countFailing_16 : decode b_LR_countFailing 16 = .ok (.iload_n 2, 1) := by decide +kernel
theorem d_LR_countFailing_17 : decode b_LR_countFailing 17 = .ok (.aaload, 1) := by decide +kernel
theorem d_LR_countFailing_18 : decode b_LR_countFailing 18 = .ok (.getfield 146, 3) := by decide +kernel
theorem d_LR_countFailing_21 : decode b_LR_countFailing 21 = .ok (.ifCond .ne 17, 3) := by decide +kernel
theorem d_LR_countFailing_24 : decode b_LR_countFailing 24 = .ok (.aload_n 0, 1) := by decide +kernel
theorem d_LR_countFailing_25 : decode b_LR_countFailing 25 = .ok (.getfield 17, 3) := by decide +kernel
theorem d_LR_countFailing_28 : decode b_LR_countFailing 28 = .ok (.iload_n 2, 1) := by decide +kernel
theorem d_LR_countFailing_29 : decode b_LR_countFailing 29 = .ok (.aaload, 1) := by decide +kernel
theorem d_LR_countFailing_30 : decode b_LR_countFailing 30 = .ok (.invokevirtual 168, 3) := by decide +kernel
theorem d_LR_countFailing_33 : decode b_LR_countFailing 33 = .ok (.lconst 0, 1) := by decide +kernel
theorem d_LR_countFailing_34 : decode b_LR_countFailing 34 = .ok (.lcmp, 1) := by decide +kernel
theorem d_LR_countFailing_35 : decode b_LR_countFailing 35 = .ok (.ifCond .le 6, 3) := by decide +kernel
theorem d_LR_countFailing_38 : decode b_LR_countFailing 38 = .ok (.iinc 1 1, 3) := by decide +kernel
theorem d_LR_countFailing_41 : decode b_LR_countFailing 41 = .ok (.iinc 2 1, 3) := by decide +kernel
theorem d_LR_countFailing_44 : decode b_LR_countFailing 44 = .ok (.goto (-40), 3) := by decide +kernel
theorem d_LR_countFailing_47 : decode b_LR_countFailing 47 = .ok (.iload_n 1, 1) := by decide +kernel
theorem d_LR_countFailing_48 : decode b_LR_countFailing 48 = .ok (.ireturn, 1) := by decide +kernel
theorem d_LR_late_0 : decode b_LR_late 0 = .ok (.aload_n 0, 1) := by decide +kernel
theorem d_LR_late_1 : decode b_LR_late 1 = .ok (.iload_n 1, 1) := by decide +kernel
theorem d_LR_late_2 : decode b_LR_late 2 = .ok (.invokevirtual 47, 3) := by decide +kernel
theorem d_LR_late_5 : decode b_LR_late 5 = .ok (.astore 4, 2) := by decide +kernel
theorem d_LR_late_7 : decode b_LR_late 7 = .ok (.aload 4, 2) := by decide +kernel
theorem d_LR_late_9 : decode b_LR_late 9 = .ok (.ifnonnull 6, 3) := by decide +kernel
theorem d_LR_late_12 : decode b_LR_late 12 = .ok (.bipush (-11), 2) := by decide +kernel
theorem d_LR_late_14 : decode b_LR_late 14 = .ok (.ireturn, 1) := by decide +kernel
theorem d_LR_late_15 : decode b_LR_late 15 = .ok (.lload_n 2, 1) := by decide +kernel
theorem d_LR_late_16 : decode b_LR_late 16 = .ok (.lconst 0, 1) := by decide +kernel
theorem d_LR_late_17 : decode b_LR_late 17 = .ok (.ldc2_w 94, 3) := by decide +kernel
theorem d_LR_late_20 : decode b_LR_late 20 = .ok (.invokestatic 37, 3) := by decide +kernel
theorem d_LR_late_23 : decode b_LR_late 23 = .ok (.ifCond .ne 6, 3) := by decide +kernel
theorem d_LR_late_26 : decode b_LR_late 26 = .ok (.bipush (-12), 2) := by decide +kernel
theorem d_LR_late_28 : decode b_LR_late 28 = .ok (.ireturn, 1) := by decide +kernel
theorem d_LR_late_29 : decode b_LR_late 29 = .ok (.aload 4, 2) := by decide +kernel
theorem d_LR_late_31 : decode b_LR_late 31 = .ok (.lload_n 2, 1) := by decide +kernel
theorem d_LR_late_32 : decode b_LR_late 32 = .ok (.putfield 96, 3) := by decide +kernel
theorem d_LR_late_35 : decode b_LR_late 35 = .ok (.aload_n 0, 1) := by decide +kernel
theorem d_LR_late_36 : decode b_LR_late 36 = .ok (.invokevirtual 44, 3) := by decide +kernel
theorem d_LR_late_39 : decode b_LR_late 39 = .ok (.aload_n 0, 1) := by decide +kernel
theorem d_LR_late_40 : decode b_LR_late 40 = .ok (.invokevirtual 99, 3) := by decide +kernel
theorem d_LR_late_43 : decode b_LR_late 43 = .ok (.ireturn, 1) := by decide +kernel
theorem d_LR_countMoved_0 : decode b_LR_countMoved 0 = .ok (.iconst 0, 1) := by decide +kernel
theorem d_LR_countMoved_1 : decode b_LR_countMoved 1 = .ok (.istore_n 1, 1) := by decide +kernel
theorem d_LR_countMoved_2 : decode b_LR_countMoved 2 = .ok (.iconst 0, 1) := by decide +kernel
theorem d_LR_countMoved_3 : decode b_LR_countMoved 3 = .ok (.istore_n 2, 1) := by decide +kernel
theorem d_LR_countMoved_4 : decode b_LR_countMoved 4 = .ok (.iload_n 2, 1) := by decide +kernel
theorem d_LR_countMoved_5 : decode b_LR_countMoved 5 = .ok (.aload_n 0, 1) := by decide +kernel
theorem d_LR_countMoved_6 : decode b_LR_countMoved 6 = .ok (.getfield 28, 3) := by decide +kernel
theorem d_LR_countMoved_9 : decode b_LR_countMoved 9 = .ok (.if_icmp .ge 24, 3) := by decide +kernel
theorem d_LR_countMoved_12 : decode b_LR_countMoved 12 = .ok (.aload_n 0, 1) := by decide +kernel
theorem d_LR_countMoved_13 : decode b_LR_countMoved 13 = .ok (.getfield 17, 3) := by decide +kernel
theorem d_LR_countMoved_16 : decode b_LR_countMoved 16 = .ok (.iload_n 2, 1) := by decide +kernel
theorem d_LR_countMoved_17 : decode b_LR_countMoved 17 = .ok (.aaload, 1) := by decide +kernel
theorem d_LR_countMoved_18 : decode b_LR_countMoved 18 = .ok (.invokevirtual 171, 3) := by decide +kernel
theorem d_LR_countMoved_21 : decode b_LR_countMoved 21 = .ok (.ifCond .eq 6, 3) := by decide +kernel
theorem d_LR_countMoved_24 : decode b_LR_countMoved 24 = .ok (.iinc 1 1, 3) := by decide +kernel
theorem d_LR_countMoved_27 : decode b_LR_countMoved 27 = .ok (.iinc 2 1, 3) := by decide +kernel
theorem d_LR_countMoved_30 : decode b_LR_countMoved 30 = .ok (.goto (-26), 3) := by decide +kernel
theorem d_LR_countMoved_33 : decode b_LR_countMoved 33 = .ok (.iload_n 1, 1) := by decide +kernel
theorem d_LR_countMoved_34 : decode b_LR_countMoved 34 = .ok (.ireturn, 1) := by decide +kernel
theorem d_LR_tell_0 : decode b_LR_tell 0 = .ok (.aload_n 0, 1) := by decide +kernel
theorem d_LR_tell_1 : decode b_LR_tell 1 = .ok (.iload_n 1, 1) := by decide +kernel
theorem d_LR_tell_2 : decode b_LR_tell 2 = .ok (.invokevirtual 47, 3) := by decide +kernel
theorem d_LR_tell_5 : decode b_LR_tell 5 = .ok (.astore 4, 2) := by decide +kernel
theorem d_LR_tell_7 : decode b_LR_tell 7 = .ok (.aload 4, 2) := by decide +kernel
theorem d_LR_tell_9 : decode b_LR_tell 9 = .ok (.ifnonnull 6, 3) := by decide +kernel
theorem d_LR_tell_12 : decode b_LR_tell 12 = .ok (.bipush (-11), 2) := by decide +kernel
theorem d_LR_tell_14 : decode b_LR_tell 14 = .ok (.ireturn, 1) := by decide +kernel
theorem d_LR_tell_15 : decode b_LR_tell 15 = .ok (.lload_n 2, 1) := by decide +kernel
theorem d_LR_tell_16 : decode b_LR_tell 16 = .ok (.lconst 0, 1) := by decide +kernel
theorem d_LR_tell_17 : decode b_LR_tell 17 = .ok (.ldc2_w 94, 3) := by decide +kernel
theorem d_LR_tell_20 : decode b_LR_tell 20 = .ok (.invokestatic 37, 3) := by decide +kernel
theorem d_LR_tell_23 : decode b_LR_tell 23 = .ok (.ifCond .ne 6, 3) := by decide +kernel
theorem d_LR_tell_26 : decode b_LR_tell 26 = .ok (.bipush (-12), 2) := by decide +kernel
theorem d_LR_tell_28 : decode b_LR_tell 28 = .ok (.ireturn, 1) := by decide +kernel
theorem d_LR_tell_29 : decode b_LR_tell 29 = .ok (.iconst 0, 1) := by decide +kernel
theorem d_LR_tell_30 : decode b_LR_tell 30 = .ok (.istore 5, 2) := by decide +kernel
theorem d_LR_tell_32 : decode b_LR_tell 32 = .ok (.iload 5, 2) := by decide +kernel
theorem d_LR_tell_34 : decode b_LR_tell 34 = .ok (.aload_n 0, 1) := by decide +kernel
theorem d_LR_tell_35 : decode b_LR_tell 35 = .ok (.getfield 28, 3) := by decide +kernel
theorem d_LR_tell_38 : decode b_LR_tell 38 = .ok (.if_icmp .ge 44, 3) := by decide +kernel
theorem d_LR_tell_41 : decode b_LR_tell 41 = .ok (.aload_n 0, 1) := by decide +kernel
theorem d_LR_tell_42 : decode b_LR_tell 42 = .ok (.getfield 17, 3) := by decide +kernel
theorem d_LR_tell_45 : decode b_LR_tell 45 = .ok (.iload 5, 2) := by decide +kernel
theorem d_LR_tell_47 : decode b_LR_tell 47 = .ok (.aaload, 1) := by decide +kernel
theorem d_LR_tell_48 : decode b_LR_tell 48 = .ok (.invokevirtual 103, 3) := by decide +kernel
theorem d_LR_tell_51 : decode b_LR_tell 51 = .ok (.aload_n 0, 1) := by decide +kernel
theorem d_LR_tell_52 : decode b_LR_tell 52 = .ok (.getfield 17, 3) := by decide +kernel
theorem d_LR_tell_55 : decode b_LR_tell 55 = .ok (.iload 5, 2) := by decide +kernel
theorem d_LR_tell_57 : decode b_LR_tell 57 = .ok (.aaload, 1) := by decide +kernel
theorem d_LR_tell_58 : decode b_LR_tell 58 = .ok (.aload 4, 2) := by decide +kernel
theorem d_LR_tell_60 : decode b_LR_tell 60 = .ok (.invokevirtual 106, 3) := by decide +kernel
theorem d_LR_tell_63 : decode b_LR_tell 63 = .ok (.ifCond .eq 13, 3) := by decide +kernel
theorem d_LR_tell_66 : decode b_LR_tell 66 = .ok (.aload_n 0, 1) := by decide +kernel
theorem d_LR_tell_67 : decode b_LR_tell 67 = .ok (.getfield 17, 3) := by decide +kernel
theorem d_LR_tell_70 : decode b_LR_tell 70 = .ok (.iload 5, 2) := by decide +kernel
theorem d_LR_tell_72 : decode b_LR_tell 72 = .ok (.aaload, 1) := by decide +kernel
theorem d_LR_tell_73 : decode b_LR_tell 73 = .ok (.invokevirtual 109, 3) := by decide +kernel
theorem d_LR_tell_76 : decode b_LR_tell 76 = .ok (.iinc 5 1, 3) := by decide +kernel
theorem d_LR_tell_79 : decode b_LR_tell 79 = .ok (.goto (-47), 3) := by decide +kernel
theorem d_LR_tell_82 : decode b_LR_tell 82 = .ok (.aload 4, 2) := by decide +kernel
theorem d_LR_tell_84 : decode b_LR_tell 84 = .ok (.lload_n 2, 1) := by decide +kernel
theorem d_LR_tell_85 : decode b_LR_tell 85 = .ok (.putfield 96, 3) := by decide +kernel
theorem d_LR_tell_88 : decode b_LR_tell 88 = .ok (.aload_n 0, 1) := by decide +kernel
theorem d_LR_tell_89 : decode b_LR_tell 89 = .ok (.invokevirtual 44, 3) := by decide +kernel
theorem d_LR_tell_92 : decode b_LR_tell 92 = .ok (.aload_n 0, 1) := by decide +kernel
theorem d_LR_tell_93 : decode b_LR_tell 93 = .ok (.invokevirtual 112, 3) := by decide +kernel
theorem d_LR_tell_96 : decode b_LR_tell 96 = .ok (.ireturn, 1) := by decide +kernel
theorem d_LR_sumHarm_0 : decode b_LR_sumHarm 0 = .ok (.lconst 0, 1) := by decide +kernel
theorem d_LR_sumHarm_1 : decode b_LR_sumHarm 1 = .ok (.lstore_n 1, 1) := by decide +kernel
theorem d_LR_sumHarm_2 : decode b_LR_sumHarm 2 = .ok (.iconst 0, 1) := by decide +kernel
theorem d_LR_sumHarm_3 : decode b_LR_sumHarm 3 = .ok (.istore_n 3, 1) := by decide +kernel
theorem d_LR_sumHarm_4 : decode b_LR_sumHarm 4 = .ok (.iload_n 3, 1) := by decide +kernel
theorem d_LR_sumHarm_5 : decode b_LR_sumHarm 5 = .ok (.aload_n 0, 1) := by decide +kernel
theorem d_LR_sumHarm_6 : decode b_LR_sumHarm 6 = .ok (.getfield 28, 3) := by decide +kernel
theorem d_LR_sumHarm_9 : decode b_LR_sumHarm 9 = .ok (.if_icmp .ge 21, 3) := by decide +kernel
theorem d_LR_sumHarm_12 : decode b_LR_sumHarm 12 = .ok (.lload_n 1, 1) := by decide +kernel
theorem d_LR_sumHarm_13 : decode b_LR_sumHarm 13 = .ok (.aload_n 0, 1) := by decide +kernel
theorem d_LR_sumHarm_14 : decode b_LR_sumHarm 14 = .ok (.getfield 17, 3) := by decide +kernel
theorem d_LR_sumHarm_17 : decode b_LR_sumHarm 17 = .ok (.iload_n 3, 1) := by decide +kernel
theorem d_LR_sumHarm_18 : decode b_LR_sumHarm 18 = .ok (.aaload, 1) := by decide +kernel
theorem d_LR_sumHarm_19 : decode b_LR_sumHarm 19 = .ok (.invokevirtual 177, 3) := by decide +kernel
theorem d_LR_sumHarm_22 : decode b_LR_sumHarm 22 = .ok (.ladd, 1) := by decide +kernel
theorem d_LR_sumHarm_23 : decode b_LR_sumHarm 23 = .ok (.lstore_n 1, 1) := by decide +kernel
theorem d_LR_sumHarm_24 : decode b_LR_sumHarm 24 = .ok (.iinc 3 1, 3) := by decide +kernel
theorem d_LR_sumHarm_27 : decode b_LR_sumHarm 27 = .ok (.goto (-23), 3) := by decide +kernel
theorem d_LR_sumHarm_30 : decode b_LR_sumHarm 30 = .ok (.lload_n 1, 1) := by decide +kernel
theorem d_LR_sumHarm_31 : decode b_LR_sumHarm 31 = .ok (.lreturn, 1) := by decide +kernel
theorem d_LR_countActs_0 : decode b_LR_countActs 0 = .ok (.iconst 0, 1) := by decide +kernel
theorem d_LR_countActs_1 : decode b_LR_countActs 1 = .ok (.istore_n 1, 1) := by decide +kernel
theorem d_LR_countActs_2 : decode b_LR_countActs 2 = .ok (.iconst 0, 1) := by decide +kernel
theorem d_LR_countActs_3 : decode b_LR_countActs 3 = .ok (.istore_n 2, 1) := by decide +kernel
theorem d_LR_countActs_4 : decode b_LR_countActs 4 = .ok (.iload_n 2, 1) := by decide +kernel
theorem d_LR_countActs_5 : decode b_LR_countActs 5 = .ok (.aload_n 0, 1) := by decide +kernel
theorem d_LR_countActs_6 : decode b_LR_countActs 6 = .ok (.getfield 28, 3) := by decide +kernel
theorem d_LR_countActs_9 : decode b_LR_countActs 9 = .ok (.if_icmp .ge 24, 3) := by decide +kernel
theorem d_LR_countActs_12 : decode b_LR_countActs 12 = .ok (.aload_n 0, 1) := by decide +kernel
theorem d_LR_countActs_13 : decode b_LR_countActs 13 = .ok (.getfield 17, 3) := by decide +kernel
theorem d_LR_countActs_16 : decode b_LR_countActs 16 = .ok (.iload_n 2, 1) := by decide +kernel
theorem d_LR_countActs_17 : decode b_LR_countActs 17 = .ok (.aaload, 1) := by decide +kernel
theorem d_LR_countActs_18 : decode b_LR_countActs 18 = .ok (.invokevirtual 174, 3) := by decide +kernel
theorem d_LR_countActs_21 : decode b_LR_countActs 21 = .ok (.ifCond .eq 6, 3) := by decide +kernel
theorem d_LR_countActs_24 : decode b_LR_countActs 24 = .ok (.iinc 1 1, 3) := by decide +kernel
theorem d_LR_countActs_27 : decode b_LR_countActs 27 = .ok (.iinc 2 1, 3) := by decide +kernel
theorem d_LR_countActs_30 : decode b_LR_countActs 30 = .ok (.goto (-26), 3) := by decide +kernel
theorem d_LR_countActs_33 : decode b_LR_countActs 33 = .ok (.iload_n 1, 1) := by decide +kernel
theorem d_LR_countActs_34 : decode b_LR_countActs 34 = .ok (.ireturn, 1) := by decide +kernel
theorem d_LR_keepChoice_0 : decode b_LR_keepChoice 0 = .ok (.iconst 0, 1) := by decide +kernel
theorem d_LR_keepChoice_1 : decode b_LR_keepChoice 1 = .ok (.istore_n 1, 1) := by decide +kernel
theorem d_LR_keepChoice_2 : decode b_LR_keepChoice 2 = .ok (.iload_n 1, 1) := by decide +kernel
theorem d_LR_keepChoice_3 : decode b_LR_keepChoice 3 = .ok (.aload_n 0, 1) := by decide +kernel
theorem d_LR_keepChoice_4 : decode b_LR_keepChoice 4 = .ok (.getfield 28, 3) := by decide +kernel
theorem d_LR_keepChoice_7 : decode b_LR_keepChoice 7 = .ok (.if_icmp .ge 18, 3) := by decide +kernel
theorem d_LR_keepChoice_10 : decode b_LR_keepChoice 10 = .ok (.aload_n 0, 1) := by decide +kernel
theorem d_LR_keepChoice_11 : decode b_LR_keepChoice 11 = .ok (.getfield 17, 3) := by decide +kernel
theorem d_LR_keepChoice_14 : decode b_LR_keepChoice 14 = .ok (.iload_n 1, 1) := by decide +kernel
theorem d_LR_keepChoice_15 : decode b_LR_keepChoice 15 = .ok (.aaload, 1) := by decide +kernel
theorem d_LR_keepChoice_16 : decode b_LR_keepChoice 16 = .ok (.invokevirtual 183, 3) := by decide +kernel
theorem d_LR_keepChoice_19 : decode b_LR_keepChoice 19 = .ok (.iinc 1 1, 3) := by decide +kernel
theorem d_LR_keepChoice_22 : decode b_LR_keepChoice 22 = .ok (.goto (-20), 3) := by decide +kernel
theorem d_LR_keepChoice_25 : decode b_LR_keepChoice 25 = .ok (.return_, 1) := by decide +kernel
theorem d_LR_pickNextChoice_0 : decode b_LR_pickNextChoice 0 = .ok (.aload_n 0, 1) := by decide +kernel
theorem d_LR_pickNextChoice_1 : decode b_LR_pickNextChoice 1 = .ok (.getfield 28, 3) := by decide +kernel
theorem d_LR_pickNextChoice_4 : decode b_LR_pickNextChoice 4 = .ok (.iconst 1, 1) := by decide +kernel
theorem d_LR_pickNextChoice_5 : decode b_LR_pickNextChoice 5 = .ok (.isub, 1) := by decide +kernel
theorem d_LR_pickNextChoice_6 : decode b_LR_pickNextChoice 6 = .ok (.istore_n 1, 1) := by decide +kernel
theorem d_LR_pickNextChoice_7 : decode b_LR_pickNextChoice 7 = .ok (.iload_n 1, 1) := by decide +kernel
theorem d_LR_pickNextChoice_8 : decode b_LR_pickNextChoice 8 = .ok (.ifCond .lt 32, 3) := by decide +kernel
theorem d_LR_pickNextChoice_11 : decode b_LR_pickNextChoice 11 = .ok (.aload_n 0, 1) := by decide +kernel
theorem d_LR_pickNextChoice_12 : decode b_LR_pickNextChoice 12 = .ok (.getfield 17, 3) := by decide +kernel
theorem d_LR_pickNextChoice_15 : decode b_LR_pickNextChoice 15 = .ok (.iload_n 1, 1) := by decide +kernel
theorem d_LR_pickNextChoice_16 : decode b_LR_pickNextChoice 16 = .ok (.aaload, 1) := by decide +kernel
theorem d_LR_pickNextChoice_17 : decode b_LR_pickNextChoice 17 = .ok (.invokevirtual 180, 3) := by decide +kernel
theorem d_LR_pickNextChoice_20 : decode b_LR_pickNextChoice 20 = .ok (.ifCond .eq 5, 3) := by decide +kernel
theorem d_LR_pickNextChoice_23 : decode b_LR_pickNextChoice 23 = .ok (.iconst 1, 1) := by decide +kernel
theorem d_LR_pickNextChoice_24 : decode b_LR_pickNextChoice 24 = .ok (.ireturn, 1) := by decide +kernel
theorem d_LR_pickNextChoice_25 : decode b_LR_pickNextChoice 25 = .ok (.aload_n 0, 1) := by decide +kernel
theorem d_LR_pickNextChoice_26 : decode b_LR_pickNextChoice 26 = .ok (.getfield 17, 3) := by decide +kernel
theorem d_LR_pickNextChoice_29 : decode b_LR_pickNextChoice 29 = .ok (.iload_n 1, 1) := by decide +kernel
theorem d_LR_pickNextChoice_30 : decode b_LR_pickNextChoice 30 = .ok (.aaload, 1) := by decide +kernel
theorem d_LR_pickNextChoice_31 : decode b_LR_pickNextChoice 31 = .ok (.invokevirtual 109, 3) := by decide +kernel
theorem d_LR_pickNextChoice_34 : decode b_LR_pickNextChoice 34 = .ok (.iinc 1 (-1), 3) := by decide +kernel
theorem d_LR_pickNextChoice_37 : decode b_LR_pickNextChoice 37 = .ok (.goto (-30), 3) := by decide +kernel
theorem d_LR_pickNextChoice_40 : decode b_LR_pickNextChoice 40 = .ok (.iconst 0, 1) := by decide +kernel
theorem d_LR_pickNextChoice_41 : decode b_LR_pickNextChoice 41 = .ok (.ireturn, 1) := by decide +kernel
theorem d_LR_takeKeptChoice_0 : decode b_LR_takeKeptChoice 0 = .ok (.iconst 0, 1) := by decide +kernel
theorem d_LR_takeKeptChoice_1 : decode b_LR_takeKeptChoice 1 = .ok (.istore_n 1, 1) := by decide +kernel
theorem d_LR_takeKeptChoice_2 : decode b_LR_takeKeptChoice 2 = .ok (.iload_n 1, 1) := by decide +kernel
theorem d_LR_takeKeptChoice_3 : decode b_LR_takeKeptChoice 3 = .ok (.aload_n 0, 1) := by decide +kernel
theorem d_LR_takeKeptChoice_4 : decode b_LR_takeKeptChoice 4 = .ok (.getfield 28, 3) := by decide +kernel
theorem d_LR_takeKeptChoice_7 : decode b_LR_takeKeptChoice 7 = .ok (.if_icmp .ge 18, 3) := by decide +kernel
theorem d_LR_takeKeptChoice_10 : decode b_LR_takeKeptChoice 10 = .ok (.aload_n 0, 1) := by decide +kernel
theorem d_LR_takeKeptChoice_11 : decode b_LR_takeKeptChoice 11 = .ok (.getfield 17, 3) := by decide +kernel
theorem d_LR_takeKeptChoice_14 : decode b_LR_takeKeptChoice 14 = .ok (.iload_n 1, 1) := by decide +kernel
theorem d_LR_takeKeptChoice_15 : decode b_LR_takeKeptChoice 15 = .ok (.aaload, 1) := by decide +kernel
theorem d_LR_takeKeptChoice_16 : decode b_LR_takeKeptChoice 16 = .ok (.invokevirtual 186, 3) := by decide +kernel
theorem d_LR_takeKeptChoice_19 : decode b_LR_takeKeptChoice 19 = .ok (.iinc 1 1, 3) := by decide +kernel
theorem d_LR_takeKeptChoice_22 : decode b_LR_takeKeptChoice 22 = .ok (.goto (-20), 3) := by decide +kernel
theorem d_LR_takeKeptChoice_25 : decode b_LR_takeKeptChoice 25 = .ok (.return_, 1) := by decide +kernel
theorem d_LR_solve_0 : decode b_LR_solve 0 = .ok (.iconst 0, 1) := by decide +kernel
theorem d_LR_solve_1 : decode b_LR_solve 1 = .ok (.istore_n 1, 1) := by decide +kernel
theorem d_LR_solve_2 : decode b_LR_solve 2 = .ok (.iload_n 1, 1) := by decide +kernel
theorem d_LR_solve_3 : decode b_LR_solve 3 = .ok (.aload_n 0, 1) := by decide +kernel
theorem d_LR_solve_4 : decode b_LR_solve 4 = .ok (.getfield 28, 3) := by decide +kernel
theorem d_LR_solve_7 : decode b_LR_solve 7 = .ok (.if_icmp .ge 18, 3) := by decide +kernel
theorem d_LR_solve_10 : decode b_LR_solve 10 = .ok (.aload_n 0, 1) := by decide +kernel
theorem d_LR_solve_11 : decode b_LR_solve 11 = .ok (.getfield 17, 3) := by decide +kernel
theorem d_LR_solve_14 : decode b_LR_solve 14 = .ok (.iload_n 1, 1) := by decide +kernel
theorem d_LR_solve_15 : decode b_LR_solve 15 = .ok (.aaload, 1) := by decide +kernel
theorem d_LR_solve_16 : decode b_LR_solve 16 = .ok (.invokevirtual 109, 3) := by decide +kernel
theorem d_LR_solve_19 : decode b_LR_solve 19 = .ok (.iinc 1 1, 3) := by decide +kernel
theorem d_LR_solve_22 : decode b_LR_solve 22 = .ok (.goto (-20), 3) := by decide +kernel
theorem d_LR_solve_25 : decode b_LR_solve 25 = .ok (.ldc2_w 117, 3) := by decide +kernel
theorem d_LR_solve_28 : decode b_LR_solve 28 = .ok (.lstore_n 1, 1) := by decide +kernel
theorem d_LR_solve_29 : decode b_LR_solve 29 = .ok (.iconst 0, 1) := by decide +kernel
theorem d_LR_solve_30 : decode b_LR_solve 30 = .ok (.istore_n 3, 1) := by decide +kernel
theorem d_LR_solve_31 : decode b_LR_solve 31 = .ok (.iconst 1, 1) := by decide +kernel
theorem d_LR_solve_32 : decode b_LR_solve 32 = .ok (.istore 4, 2) := by decide +kernel
theorem d_LR_solve_34 : decode b_LR_solve 34 = .ok (.iconst 0, 1) := by decide +kernel
theorem d_LR_solve_35 : decode b_LR_solve 35 = .ok (.istore 5, 2) := by decide +kernel
theorem d_LR_solve_37 : decode b_LR_solve 37 = .ok (.iload 4, 2) := by decide +kernel
theorem d_LR_solve_39 : decode b_LR_solve 39 = .ok (.ifCond .eq 69, 3) := by decide +kernel
theorem d_LR_solve_42 : decode b_LR_solve 42 = .ok (.iload 5, 2) := by decide +kernel
theorem d_LR_solve_44 : decode b_LR_solve 44 = .ok (.sipush 4096, 3) := by decide +kernel
theorem d_LR_solve_47 : decode b_LR_solve 47 = .ok (.if_icmp .ge 61, 3) := by decide +kernel
theorem d_LR_solve_50 : decode b_LR_solve 50 = .ok (.aload_n 0, 1) := by decide +kernel
theorem d_LR_solve_51 : decode b_LR_solve 51 = .ok (.invokevirtual 44, 3) := by decide +kernel
theorem d_LR_solve_54 : decode b_LR_solve 54 = .ok (.aload_n 0, 1) := by decide +kernel
theorem d_LR_solve_55 : decode b_LR_solve 55 = .ok (.invokevirtual 119, 3) := by decide +kernel
theorem d_LR_solve_58 : decode b_LR_solve 58 = .ok (.lstore 6, 2) := by decide +kernel
theorem d_LR_solve_60 : decode b_LR_solve 60 = .ok (.aload_n 0, 1) := by decide +kernel
theorem d_LR_solve_61 : decode b_LR_solve 61 = .ok (.invokevirtual 123, 3) := by decide +kernel
theorem d_LR_solve_64 : decode b_LR_solve 64 = .ok (.istore 8, 2) := by decide +kernel
theorem d_LR_solve_66 : decode b_LR_solve 66 = .ok (.lload 6, 2) := by decide +kernel
theorem d_LR_solve_68 : decode b_LR_solve 68 = .ok (.lload_n 1, 1) := by decide +kernel
theorem d_LR_solve_69 : decode b_LR_solve 69 = .ok (.lcmp, 1) := by decide +kernel
theorem d_LR_solve_70 : decode b_LR_solve 70 = .ok (.ifCond .lt 16, 3) := by decide +kernel
theorem d_LR_solve_73 : decode b_LR_solve 73 = .ok (.lload 6, 2) := by decide +kernel
theorem d_LR_solve_75 : decode b_LR_solve 75 = .ok (.lload_n 1, 1) := by decide +kernel
theorem d_LR_solve_76 : decode b_LR_solve 76 = .ok (.lcmp, 1) := by decide +kernel
theorem d_LR_solve_77 : decode b_LR_solve 77 = .ok (.ifCond .ne 19, 3) := by decide +kernel
theorem d_LR_solve_80 : decode b_LR_solve 80 = .ok (.iload 8, 2) := by decide +kernel
theorem d_LR_solve_82 : decode b_LR_solve 82 = .ok (.iload_n 3, 1) := by decide +kernel
theorem d_LR_solve_83 : decode b_LR_solve 83 = .ok (.if_icmp .ge 13, 3) := by decide +kernel
theorem d_LR_solve_86 : decode b_LR_solve 86 = .ok (.lload 6, 2) := by decide +kernel
theorem d_LR_solve_88 : decode b_LR_solve 88 = .ok (.lstore_n 1, 1) := by decide +kernel
theorem d_LR_solve_89 : decode b_LR_solve 89 = .ok (.iload 8, 2) := by decide +kernel
theorem d_LR_solve_91 : decode b_LR_solve 91 = .ok (.istore_n 3, 1) := by decide +kernel
theorem d_LR_solve_92 : decode b_LR_solve 92 = .ok (.aload_n 0, 1) := by decide +kernel
theorem d_LR_solve_93 : decode b_LR_solve 93 = .ok (.invokevirtual 126, 3) := by decide +kernel
theorem d_LR_solve_96 : decode b_LR_solve 96 = .ok (.aload_n 0, 1) := by decide +kernel
theorem d_LR_solve_97 : decode b_LR_solve 97 = .ok (.invokevirtual 129, 3) := by decide +kernel
theorem d_LR_solve_100 : decode b_LR_solve 100 = .ok (.istore 4, 2) := by decide +kernel
theorem d_LR_solve_102 : decode b_LR_solve 102 = .ok (.iinc 5 1, 3) := by decide +kernel
theorem d_LR_solve_105 : decode b_LR_solve 105 = .ok (.goto (-68), 3) := by decide +kernel
theorem d_LR_solve_108 : decode b_LR_solve 108 = .ok (.aload_n 0, 1) := by decide +kernel
theorem d_LR_solve_109 : decode b_LR_solve 109 = .ok (.invokevirtual 132, 3) := by decide +kernel
theorem d_LR_solve_112 : decode b_LR_solve 112 = .ok (.aload_n 0, 1) := by decide +kernel
theorem d_LR_solve_113 : decode b_LR_solve 113 = .ok (.invokevirtual 44, 3) := by decide +kernel
theorem d_LR_solve_116 : decode b_LR_solve 116 = .ok (.lload_n 1, 1) := by decide +kernel
theorem d_LR_solve_117 : decode b_LR_solve 117 = .ok (.lreturn, 1) := by decide +kernel
theorem d_LR_chosen_0 : decode b_LR_chosen 0 = .ok (.aload_n 0, 1) := by decide +kernel
theorem d_LR_chosen_1 : decode b_LR_chosen 1 = .ok (.iload_n 1, 1) := by decide +kernel
theorem d_LR_chosen_2 : decode b_LR_chosen 2 = .ok (.invokevirtual 62, 3) := by decide +kernel
theorem d_LR_chosen_5 : decode b_LR_chosen 5 = .ok (.astore_n 2, 1) := by decide +kernel
theorem d_LR_chosen_6 : decode b_LR_chosen 6 = .ok (.aload_n 2, 1) := by decide +kernel
theorem d_LR_chosen_7 : decode b_LR_chosen 7 = .ok (.ifnonnull 8, 3) := by decide +kernel
theorem d_LR_chosen_10 : decode b_LR_chosen 10 = .ok (.bipush (-11), 2) := by decide +kernel
theorem d_LR_chosen_12 : decode b_LR_chosen 12 = .ok (.goto 7, 3) := by decide +kernel
theorem d_LR_chosen_15 : decode b_LR_chosen 15 = .ok (.aload_n 2, 1) := by decide +kernel
theorem d_LR_chosen_16 : decode b_LR_chosen 16 = .ok (.getfield 135, 3) := by decide +kernel
theorem d_LR_chosen_19 : decode b_LR_chosen 19 = .ok (.ireturn, 1) := by decide +kernel
theorem d_LR_arrival_0 : decode b_LR_arrival 0 = .ok (.aload_n 0, 1) := by decide +kernel
theorem d_LR_arrival_1 : decode b_LR_arrival 1 = .ok (.iload_n 1, 1) := by decide +kernel
theorem d_LR_arrival_2 : decode b_LR_arrival 2 = .ok (.invokevirtual 62, 3) := by decide +kernel
theorem d_LR_arrival_5 : decode b_LR_arrival 5 = .ok (.astore_n 2, 1) := by decide +kernel
theorem d_LR_arrival_6 : decode b_LR_arrival 6 = .ok (.aload_n 2, 1) := by decide +kernel
theorem d_LR_arrival_7 : decode b_LR_arrival 7 = .ok (.ifnonnull 9, 3) := by decide +kernel
theorem d_LR_arrival_10 : decode b_LR_arrival 10 = .ok (.ldc2_w 138, 3) := by decide +kernel
theorem d_LR_arrival_13 : decode b_LR_arrival 13 = .ok (.goto 7, 3) := by decide +kernel
theorem d_LR_arrival_16 : decode b_LR_arrival 16 = .ok (.aload_n 2, 1) := by decide +kernel
theorem d_LR_arrival_17 : decode b_LR_arrival 17 = .ok (.getfield 140, 3) := by decide +kernel
theorem d_LR_arrival_20 : decode b_LR_arrival 20 = .ok (.lreturn, 1) := by decide +kernel
theorem d_LR_departs_0 : decode b_LR_departs 0 = .ok (.aload_n 0, 1) := by decide +kernel
theorem d_LR_departs_1 : decode b_LR_departs 1 = .ok (.iload_n 1, 1) := by decide +kernel
theorem d_LR_departs_2 : decode b_LR_departs 2 = .ok (.invokevirtual 47, 3) := by decide +kernel
theorem d_LR_departs_5 : decode b_LR_departs 5 = .ok (.astore_n 2, 1) := by decide +kernel
theorem d_LR_departs_6 : decode b_LR_departs 6 = .ok (.aload_n 2, 1) := by decide +kernel
theorem d_LR_departs_7 : decode b_LR_departs 7 = .ok (.ifnonnull 9, 3) := by decide +kernel
theorem d_LR_departs_10 : decode b_LR_departs 10 = .ok (.ldc2_w 138, 3) := by decide +kernel
theorem d_LR_departs_13 : decode b_LR_departs 13 = .ok (.goto 7, 3) := by decide +kernel
theorem d_LR_departs_16 : decode b_LR_departs 16 = .ok (.aload_n 2, 1) := by decide +kernel
theorem d_LR_departs_17 : decode b_LR_departs 17 = .ok (.getfield 143, 3) := by decide +kernel
theorem d_LR_departs_20 : decode b_LR_departs 20 = .ok (.lreturn, 1) := by decide +kernel
theorem d_LR_none_0 : decode b_LR_none 0 = .ok (.iconst 0, 1) := by decide +kernel
theorem d_LR_none_1 : decode b_LR_none 1 = .ok (.istore_n 2, 1) := by decide +kernel
theorem d_LR_none_2 : decode b_LR_none 2 = .ok (.iconst 0, 1) := by decide +kernel
theorem d_LR_none_3 : decode b_LR_none 3 = .ok (.istore_n 3, 1) := by decide +kernel
theorem d_LR_none_4 : decode b_LR_none 4 = .ok (.iload_n 3, 1) := by decide +kernel
theorem d_LR_none_5 : decode b_LR_none 5 = .ok (.aload_n 0, 1) := by decide +kernel
theorem d_LR_none_6 : decode b_LR_none 6 = .ok (.getfield 28, 3) := by decide +kernel
theorem d_LR_none_9 : decode b_LR_none 9 = .ok (.if_icmp .ge 33, 3) := by decide +kernel
theorem d_LR_none_12 : decode b_LR_none 12 = .ok (.aload_n 0, 1) := by decide +kernel
theorem d_LR_none_13 : decode b_LR_none 13 = .ok (.getfield 17, 3) := by decide +kernel
theorem d_LR_none_16 : decode b_LR_none 16 = .ok (.iload_n 3, 1) := by decide +kernel
theorem d_LR_none_17 : decode b_LR_none 17 = .ok (.aaload, 1) := by decide +kernel
theorem d_LR_none_18 : decode b_LR_none 18 = .ok (.getfield 146, 3) := by decide +kernel
theorem d_LR_none_21 : decode b_LR_none 21 = .ok (.ifCond .eq 15, 3) := by decide +kernel
theorem d_LR_none_24 : decode b_LR_none 24 = .ok (.iload_n 2, 1) := by decide +kernel
theorem d_LR_none_25 : decode b_LR_none 25 = .ok (.iload_n 1, 1) := by decide +kernel
theorem d_LR_none_26 : decode b_LR_none 26 = .ok (.if_icmp .ne 7, 3) := by decide +kernel
theorem d_LR_none_29 : decode b_LR_none 29 = .ok (.iload_n 3, 1) := by decide +kernel
theorem d_LR_none_30 : decode b_LR_none 30 = .ok (.iconst 1, 1) := by decide +kernel
theorem d_LR_none_31 : decode b_LR_none 31 = .ok (.iadd, 1) := by decide +kernel
theorem d_LR_none_32 : decode b_LR_none 32 = .ok (.ireturn, 1) := by decide +kernel
theorem d_LR_none_33 : decode b_LR_none 33 = .ok (.iinc 2 1, 3) := by decide +kernel
theorem d_LR_none_36 : decode b_LR_none 36 = .ok (.iinc 3 1, 3) := by decide +kernel
theorem d_LR_none_39 : decode b_LR_none 39 = .ok (.goto (-35), 3) := by decide +kernel
theorem d_LR_none_42 : decode b_LR_none 42 = .ok (.iconst (-1), 1) := by decide +kernel
theorem d_LR_none_43 : decode b_LR_none 43 = .ok (.ireturn, 1) := by decide +kernel
theorem d_LR_acts_0 : decode b_LR_acts 0 = .ok (.aload_n 0, 1) := by decide +kernel
theorem d_LR_acts_1 : decode b_LR_acts 1 = .ok (.invokevirtual 123, 3) := by decide +kernel
theorem d_LR_acts_4 : decode b_LR_acts 4 = .ok (.ireturn, 1) := by decide +kernel

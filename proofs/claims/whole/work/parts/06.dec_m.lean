theorem d_Mo_init_0 : decode b_Mo_init 0 = .ok (.aload_n 0, 1) := by decide +kernel
theorem d_Mo_init_1 : decode b_Mo_init 1 = .ok (.invokespecial 1, 3) := by decide +kernel
theorem d_Mo_init_4 : decode b_Mo_init 4 = .ok (.aload_n 0, 1) := by decide +kernel
theorem d_Mo_init_5 : decode b_Mo_init 5 = .ok (.bipush 13, 2) := by decide +kernel
theorem d_Mo_init_7 : decode b_Mo_init 7 = .ok (.newarray .int, 2) := by decide +kernel
theorem d_Mo_init_9 : decode b_Mo_init 9 = .ok (.putfield 7, 3) := by decide +kernel
theorem d_Mo_init_12 : decode b_Mo_init 12 = .ok (.aload_n 0, 1) := by decide +kernel
theorem d_Mo_init_13 : decode b_Mo_init 13 = .ok (.bipush 13, 2) := by decide +kernel
theorem d_Mo_init_15 : decode b_Mo_init 15 = .ok (.newarray .int, 2) := by decide +kernel
theorem d_Mo_init_17 : decode b_Mo_init 17 = .ok (.putfield 13, 3) := by decide +kernel
theorem d_Mo_init_20 : decode b_Mo_init 20 = .ok (.aload_n 0, 1) := by decide +kernel
theorem d_Mo_init_21 : decode b_Mo_init 21 = .ok (.bipush 13, 2) := by decide +kernel
theorem d_Mo_init_23 : decode b_Mo_init 23 = .ok (.newarray .long, 2) := by decide +kernel
theorem d_Mo_init_25 : decode b_Mo_init 25 = .ok (.putfield 16, 3) := by decide +kernel
theorem d_Mo_init_28 : decode b_Mo_init 28 = .ok (.aload_n 0, 1) := by decide +kernel
theorem d_Mo_init_29 : decode b_Mo_init 29 = .ok (.bipush 13, 2) := by decide +kernel
theorem d_Mo_init_31 : decode b_Mo_init 31 = .ok (.newarray .long, 2) := by decide +kernel
theorem d_Mo_init_33 : decode b_Mo_init 33 = .ok (.putfield 20, 3) := by decide +kernel
theorem d_Mo_init_36 : decode b_Mo_init 36 = .ok (.aload_n 0, 1) := by decide +kernel
theorem d_Mo_init_37 : decode b_Mo_init 37 = .ok (.bipush 13, 2) := by decide +kernel
theorem d_Mo_init_39 : decode b_Mo_init 39 = .ok (.newarray .long, 2) := by decide +kernel
theorem d_Mo_init_41 : decode b_Mo_init 41 = .ok (.putfield 23, 3) := by decide +kernel
theorem d_Mo_init_44 : decode b_Mo_init 44 = .ok (.aload_n 0, 1) := by decide +kernel
theorem d_Mo_init_45 : decode b_Mo_init 45 = .ok (.bipush 13, 2) := by decide +kernel
theorem d_Mo_init_47 : decode b_Mo_init 47 = .ok (.newarray .long, 2) := by decide +kernel
theorem d_Mo_init_49 : decode b_Mo_init 49 = .ok (.putfield 26, 3) := by decide +kernel
theorem d_Mo_init_52 : decode b_Mo_init 52 = .ok (.aload_n 0, 1) := by decide +kernel
theorem d_Mo_init_53 : decode b_Mo_init 53 = .ok (.bipush 13, 2) := by decide +kernel
theorem d_Mo_init_55 : decode b_Mo_init 55 = .ok (.newarray .long, 2) := by decide +kernel
theorem d_Mo_init_57 : decode b_Mo_init 57 = .ok (.putfield 29, 3) := by decide +kernel
theorem d_Mo_init_60 : decode b_Mo_init 60 = .ok (.aload_n 0, 1) := by decide +kernel
theorem d_Mo_init_61 : decode b_Mo_init 61 = .ok (.bipush 7, 2) := by decide +kernel
theorem d_Mo_init_63 : decode b_Mo_init 63 = .ok (.newarray .int, 2) := by decide +kernel
theorem d_Mo_init_65 : decode b_Mo_init 65 = .ok (.putfield 32, 3) := by decide +kernel
theorem d_Mo_init_68 : decode b_Mo_init 68 = .ok (.aload_n 0, 1) := by decide +kernel
theorem d_Mo_init_69 : decode b_Mo_init 69 = .ok (.bipush 7, 2) := by decide +kernel
theorem d_Mo_init_71 : decode b_Mo_init 71 = .ok (.newarray .int, 2) := by decide +kernel
theorem d_Mo_init_73 : decode b_Mo_init 73 = .ok (.putfield 35, 3) := by decide +kernel
theorem d_Mo_init_76 : decode b_Mo_init 76 = .ok (.aload_n 0, 1) := by decide +kernel
theorem d_Mo_init_77 : decode b_Mo_init 77 = .ok (.bipush 7, 2) := by decide +kernel
theorem d_Mo_init_79 : decode b_Mo_init 79 = .ok (.newarray .long, 2) := by decide +kernel
theorem d_Mo_init_81 : decode b_Mo_init 81 = .ok (.putfield 38, 3) := by decide +kernel
theorem d_Mo_init_84 : decode b_Mo_init 84 = .ok (.aload_n 0, 1) := by decide +kernel
theorem d_Mo_init_85 : decode b_Mo_init 85 = .ok (.bipush 7, 2) := by decide +kernel
theorem d_Mo_init_87 : decode b_Mo_init 87 = .ok (.newarray .int, 2) := by decide +kernel
theorem d_Mo_init_89 : decode b_Mo_init 89 = .ok (.putfield 41, 3) := by decide +kernel
theorem d_Mo_init_92 : decode b_Mo_init 92 = .ok (.aload_n 0, 1) := by decide +kernel
theorem d_Mo_init_93 : decode b_Mo_init 93 = .ok (.bipush 7, 2) := by decide +kernel
theorem d_Mo_init_95 : decode b_Mo_init 95 = .ok (.newarray .int, 2) := by decide +kernel
theorem d_Mo_init_97 : decode b_Mo_init 97 = .ok (.putfield 44, 3) := by decide +kernel
theorem d_Mo_init_100 : decode b_Mo_init 100 = .ok (.aload_n 0, 1) := by decide +kernel
theorem d_Mo_init_101 : decode b_Mo_init 101 = .ok (.bipush 7, 2) := by decide +kernel
theorem d_Mo_init_103 : decode b_Mo_init 103 = .ok (.newarray .int, 2) := by decide +kernel
theorem d_Mo_init_105 : decode b_Mo_init 105 = .ok (.putfield 47, 3) := by decide +kernel
theorem d_Mo_init_108 : decode b_Mo_init 108 = .ok (.aload_n 0, 1) := by decide +kernel
theorem d_Mo_init_109 : decode b_Mo_init 109 = .ok (.bipush 28, 2) := by decide +kernel
theorem d_Mo_init_111 : decode b_Mo_init 111 = .ok (.newarray .int, 2) := by decide +kernel
theorem d_Mo_init_113 : decode b_Mo_init 113 = .ok (.putfield 50, 3) := by decide +kernel
theorem d_Mo_init_116 : decode b_Mo_init 116 = .ok (.aload_n 0, 1) := by decide +kernel
theorem d_Mo_init_117 : decode b_Mo_init 117 = .ok (.bipush 28, 2) := by decide +kernel
theorem d_Mo_init_119 : decode b_Mo_init 119 = .ok (.newarray .int, 2) := by decide +kernel
theorem d_Mo_init_121 : decode b_Mo_init 121 = .ok (.putfield 53, 3) := by decide +kernel
theorem d_Mo_init_124 : decode b_Mo_init 124 = .ok (.aload_n 0, 1) := by decide +kernel
theorem d_Mo_init_125 : decode b_Mo_init 125 = .ok (.bipush 28, 2) := by decide +kernel
theorem d_Mo_init_127 : decode b_Mo_init 127 = .ok (.newarray .long, 2) := by decide +kernel
theorem d_Mo_init_129 : decode b_Mo_init 129 = .ok (.putfield 56, 3) := by decide +kernel
theorem d_Mo_init_132 : decode b_Mo_init 132 = .ok (.aload_n 0, 1) := by decide +kernel
theorem d_Mo_init_133 : decode b_Mo_init 133 = .ok (.bipush 7, 2) := by decide +kernel
theorem d_Mo_init_135 : decode b_Mo_init 135 = .ok (.newarray .long, 2) := by decide +kernel
theorem d_Mo_init_137 : decode b_Mo_init 137 = .ok (.putfield 59, 3) := by decide +kernel
theorem d_Mo_init_140 : decode b_Mo_init 140 = .ok (.aload_n 0, 1) := by decide +kernel
theorem d_Mo_init_141 : decode b_Mo_init 141 = .ok (.bipush 7, 2) := by decide +kernel
theorem d_Mo_init_143 : decode b_Mo_init 143 = .ok (.newarray .boolean, 2) := by decide +kernel
theorem d_Mo_init_145 : decode b_Mo_init 145 = .ok (.putfield 62, 3) := by decide +kernel
theorem d_Mo_init_148 : decode b_Mo_init 148 = .ok (.aload_n 0, 1) := by decide +kernel
theorem d_Mo_init_149 : decode b_Mo_init 149 = .ok (.bipush 7, 2) := by decide +kernel
theorem d_Mo_init_151 : decode b_Mo_init 151 = .ok (.newarray .int, 2) := by decide +kernel
theorem d_Mo_init_153 : decode b_Mo_init 153 = .ok (.putfield 66, 3) := by decide +kernel
theorem d_Mo_init_156 : decode b_Mo_init 156 = .ok (.aload_n 0, 1) := by decide +kernel
theorem d_Mo_init_157 : decode b_Mo_init 157 = .ok (.bipush 7, 2) := by decide +kernel
theorem d_Mo_init_159 : decode b_Mo_init 159 = .ok (.newarray .long, 2) := by decide +kernel
theorem d_Mo_init_161 : decode b_Mo_init 161 = .ok (.putfield 69, 3) := by decide +kernel
theorem d_Mo_init_164 : decode b_Mo_init 164 = .ok (.return_, 1) := by decide +kernel
theorem d_Mo_in_0 : decode b_Mo_in 0 = .ok (.lload_n 0, 1) := by decide +kernel
theorem d_Mo_in_1 : decode b_Mo_in 1 = .ok (.lload_n 2, 1) := by decide +kernel
theorem d_Mo_in_2 : decode b_Mo_in 2 = .ok (.lcmp, 1) := by decide +kernel
theorem d_Mo_in_3 : decode b_Mo_in 3 = .ok (.ifCond .lt 14, 3) := by decide +kernel
theorem d_Mo_in_6 : decode b_Mo_in 6 = .ok (.lload_n 0, 1) := by decide +kernel
theorem d_Mo_in_7 : decode b_Mo_in 7 = .ok (.lload 4, 2) := by decide +kernel
theorem d_Mo_in_9 : decode b_Mo_in 9 = .ok (.lcmp, 1) := by decide +kernel
theorem d_Mo_in_10 : decode b_Mo_in 10 = .ok (.ifCond .gt 7, 3) := by decide +kernel
theorem d_Mo_in_13 : decode b_Mo_in 13 = .ok (.iconst 1, 1) := by decide +kernel
theorem d_Mo_in_14 : decode b_Mo_in 14 = .ok (.goto 4, 3) := by decide +kernel
theorem d_Mo_in_17 : decode b_Mo_in 17 = .ok (.iconst 0, 1) := by decide +kernel
theorem d_Mo_in_18 : decode b_Mo_in 18 = .ok (.ireturn, 1) := by decide +kernel
theorem d_Mo_line_0 : decode b_Mo_line 0 = .ok (.aload_n 0, 1) := by decide +kernel
theorem d_Mo_line_1 : decode b_Mo_line 1 = .ok (.iconst 0, 1) := by decide +kernel
theorem d_Mo_line_2 : decode b_Mo_line 2 = .ok (.putfield 72, 3) := by decide +kernel
theorem d_Mo_line_5 : decode b_Mo_line 5 = .ok (.iload_n 1, 1) := by decide +kernel
theorem d_Mo_line_6 : decode b_Mo_line 6 = .ok (.i2l, 1) := by decide +kernel
theorem d_Mo_line_7 : decode b_Mo_line 7 = .ok (.lconst 0, 1) := by decide +kernel
theorem d_Mo_line_8 : decode b_Mo_line 8 = .ok (.ldc2_w 82, 3) := by decide +kernel
theorem d_Mo_line_11 : decode b_Mo_line 11 = .ok (.invokestatic 84, 3) := by decide +kernel
theorem d_Mo_line_14 : decode b_Mo_line 14 = .ok (.ifCond .eq 50, 3) := by decide +kernel
theorem d_Mo_line_17 : decode b_Mo_line 17 = .ok (.iload_n 2, 1) := by decide +kernel
theorem d_Mo_line_18 : decode b_Mo_line 18 = .ok (.i2l, 1) := by decide +kernel
theorem d_Mo_line_19 : decode b_Mo_line 19 = .ok (.lconst 0, 1) := by decide +kernel
theorem d_Mo_line_20 : decode b_Mo_line 20 = .ok (.ldc2_w 82, 3) := by decide +kernel
theorem d_Mo_line_23 : decode b_Mo_line 23 = .ok (.invokestatic 84, 3) := by decide +kernel
theorem d_Mo_line_26 : decode b_Mo_line 26 = .ok (.ifCond .eq 38, 3) := by decide +kernel
theorem d_Mo_line_29 : decode b_Mo_line 29 = .ok (.iload_n 1, 1) := by decide +kernel
theorem d_Mo_line_30 : decode b_Mo_line 30 = .ok (.iload_n 2, 1) := by decide +kernel
theorem d_Mo_line_31 : decode b_Mo_line 31 = .ok (.if_icmp .eq 33, 3) := by decide +kernel
theorem d_Mo_line_34 : decode b_Mo_line 34 = .ok (.lload_n 3, 1) := by decide +kernel
theorem d_Mo_line_35 : decode b_Mo_line 35 = .ok (.lconst 0, 1) := by decide +kernel
theorem d_Mo_line_36 : decode b_Mo_line 36 = .ok (.ldc2_w 88, 3) := by decide +kernel
theorem d_Mo_line_39 : decode b_Mo_line 39 = .ok (.invokestatic 84, 3) := by decide +kernel
theorem d_Mo_line_42 : decode b_Mo_line 42 = .ok (.ifCond .eq 22, 3) := by decide +kernel
theorem d_Mo_line_45 : decode b_Mo_line 45 = .ok (.lload 5, 2) := by decide +kernel
theorem d_Mo_line_47 : decode b_Mo_line 47 = .ok (.lconst 0, 1) := by decide +kernel
theorem d_Mo_line_48 : decode b_Mo_line 48 = .ok (.ldc2_w 88, 3) := by decide +kernel
theorem d_Mo_line_51 : decode b_Mo_line 51 = .ok (.invokestatic 84, 3) := by decide +kernel
theorem d_Mo_line_54 : decode b_Mo_line 54 = .ok (.ifCond .eq 10, 3) := by decide +kernel
theorem d_Mo_line_57 : decode b_Mo_line 57 = .ok (.lload 5, 2) := by decide +kernel
theorem d_Mo_line_59 : decode b_Mo_line 59 = .ok (.lload_n 3, 1) := by decide +kernel
theorem d_Mo_line_60 : decode b_Mo_line 60 = .ok (.lcmp, 1) := by decide +kernel
theorem d_Mo_line_61 : decode b_Mo_line 61 = .ok (.ifCond .gt 6, 3) := by decide +kernel
theorem d_Mo_line_64 : decode b_Mo_line 64 = .ok (.bipush (-12), 2) := by decide +kernel
theorem d_Mo_line_66 : decode b_Mo_line 66 = .ok (.ireturn, 1) := by decide +kernel
theorem d_Mo_line_67 : decode b_Mo_line 67 = .ok (.aload_n 0, 1) := by decide +kernel
theorem d_Mo_line_68 : decode b_Mo_line 68 = .ok (.getfield 76, 3) := by decide +kernel
theorem d_Mo_line_71 : decode b_Mo_line 71 = .ok (.bipush 12, 2) := by decide +kernel
theorem d_Mo_line_73 : decode b_Mo_line 73 = .ok (.if_icmp .ne 6, 3) := by decide +kernel
theorem d_Mo_line_76 : decode b_Mo_line 76 = .ok (.bipush (-14), 2) := by decide +kernel
theorem d_Mo_line_78 : decode b_Mo_line 78 = .ok (.ireturn, 1) := by decide +kernel
theorem d_Mo_line_79 : decode b_Mo_line 79 = .ok (.aload_n 0, 1) := by decide +kernel
theorem d_Mo_line_80 : decode b_Mo_line 80 = .ok (.dup, 1) := by decide +kernel
theorem d_Mo_line_81 : decode b_Mo_line 81 = .ok (.getfield 76, 3) := by decide +kernel
theorem d_Mo_line_84 : decode b_Mo_line 84 = .ok (.iconst 1, 1) := by decide +kernel
theorem d_Mo_line_85 : decode b_Mo_line 85 = .ok (.iadd, 1) := by decide +kernel
theorem d_Mo_line_86 : decode b_Mo_line 86 = .ok (.putfield 76, 3) := by decide +kernel
theorem d_Mo_line_89 : decode b_Mo_line 89 = .ok (.aload_n 0, 1) := by decide +kernel
theorem d_Mo_line_90 : decode b_Mo_line 90 = .ok (.getfield 7, 3) := by decide +kernel
theorem d_Mo_line_93 : decode b_Mo_line 93 = .ok (.aload_n 0, 1) := by decide +kernel
theorem d_Mo_line_94 : decode b_Mo_line 94 = .ok (.getfield 76, 3) := by decide +kernel
theorem d_Mo_line_97 : decode b_Mo_line 97 = .ok (.iload_n 1, 1) := by decide +kernel
theorem d_Mo_line_98 : decode b_Mo_line 98 = .ok (.iastore, 1) := by decide +kernel
theorem d_Mo_line_99 : decode b_Mo_line 99 = .ok (.aload_n 0, 1) := by decide +kernel
theorem d_Mo_line_100 : decode b_Mo_line 100 = .ok (.getfield 13, 3) := by decide +kernel
theorem d_Mo_line_103 : decode b_Mo_line 103 = .ok (.aload_n 0, 1) := by decide +kernel
theorem d_Mo_line_104 : decode b_Mo_line 104 = .ok (.getfield 76, 3) := by decide +kernel
theorem d_Mo_line_107 : decode b_Mo_line 107 = .ok (.iload_n 2, 1) := by decide +kernel
theorem d_Mo_line_108 : decode b_Mo_line 108 = .ok (.iastore, 1) := by decide +kernel
theorem d_Mo_line_109 : decode b_Mo_line 109 = .ok (.aload_n 0, 1) := by decide +kernel
theorem d_Mo_line_110 : decode b_Mo_line 110 = .ok (.getfield 16, 3) := by decide +kernel
theorem d_Mo_line_113 : decode b_Mo_line 113 = .ok (.aload_n 0, 1) := by decide +kernel
theorem d_Mo_line_114 : decode b_Mo_line 114 = .ok (.getfield 76, 3) := by decide +kernel
theorem d_Mo_line_117 : decode b_Mo_line 117 = .ok (.lload_n 3, 1) := by decide +kernel
theorem d_Mo_line_118 : decode b_Mo_line 118 = .ok (.lastore, 1) := by decide +kernel
theorem d_Mo_line_119 : decode b_Mo_line 119 = .ok (.aload_n 0, 1) := by decide +kernel
theorem d_Mo_line_120 : decode b_Mo_line 120 = .ok (.getfield 20, 3) := by decide +kernel
theorem d_Mo_line_123 : decode b_Mo_line 123 = .ok (.aload_n 0, 1) := by decide +kernel
theorem d_Mo_line_124 : decode b_Mo_line 124 = .ok (.getfield 76, 3) := by decide +kernel
theorem d_Mo_line_127 : decode b_Mo_line 127 = .ok (.lload 5, 2) := by decide +kernel
theorem d_Mo_line_129 : decode b_Mo_line 129 = .ok (.lastore, 1) := by decide +kernel
theorem d_Mo_line_130 : decode b_Mo_line 130 = .ok (.aload_n 0, 1) := by decide +kernel
theorem d_Mo_line_131 : decode b_Mo_line 131 = .ok (.getfield 76, 3) := by decide +kernel
theorem d_Mo_line_134 : decode b_Mo_line 134 = .ok (.ireturn, 1) := by decide +kernel
theorem d_Mo_isLine_0 : decode b_Mo_isLine 0 = .ok (.iload_n 1, 1) := by decide +kernel
theorem d_Mo_isLine_1 : decode b_Mo_isLine 1 = .ok (.iconst 1, 1) := by decide +kernel
theorem d_Mo_isLine_2 : decode b_Mo_isLine 2 = .ok (.if_icmp .lt 15, 3) := by decide +kernel
theorem d_Mo_isLine_5 : decode b_Mo_isLine 5 = .ok (.iload_n 1, 1) := by decide +kernel
theorem d_Mo_isLine_6 : decode b_Mo_isLine 6 = .ok (.aload_n 0, 1) := by decide +kernel
theorem d_Mo_isLine_7 : decode b_Mo_isLine 7 = .ok (.getfield 76, 3) := by decide +kernel
theorem d_Mo_isLine_10 : decode b_Mo_isLine 10 = .ok (.if_icmp .gt 7, 3) := by decide +kernel
theorem d_Mo_isLine_13 : decode b_Mo_isLine 13 = .ok (.iconst 1, 1) := by decide +kernel
theorem d_Mo_isLine_14 : decode b_Mo_isLine 14 = .ok (.goto 4, 3) := by decide +kernel
theorem d_Mo_isLine_17 : decode b_Mo_isLine 17 = .ok (.iconst 0, 1) := by decide +kernel
theorem d_Mo_isLine_18 : decode b_Mo_isLine 18 = .ok (.ireturn, 1) := by decide +kernel
theorem d_Mo_load_0 : decode b_Mo_load 0 = .ok (.aload_n 0, 1) := by decide +kernel
theorem d_Mo_load_1 : decode b_Mo_load 1 = .ok (.iconst 0, 1) := by decide +kernel
theorem d_Mo_load_2 : decode b_Mo_load 2 = .ok (.putfield 72, 3) := by decide +kernel
theorem d_Mo_load_5 : decode b_Mo_load 5 = .ok (.aload_n 0, 1) := by decide +kernel
theorem d_Mo_load_6 : decode b_Mo_load 6 = .ok (.iload_n 1, 1) := by decide +kernel
theorem d_Mo_load_7 : decode b_Mo_load 7 = .ok (.invokevirtual 90, 3) := by decide +kernel
theorem d_Mo_load_10 : decode b_Mo_load 10 = .ok (.ifCond .ne 6, 3) := by decide +kernel
theorem d_Mo_load_13 : decode b_Mo_load 13 = .ok (.bipush (-11), 2) := by decide +kernel
theorem d_Mo_load_15 : decode b_Mo_load 15 = .ok (.ireturn, 1) := by decide +kernel
theorem d_Mo_load_16 : decode b_Mo_load 16 = .ok (.iload_n 2, 1) := by decide +kernel
theorem d_Mo_load_17 : decode b_Mo_load 17 = .ok (.i2l, 1) := by decide +kernel
theorem d_Mo_load_18 : decode b_Mo_load 18 = .ok (.lconst 0, 1) := by decide +kernel
theorem d_Mo_load_19 : decode b_Mo_load 19 = .ok (.ldc2_w 82, 3) := by decide +kernel
theorem d_Mo_load_22 : decode b_Mo_load 22 = .ok (.invokestatic 84, 3) := by decide +kernel
theorem d_Mo_load_25 : decode b_Mo_load 25 = .ok (.ifCond .eq 27, 3) := by decide +kernel
theorem d_Mo_load_28 : decode b_Mo_load 28 = .ok (.lload_n 3, 1) := by decide +kernel
theorem d_Mo_load_29 : decode b_Mo_load 29 = .ok (.lconst 0, 1) := by decide +kernel
theorem d_Mo_load_30 : decode b_Mo_load 30 = .ok (.ldc2_w 94, 3) := by decide +kernel
theorem d_Mo_load_33 : decode b_Mo_load 33 = .ok (.invokestatic 84, 3) := by decide +kernel
theorem d_Mo_load_36 : decode b_Mo_load 36 = .ok (.ifCond .eq 16, 3) := by decide +kernel
theorem d_Mo_load_39 : decode b_Mo_load 39 = .ok (.iload 5, 2) := by decide +kernel
theorem d_Mo_load_41 : decode b_Mo_load 41 = .ok (.i2l, 1) := by decide +kernel
theorem d_Mo_load_42 : decode b_Mo_load 42 = .ok (.lconst 1, 1) := by decide +kernel
theorem d_Mo_load_43 : decode b_Mo_load 43 = .ok (.ldc2_w 96, 3) := by decide +kernel
theorem d_Mo_load_46 : decode b_Mo_load 46 = .ok (.invokestatic 84, 3) := by decide +kernel
theorem d_Mo_load_49 : decode b_Mo_load 49 = .ok (.ifCond .ne 6, 3) := by decide +kernel
theorem d_Mo_load_52 : decode b_Mo_load 52 = .ok (.bipush (-12), 2) := by decide +kernel
theorem d_Mo_load_54 : decode b_Mo_load 54 = .ok (.ireturn, 1) := by decide +kernel
theorem d_Mo_load_55 : decode b_Mo_load 55 = .ok (.aload_n 0, 1) := by decide +kernel
theorem d_Mo_load_56 : decode b_Mo_load 56 = .ok (.getfield 79, 3) := by decide +kernel
theorem d_Mo_load_59 : decode b_Mo_load 59 = .ok (.bipush 6, 2) := by decide +kernel
theorem d_Mo_load_61 : decode b_Mo_load 61 = .ok (.if_icmp .ne 6, 3) := by decide +kernel
theorem d_Mo_load_64 : decode b_Mo_load 64 = .ok (.bipush (-14), 2) := by decide +kernel
theorem d_Mo_load_66 : decode b_Mo_load 66 = .ok (.ireturn, 1) := by decide +kernel
theorem d_Mo_load_67 : decode b_Mo_load 67 = .ok (.aload_n 0, 1) := by decide +kernel
theorem d_Mo_load_68 : decode b_Mo_load 68 = .ok (.dup, 1) := by decide +kernel
theorem d_Mo_load_69 : decode b_Mo_load 69 = .ok (.getfield 79, 3) := by decide +kernel
theorem d_Mo_load_72 : decode b_Mo_load 72 = .ok (.iconst 1, 1) := by decide +kernel
theorem d_Mo_load_73 : decode b_Mo_load 73 = .ok (.iadd, 1) := by decide +kernel
theorem d_Mo_load_74 : decode b_Mo_load 74 = .ok (.putfield 79, 3) := by decide +kernel
theorem d_Mo_load_77 : decode b_Mo_load 77 = .ok (.aload_n 0, 1) := by decide +kernel
theorem d_Mo_load_78 : decode b_Mo_load 78 = .ok (.getfield 32, 3) := by decide +kernel
theorem d_Mo_load_81 : decode b_Mo_load 81 = .ok (.aload_n 0, 1) := by decide +kernel
theorem d_Mo_load_82 : decode b_Mo_load 82 = .ok (.getfield 79, 3) := by decide +kernel
theorem d_Mo_load_85 : decode b_Mo_load 85 = .ok (.iload_n 1, 1) := by decide +kernel
theorem d_Mo_load_86 : decode b_Mo_load 86 = .ok (.iastore, 1) := by decide +kernel
theorem d_Mo_load_87 : decode b_Mo_load 87 = .ok (.aload_n 0, 1) := by decide +kernel
theorem d_Mo_load_88 : decode b_Mo_load 88 = .ok (.getfield 35, 3) := by decide +kernel
theorem d_Mo_load_91 : decode b_Mo_load 91 = .ok (.aload_n 0, 1) := by decide +kernel
theorem d_Mo_load_92 : decode b_Mo_load 92 = .ok (.getfield 79, 3) := by decide +kernel
theorem d_Mo_load_95 : decode b_Mo_load 95 = .ok (.iload_n 2, 1) := by decide +kernel
theorem d_Mo_load_96 : decode b_Mo_load 96 = .ok (.iastore, 1) := by decide +kernel
theorem d_Mo_load_97 : decode b_Mo_load 97 = .ok (.aload_n 0, 1) := by decide +kernel
theorem d_Mo_load_98 : decode b_Mo_load 98 = .ok (.getfield 38, 3) := by decide +kernel
theorem d_Mo_load_101 : decode b_Mo_load 101 = .ok (.aload_n 0, 1) := by decide +kernel
theorem d_Mo_load_102 : decode b_Mo_load 102 = .ok (.getfield 79, 3) := by decide +kernel
theorem d_Mo_load_105 : decode b_Mo_load 105 = .ok (.lload_n 3, 1) := by decide +kernel
theorem d_Mo_load_106 : decode b_Mo_load 106 = .ok (.lastore, 1) := by decide +kernel
theorem d_Mo_load_107 : decode b_Mo_load 107 = .ok (.aload_n 0, 1) := by decide +kernel
theorem d_Mo_load_108 : decode b_Mo_load 108 = .ok (.getfield 41, 3) := by decide +kernel
theorem d_Mo_load_111 : decode b_Mo_load 111 = .ok (.aload_n 0, 1) := by decide +kernel
theorem d_Mo_load_112 : decode b_Mo_load 112 = .ok (.getfield 79, 3) := by decide +kernel
theorem d_Mo_load_115 : decode b_Mo_load 115 = .ok (.iload 5, 2) := by decide +kernel
theorem d_Mo_load_117 : decode b_Mo_load 117 = .ok (.iastore, 1) := by decide +kernel
theorem d_Mo_load_118 : decode b_Mo_load 118 = .ok (.aload_n 0, 1) := by decide +kernel
theorem d_Mo_load_119 : decode b_Mo_load 119 = .ok (.getfield 79, 3) := by decide +kernel
theorem d_Mo_load_122 : decode b_Mo_load 122 = .ok (.ireturn, 1) := by decide +kernel
theorem d_Mo_isLoad_0 : decode b_Mo_isLoad 0 = .ok (.iload_n 1, 1) := by decide +kernel
theorem d_Mo_isLoad_1 : decode b_Mo_isLoad 1 = .ok (.iconst 1, 1) := by decide +kernel
theorem d_Mo_isLoad_2 : decode b_Mo_isLoad 2 = .ok (.if_icmp .lt 15, 3) := by decide +kernel
theorem d_Mo_isLoad_5 : decode b_Mo_isLoad 5 = .ok (.iload_n 1, 1) := by decide +kernel
theorem d_Mo_isLoad_6 : decode b_Mo_isLoad 6 = .ok (.aload_n 0, 1) := by decide +kernel
theorem d_Mo_isLoad_7 : decode b_Mo_isLoad 7 = .ok (.getfield 79, 3) := by decide +kernel
theorem d_Mo_isLoad_10 : decode b_Mo_isLoad 10 = .ok (.if_icmp .gt 7, 3) := by decide +kernel
theorem d_Mo_isLoad_13 : decode b_Mo_isLoad 13 = .ok (.iconst 1, 1) := by decide +kernel
theorem d_Mo_isLoad_14 : decode b_Mo_isLoad 14 = .ok (.goto 4, 3) := by decide +kernel
theorem d_Mo_isLoad_17 : decode b_Mo_isLoad 17 = .ok (.iconst 0, 1) := by decide +kernel
theorem d_Mo_isLoad_18 : decode b_Mo_isLoad 18 = .ok (.ireturn, 1) := by decide +kernel
theorem d_Mo_isDirect_0 : decode b_Mo_isDirect 0 = .ok (.aload_n 0, 1) := by decide +kernel
theorem d_Mo_isDirect_1 : decode b_Mo_isDirect 1 = .ok (.getfield 13, 3) := by decide +kernel
theorem d_Mo_isDirect_4 : decode b_Mo_isDirect 4 = .ok (.aload_n 0, 1) := by decide +kernel
theorem d_Mo_isDirect_5 : decode b_Mo_isDirect 5 = .ok (.getfield 32, 3) := by decide +kernel
theorem d_Mo_isDirect_8 : decode b_Mo_isDirect 8 = .ok (.iload_n 1, 1) := by decide +kernel
theorem d_Mo_isDirect_9 : decode b_Mo_isDirect 9 = .ok (.iaload, 1) := by decide +kernel
theorem d_Mo_isDirect_10 : decode b_Mo_isDirect 10 = .ok (.iaload, 1) := by decide +kernel
theorem d_Mo_isDirect_11 : decode b_Mo_isDirect 11 = .ok (.aload_n 0, 1) := by decide +kernel
theorem d_Mo_isDirect_12 : decode b_Mo_isDirect 12 = .ok (.getfield 35, 3) := by decide +kernel
theorem d_Mo_isDirect_15 : decode b_Mo_isDirect 15 = .ok (.iload_n 1, 1) := by decide +kernel
theorem d_Mo_isDirect_16 : decode b_Mo_isDirect 16 = .ok (.iaload, 1) := by decide +kernel
theorem d_Mo_isDirect_17 : decode b_Mo_isDirect 17 = .ok (.if_icmp .ne 7, 3) := by decide +kernel
theorem d_Mo_isDirect_20 : decode b_Mo_isDirect 20 = .ok (.iconst 1, 1) := by decide +kernel
theorem d_Mo_isDirect_21 : decode b_Mo_isDirect 21 = .ok (.goto 4, 3) := by decide +kernel
theorem d_Mo_isDirect_24 : decode b_Mo_isDirect 24 = .ok (.iconst 0, 1) := by decide +kernel
theorem d_Mo_isDirect_25 : decode b_Mo_isDirect 25 = .ok (.ireturn, 1) := by decide +kernel
theorem d_Mo_option_0 : decode b_Mo_option 0 = .ok (.aload_n 0, 1) := by decide +kernel
theorem d_Mo_option_1 : decode b_Mo_option 1 = .ok (.iconst 0, 1) := by decide +kernel
theorem d_Mo_option_2 : decode b_Mo_option 2 = .ok (.putfield 72, 3) := by decide +kernel
theorem d_Mo_option_5 : decode b_Mo_option 5 = .ok (.aload_n 0, 1) := by decide +kernel
theorem d_Mo_option_6 : decode b_Mo_option 6 = .ok (.iload_n 1, 1) := by decide +kernel
theorem d_Mo_option_7 : decode b_Mo_option 7 = .ok (.invokevirtual 98, 3) := by decide +kernel
theorem d_Mo_option_10 : decode b_Mo_option 10 = .ok (.ifCond .eq 16, 3) := by decide +kernel
theorem d_Mo_option_13 : decode b_Mo_option 13 = .ok (.iload_n 2, 1) := by decide +kernel
theorem d_Mo_option_14 : decode b_Mo_option 14 = .ok (.iconst 2, 1) := by decide +kernel
theorem d_Mo_option_15 : decode b_Mo_option 15 = .ok (.if_icmp .eq 14, 3) := by decide +kernel
theorem d_Mo_option_18 : decode b_Mo_option 18 = .ok (.aload_n 0, 1) := by decide +kernel
theorem d_Mo_option_19 : decode b_Mo_option 19 = .ok (.iload_n 3, 1) := by decide +kernel
theorem d_Mo_option_20 : decode b_Mo_option 20 = .ok (.invokevirtual 90, 3) := by decide +kernel
theorem d_Mo_option_23 : decode b_Mo_option 23 = .ok (.ifCond .ne 6, 3) := by decide +kernel
theorem d_Mo_option_26 : decode b_Mo_option 26 = .ok (.bipush (-11), 2) := by decide +kernel
theorem d_Mo_option_28 : decode b_Mo_option 28 = .ok (.ireturn, 1) := by decide +kernel
theorem d_Mo_option_29 : decode b_Mo_option 29 = .ok (.iload_n 2, 1) := by decide +kernel
theorem d_Mo_option_30 : decode b_Mo_option 30 = .ok (.i2l, 1) := by decide +kernel
theorem d_Mo_option_31 : decode b_Mo_option 31 = .ok (.lconst 0, 1) := by decide +kernel
theorem d_Mo_option_32 : decode b_Mo_option 32 = .ok (.ldc2_w 101, 3) := by decide +kernel
theorem d_Mo_option_35 : decode b_Mo_option 35 = .ok (.invokestatic 84, 3) := by decide +kernel
theorem d_Mo_option_38 : decode b_Mo_option 38 = .ok (.ifCond .eq 15, 3) := by decide +kernel
theorem d_Mo_option_41 : decode b_Mo_option 41 = .ok (.lload 4, 2) := by decide +kernel
theorem d_Mo_option_43 : decode b_Mo_option 43 = .ok (.lconst 0, 1) := by decide +kernel
theorem d_Mo_option_44 : decode b_Mo_option 44 = .ok (.ldc2_w 88, 3) := by decide +kernel
theorem d_Mo_option_47 : decode b_Mo_option 47 = .ok (.invokestatic 84, 3) := by decide +kernel
theorem d_Mo_option_50 : decode b_Mo_option 50 = .ok (.ifCond .ne 6, 3) := by decide +kernel
theorem d_Mo_option_53 : decode b_Mo_option 53 = .ok (.bipush (-12), 2) := by decide +kernel
theorem d_Mo_option_55 : decode b_Mo_option 55 = .ok (.ireturn, 1) := by decide +kernel
theorem d_Mo_option_56 : decode b_Mo_option 56 = .ok (.aload_n 0, 1) := by decide +kernel
theorem d_Mo_option_57 : decode b_Mo_option 57 = .ok (.getfield 32, 3) := by decide +kernel
theorem d_Mo_option_60 : decode b_Mo_option 60 = .ok (.iload_n 1, 1) := by decide +kernel
theorem d_Mo_option_61 : decode b_Mo_option 61 = .ok (.iaload, 1) := by decide +kernel
theorem d_Mo_option_62 : decode b_Mo_option 62 = .ok (.istore 6, 2) := by decide +kernel
theorem d_Mo_option_64 : decode b_Mo_option 64 = .ok (.aload_n 0, 1) := by decide +kernel
theorem d_Mo_option_65 : decode b_Mo_option 65 = .ok (.iload_n 1, 1) := by decide +kernel
theorem d_Mo_option_66 : decode b_Mo_option 66 = .ok (.invokevirtual 103, 3) := by decide +kernel
theorem d_Mo_option_69 : decode b_Mo_option 69 = .ok (.ifCond .ne 56, 3) := by decide +kernel
theorem d_Mo_option_72 : decode b_Mo_option 72 = .ok (.iload_n 2, 1) := by decide +kernel
theorem d_Mo_option_73 : decode b_Mo_option 73 = .ok (.iconst 2, 1) := by decide +kernel
theorem d_Mo_option_74 : decode b_Mo_option 74 = .ok (.if_icmp .eq 54, 3) := by decide +kernel
theorem d_Mo_option_77 : decode b_Mo_option 77 = .ok (.aload_n 0, 1) := by decide +kernel
theorem d_Mo_option_78 : decode b_Mo_option 78 = .ok (.getfield 7, 3) := by decide +kernel
theorem d_Mo_option_81 : decode b_Mo_option 81 = .ok (.iload_n 3, 1) := by decide +kernel
theorem d_Mo_option_82 : decode b_Mo_option 82 = .ok (.iaload, 1) := by decide +kernel
theorem d_Mo_option_83 : decode b_Mo_option 83 = .ok (.aload_n 0, 1) := by decide +kernel
theorem d_Mo_option_84 : decode b_Mo_option 84 = .ok (.getfield 13, 3) := by decide +kernel
theorem d_Mo_option_87 : decode b_Mo_option 87 = .ok (.iload 6, 2) := by decide +kernel
theorem d_Mo_option_89 : decode b_Mo_option 89 = .ok (.iaload, 1) := by decide +kernel
theorem d_Mo_option_90 : decode b_Mo_option 90 = .ok (.if_icmp .ne 35, 3) := by decide +kernel
theorem d_Mo_option_93 : decode b_Mo_option 93 = .ok (.aload_n 0, 1) := by decide +kernel
theorem d_Mo_option_94 : decode b_Mo_option 94 = .ok (.getfield 13, 3) := by decide +kernel
theorem d_Mo_option_97 : decode b_Mo_option 97 = .ok (.iload_n 3, 1) := by decide +kernel
theorem d_Mo_option_98 : decode b_Mo_option 98 = .ok (.iaload, 1) := by decide +kernel
theorem d_Mo_option_99 : decode b_Mo_option 99 = .ok (.aload_n 0, 1) := by decide +kernel
theorem d_Mo_option_100 : decode b_Mo_option 100 = .ok (.getfield 35, 3) := by decide +kernel
theorem d_Mo_option_103 : decode b_Mo_option 103 = .ok (.iload_n 1, 1) := by decide +kernel
theorem d_Mo_option_104 : decode b_Mo_option 104 = .ok (.iaload, 1) := by decide +kernel
theorem d_Mo_option_105 : decode b_Mo_option 105 = .ok (.if_icmp .ne 20, 3) := by decide +kernel
theorem d_Mo_option_108 : decode b_Mo_option 108 = .ok (.aload_n 0, 1) := by decide +kernel
theorem d_Mo_option_109 : decode b_Mo_option 109 = .ok (.getfield 16, 3) := by decide +kernel
theorem d_Mo_option_112 : decode b_Mo_option 112 = .ok (.iload_n 3, 1) := by decide +kernel
theorem d_Mo_option_113 : decode b_Mo_option 113 = .ok (.laload, 1) := by decide +kernel
theorem d_Mo_option_114 : decode b_Mo_option 114 = .ok (.aload_n 0, 1) := by decide +kernel
theorem d_Mo_option_115 : decode b_Mo_option 115 = .ok (.getfield 16, 3) := by decide +kernel
theorem d_Mo_option_118 : decode b_Mo_option 118 = .ok (.iload 6, 2) := by decide +kernel
theorem d_Mo_option_120 : decode b_Mo_option 120 = .ok (.laload, 1) := by decide +kernel
theorem d_Mo_option_121 : decode b_Mo_option 121 = .ok (.lcmp, 1) := by decide +kernel
theorem d_Mo_option_122 : decode b_Mo_option 122 = .ok (.ifCond .gt 6, 3) := by decide +kernel
theorem d_Mo_option_125 : decode b_Mo_option 125 = .ok (.bipush (-13), 2) := by decide +kernel
theorem d_Mo_option_127 : decode b_Mo_option 127 = .ok (.ireturn, 1) := by decide +kernel
theorem d_Mo_option_128 : decode b_Mo_option 128 = .ok (.aload_n 0, 1) := by decide +kernel
theorem d_Mo_option_129 : decode b_Mo_option 129 = .ok (.getfield 44, 3) := by decide +kernel
theorem d_Mo_option_132 : decode b_Mo_option 132 = .ok (.iload_n 1, 1) := by decide +kernel
theorem d_Mo_option_133 : decode b_Mo_option 133 = .ok (.iaload, 1) := by decide +kernel
theorem d_Mo_option_134 : decode b_Mo_option 134 = .ok (.iconst 4, 1) := by decide +kernel
theorem d_Mo_option_135 : decode b_Mo_option 135 = .ok (.if_icmp .ne 6, 3) := by decide +kernel
theorem d_Mo_option_138 : decode b_Mo_option 138 = .ok (.bipush (-14), 2) := by decide +kernel
theorem d_Mo_option_140 : decode b_Mo_option 140 = .ok (.ireturn, 1) := by decide +kernel
theorem d_Mo_option_141 : decode b_Mo_option 141 = .ok (.iconst 4, 1) := by decide +kernel
theorem d_Mo_option_142 : decode b_Mo_option 142 = .ok (.iload_n 1, 1) := by decide +kernel
theorem d_Mo_option_143 : decode b_Mo_option 143 = .ok (.imul, 1) := by decide +kernel
theorem d_Mo_option_144 : decode b_Mo_option 144 = .ok (.aload_n 0, 1) := by decide +kernel
theorem d_Mo_option_145 : decode b_Mo_option 145 = .ok (.getfield 44, 3) := by decide +kernel
theorem d_Mo_option_148 : decode b_Mo_option 148 = .ok (.iload_n 1, 1) := by decide +kernel
theorem d_Mo_option_149 : decode b_Mo_option 149 = .ok (.iaload, 1) := by decide +kernel
theorem d_Mo_option_150 : decode b_Mo_option 150 = .ok (.iadd, 1) := by decide +kernel
theorem d_Mo_option_151 : decode b_Mo_option 151 = .ok (.istore 7, 2) := by decide +kernel
theorem d_Mo_option_153 : decode b_Mo_option 153 = .ok (.aload_n 0, 1) := by decide +kernel
theorem d_Mo_option_154 : decode b_Mo_option 154 = .ok (.getfield 50, 3) := by decide +kernel
theorem d_Mo_option_157 : decode b_Mo_option 157 = .ok (.iload 7, 2) := by decide +kernel
theorem d_Mo_option_159 : decode b_Mo_option 159 = .ok (.iload_n 2, 1) := by decide +kernel
theorem d_Mo_option_160 : decode b_Mo_option 160 = .ok (.iastore, 1) := by decide +kernel
theorem d_Mo_option_161 : decode b_Mo_option 161 = .ok (.aload_n 0, 1) := by decide +kernel
theorem d_Mo_option_162 : decode b_Mo_option 162 = .ok (.getfield 53, 3) := by decide +kernel
theorem d_Mo_option_165 : decode b_Mo_option 165 = .ok (.iload 7, 2) := by decide +kernel
theorem d_Mo_option_167 : decode b_Mo_option 167 = .ok (.iload_n 2, 1) := by decide +kernel
theorem d_Mo_option_168 : decode b_Mo_option 168 = .ok (.iconst 2, 1) := by decide +kernel
theorem d_Mo_option_169 : decode b_Mo_option 169 = .ok (.if_icmp .ne 7, 3) := by decide +kernel
theorem d_Mo_option_172 : decode b_Mo_option 172 = .ok (.iconst 0, 1) := by decide +kernel
theorem d_Mo_option_173 : decode b_Mo_option 173 = .ok (.goto 4, 3) := by decide +kernel
theorem d_Mo_option_176 : decode b_Mo_option 176 = .ok (.iload_n 3, 1) := by decide +kernel
theorem d_Mo_option_177 : decode b_Mo_option 177 = .ok (.iastore, 1) := by decide +kernel
theorem d_Mo_option_178 : decode b_Mo_option 178 = .ok (.aload_n 0, 1) := by decide +kernel
theorem d_Mo_option_179 : decode b_Mo_option 179 = .ok (.getfield 56, 3) := by decide +kernel
theorem d_Mo_option_182 : decode b_Mo_option 182 = .ok (.iload 7, 2) := by decide +kernel
theorem d_Mo_option_184 : decode b_Mo_option 184 = .ok (.lload 4, 2) := by decide +kernel
theorem d_Mo_option_186 : decode b_Mo_option 186 = .ok (.lastore, 1) := by decide +kernel
theorem d_Mo_option_187 : decode b_Mo_option 187 = .ok (.aload_n 0, 1) := by decide +kernel
theorem d_Mo_option_188 : decode b_Mo_option 188 = .ok (.getfield 44, 3) := by decide +kernel
theorem d_Mo_option_191 : decode b_Mo_option 191 = .ok (.iload_n 1, 1) := by decide +kernel
theorem d_Mo_option_192 : decode b_Mo_option 192 = .ok (.dup2, 1) := by decide +kernel
theorem d_Mo_option_193 : decode b_Mo_option 193 = .ok (.iaload, 1) := by decide +kernel
theorem d_Mo_option_194 : decode b_Mo_option 194 = .ok (.iconst 1, 1) := by decide +kernel
theorem d_Mo_option_195 : decode b_Mo_option 195 = .ok (.iadd, 1) := by decide +kernel
theorem d_Mo_option_196 : decode b_Mo_option 196 = .ok (.iastore, 1) := by decide +kernel
theorem d_Mo_option_197 : decode b_Mo_option 197 = .ok (.aload_n 0, 1) := by decide +kernel
theorem d_Mo_option_198 : decode b_Mo_option 198 = .ok (.getfield 44, 3) := by decide +kernel
theorem d_Mo_option_201 : decode b_Mo_option 201 = .ok (.iload_n 1, 1) := by decide +kernel
theorem d_Mo_option_202 : decode b_Mo_option 202 = .ok (.iaload, 1) := by decide +kernel
theorem d_Mo_option_203 : decode b_Mo_option 203 = .ok (.iconst 1, 1) := by decide +kernel
theorem d_Mo_option_204 : decode b_Mo_option 204 = .ok (.isub, 1) := by decide +kernel
theorem d_Mo_option_205 : decode b_Mo_option 205 = .ok (.ireturn, 1) := by decide +kernel
theorem d_Mo_waits_0 : decode b_Mo_waits 0 = .ok (.aload_n 0, 1) := by decide +kernel
theorem d_Mo_waits_1 : decode b_Mo_waits 1 = .ok (.iconst 0, 1) := by decide +kernel
theorem d_Mo_waits_2 : decode b_Mo_waits 2 = .ok (.putfield 72, 3) := by decide +kernel
theorem d_Mo_waits_5 : decode b_Mo_waits 5 = .ok (.aload_n 0, 1) := by decide +kernel
theorem d_Mo_waits_6 : decode b_Mo_waits 6 = .ok (.iload_n 1, 1) := by decide +kernel
theorem d_Mo_waits_7 : decode b_Mo_waits 7 = .ok (.invokevirtual 90, 3) := by decide +kernel
theorem d_Mo_waits_10 : decode b_Mo_waits 10 = .ok (.ifCond .ne 6, 3) := by decide +kernel
theorem d_Mo_waits_13 : decode b_Mo_waits 13 = .ok (.bipush (-11), 2) := by decide +kernel
theorem d_Mo_waits_15 : decode b_Mo_waits 15 = .ok (.ireturn, 1) := by decide +kernel
theorem d_Mo_waits_16 : decode b_Mo_waits 16 = .ok (.lload_n 2, 1) := by decide +kernel
theorem d_Mo_waits_17 : decode b_Mo_waits 17 = .ok (.lconst 0, 1) := by decide +kernel
theorem d_Mo_waits_18 : decode b_Mo_waits 18 = .ok (.ldc2_w 106, 3) := by decide +kernel
theorem d_Mo_waits_21 : decode b_Mo_waits 21 = .ok (.invokestatic 84, 3) := by decide +kernel
theorem d_Mo_waits_24 : decode b_Mo_waits 24 = .ok (.ifCond .ne 6, 3) := by decide +kernel
theorem d_Mo_waits_27 : decode b_Mo_waits 27 = .ok (.bipush (-12), 2) := by decide +kernel
theorem d_Mo_waits_29 : decode b_Mo_waits 29 = .ok (.ireturn, 1) := by decide +kernel
theorem d_Mo_waits_30 : decode b_Mo_waits 30 = .ok (.aload_n 0, 1) := by decide +kernel
theorem d_Mo_waits_31 : decode b_Mo_waits 31 = .ok (.getfield 26, 3) := by decide +kernel
theorem d_Mo_waits_34 : decode b_Mo_waits 34 = .ok (.iload_n 1, 1) := by decide +kernel
theorem d_Mo_waits_35 : decode b_Mo_waits 35 = .ok (.laload, 1) := by decide +kernel
theorem d_Mo_waits_36 : decode b_Mo_waits 36 = .ok (.l2i, 1) := by decide +kernel
theorem d_Mo_waits_37 : decode b_Mo_waits 37 = .ok (.istore 4, 2) := by decide +kernel
theorem d_Mo_waits_39 : decode b_Mo_waits 39 = .ok (.aload_n 0, 1) := by decide +kernel
theorem d_Mo_waits_40 : decode b_Mo_waits 40 = .ok (.getfield 26, 3) := by decide +kernel
theorem d_Mo_waits_43 : decode b_Mo_waits 43 = .ok (.iload_n 1, 1) := by decide +kernel
theorem d_Mo_waits_44 : decode b_Mo_waits 44 = .ok (.lload_n 2, 1) := by decide +kernel
theorem d_Mo_waits_45 : decode b_Mo_waits 45 = .ok (.lastore, 1) := by decide +kernel
theorem d_Mo_waits_46 : decode b_Mo_waits 46 = .ok (.iload 4, 2) := by decide +kernel
theorem d_Mo_waits_48 : decode b_Mo_waits 48 = .ok (.ireturn, 1) := by decide +kernel
theorem d_Mo_there_0 : decode b_Mo_there 0 = .ok (.aload_n 0, 1) := by decide +kernel
theorem d_Mo_there_1 : decode b_Mo_there 1 = .ok (.getfield 20, 3) := by decide +kernel
theorem d_Mo_there_4 : decode b_Mo_there 4 = .ok (.iload_n 1, 1) := by decide +kernel
theorem d_Mo_there_5 : decode b_Mo_there 5 = .ok (.laload, 1) := by decide +kernel
theorem d_Mo_there_6 : decode b_Mo_there 6 = .ok (.aload_n 0, 1) := by decide +kernel
theorem d_Mo_there_7 : decode b_Mo_there 7 = .ok (.getfield 29, 3) := by decide +kernel
theorem d_Mo_there_10 : decode b_Mo_there 10 = .ok (.iload_n 1, 1) := by decide +kernel
theorem d_Mo_there_11 : decode b_Mo_there 11 = .ok (.laload, 1) := by decide +kernel
theorem d_Mo_there_12 : decode b_Mo_there 12 = .ok (.ladd, 1) := by decide +kernel
theorem d_Mo_there_13 : decode b_Mo_there 13 = .ok (.aload_n 0, 1) := by decide +kernel
theorem d_Mo_there_14 : decode b_Mo_there 14 = .ok (.getfield 16, 3) := by decide +kernel
theorem d_Mo_there_17 : decode b_Mo_there 17 = .ok (.iload_n 1, 1) := by decide +kernel
theorem d_Mo_there_18 : decode b_Mo_there 18 = .ok (.laload, 1) := by decide +kernel
theorem d_Mo_there_19 : decode b_Mo_there 19 = .ok (.lsub, 1) := by decide +kernel
theorem d_Mo_there_20 : decode b_Mo_there 20 = .ok (.lreturn, 1) := by decide +kernel
theorem d_Mo_depart_0 : decode b_Mo_depart 0 = .ok (.aload_n 0, 1) := by decide +kernel
theorem d_Mo_depart_1 : decode b_Mo_depart 1 = .ok (.getfield 16, 3) := by decide +kernel
theorem d_Mo_depart_4 : decode b_Mo_depart 4 = .ok (.iload_n 1, 1) := by decide +kernel
theorem d_Mo_depart_5 : decode b_Mo_depart 5 = .ok (.laload, 1) := by decide +kernel
theorem d_Mo_depart_6 : decode b_Mo_depart 6 = .ok (.aload_n 0, 1) := by decide +kernel
theorem d_Mo_depart_7 : decode b_Mo_depart 7 = .ok (.getfield 23, 3) := by decide +kernel
theorem d_Mo_depart_10 : decode b_Mo_depart 10 = .ok (.iload_n 1, 1) := by decide +kernel
theorem d_Mo_depart_11 : decode b_Mo_depart 11 = .ok (.laload, 1) := by decide +kernel
theorem d_Mo_depart_12 : decode b_Mo_depart 12 = .ok (.ladd, 1) := by decide +kernel
theorem d_Mo_depart_13 : decode b_Mo_depart 13 = .ok (.lstore_n 2, 1) := by decide +kernel
theorem d_Mo_depart_14 : decode b_Mo_depart 14 = .ok (.aload_n 0, 1) := by decide +kernel
theorem d_Mo_depart_15 : decode b_Mo_depart 15 = .ok (.getfield 29, 3) := by decide +kernel
theorem d_Mo_depart_18 : decode b_Mo_depart 18 = .ok (.iload_n 1, 1) := by decide +kernel
theorem d_Mo_depart_19 : decode b_Mo_depart 19 = .ok (.lload_n 2, 1) := by decide +kernel
theorem d_Mo_depart_20 : decode b_Mo_depart 20 = .ok (.lastore, 1) := by decide +kernel
theorem d_Mo_depart_21 : decode b_Mo_depart 21 = .ok (.iconst 1, 1) := by decide +kernel
theorem d_Mo_depart_22 : decode b_Mo_depart 22 = .ok (.istore 4, 2) := by decide +kernel
theorem d_Mo_depart_24 : decode b_Mo_depart 24 = .ok (.iload 4, 2) := by decide +kernel
theorem d_Mo_depart_26 : decode b_Mo_depart 26 = .ok (.aload_n 0, 1) := by decide +kernel
theorem d_Mo_depart_27 : decode b_Mo_depart 27 = .ok (.getfield 79, 3) := by decide +kernel
theorem d_Mo_depart_30 : decode b_Mo_depart 30 = .ok (.if_icmp .gt 136, 3) := by decide +kernel
theorem d_Mo_depart_33 : decode b_Mo_depart 33 = .ok (.iconst 4, 1) := by decide +kernel
theorem d_Mo_depart_34 : decode b_Mo_depart 34 = .ok (.iload 4, 2) := by decide +kernel
theorem d_Mo_depart_36 : decode b_Mo_depart 36 = .ok (.imul, 1) := by decide +kernel
theorem d_Mo_depart_37 : decode b_Mo_depart 37 = .ok (.aload_n 0, 1) := by decide +kernel
theorem d_Mo_depart_38 : decode b_Mo_depart 38 = .ok (.getfield 47, 3) := by decide +kernel
theorem d_Mo_depart_41 : decode b_Mo_depart 41 = .ok (.iload 4, 2) := by decide +kernel
theorem d_Mo_depart_43 : decode b_Mo_depart 43 = .ok (.iaload, 1) := by decide +kernel
theorem d_Mo_depart_44 : decode b_Mo_depart 44 = .ok (.iadd, 1) := by decide +kernel
theorem d_Mo_depart_45 : decode b_Mo_depart 45 = .ok (.istore 5, 2) := by decide +kernel
theorem d_Mo_depart_47 : decode b_Mo_depart 47 = .ok (.aload_n 0, 1) := by decide +kernel
theorem d_Mo_depart_48 : decode b_Mo_depart 48 = .ok (.getfield 44, 3) := by decide +kernel
theorem d_Mo_depart_51 : decode b_Mo_depart 51 = .ok (.iload 4, 2) := by decide +kernel
theorem d_Mo_depart_53 : decode b_Mo_depart 53 = .ok (.iaload, 1) := by decide +kernel
theorem d_Mo_depart_54 : decode b_Mo_depart 54 = .ok (.ifCond .le 29, 3) := by decide +kernel
theorem d_Mo_depart_57 : decode b_Mo_depart 57 = .ok (.aload_n 0, 1) := by decide +kernel
theorem d_Mo_depart_58 : decode b_Mo_depart 58 = .ok (.getfield 50, 3) := by decide +kernel
theorem d_Mo_depart_61 : decode b_Mo_depart 61 = .ok (.iload 5, 2) := by decide +kernel
theorem d_Mo_depart_63 : decode b_Mo_depart 63 = .ok (.iaload, 1) := by decide +kernel
theorem d_Mo_depart_64 : decode b_Mo_depart 64 = .ok (.iconst 1, 1) := by decide +kernel
theorem d_Mo_depart_65 : decode b_Mo_depart 65 = .ok (.if_icmp .ne 18, 3) := by decide +kernel
theorem d_Mo_depart_68 : decode b_Mo_depart 68 = .ok (.aload_n 0, 1) := by decide +kernel
theorem d_Mo_depart_69 : decode b_Mo_depart 69 = .ok (.getfield 53, 3) := by decide +kernel
theorem d_Mo_depart_72 : decode b_Mo_depart 72 = .ok (.iload 5, 2) := by decide +kernel
theorem d_Mo_depart_74 : decode b_Mo_depart 74 = .ok (.iaload, 1) := by decide +kernel
theorem d_Mo_depart_75 : decode b_Mo_depart 75 = .ok (.iload_n 1, 1) := by decide +kernel
theorem d_Mo_depart_76 : decode b_Mo_depart 76 = .ok (.if_icmp .ne 7, 3) := by decide +kernel
theorem d_Mo_depart_79 : decode b_Mo_depart 79 = .ok (.iconst 1, 1) := by decide +kernel
theorem d_Mo_depart_80 : decode b_Mo_depart 80 = .ok (.goto 4, 3) := by decide +kernel
theorem d_Mo_depart_83 : decode b_Mo_depart 83 = .ok (.iconst 0, 1) := by decide +kernel
theorem d_Mo_depart_84 : decode b_Mo_depart 84 = .ok (.istore 6, 2) := by decide +kernel
theorem d_Mo_depart_86 : decode b_Mo_depart 86 = .ok (.iload 6, 2) := by decide +kernel
theorem d_Mo_depart_88 : decode b_Mo_depart 88 = .ok (.ifCond .eq 21, 3) := by decide +kernel
theorem d_Mo_depart_91 : decode b_Mo_depart 91 = .ok (.aload_n 0, 1) := by decide +kernel
theorem d_Mo_depart_92 : decode b_Mo_depart 92 = .ok (.aload_n 0, 1) := by decide +kernel
theorem d_Mo_depart_93 : decode b_Mo_depart 93 = .ok (.getfield 32, 3) := by decide +kernel
theorem d_Mo_depart_96 : decode b_Mo_depart 96 = .ok (.iload 4, 2) := by decide +kernel
theorem d_Mo_depart_98 : decode b_Mo_depart 98 = .ok (.iaload, 1) := by decide +kernel
theorem d_Mo_depart_99 : decode b_Mo_depart 99 = .ok (.invokevirtual 108, 3) := by decide +kernel
theorem d_Mo_depart_102 : decode b_Mo_depart 102 = .ok (.ldc2_w 112, 3) := by decide +kernel
theorem d_Mo_depart_105 : decode b_Mo_depart 105 = .ok (.ladd, 1) := by decide +kernel
theorem d_Mo_depart_106 : decode b_Mo_depart 106 = .ok (.goto 4, 3) := by decide +kernel
theorem d_Mo_depart_109 : decode b_Mo_depart 109 = .ok (.lconst 0, 1) := by decide +kernel
theorem d_Mo_depart_110 : decode b_Mo_depart 110 = .ok (.lstore 7, 2) := by decide +kernel
theorem d_Mo_depart_112 : decode b_Mo_depart 112 = .ok (.aload_n 0, 1) := by decide +kernel
theorem d_Mo_depart_113 : decode b_Mo_depart 113 = .ok (.getfield 29, 3) := by decide +kernel
theorem d_Mo_depart_116 : decode b_Mo_depart 116 = .ok (.iload_n 1, 1) := by decide +kernel
theorem d_Mo_depart_117 : decode b_Mo_depart 117 = .ok (.iload 6, 2) := by decide +kernel
theorem d_Mo_depart_119 : decode b_Mo_depart 119 = .ok (.ifCond .eq 34, 3) := by decide +kernel
theorem d_Mo_depart_122 : decode b_Mo_depart 122 = .ok (.lload 7, 2) := by decide +kernel
theorem d_Mo_depart_124 : decode b_Mo_depart 124 = .ok (.lload_n 2, 1) := by decide +kernel
theorem d_Mo_depart_125 : decode b_Mo_depart 125 = .ok (.aload_n 0, 1) := by decide +kernel
theorem d_Mo_depart_126 : decode b_Mo_depart 126 = .ok (.getfield 26, 3) := by decide +kernel
theorem d_Mo_depart_129 : decode b_Mo_depart 129 = .ok (.iload_n 1, 1) := by decide +kernel
theorem d_Mo_depart_130 : decode b_Mo_depart 130 = .ok (.laload, 1) := by decide +kernel
theorem d_Mo_depart_131 : decode b_Mo_depart 131 = .ok (.ladd, 1) := by decide +kernel
theorem d_Mo_depart_132 : decode b_Mo_depart 132 = .ok (.lcmp, 1) := by decide +kernel
theorem d_Mo_depart_133 : decode b_Mo_depart 133 = .ok (.ifCond .gt 20, 3) := by decide +kernel
theorem d_Mo_depart_136 : decode b_Mo_depart 136 = .ok (.lload 7, 2) := by decide +kernel
theorem d_Mo_depart_138 : decode b_Mo_depart 138 = .ok (.aload_n 0, 1) := by decide +kernel
theorem d_Mo_depart_139 : decode b_Mo_depart 139 = .ok (.getfield 29, 3) := by decide +kernel
theorem d_Mo_depart_142 : decode b_Mo_depart 142 = .ok (.iload_n 1, 1) := by decide +kernel
theorem d_Mo_depart_143 : decode b_Mo_depart 143 = .ok (.laload, 1) := by decide +kernel
theorem d_Mo_depart_144 : decode b_Mo_depart 144 = .ok (.lcmp, 1) := by decide +kernel
theorem d_Mo_depart_145 : decode b_Mo_depart 145 = .ok (.ifCond .le 8, 3) := by decide +kernel
theorem d_Mo_depart_148 : decode b_Mo_depart 148 = .ok (.lload 7, 2) := by decide +kernel
theorem d_Mo_depart_150 : decode b_Mo_depart 150 = .ok (.goto 9, 3) := by decide +kernel
theorem d_Mo_depart_153 : decode b_Mo_depart 153 = .ok (.aload_n 0, 1) := by decide +kernel
theorem d_Mo_depart_154 : decode b_Mo_depart 154 = .ok (.getfield 29, 3) := by decide +kernel
theorem d_Mo_depart_157 : decode b_Mo_depart 157 = .ok (.iload_n 1, 1) := by decide +kernel
theorem d_Mo_depart_158 : decode b_Mo_depart 158 = .ok (.laload, 1) := by decide +kernel
theorem d_Mo_depart_159 : decode b_Mo_depart 159 = .ok (.lastore, 1) := by decide +kernel
theorem d_Mo_depart_160 : decode b_Mo_depart 160 = .ok (.iinc 4 1, 3) := by decide +kernel
theorem d_Mo_depart_163 : decode b_Mo_depart 163 = .ok (.goto (-139), 3) := by decide +kernel
theorem d_Mo_depart_166 : decode b_Mo_depart 166 = .ok (.return_, 1) := by decide +kernel
theorem d_Mo_arrive_0 : decode b_Mo_arrive 0 = .ok (.aload_n 0, 1) := by decide +kernel
theorem d_Mo_arrive_1 : decode b_Mo_arrive 1 = .ok (.aload_n 0, 1) := by decide +kernel
theorem d_Mo_arrive_2 : decode b_Mo_arrive 2 = .ok (.getfield 32, 3) := by decide +kernel
theorem d_Mo_arrive_5 : decode b_Mo_arrive 5 = .ok (.iload_n 1, 1) := by decide +kernel
theorem d_Mo_arrive_6 : decode b_Mo_arrive 6 = .ok (.iaload, 1) := by decide +kernel
theorem d_Mo_arrive_7 : decode b_Mo_arrive 7 = .ok (.invokevirtual 108, 3) := by decide +kernel
theorem d_Mo_arrive_10 : decode b_Mo_arrive 10 = .ok (.lstore_n 2, 1) := by decide +kernel
theorem d_Mo_arrive_11 : decode b_Mo_arrive 11 = .ok (.aload_n 0, 1) := by decide +kernel
theorem d_Mo_arrive_12 : decode b_Mo_arrive 12 = .ok (.getfield 62, 3) := by decide +kernel
theorem d_Mo_arrive_15 : decode b_Mo_arrive 15 = .ok (.iload_n 1, 1) := by decide +kernel
theorem d_Mo_arrive_16 : decode b_Mo_arrive 16 = .ok (.iconst 0, 1) := by decide +kernel
theorem d_Mo_arrive_17 : decode b_Mo_arrive 17 = .ok (.bastore, 1) := by decide +kernel
theorem d_Mo_arrive_18 : decode b_Mo_arrive 18 = .ok (.aload_n 0, 1) := by decide +kernel
theorem d_Mo_arrive_19 : decode b_Mo_arrive 19 = .ok (.iload_n 1, 1) := by decide +kernel
theorem d_Mo_arrive_20 : decode b_Mo_arrive 20 = .ok (.invokevirtual 103, 3) := by decide +kernel
theorem d_Mo_arrive_23 : decode b_Mo_arrive 23 = .ok (.ifCond .eq 11, 3) := by decide +kernel
theorem d_Mo_arrive_26 : decode b_Mo_arrive 26 = .ok (.aload_n 0, 1) := by decide +kernel
theorem d_Mo_arrive_27 : decode b_Mo_arrive 27 = .ok (.getfield 59, 3) := by decide +kernel
theorem d_Mo_arrive_30 : decode b_Mo_arrive 30 = .ok (.iload_n 1, 1) := by decide +kernel
theorem d_Mo_arrive_31 : decode b_Mo_arrive 31 = .ok (.lload_n 2, 1) := by decide +kernel
theorem d_Mo_arrive_32 : decode b_Mo_arrive 32 = .ok (.lastore, 1) := by decide +kernel
theorem d_Mo_arrive_33 : decode b_Mo_arrive 33 = .ok (.return_, 1) := by decide +kernel
theorem d_Mo_arrive_34 : decode b_Mo_arrive 34 = .ok (.iconst 4, 1) := by decide +kernel
theorem d_Mo_arrive_35 : decode b_Mo_arrive 35 = .ok (.iload_n 1, 1) := by decide +kernel
theorem d_Mo_arrive_36 : decode b_Mo_arrive 36 = .ok (.imul, 1) := by decide +kernel
theorem d_Mo_arrive_37 : decode b_Mo_arrive 37 = .ok (.aload_n 0, 1) := by decide +kernel
theorem d_Mo_arrive_38 : decode b_Mo_arrive 38 = .ok (.getfield 47, 3) := by decide +kernel
theorem d_Mo_arrive_41 : decode b_Mo_arrive 41 = .ok (.iload_n 1, 1) := by decide +kernel
theorem d_Mo_arrive_42 : decode b_Mo_arrive 42 = .ok (.iaload, 1) := by decide +kernel
theorem d_Mo_arrive_43 : decode b_Mo_arrive 43 = .ok (.iadd, 1) := by decide +kernel
theorem d_Mo_arrive_44 : decode b_Mo_arrive 44 = .ok (.istore 4, 2) := by decide +kernel
theorem d_Mo_arrive_46 : decode b_Mo_arrive 46 = .ok (.aload_n 0, 1) := by decide +kernel
theorem d_Mo_arrive_47 : decode b_Mo_arrive 47 = .ok (.getfield 44, 3) := by decide +kernel
theorem d_Mo_arrive_50 : decode b_Mo_arrive 50 = .ok (.iload_n 1, 1) := by decide +kernel
theorem d_Mo_arrive_51 : decode b_Mo_arrive 51 = .ok (.iaload, 1) := by decide +kernel
theorem d_Mo_arrive_52 : decode b_Mo_arrive 52 = .ok (.ifCond .le 26, 3) := by decide +kernel
theorem d_Mo_arrive_55 : decode b_Mo_arrive 55 = .ok (.aload_n 0, 1) := by decide +kernel
theorem d_Mo_arrive_56 : decode b_Mo_arrive 56 = .ok (.getfield 50, 3) := by decide +kernel
theorem d_Mo_arrive_59 : decode b_Mo_arrive 59 = .ok (.iload 4, 2) := by decide +kernel
theorem d_Mo_arrive_61 : decode b_Mo_arrive 61 = .ok (.iaload, 1) := by decide +kernel
theorem d_Mo_arrive_62 : decode b_Mo_arrive 62 = .ok (.iconst 2, 1) := by decide +kernel
theorem d_Mo_arrive_63 : decode b_Mo_arrive 63 = .ok (.if_icmp .ne 15, 3) := by decide +kernel
theorem d_Mo_arrive_66 : decode b_Mo_arrive 66 = .ok (.aload_n 0, 1) := by decide +kernel
theorem d_Mo_arrive_67 : decode b_Mo_arrive 67 = .ok (.getfield 59, 3) := by decide +kernel
theorem d_Mo_arrive_70 : decode b_Mo_arrive 70 = .ok (.iload_n 1, 1) := by decide +kernel
theorem d_Mo_arrive_71 : decode b_Mo_arrive 71 = .ok (.lload_n 2, 1) := by decide +kernel
theorem d_Mo_arrive_72 : decode b_Mo_arrive 72 = .ok (.ldc2_w 114, 3) := by decide +kernel
theorem d_Mo_arrive_75 : decode b_Mo_arrive 75 = .ok (.ladd, 1) := by decide +kernel
theorem d_Mo_arrive_76 : decode b_Mo_arrive 76 = .ok (.lastore, 1) := by decide +kernel
theorem d_Mo_arrive_77 : decode b_Mo_arrive 77 = .ok (.return_, 1) := by decide +kernel
theorem d_Mo_arrive_78 : decode b_Mo_arrive 78 = .ok (.aload_n 0, 1) := by decide +kernel
theorem d_Mo_arrive_79 : decode b_Mo_arrive 79 = .ok (.getfield 44, 3) := by decide +kernel
theorem d_Mo_arrive_82 : decode b_Mo_arrive 82 = .ok (.iload_n 1, 1) := by decide +kernel
theorem d_Mo_arrive_83 : decode b_Mo_arrive 83 = .ok (.iaload, 1) := by decide +kernel
theorem d_Mo_arrive_84 : decode b_Mo_arrive 84 = .ok (.ifCond .le 28, 3) := by decide +kernel
theorem d_Mo_arrive_87 : decode b_Mo_arrive 87 = .ok (.aload_n 0, 1) := by decide +kernel
theorem d_Mo_arrive_88 : decode b_Mo_arrive 88 = .ok (.getfield 29, 3) := by decide +kernel
theorem d_Mo_arrive_91 : decode b_Mo_arrive 91 = .ok (.aload_n 0, 1) := by decide +kernel
theorem d_Mo_arrive_92 : decode b_Mo_arrive 92 = .ok (.getfield 53, 3) := by decide +kernel
theorem d_Mo_arrive_95 : decode b_Mo_arrive 95 = .ok (.iload 4, 2) := by decide +kernel
theorem d_Mo_arrive_97 : decode b_Mo_arrive 97 = .ok (.iaload, 1) := by decide +kernel
theorem d_Mo_arrive_98 : decode b_Mo_arrive 98 = .ok (.laload, 1) := by decide +kernel
theorem d_Mo_arrive_99 : decode b_Mo_arrive 99 = .ok (.lload_n 2, 1) := by decide +kernel
theorem d_Mo_arrive_100 : decode b_Mo_arrive 100 = .ok (.ldc2_w 112, 3) := by decide +kernel
theorem d_Mo_arrive_103 : decode b_Mo_arrive 103 = .ok (.ladd, 1) := by decide +kernel
theorem d_Mo_arrive_104 : decode b_Mo_arrive 104 = .ok (.lcmp, 1) := by decide +kernel
theorem d_Mo_arrive_105 : decode b_Mo_arrive 105 = .ok (.ifCond .lt 7, 3) := by decide +kernel
theorem d_Mo_arrive_108 : decode b_Mo_arrive 108 = .ok (.iconst 1, 1) := by decide +kernel
theorem d_Mo_arrive_109 : decode b_Mo_arrive 109 = .ok (.goto 4, 3) := by decide +kernel
theorem d_Mo_arrive_112 : decode b_Mo_arrive 112 = .ok (.iconst 0, 1) := by decide +kernel
theorem d_Mo_arrive_113 : decode b_Mo_arrive 113 = .ok (.istore 5, 2) := by decide +kernel
theorem d_Mo_arrive_115 : decode b_Mo_arrive 115 = .ok (.aload_n 0, 1) := by decide +kernel
theorem d_Mo_arrive_116 : decode b_Mo_arrive 116 = .ok (.getfield 62, 3) := by decide +kernel
theorem d_Mo_arrive_119 : decode b_Mo_arrive 119 = .ok (.iload_n 1, 1) := by decide +kernel
theorem d_Mo_arrive_120 : decode b_Mo_arrive 120 = .ok (.iload 5, 2) := by decide +kernel
theorem d_Mo_arrive_122 : decode b_Mo_arrive 122 = .ok (.ifCond .ne 7, 3) := by decide +kernel
theorem d_Mo_arrive_125 : decode b_Mo_arrive 125 = .ok (.iconst 1, 1) := by decide +kernel
theorem d_Mo_arrive_126 : decode b_Mo_arrive 126 = .ok (.goto 4, 3) := by decide +kernel
theorem d_Mo_arrive_129 : decode b_Mo_arrive 129 = .ok (.iconst 0, 1) := by decide +kernel
theorem d_Mo_arrive_130 : decode b_Mo_arrive 130 = .ok (.bastore, 1) := by decide +kernel
theorem d_Mo_arrive_131 : decode b_Mo_arrive 131 = .ok (.aload_n 0, 1) := by decide +kernel
theorem d_Mo_arrive_132 : decode b_Mo_arrive 132 = .ok (.getfield 59, 3) := by decide +kernel
theorem d_Mo_arrive_135 : decode b_Mo_arrive 135 = .ok (.iload_n 1, 1) := by decide +kernel
theorem d_Mo_arrive_136 : decode b_Mo_arrive 136 = .ok (.iload 5, 2) := by decide +kernel
theorem d_Mo_arrive_138 : decode b_Mo_arrive 138 = .ok (.ifCond .eq 17, 3) := by decide +kernel
theorem d_Mo_arrive_141 : decode b_Mo_arrive 141 = .ok (.aload_n 0, 1) := by decide +kernel
theorem d_Mo_arrive_142 : decode b_Mo_arrive 142 = .ok (.aload_n 0, 1) := by decide +kernel
theorem d_Mo_arrive_143 : decode b_Mo_arrive 143 = .ok (.getfield 53, 3) := by decide +kernel
theorem d_Mo_arrive_146 : decode b_Mo_arrive 146 = .ok (.iload 4, 2) := by decide +kernel
theorem d_Mo_arrive_148 : decode b_Mo_arrive 148 = .ok (.iaload, 1) := by decide +kernel
theorem d_Mo_arrive_149 : decode b_Mo_arrive 149 = .ok (.invokevirtual 108, 3) := by decide +kernel
theorem d_Mo_arrive_152 : decode b_Mo_arrive 152 = .ok (.goto 8, 3) := by decide +kernel
theorem d_Mo_arrive_155 : decode b_Mo_arrive 155 = .ok (.lload_n 2, 1) := by decide +kernel
theorem d_Mo_arrive_156 : decode b_Mo_arrive 156 = .ok (.ldc2_w 116, 3) := by decide +kernel
theorem d_Mo_arrive_159 : decode b_Mo_arrive 159 = .ok (.ladd, 1) := by decide +kernel
theorem d_Mo_arrive_160 : decode b_Mo_arrive 160 = .ok (.lastore, 1) := by decide +kernel
theorem d_Mo_arrive_161 : decode b_Mo_arrive 161 = .ok (.return_, 1) := by decide +kernel
theorem d_Mo_reckon_0 : decode b_Mo_reckon 0 = .ok (.ldc2_w 118, 3) := by decide +kernel
theorem d_Mo_reckon_3 : decode b_Mo_reckon 3 = .ok (.lstore_n 1, 1) := by decide +kernel
theorem d_Mo_reckon_4 : decode b_Mo_reckon 4 = .ok (.iconst 0, 1) := by decide +kernel
theorem d_Mo_reckon_5 : decode b_Mo_reckon 5 = .ok (.istore_n 3, 1) := by decide +kernel
theorem d_Mo_reckon_6 : decode b_Mo_reckon 6 = .ok (.iconst 0, 1) := by decide +kernel
theorem d_Mo_reckon_7 : decode b_Mo_reckon 7 = .ok (.istore 4, 2) := by decide +kernel
theorem d_Mo_reckon_9 : decode b_Mo_reckon 9 = .ok (.iload 4, 2) := by decide +kernel
theorem d_Mo_reckon_11 : decode b_Mo_reckon 11 = .ok (.aload_n 0, 1) := by decide +kernel
theorem d_Mo_reckon_12 : decode b_Mo_reckon 12 = .ok (.getfield 76, 3) := by decide +kernel
theorem d_Mo_reckon_15 : decode b_Mo_reckon 15 = .ok (.if_icmp .ge 121, 3) := by decide +kernel
theorem d_Mo_reckon_18 : decode b_Mo_reckon 18 = .ok (.iconst 0, 1) := by decide +kernel
theorem d_Mo_reckon_19 : decode b_Mo_reckon 19 = .ok (.istore 5, 2) := by decide +kernel
theorem d_Mo_reckon_21 : decode b_Mo_reckon 21 = .ok (.iconst 1, 1) := by decide +kernel
theorem d_Mo_reckon_22 : decode b_Mo_reckon 22 = .ok (.istore 6, 2) := by decide +kernel
theorem d_Mo_reckon_24 : decode b_Mo_reckon 24 = .ok (.iload 6, 2) := by decide +kernel
theorem d_Mo_reckon_26 : decode b_Mo_reckon 26 = .ok (.aload_n 0, 1) := by decide +kernel
theorem d_Mo_reckon_27 : decode b_Mo_reckon 27 = .ok (.getfield 76, 3) := by decide +kernel
theorem d_Mo_reckon_30 : decode b_Mo_reckon 30 = .ok (.if_icmp .gt 83, 3) := by decide +kernel
theorem d_Mo_reckon_33 : decode b_Mo_reckon 33 = .ok (.aload_n 0, 1) := by decide +kernel
theorem d_Mo_reckon_34 : decode b_Mo_reckon 34 = .ok (.getfield 16, 3) := by decide +kernel
theorem d_Mo_reckon_37 : decode b_Mo_reckon 37 = .ok (.iload 6, 2) := by decide +kernel
theorem d_Mo_reckon_39 : decode b_Mo_reckon 39 = .ok (.laload, 1) := by decide +kernel
theorem d_Mo_reckon_40 : decode b_Mo_reckon 40 = .ok (.lload_n 1, 1) := by decide +kernel
theorem d_Mo_reckon_41 : decode b_Mo_reckon 41 = .ok (.lcmp, 1) := by decide +kernel
theorem d_Mo_reckon_42 : decode b_Mo_reckon 42 = .ok (.ifCond .gt 21, 3) := by decide +kernel
theorem d_Mo_reckon_45 : decode b_Mo_reckon 45 = .ok (.aload_n 0, 1) := by decide +kernel
theorem d_Mo_reckon_46 : decode b_Mo_reckon 46 = .ok (.getfield 16, 3) := by decide +kernel
theorem d_Mo_reckon_49 : decode b_Mo_reckon 49 = .ok (.iload 6, 2) := by decide +kernel
theorem d_Mo_reckon_51 : decode b_Mo_reckon 51 = .ok (.laload, 1) := by decide +kernel
theorem d_Mo_reckon_52 : decode b_Mo_reckon 52 = .ok (.lload_n 1, 1) := by decide +kernel
theorem d_Mo_reckon_53 : decode b_Mo_reckon 53 = .ok (.lcmp, 1) := by decide +kernel
theorem d_Mo_reckon_54 : decode b_Mo_reckon 54 = .ok (.ifCond .ne 13, 3) := by decide +kernel
theorem d_Mo_reckon_57 : decode b_Mo_reckon 57 = .ok (.iload 6, 2) := by decide +kernel
theorem d_Mo_reckon_59 : decode b_Mo_reckon 59 = .ok (.iload_n 3, 1) := by decide +kernel
theorem d_Mo_reckon_60 : decode b_Mo_reckon 60 = .ok (.if_icmp .le 7, 3) := by decide +kernel
theorem d_Mo_reckon_63 : decode b_Mo_reckon 63 = .ok (.iconst 1, 1) := by decide +kernel
theorem d_Mo_reckon_64 : decode b_Mo_reckon 64 = .ok (.goto 4, 3) := by decide +kernel
theorem d_Mo_reckon_67 : decode b_Mo_reckon 67 = .ok (.iconst 0, 1) := by decide +kernel
theorem d_Mo_reckon_68 : decode b_Mo_reckon 68 = .ok (.istore 7, 2) := by decide +kernel
theorem d_Mo_reckon_70 : decode b_Mo_reckon 70 = .ok (.iload 7, 2) := by decide +kernel
theorem d_Mo_reckon_72 : decode b_Mo_reckon 72 = .ok (.ifCond .eq 31, 3) := by decide +kernel
theorem d_Mo_reckon_75 : decode b_Mo_reckon 75 = .ok (.iload 5, 2) := by decide +kernel
theorem d_Mo_reckon_77 : decode b_Mo_reckon 77 = .ok (.ifCond .eq 21, 3) := by decide +kernel
theorem d_Mo_reckon_80 : decode b_Mo_reckon 80 = .ok (.aload_n 0, 1) := by decide +kernel
theorem d_Mo_reckon_81 : decode b_Mo_reckon 81 = .ok (.getfield 16, 3) := by decide +kernel
theorem d_Mo_reckon_84 : decode b_Mo_reckon 84 = .ok (.iload 6, 2) := by decide +kernel
theorem d_Mo_reckon_86 : decode b_Mo_reckon 86 = .ok (.laload, 1) := by decide +kernel
theorem d_Mo_reckon_87 : decode b_Mo_reckon 87 = .ok (.aload_n 0, 1) := by decide +kernel
theorem d_Mo_reckon_88 : decode b_Mo_reckon 88 = .ok (.getfield 16, 3) := by decide +kernel
theorem d_Mo_reckon_91 : decode b_Mo_reckon 91 = .ok (.iload 5, 2) := by decide +kernel
theorem d_Mo_reckon_93 : decode b_Mo_reckon 93 = .ok (.laload, 1) := by decide +kernel
theorem d_Mo_reckon_94 : decode b_Mo_reckon 94 = .ok (.lcmp, 1) := by decide +kernel
theorem d_Mo_reckon_95 : decode b_Mo_reckon 95 = .ok (.ifCond .ge 8, 3) := by decide +kernel
theorem d_Mo_reckon_98 : decode b_Mo_reckon 98 = .ok (.iload 6, 2) := by decide +kernel
theorem d_Mo_reckon_100 : decode b_Mo_reckon 100 = .ok (.goto 5, 3) := by decide +kernel
theorem d_Mo_reckon_103 : decode b_Mo_reckon 103 = .ok (.iload 5, 2) := by decide +kernel
theorem d_Mo_reckon_105 : decode b_Mo_reckon 105 = .ok (.istore 5, 2) := by decide +kernel
theorem d_Mo_reckon_107 : decode b_Mo_reckon 107 = .ok (.iinc 6 1, 3) := by decide +kernel
theorem d_Mo_reckon_110 : decode b_Mo_reckon 110 = .ok (.goto (-86), 3) := by decide +kernel
theorem d_Mo_reckon_113 : decode b_Mo_reckon 113 = .ok (.aload_n 0, 1) := by decide +kernel
theorem d_Mo_reckon_114 : decode b_Mo_reckon 114 = .ok (.getfield 16, 3) := by decide +kernel
theorem d_Mo_reckon_117 : decode b_Mo_reckon 117 = .ok (.iload 5, 2) := by decide +kernel
theorem d_Mo_reckon_119 : decode b_Mo_reckon 119 = .ok (.laload, 1) := by decide +kernel
theorem d_Mo_reckon_120 : decode b_Mo_reckon 120 = .ok (.lstore_n 1, 1) := by decide +kernel
theorem d_Mo_reckon_121 : decode b_Mo_reckon 121 = .ok (.iload 5, 2) := by decide +kernel
theorem d_Mo_reckon_123 : decode b_Mo_reckon 123 = .ok (.istore_n 3, 1) := by decide +kernel
theorem d_Mo_reckon_124 : decode b_Mo_reckon 124 = .ok (.aload_n 0, 1) := by decide +kernel
theorem d_Mo_reckon_125 : decode b_Mo_reckon 125 = .ok (.iload 5, 2) := by decide +kernel
theorem d_Mo_reckon_127 : decode b_Mo_reckon 127 = .ok (.invokevirtual 120, 3) := by decide +kernel
theorem d_Mo_reckon_130 : decode b_Mo_reckon 130 = .ok (.iinc 4 1, 3) := by decide +kernel
theorem d_Mo_reckon_133 : decode b_Mo_reckon 133 = .ok (.goto (-124), 3) := by decide +kernel
theorem d_Mo_reckon_136 : decode b_Mo_reckon 136 = .ok (.iconst 1, 1) := by decide +kernel
theorem d_Mo_reckon_137 : decode b_Mo_reckon 137 = .ok (.istore 4, 2) := by decide +kernel
theorem d_Mo_reckon_139 : decode b_Mo_reckon 139 = .ok (.iload 4, 2) := by decide +kernel
theorem d_Mo_reckon_141 : decode b_Mo_reckon 141 = .ok (.aload_n 0, 1) := by decide +kernel
theorem d_Mo_reckon_142 : decode b_Mo_reckon 142 = .ok (.getfield 79, 3) := by decide +kernel
theorem d_Mo_reckon_145 : decode b_Mo_reckon 145 = .ok (.if_icmp .gt 15, 3) := by decide +kernel
theorem d_Mo_reckon_148 : decode b_Mo_reckon 148 = .ok (.aload_n 0, 1) := by decide +kernel
theorem d_Mo_reckon_149 : decode b_Mo_reckon 149 = .ok (.iload 4, 2) := by decide +kernel
theorem d_Mo_reckon_151 : decode b_Mo_reckon 151 = .ok (.invokevirtual 124, 3) := by decide +kernel
theorem d_Mo_reckon_154 : decode b_Mo_reckon 154 = .ok (.iinc 4 1, 3) := by decide +kernel
theorem d_Mo_reckon_157 : decode b_Mo_reckon 157 = .ok (.goto (-18), 3) := by decide +kernel
theorem d_Mo_reckon_160 : decode b_Mo_reckon 160 = .ok (.return_, 1) := by decide +kernel
theorem d_Mo_late_0 : decode b_Mo_late 0 = .ok (.aload_n 0, 1) := by decide +kernel
theorem d_Mo_late_1 : decode b_Mo_late 1 = .ok (.iconst 0, 1) := by decide +kernel
theorem d_Mo_late_2 : decode b_Mo_late 2 = .ok (.putfield 72, 3) := by decide +kernel
theorem d_Mo_late_5 : decode b_Mo_late 5 = .ok (.aload_n 0, 1) := by decide +kernel
theorem d_Mo_late_6 : decode b_Mo_late 6 = .ok (.iload_n 1, 1) := by decide +kernel
theorem d_Mo_late_7 : decode b_Mo_late 7 = .ok (.invokevirtual 90, 3) := by decide +kernel
theorem d_Mo_late_10 : decode b_Mo_late 10 = .ok (.ifCond .ne 6, 3) := by decide +kernel
theorem d_Mo_late_13 : decode b_Mo_late 13 = .ok (.bipush (-11), 2) := by decide +kernel
theorem d_Mo_late_15 : decode b_Mo_late 15 = .ok (.ireturn, 1) := by decide +kernel
theorem d_Mo_late_16 : decode b_Mo_late 16 = .ok (.lload_n 2, 1) := by decide +kernel
theorem d_Mo_late_17 : decode b_Mo_late 17 = .ok (.lconst 0, 1) := by decide +kernel
theorem d_Mo_late_18 : decode b_Mo_late 18 = .ok (.ldc2_w 127, 3) := by decide +kernel
theorem d_Mo_late_21 : decode b_Mo_late 21 = .ok (.invokestatic 84, 3) := by decide +kernel
theorem d_Mo_late_24 : decode b_Mo_late 24 = .ok (.ifCond .ne 6, 3) := by decide +kernel
theorem d_Mo_late_27 : decode b_Mo_late 27 = .ok (.bipush (-12), 2) := by decide +kernel
theorem d_Mo_late_29 : decode b_Mo_late 29 = .ok (.ireturn, 1) := by decide +kernel
theorem d_Mo_late_30 : decode b_Mo_late 30 = .ok (.aload_n 0, 1) := by decide +kernel
theorem d_Mo_late_31 : decode b_Mo_late 31 = .ok (.getfield 23, 3) := by decide +kernel
theorem d_Mo_late_34 : decode b_Mo_late 34 = .ok (.iload_n 1, 1) := by decide +kernel
theorem d_Mo_late_35 : decode b_Mo_late 35 = .ok (.lload_n 2, 1) := by decide +kernel
theorem d_Mo_late_36 : decode b_Mo_late 36 = .ok (.lastore, 1) := by decide +kernel
theorem d_Mo_late_37 : decode b_Mo_late 37 = .ok (.aload_n 0, 1) := by decide +kernel
theorem d_Mo_late_38 : decode b_Mo_late 38 = .ok (.invokevirtual 129, 3) := by decide +kernel
theorem d_Mo_late_41 : decode b_Mo_late 41 = .ok (.iconst 0, 1) := by decide +kernel
theorem d_Mo_late_42 : decode b_Mo_late 42 = .ok (.istore 4, 2) := by decide +kernel
theorem d_Mo_late_44 : decode b_Mo_late 44 = .ok (.iconst 1, 1) := by decide +kernel
theorem d_Mo_late_45 : decode b_Mo_late 45 = .ok (.istore 5, 2) := by decide +kernel
theorem d_Mo_late_47 : decode b_Mo_late 47 = .ok (.iload 5, 2) := by decide +kernel
theorem d_Mo_late_49 : decode b_Mo_late 49 = .ok (.aload_n 0, 1) := by decide +kernel
theorem d_Mo_late_50 : decode b_Mo_late 50 = .ok (.getfield 79, 3) := by decide +kernel
theorem d_Mo_late_53 : decode b_Mo_late 53 = .ok (.if_icmp .gt 47, 3) := by decide +kernel
theorem d_Mo_late_56 : decode b_Mo_late 56 = .ok (.iload 4, 2) := by decide +kernel
theorem d_Mo_late_58 : decode b_Mo_late 58 = .ok (.aload_n 0, 1) := by decide +kernel
theorem d_Mo_late_59 : decode b_Mo_late 59 = .ok (.getfield 62, 3) := by decide +kernel
theorem d_Mo_late_62 : decode b_Mo_late 62 = .ok (.iload 5, 2) := by decide +kernel
theorem d_Mo_late_64 : decode b_Mo_late 64 = .ok (.baload, 1) := by decide +kernel
theorem d_Mo_late_65 : decode b_Mo_late 65 = .ok (.ifCond .ne 21, 3) := by decide +kernel
theorem d_Mo_late_68 : decode b_Mo_late 68 = .ok (.aload_n 0, 1) := by decide +kernel
theorem d_Mo_late_69 : decode b_Mo_late 69 = .ok (.getfield 59, 3) := by decide +kernel
theorem d_Mo_late_72 : decode b_Mo_late 72 = .ok (.iload 5, 2) := by decide +kernel
theorem d_Mo_late_74 : decode b_Mo_late 74 = .ok (.laload, 1) := by decide +kernel
theorem d_Mo_late_75 : decode b_Mo_late 75 = .ok (.aload_n 0, 1) := by decide +kernel
theorem d_Mo_late_76 : decode b_Mo_late 76 = .ok (.getfield 38, 3) := by decide +kernel
theorem d_Mo_late_79 : decode b_Mo_late 79 = .ok (.iload 5, 2) := by decide +kernel
theorem d_Mo_late_81 : decode b_Mo_late 81 = .ok (.laload, 1) := by decide +kernel
theorem d_Mo_late_82 : decode b_Mo_late 82 = .ok (.lcmp, 1) := by decide +kernel
theorem d_Mo_late_83 : decode b_Mo_late 83 = .ok (.ifCond .le 7, 3) := by decide +kernel
theorem d_Mo_late_86 : decode b_Mo_late 86 = .ok (.iconst 1, 1) := by decide +kernel
theorem d_Mo_late_87 : decode b_Mo_late 87 = .ok (.goto 4, 3) := by decide +kernel
theorem d_Mo_late_90 : decode b_Mo_late 90 = .ok (.iconst 0, 1) := by decide +kernel
theorem d_Mo_late_91 : decode b_Mo_late 91 = .ok (.iadd, 1) := by decide +kernel
theorem d_Mo_late_92 : decode b_Mo_late 92 = .ok (.istore 4, 2) := by decide +kernel
theorem d_Mo_late_94 : decode b_Mo_late 94 = .ok (.iinc 5 1, 3) := by decide +kernel
theorem d_Mo_late_97 : decode b_Mo_late 97 = .ok (.goto (-50), 3) := by decide +kernel
theorem d_Mo_late_100 : decode b_Mo_late 100 = .ok (.iload 4, 2) := by decide +kernel
theorem d_Mo_late_102 : decode b_Mo_late 102 = .ok (.ireturn, 1) := by decide +kernel
theorem d_Mo_tell_0 : decode b_Mo_tell 0 = .ok (.aload_n 0, 1) := by decide +kernel
theorem d_Mo_tell_1 : decode b_Mo_tell 1 = .ok (.iconst 0, 1) := by decide +kernel
theorem d_Mo_tell_2 : decode b_Mo_tell 2 = .ok (.putfield 72, 3) := by decide +kernel
theorem d_Mo_tell_5 : decode b_Mo_tell 5 = .ok (.aload_n 0, 1) := by decide +kernel
theorem d_Mo_tell_6 : decode b_Mo_tell 6 = .ok (.iload_n 1, 1) := by decide +kernel
theorem d_Mo_tell_7 : decode b_Mo_tell 7 = .ok (.invokevirtual 90, 3) := by decide +kernel
theorem d_Mo_tell_10 : decode b_Mo_tell 10 = .ok (.ifCond .ne 6, 3) := by decide +kernel
theorem d_Mo_tell_13 : decode b_Mo_tell 13 = .ok (.bipush (-11), 2) := by decide +kernel
theorem d_Mo_tell_15 : decode b_Mo_tell 15 = .ok (.ireturn, 1) := by decide +kernel
theorem d_Mo_tell_16 : decode b_Mo_tell 16 = .ok (.lload_n 2, 1) := by decide +kernel
theorem d_Mo_tell_17 : decode b_Mo_tell 17 = .ok (.lconst 0, 1) := by decide +kernel
theorem d_Mo_tell_18 : decode b_Mo_tell 18 = .ok (.ldc2_w 127, 3) := by decide +kernel
theorem d_Mo_tell_21 : decode b_Mo_tell 21 = .ok (.invokestatic 84, 3) := by decide +kernel
theorem d_Mo_tell_24 : decode b_Mo_tell 24 = .ok (.ifCond .ne 6, 3) := by decide +kernel
theorem d_Mo_tell_27 : decode b_Mo_tell 27 = .ok (.bipush (-12), 2) := by decide +kernel
theorem d_Mo_tell_29 : decode b_Mo_tell 29 = .ok (.ireturn, 1) := by decide +kernel
theorem d_Mo_tell_30 : decode b_Mo_tell 30 = .ok (.aload_n 0, 1) := by decide +kernel
theorem d_Mo_tell_31 : decode b_Mo_tell 31 = .ok (.invokevirtual 129, 3) := by decide +kernel
theorem d_Mo_tell_34 : decode b_Mo_tell 34 = .ok (.iconst 1, 1) := by decide +kernel
theorem d_Mo_tell_35 : decode b_Mo_tell 35 = .ok (.istore 4, 2) := by decide +kernel
theorem d_Mo_tell_37 : decode b_Mo_tell 37 = .ok (.iload 4, 2) := by decide +kernel
theorem d_Mo_tell_39 : decode b_Mo_tell 39 = .ok (.aload_n 0, 1) := by decide +kernel
theorem d_Mo_tell_40 : decode b_Mo_tell 40 = .ok (.getfield 79, 3) := by decide +kernel
theorem d_Mo_tell_43 : decode b_Mo_tell 43 = .ok (.if_icmp .gt 23, 3) := by decide +kernel
theorem d_Mo_tell_46 : decode b_Mo_tell 46 = .ok (.aload_n 0, 1) := by decide +kernel
theorem d_Mo_tell_47 : decode b_Mo_tell 47 = .ok (.getfield 69, 3) := by decide +kernel
theorem d_Mo_tell_50 : decode b_Mo_tell 50 = .ok (.iload 4, 2) := by decide +kernel
theorem d_Mo_tell_52 : decode b_Mo_tell 52 = .ok (.aload_n 0, 1) := by decide +kernel
theorem d_Mo_tell_53 : decode b_Mo_tell 53 = .ok (.getfield 59, 3) := by decide +kernel
theorem d_Mo_tell_56 : decode b_Mo_tell 56 = .ok (.iload 4, 2) := by decide +kernel
theorem d_Mo_tell_58 : decode b_Mo_tell 58 = .ok (.laload, 1) := by decide +kernel
theorem d_Mo_tell_59 : decode b_Mo_tell 59 = .ok (.lastore, 1) := by decide +kernel
theorem d_Mo_tell_60 : decode b_Mo_tell 60 = .ok (.iinc 4 1, 3) := by decide +kernel
theorem d_Mo_tell_63 : decode b_Mo_tell 63 = .ok (.goto (-26), 3) := by decide +kernel
theorem d_Mo_tell_66 : decode b_Mo_tell 66 = .ok (.aload_n 0, 1) := by decide +kernel
theorem d_Mo_tell_67 : decode b_Mo_tell 67 = .ok (.getfield 23, 3) := by decide +kernel
theorem d_Mo_tell_70 : decode b_Mo_tell 70 = .ok (.iload_n 1, 1) := by decide +kernel
theorem d_Mo_tell_71 : decode b_Mo_tell 71 = .ok (.lload_n 2, 1) := by decide +kernel
theorem d_Mo_tell_72 : decode b_Mo_tell 72 = .ok (.lastore, 1) := by decide +kernel
theorem d_Mo_tell_73 : decode b_Mo_tell 73 = .ok (.iconst 1, 1) := by decide +kernel
theorem d_Mo_tell_74 : decode b_Mo_tell 74 = .ok (.istore 4, 2) := by decide +kernel
theorem d_Mo_tell_76 : decode b_Mo_tell 76 = .ok (.iload 4, 2) := by decide +kernel
theorem d_Mo_tell_78 : decode b_Mo_tell 78 = .ok (.aload_n 0, 1) := by decide +kernel
theorem d_Mo_tell_79 : decode b_Mo_tell 79 = .ok (.getfield 79, 3) := by decide +kernel
theorem d_Mo_tell_82 : decode b_Mo_tell 82 = .ok (.if_icmp .gt 99, 3) := by decide +kernel
theorem d_Mo_tell_85 : decode b_Mo_tell 85 = .ok (.aload_n 0, 1) := by decide +kernel
theorem d_Mo_tell_86 : decode b_Mo_tell 86 = .ok (.getfield 32, 3) := by decide +kernel
theorem d_Mo_tell_89 : decode b_Mo_tell 89 = .ok (.iload 4, 2) := by decide +kernel
theorem d_Mo_tell_91 : decode b_Mo_tell 91 = .ok (.iaload, 1) := by decide +kernel
theorem d_Mo_tell_92 : decode b_Mo_tell 92 = .ok (.iload_n 1, 1) := by decide +kernel
theorem d_Mo_tell_93 : decode b_Mo_tell 93 = .ok (.if_icmp .ne 7, 3) := by decide +kernel
theorem d_Mo_tell_96 : decode b_Mo_tell 96 = .ok (.iconst 1, 1) := by decide +kernel
theorem d_Mo_tell_97 : decode b_Mo_tell 97 = .ok (.goto 4, 3) := by decide +kernel
theorem d_Mo_tell_100 : decode b_Mo_tell 100 = .ok (.iconst 0, 1) := by decide +kernel
theorem d_Mo_tell_101 : decode b_Mo_tell 101 = .ok (.istore 5, 2) := by decide +kernel
theorem d_Mo_tell_103 : decode b_Mo_tell 103 = .ok (.iconst 0, 1) := by decide +kernel
theorem d_Mo_tell_104 : decode b_Mo_tell 104 = .ok (.istore 6, 2) := by decide +kernel
theorem d_Mo_tell_106 : decode b_Mo_tell 106 = .ok (.iload 6, 2) := by decide +kernel
theorem d_Mo_tell_108 : decode b_Mo_tell 108 = .ok (.aload_n 0, 1) := by decide +kernel
theorem d_Mo_tell_109 : decode b_Mo_tell 109 = .ok (.getfield 44, 3) := by decide +kernel
theorem d_Mo_tell_112 : decode b_Mo_tell 112 = .ok (.iload 4, 2) := by decide +kernel
theorem d_Mo_tell_114 : decode b_Mo_tell 114 = .ok (.iaload, 1) := by decide +kernel
theorem d_Mo_tell_115 : decode b_Mo_tell 115 = .ok (.if_icmp .ge 37, 3) := by decide +kernel
theorem d_Mo_tell_118 : decode b_Mo_tell 118 = .ok (.iload 5, 2) := by decide +kernel
theorem d_Mo_tell_120 : decode b_Mo_tell 120 = .ok (.ifCond .ne 19, 3) := by decide +kernel
theorem d_Mo_tell_123 : decode b_Mo_tell 123 = .ok (.aload_n 0, 1) := by decide +kernel
theorem d_Mo_tell_124 : decode b_Mo_tell 124 = .ok (.getfield 53, 3) := by decide +kernel
theorem d_Mo_tell_127 : decode b_Mo_tell 127 = .ok (.iconst 4, 1) := by decide +kernel
theorem d_Mo_tell_128 : decode b_Mo_tell 128 = .ok (.iload 4, 2) := by decide +kernel
theorem d_Mo_tell_130 : decode b_Mo_tell 130 = .ok (.imul, 1) := by decide +kernel
theorem d_Mo_tell_131 : decode b_Mo_tell 131 = .ok (.iload 6, 2) := by decide +kernel
theorem d_Mo_tell_133 : decode b_Mo_tell 133 = .ok (.iadd, 1) := by decide +kernel
theorem d_Mo_tell_134 : decode b_Mo_tell 134 = .ok (.iaload, 1) := by decide +kernel
theorem d_Mo_tell_135 : decode b_Mo_tell 135 = .ok (.iload_n 1, 1) := by decide +kernel
theorem d_Mo_tell_136 : decode b_Mo_tell 136 = .ok (.if_icmp .ne 7, 3) := by decide +kernel
theorem d_Mo_tell_139 : decode b_Mo_tell 139 = .ok (.iconst 1, 1) := by decide +kernel
theorem d_Mo_tell_140 : decode b_Mo_tell 140 = .ok (.goto 4, 3) := by decide +kernel
theorem d_Mo_tell_143 : decode b_Mo_tell 143 = .ok (.iconst 0, 1) := by decide +kernel
theorem d_Mo_tell_144 : decode b_Mo_tell 144 = .ok (.istore 5, 2) := by decide +kernel
theorem d_Mo_tell_146 : decode b_Mo_tell 146 = .ok (.iinc 6 1, 3) := by decide +kernel
theorem d_Mo_tell_149 : decode b_Mo_tell 149 = .ok (.goto (-43), 3) := by decide +kernel
theorem d_Mo_tell_152 : decode b_Mo_tell 152 = .ok (.aload_n 0, 1) := by decide +kernel
theorem d_Mo_tell_153 : decode b_Mo_tell 153 = .ok (.getfield 47, 3) := by decide +kernel
theorem d_Mo_tell_156 : decode b_Mo_tell 156 = .ok (.iload 4, 2) := by decide +kernel
theorem d_Mo_tell_158 : decode b_Mo_tell 158 = .ok (.iload 5, 2) := by decide +kernel
theorem d_Mo_tell_160 : decode b_Mo_tell 160 = .ok (.ifCond .eq 7, 3) := by decide +kernel
theorem d_Mo_tell_163 : decode b_Mo_tell 163 = .ok (.iconst 0, 1) := by decide +kernel
theorem d_Mo_tell_164 : decode b_Mo_tell 164 = .ok (.goto 10, 3) := by decide +kernel
theorem d_Mo_tell_167 : decode b_Mo_tell 167 = .ok (.aload_n 0, 1) := by decide +kernel
theorem d_Mo_tell_168 : decode b_Mo_tell 168 = .ok (.getfield 47, 3) := by decide +kernel
theorem d_Mo_tell_171 : decode b_Mo_tell 171 = .ok (.iload 4, 2) := by decide +kernel
theorem d_Mo_tell_173 : decode b_Mo_tell 173 = .ok (.iaload, 1) := by decide +kernel
theorem d_Mo_tell_174 : decode b_Mo_tell 174 = .ok (.iastore, 1) := by decide +kernel
theorem d_Mo_tell_175 : decode b_Mo_tell 175 = .ok (.iinc 4 1, 3) := by decide +kernel
theorem d_Mo_tell_178 : decode b_Mo_tell 178 = .ok (.goto (-102), 3) := by decide +kernel
theorem d_Mo_tell_181 : decode b_Mo_tell 181 = .ok (.aload_n 0, 1) := by decide +kernel
theorem d_Mo_tell_182 : decode b_Mo_tell 182 = .ok (.invokevirtual 129, 3) := by decide +kernel
theorem d_Mo_tell_185 : decode b_Mo_tell 185 = .ok (.iconst 0, 1) := by decide +kernel
theorem d_Mo_tell_186 : decode b_Mo_tell 186 = .ok (.istore 4, 2) := by decide +kernel
theorem d_Mo_tell_188 : decode b_Mo_tell 188 = .ok (.iconst 1, 1) := by decide +kernel
theorem d_Mo_tell_189 : decode b_Mo_tell 189 = .ok (.istore 5, 2) := by decide +kernel
theorem d_Mo_tell_191 : decode b_Mo_tell 191 = .ok (.iload 5, 2) := by decide +kernel
theorem d_Mo_tell_193 : decode b_Mo_tell 193 = .ok (.aload_n 0, 1) := by decide +kernel
theorem d_Mo_tell_194 : decode b_Mo_tell 194 = .ok (.getfield 79, 3) := by decide +kernel
theorem d_Mo_tell_197 : decode b_Mo_tell 197 = .ok (.if_icmp .gt 37, 3) := by decide +kernel
theorem d_Mo_tell_200 : decode b_Mo_tell 200 = .ok (.iload 4, 2) := by decide +kernel
theorem d_Mo_tell_202 : decode b_Mo_tell 202 = .ok (.aload_n 0, 1) := by decide +kernel
theorem d_Mo_tell_203 : decode b_Mo_tell 203 = .ok (.getfield 59, 3) := by decide +kernel
theorem d_Mo_tell_206 : decode b_Mo_tell 206 = .ok (.iload 5, 2) := by decide +kernel
theorem d_Mo_tell_208 : decode b_Mo_tell 208 = .ok (.laload, 1) := by decide +kernel
theorem d_Mo_tell_209 : decode b_Mo_tell 209 = .ok (.aload_n 0, 1) := by decide +kernel
theorem d_Mo_tell_210 : decode b_Mo_tell 210 = .ok (.getfield 69, 3) := by decide +kernel
theorem d_Mo_tell_213 : decode b_Mo_tell 213 = .ok (.iload 5, 2) := by decide +kernel
theorem d_Mo_tell_215 : decode b_Mo_tell 215 = .ok (.laload, 1) := by decide +kernel
theorem d_Mo_tell_216 : decode b_Mo_tell 216 = .ok (.lcmp, 1) := by decide +kernel
theorem d_Mo_tell_217 : decode b_Mo_tell 217 = .ok (.ifCond .eq 7, 3) := by decide +kernel
theorem d_Mo_tell_220 : decode b_Mo_tell 220 = .ok (.iconst 1, 1) := by decide +kernel
theorem d_Mo_tell_221 : decode b_Mo_tell 221 = .ok (.goto 4, 3) := by decide +kernel
theorem d_Mo_tell_224 : decode b_Mo_tell 224 = .ok (.iconst 0, 1) := by decide +kernel
theorem d_Mo_tell_225 : decode b_Mo_tell 225 = .ok (.iadd, 1) := by decide +kernel
theorem d_Mo_tell_226 : decode b_Mo_tell 226 = .ok (.istore 4, 2) := by decide +kernel
theorem d_Mo_tell_228 : decode b_Mo_tell 228 = .ok (.iinc 5 1, 3) := by decide +kernel
theorem d_Mo_tell_231 : decode b_Mo_tell 231 = .ok (.goto (-40), 3) := by decide +kernel
theorem d_Mo_tell_234 : decode b_Mo_tell 234 = .ok (.iload 4, 2) := by decide +kernel
theorem d_Mo_tell_236 : decode b_Mo_tell 236 = .ok (.ireturn, 1) := by decide +kernel
theorem d_Mo_harm_0 : decode b_Mo_harm 0 = .ok (.lconst 0, 1) := by decide +kernel
theorem d_Mo_harm_1 : decode b_Mo_harm 1 = .ok (.lstore_n 1, 1) := by decide +kernel
theorem d_Mo_harm_2 : decode b_Mo_harm 2 = .ok (.iconst 1, 1) := by decide +kernel
theorem d_Mo_harm_3 : decode b_Mo_harm 3 = .ok (.istore_n 3, 1) := by decide +kernel
theorem d_Mo_harm_4 : decode b_Mo_harm 4 = .ok (.iload_n 3, 1) := by decide +kernel
theorem d_Mo_harm_5 : decode b_Mo_harm 5 = .ok (.aload_n 0, 1) := by decide +kernel
theorem d_Mo_harm_6 : decode b_Mo_harm 6 = .ok (.getfield 79, 3) := by decide +kernel
theorem d_Mo_harm_9 : decode b_Mo_harm 9 = .ok (.if_icmp .gt 84, 3) := by decide +kernel
theorem d_Mo_harm_12 : decode b_Mo_harm 12 = .ok (.lload_n 1, 1) := by decide +kernel
theorem d_Mo_harm_13 : decode b_Mo_harm 13 = .ok (.aload_n 0, 1) := by decide +kernel
theorem d_Mo_harm_14 : decode b_Mo_harm 14 = .ok (.getfield 59, 3) := by decide +kernel
theorem d_Mo_harm_17 : decode b_Mo_harm 17 = .ok (.iload_n 3, 1) := by decide +kernel
theorem d_Mo_harm_18 : decode b_Mo_harm 18 = .ok (.laload, 1) := by decide +kernel
theorem d_Mo_harm_19 : decode b_Mo_harm 19 = .ok (.aload_n 0, 1) := by decide +kernel
theorem d_Mo_harm_20 : decode b_Mo_harm 20 = .ok (.getfield 38, 3) := by decide +kernel
theorem d_Mo_harm_23 : decode b_Mo_harm 23 = .ok (.iload_n 3, 1) := by decide +kernel
theorem d_Mo_harm_24 : decode b_Mo_harm 24 = .ok (.laload, 1) := by decide +kernel
theorem d_Mo_harm_25 : decode b_Mo_harm 25 = .ok (.lcmp, 1) := by decide +kernel
theorem d_Mo_harm_26 : decode b_Mo_harm 26 = .ok (.ifCond .le 27, 3) := by decide +kernel
theorem d_Mo_harm_29 : decode b_Mo_harm 29 = .ok (.aload_n 0, 1) := by decide +kernel
theorem d_Mo_harm_30 : decode b_Mo_harm 30 = .ok (.getfield 41, 3) := by decide +kernel
theorem d_Mo_harm_33 : decode b_Mo_harm 33 = .ok (.iload_n 3, 1) := by decide +kernel
theorem d_Mo_harm_34 : decode b_Mo_harm 34 = .ok (.iaload, 1) := by decide +kernel
theorem d_Mo_harm_35 : decode b_Mo_harm 35 = .ok (.i2l, 1) := by decide +kernel
theorem d_Mo_harm_36 : decode b_Mo_harm 36 = .ok (.aload_n 0, 1) := by decide +kernel
theorem d_Mo_harm_37 : decode b_Mo_harm 37 = .ok (.getfield 59, 3) := by decide +kernel
theorem d_Mo_harm_40 : decode b_Mo_harm 40 = .ok (.iload_n 3, 1) := by decide +kernel
theorem d_Mo_harm_41 : decode b_Mo_harm 41 = .ok (.laload, 1) := by decide +kernel
theorem d_Mo_harm_42 : decode b_Mo_harm 42 = .ok (.aload_n 0, 1) := by decide +kernel
theorem d_Mo_harm_43 : decode b_Mo_harm 43 = .ok (.getfield 38, 3) := by decide +kernel
theorem d_Mo_harm_46 : decode b_Mo_harm 46 = .ok (.iload_n 3, 1) := by decide +kernel
theorem d_Mo_harm_47 : decode b_Mo_harm 47 = .ok (.laload, 1) := by decide +kernel
theorem d_Mo_harm_48 : decode b_Mo_harm 48 = .ok (.lsub, 1) := by decide +kernel
theorem d_Mo_harm_49 : decode b_Mo_harm 49 = .ok (.lmul, 1) := by decide +kernel
theorem d_Mo_harm_50 : decode b_Mo_harm 50 = .ok (.goto 4, 3) := by decide +kernel
theorem d_Mo_harm_53 : decode b_Mo_harm 53 = .ok (.lconst 0, 1) := by decide +kernel
theorem d_Mo_harm_54 : decode b_Mo_harm 54 = .ok (.ladd, 1) := by decide +kernel
theorem d_Mo_harm_55 : decode b_Mo_harm 55 = .ok (.lstore_n 1, 1) := by decide +kernel
theorem d_Mo_harm_56 : decode b_Mo_harm 56 = .ok (.lload_n 1, 1) := by decide +kernel
theorem d_Mo_harm_57 : decode b_Mo_harm 57 = .ok (.aload_n 0, 1) := by decide +kernel
theorem d_Mo_harm_58 : decode b_Mo_harm 58 = .ok (.getfield 44, 3) := by decide +kernel
theorem d_Mo_harm_61 : decode b_Mo_harm 61 = .ok (.iload_n 3, 1) := by decide +kernel
theorem d_Mo_harm_62 : decode b_Mo_harm 62 = .ok (.iaload, 1) := by decide +kernel
theorem d_Mo_harm_63 : decode b_Mo_harm 63 = .ok (.ifCond .le 21, 3) := by decide +kernel
theorem d_Mo_harm_66 : decode b_Mo_harm 66 = .ok (.aload_n 0, 1) := by decide +kernel
theorem d_Mo_harm_67 : decode b_Mo_harm 67 = .ok (.getfield 56, 3) := by decide +kernel
theorem d_Mo_harm_70 : decode b_Mo_harm 70 = .ok (.iconst 4, 1) := by decide +kernel
theorem d_Mo_harm_71 : decode b_Mo_harm 71 = .ok (.iload_n 3, 1) := by decide +kernel
theorem d_Mo_harm_72 : decode b_Mo_harm 72 = .ok (.imul, 1) := by decide +kernel
theorem d_Mo_harm_73 : decode b_Mo_harm 73 = .ok (.aload_n 0, 1) := by decide +kernel
theorem d_Mo_harm_74 : decode b_Mo_harm 74 = .ok (.getfield 47, 3) := by decide +kernel
theorem d_Mo_harm_77 : decode b_Mo_harm 77 = .ok (.iload_n 3, 1) := by decide +kernel
theorem d_Mo_harm_78 : decode b_Mo_harm 78 = .ok (.iaload, 1) := by decide +kernel
theorem d_Mo_harm_79 : decode b_Mo_harm 79 = .ok (.iadd, 1) := by decide +kernel
theorem d_Mo_harm_80 : decode b_Mo_harm 80 = .ok (.laload, 1) := by decide +kernel
theorem d_Mo_harm_81 : decode b_Mo_harm 81 = .ok (.goto 4, 3) := by decide +kernel
theorem d_Mo_harm_84 : decode b_Mo_harm 84 = .ok (.lconst 0, 1) := by decide +kernel
theorem d_Mo_harm_85 : decode b_Mo_harm 85 = .ok (.ladd, 1) := by decide +kernel
theorem d_Mo_harm_86 : decode b_Mo_harm 86 = .ok (.lstore_n 1, 1) := by decide +kernel
theorem d_Mo_harm_87 : decode b_Mo_harm 87 = .ok (.iinc 3 1, 3) := by decide +kernel
theorem d_Mo_harm_90 : decode b_Mo_harm 90 = .ok (.goto (-86), 3) := by decide +kernel
theorem d_Mo_harm_93 : decode b_Mo_harm 93 = .ok (.lload_n 1, 1) := by decide +kernel
theorem d_Mo_harm_94 : decode b_Mo_harm 94 = .ok (.lreturn, 1) := by decide +kernel
theorem d_Mo_actsNow_0 : decode b_Mo_actsNow 0 = .ok (.iconst 0, 1) := by decide +kernel
theorem d_Mo_actsNow_1 : decode b_Mo_actsNow 1 = .ok (.istore_n 1, 1) := by decide +kernel
theorem d_Mo_actsNow_2 : decode b_Mo_actsNow 2 = .ok (.iconst 1, 1) := by decide +kernel
theorem d_Mo_actsNow_3 : decode b_Mo_actsNow 3 = .ok (.istore_n 2, 1) := by decide +kernel
theorem d_Mo_actsNow_4 : decode b_Mo_actsNow 4 = .ok (.iload_n 2, 1) := by decide +kernel
theorem d_Mo_actsNow_5 : decode b_Mo_actsNow 5 = .ok (.aload_n 0, 1) := by decide +kernel
theorem d_Mo_actsNow_6 : decode b_Mo_actsNow 6 = .ok (.getfield 79, 3) := by decide +kernel
theorem d_Mo_actsNow_9 : decode b_Mo_actsNow 9 = .ok (.if_icmp .gt 44, 3) := by decide +kernel
theorem d_Mo_actsNow_12 : decode b_Mo_actsNow 12 = .ok (.iload_n 1, 1) := by decide +kernel
theorem d_Mo_actsNow_13 : decode b_Mo_actsNow 13 = .ok (.aload_n 0, 1) := by decide +kernel
theorem d_Mo_actsNow_14 : decode b_Mo_actsNow 14 = .ok (.getfield 44, 3) := by decide +kernel
theorem d_Mo_actsNow_17 : decode b_Mo_actsNow 17 = .ok (.iload_n 2, 1) := by decide +kernel
theorem d_Mo_actsNow_18 : decode b_Mo_actsNow 18 = .ok (.iaload, 1) := by decide +kernel
theorem d_Mo_actsNow_19 : decode b_Mo_actsNow 19 = .ok (.ifCond .le 25, 3) := by decide +kernel
theorem d_Mo_actsNow_22 : decode b_Mo_actsNow 22 = .ok (.aload_n 0, 1) := by decide +kernel
theorem d_Mo_actsNow_23 : decode b_Mo_actsNow 23 = .ok (.getfield 50, 3) := by decide +kernel
theorem d_Mo_actsNow_26 : decode b_Mo_actsNow 26 = .ok (.iconst 4, 1) := by decide +kernel
theorem d_Mo_actsNow_27 : decode b_Mo_actsNow 27 = .ok (.iload_n 2, 1) := by decide +kernel
theorem d_Mo_actsNow_28 : decode b_Mo_actsNow 28 = .ok (.imul, 1) := by decide +kernel
theorem d_Mo_actsNow_29 : decode b_Mo_actsNow 29 = .ok (.aload_n 0, 1) := by decide +kernel
theorem d_Mo_actsNow_30 : decode b_Mo_actsNow 30 = .ok (.getfield 47, 3) := by decide +kernel
theorem d_Mo_actsNow_33 : decode b_Mo_actsNow 33 = .ok (.iload_n 2, 1) := by decide +kernel
theorem d_Mo_actsNow_34 : decode b_Mo_actsNow 34 = .ok (.iaload, 1) := by decide +kernel
theorem d_Mo_actsNow_35 : decode b_Mo_actsNow 35 = .ok (.iadd, 1) := by decide +kernel
theorem d_Mo_actsNow_36 : decode b_Mo_actsNow 36 = .ok (.iaload, 1) := by decide +kernel
theorem d_Mo_actsNow_37 : decode b_Mo_actsNow 37 = .ok (.ifCond .le 7, 3) := by decide +kernel
theorem d_Mo_actsNow_40 : decode b_Mo_actsNow 40 = .ok (.iconst 1, 1) := by decide +kernel
theorem d_Mo_actsNow_41 : decode b_Mo_actsNow 41 = .ok (.goto 4, 3) := by decide +kernel
theorem d_Mo_actsNow_44 : decode b_Mo_actsNow 44 = .ok (.iconst 0, 1) := by decide +kernel
theorem d_Mo_actsNow_45 : decode b_Mo_actsNow 45 = .ok (.iadd, 1) := by decide +kernel
theorem d_Mo_actsNow_46 : decode b_Mo_actsNow 46 = .ok (.istore_n 1, 1) := by decide +kernel
theorem d_Mo_actsNow_47 : decode b_Mo_actsNow 47 = .ok (.iinc 2 1, 3) := by decide +kernel
theorem d_Mo_actsNow_50 : decode b_Mo_actsNow 50 = .ok (.goto (-46), 3) := by decide +kernel
theorem d_Mo_actsNow_53 : decode b_Mo_actsNow 53 = .ok (.iload_n 1, 1) := by decide +kernel
theorem d_Mo_actsNow_54 : decode b_Mo_actsNow 54 = .ok (.ireturn, 1) := by decide +kernel
theorem d_Mo_next_0 : decode b_Mo_next 0 = .ok (.aload_n 0, 1) := by decide +kernel
theorem d_Mo_next_1 : decode b_Mo_next 1 = .ok (.getfield 79, 3) := by decide +kernel
theorem d_Mo_next_4 : decode b_Mo_next 4 = .ok (.istore_n 1, 1) := by decide +kernel
theorem d_Mo_next_5 : decode b_Mo_next 5 = .ok (.iload_n 1, 1) := by decide +kernel
theorem d_Mo_next_6 : decode b_Mo_next 6 = .ok (.ifCond .le 33, 3) := by decide +kernel
theorem d_Mo_next_9 : decode b_Mo_next 9 = .ok (.aload_n 0, 1) := by decide +kernel
theorem d_Mo_next_10 : decode b_Mo_next 10 = .ok (.getfield 47, 3) := by decide +kernel
theorem d_Mo_next_13 : decode b_Mo_next 13 = .ok (.iload_n 1, 1) := by decide +kernel
theorem d_Mo_next_14 : decode b_Mo_next 14 = .ok (.iaload, 1) := by decide +kernel
theorem d_Mo_next_15 : decode b_Mo_next 15 = .ok (.iconst 1, 1) := by decide +kernel
theorem d_Mo_next_16 : decode b_Mo_next 16 = .ok (.iadd, 1) := by decide +kernel
theorem d_Mo_next_17 : decode b_Mo_next 17 = .ok (.aload_n 0, 1) := by decide +kernel
theorem d_Mo_next_18 : decode b_Mo_next 18 = .ok (.getfield 44, 3) := by decide +kernel
theorem d_Mo_next_21 : decode b_Mo_next 21 = .ok (.iload_n 1, 1) := by decide +kernel
theorem d_Mo_next_22 : decode b_Mo_next 22 = .ok (.iaload, 1) := by decide +kernel
theorem d_Mo_next_23 : decode b_Mo_next 23 = .ok (.if_icmp .lt 16, 3) := by decide +kernel
theorem d_Mo_next_26 : decode b_Mo_next 26 = .ok (.aload_n 0, 1) := by decide +kernel
theorem d_Mo_next_27 : decode b_Mo_next 27 = .ok (.getfield 47, 3) := by decide +kernel
theorem d_Mo_next_30 : decode b_Mo_next 30 = .ok (.iload_n 1, 1) := by decide +kernel
theorem d_Mo_next_31 : decode b_Mo_next 31 = .ok (.iconst 0, 1) := by decide +kernel
theorem d_Mo_next_32 : decode b_Mo_next 32 = .ok (.iastore, 1) := by decide +kernel
theorem d_Mo_next_33 : decode b_Mo_next 33 = .ok (.iinc 1 (-1), 3) := by decide +kernel
theorem d_Mo_next_36 : decode b_Mo_next 36 = .ok (.goto (-31), 3) := by decide +kernel
theorem d_Mo_next_39 : decode b_Mo_next 39 = .ok (.iload_n 1, 1) := by decide +kernel
theorem d_Mo_next_40 : decode b_Mo_next 40 = .ok (.ifCond .le 13, 3) := by decide +kernel
theorem d_Mo_next_43 : decode b_Mo_next 43 = .ok (.aload_n 0, 1) := by decide +kernel
theorem d_Mo_next_44 : decode b_Mo_next 44 = .ok (.getfield 47, 3) := by decide +kernel
theorem d_Mo_next_47 : decode b_Mo_next 47 = .ok (.iload_n 1, 1) := by decide +kernel
theorem d_Mo_next_48 : decode b_Mo_next 48 = .ok (.dup2, 1) := by decide +kernel
theorem d_Mo_next_49 : decode b_Mo_next 49 = .ok (.iaload, 1) := by decide +kernel
theorem d_Mo_next_50 : decode b_Mo_next 50 = .ok (.iconst 1, 1) := by decide +kernel
theorem d_Mo_next_51 : decode b_Mo_next 51 = .ok (.iadd, 1) := by decide +kernel
theorem d_Mo_next_52 : decode b_Mo_next 52 = .ok (.iastore, 1) := by decide +kernel
theorem d_Mo_next_53 : decode b_Mo_next 53 = .ok (.iload_n 1, 1) := by decide +kernel
theorem d_Mo_next_54 : decode b_Mo_next 54 = .ok (.ifCond .le 7, 3) := by decide +kernel
theorem d_Mo_next_57 : decode b_Mo_next 57 = .ok (.iconst 1, 1) := by decide +kernel
theorem d_Mo_next_58 : decode b_Mo_next 58 = .ok (.goto 4, 3) := by decide +kernel
theorem d_Mo_next_61 : decode b_Mo_next 61 = .ok (.iconst 0, 1) := by decide +kernel
theorem d_Mo_next_62 : decode b_Mo_next 62 = .ok (.ireturn, 1) := by decide +kernel
theorem d_Mo_solve_0 : decode b_Mo_solve 0 = .ok (.aload_n 0, 1) := by decide +kernel
theorem d_Mo_solve_1 : decode b_Mo_solve 1 = .ok (.iconst 0, 1) := by decide +kernel
theorem d_Mo_solve_2 : decode b_Mo_solve 2 = .ok (.putfield 72, 3) := by decide +kernel
theorem d_Mo_solve_5 : decode b_Mo_solve 5 = .ok (.iconst 1, 1) := by decide +kernel
theorem d_Mo_solve_6 : decode b_Mo_solve 6 = .ok (.istore_n 1, 1) := by decide +kernel
theorem d_Mo_solve_7 : decode b_Mo_solve 7 = .ok (.iload_n 1, 1) := by decide +kernel
theorem d_Mo_solve_8 : decode b_Mo_solve 8 = .ok (.aload_n 0, 1) := by decide +kernel
theorem d_Mo_solve_9 : decode b_Mo_solve 9 = .ok (.getfield 79, 3) := by decide +kernel
theorem d_Mo_solve_12 : decode b_Mo_solve 12 = .ok (.if_icmp .gt 16, 3) := by decide +kernel
theorem d_Mo_solve_15 : decode b_Mo_solve 15 = .ok (.aload_n 0, 1) := by decide +kernel
theorem d_Mo_solve_16 : decode b_Mo_solve 16 = .ok (.getfield 47, 3) := by decide +kernel
theorem d_Mo_solve_19 : decode b_Mo_solve 19 = .ok (.iload_n 1, 1) := by decide +kernel
theorem d_Mo_solve_20 : decode b_Mo_solve 20 = .ok (.iconst 0, 1) := by decide +kernel
theorem d_Mo_solve_21 : decode b_Mo_solve 21 = .ok (.iastore, 1) := by decide +kernel
theorem d_Mo_solve_22 : decode b_Mo_solve 22 = .ok (.iinc 1 1, 3) := by decide +kernel
theorem d_Mo_solve_25 : decode b_Mo_solve 25 = .ok (.goto (-18), 3) := by decide +kernel
theorem d_Mo_solve_28 : decode b_Mo_solve 28 = .ok (.lconst 0, 1) := by decide +kernel
theorem d_Mo_solve_29 : decode b_Mo_solve 29 = .ok (.lstore_n 1, 1) := by decide +kernel
theorem d_Mo_solve_30 : decode b_Mo_solve 30 = .ok (.iconst 0, 1) := by decide +kernel
theorem d_Mo_solve_31 : decode b_Mo_solve 31 = .ok (.istore_n 3, 1) := by decide +kernel
theorem d_Mo_solve_32 : decode b_Mo_solve 32 = .ok (.iconst 0, 1) := by decide +kernel
theorem d_Mo_solve_33 : decode b_Mo_solve 33 = .ok (.istore 4, 2) := by decide +kernel
theorem d_Mo_solve_35 : decode b_Mo_solve 35 = .ok (.iconst 1, 1) := by decide +kernel
theorem d_Mo_solve_36 : decode b_Mo_solve 36 = .ok (.istore 5, 2) := by decide +kernel
theorem d_Mo_solve_38 : decode b_Mo_solve 38 = .ok (.iload 5, 2) := by decide +kernel
theorem d_Mo_solve_40 : decode b_Mo_solve 40 = .ok (.ifCond .eq 94, 3) := by decide +kernel
theorem d_Mo_solve_43 : decode b_Mo_solve 43 = .ok (.aload_n 0, 1) := by decide +kernel
theorem d_Mo_solve_44 : decode b_Mo_solve 44 = .ok (.invokevirtual 129, 3) := by decide +kernel
theorem d_Mo_solve_47 : decode b_Mo_solve 47 = .ok (.aload_n 0, 1) := by decide +kernel
theorem d_Mo_solve_48 : decode b_Mo_solve 48 = .ok (.invokevirtual 132, 3) := by decide +kernel
theorem d_Mo_solve_51 : decode b_Mo_solve 51 = .ok (.lstore 6, 2) := by decide +kernel
theorem d_Mo_solve_53 : decode b_Mo_solve 53 = .ok (.aload_n 0, 1) := by decide +kernel
theorem d_Mo_solve_54 : decode b_Mo_solve 54 = .ok (.invokevirtual 136, 3) := by decide +kernel
theorem d_Mo_solve_57 : decode b_Mo_solve 57 = .ok (.istore 8, 2) := by decide +kernel
theorem d_Mo_solve_59 : decode b_Mo_solve 59 = .ok (.iload 4, 2) := by decide +kernel
theorem d_Mo_solve_61 : decode b_Mo_solve 61 = .ok (.ifCond .eq 23, 3) := by decide +kernel
theorem d_Mo_solve_64 : decode b_Mo_solve 64 = .ok (.lload 6, 2) := by decide +kernel
theorem d_Mo_solve_66 : decode b_Mo_solve 66 = .ok (.lload_n 1, 1) := by decide +kernel
theorem d_Mo_solve_67 : decode b_Mo_solve 67 = .ok (.lcmp, 1) := by decide +kernel
theorem d_Mo_solve_68 : decode b_Mo_solve 68 = .ok (.ifCond .lt 16, 3) := by decide +kernel
theorem d_Mo_solve_71 : decode b_Mo_solve 71 = .ok (.lload 6, 2) := by decide +kernel
theorem d_Mo_solve_73 : decode b_Mo_solve 73 = .ok (.lload_n 1, 1) := by decide +kernel
theorem d_Mo_solve_74 : decode b_Mo_solve 74 = .ok (.lcmp, 1) := by decide +kernel
theorem d_Mo_solve_75 : decode b_Mo_solve 75 = .ok (.ifCond .ne 50, 3) := by decide +kernel
theorem d_Mo_solve_78 : decode b_Mo_solve 78 = .ok (.iload 8, 2) := by decide +kernel
theorem d_Mo_solve_80 : decode b_Mo_solve 80 = .ok (.iload_n 3, 1) := by decide +kernel
theorem d_Mo_solve_81 : decode b_Mo_solve 81 = .ok (.if_icmp .ge 44, 3) := by decide +kernel
theorem d_Mo_solve_84 : decode b_Mo_solve 84 = .ok (.iconst 1, 1) := by decide +kernel
theorem d_Mo_solve_85 : decode b_Mo_solve 85 = .ok (.istore 4, 2) := by decide +kernel
theorem d_Mo_solve_87 : decode b_Mo_solve 87 = .ok (.lload 6, 2) := by decide +kernel
theorem d_Mo_solve_89 : decode b_Mo_solve 89 = .ok (.lstore_n 1, 1) := by decide +kernel
theorem d_Mo_solve_90 : decode b_Mo_solve 90 = .ok (.iload 8, 2) := by decide +kernel
theorem d_Mo_solve_92 : decode b_Mo_solve 92 = .ok (.istore_n 3, 1) := by decide +kernel
theorem d_Mo_solve_93 : decode b_Mo_solve 93 = .ok (.iconst 1, 1) := by decide +kernel
theorem d_Mo_solve_94 : decode b_Mo_solve 94 = .ok (.istore 9, 2) := by decide +kernel
theorem d_Mo_solve_96 : decode b_Mo_solve 96 = .ok (.iload 9, 2) := by decide +kernel
theorem d_Mo_solve_98 : decode b_Mo_solve 98 = .ok (.aload_n 0, 1) := by decide +kernel
theorem d_Mo_solve_99 : decode b_Mo_solve 99 = .ok (.getfield 79, 3) := by decide +kernel
theorem d_Mo_solve_102 : decode b_Mo_solve 102 = .ok (.if_icmp .gt 23, 3) := by decide +kernel
theorem d_Mo_solve_105 : decode b_Mo_solve 105 = .ok (.aload_n 0, 1) := by decide +kernel
theorem d_Mo_solve_106 : decode b_Mo_solve 106 = .ok (.getfield 66, 3) := by decide +kernel
theorem d_Mo_solve_109 : decode b_Mo_solve 109 = .ok (.iload 9, 2) := by decide +kernel
theorem d_Mo_solve_111 : decode b_Mo_solve 111 = .ok (.aload_n 0, 1) := by decide +kernel
theorem d_Mo_solve_112 : decode b_Mo_solve 112 = .ok (.getfield 47, 3) := by decide +kernel
theorem d_Mo_solve_115 : decode b_Mo_solve 115 = .ok (.iload 9, 2) := by decide +kernel
theorem d_Mo_solve_117 : decode b_Mo_solve 117 = .ok (.iaload, 1) := by decide +kernel
theorem d_Mo_solve_118 : decode b_Mo_solve 118 = .ok (.iastore, 1) := by decide +kernel
theorem d_Mo_solve_119 : decode b_Mo_solve 119 = .ok (.iinc 9 1, 3) := by decide +kernel
theorem d_Mo_solve_122 : decode b_Mo_solve 122 = .ok (.goto (-26), 3) := by decide +kernel
theorem d_Mo_solve_125 : decode b_Mo_solve 125 = .ok (.aload_n 0, 1) := by decide +kernel
theorem d_Mo_solve_126 : decode b_Mo_solve 126 = .ok (.invokevirtual 140, 3) := by decide +kernel
theorem d_Mo_solve_129 : decode b_Mo_solve 129 = .ok (.istore 5, 2) := by decide +kernel
theorem d_Mo_solve_131 : decode b_Mo_solve 131 = .ok (.goto (-93), 3) := by decide +kernel
theorem d_Mo_solve_134 : decode b_Mo_solve 134 = .ok (.iconst 1, 1) := by decide +kernel
theorem d_Mo_solve_135 : decode b_Mo_solve 135 = .ok (.istore 6, 2) := by decide +kernel
theorem d_Mo_solve_137 : decode b_Mo_solve 137 = .ok (.iload 6, 2) := by decide +kernel
theorem d_Mo_solve_139 : decode b_Mo_solve 139 = .ok (.aload_n 0, 1) := by decide +kernel
theorem d_Mo_solve_140 : decode b_Mo_solve 140 = .ok (.getfield 79, 3) := by decide +kernel
theorem d_Mo_solve_143 : decode b_Mo_solve 143 = .ok (.if_icmp .gt 23, 3) := by decide +kernel
theorem d_Mo_solve_146 : decode b_Mo_solve 146 = .ok (.aload_n 0, 1) := by decide +kernel
theorem d_Mo_solve_147 : decode b_Mo_solve 147 = .ok (.getfield 47, 3) := by decide +kernel
theorem d_Mo_solve_150 : decode b_Mo_solve 150 = .ok (.iload 6, 2) := by decide +kernel
theorem d_Mo_solve_152 : decode b_Mo_solve 152 = .ok (.aload_n 0, 1) := by decide +kernel
theorem d_Mo_solve_153 : decode b_Mo_solve 153 = .ok (.getfield 66, 3) := by decide +kernel
theorem d_Mo_solve_156 : decode b_Mo_solve 156 = .ok (.iload 6, 2) := by decide +kernel
theorem d_Mo_solve_158 : decode b_Mo_solve 158 = .ok (.iaload, 1) := by decide +kernel
theorem d_Mo_solve_159 : decode b_Mo_solve 159 = .ok (.iastore, 1) := by decide +kernel
theorem d_Mo_solve_160 : decode b_Mo_solve 160 = .ok (.iinc 6 1, 3) := by decide +kernel
theorem d_Mo_solve_163 : decode b_Mo_solve 163 = .ok (.goto (-26), 3) := by decide +kernel
theorem d_Mo_solve_166 : decode b_Mo_solve 166 = .ok (.lload_n 1, 1) := by decide +kernel
theorem d_Mo_solve_167 : decode b_Mo_solve 167 = .ok (.lreturn, 1) := by decide +kernel
theorem d_Mo_chosen_0 : decode b_Mo_chosen 0 = .ok (.aload_n 0, 1) := by decide +kernel
theorem d_Mo_chosen_1 : decode b_Mo_chosen 1 = .ok (.iconst 0, 1) := by decide +kernel
theorem d_Mo_chosen_2 : decode b_Mo_chosen 2 = .ok (.putfield 72, 3) := by decide +kernel
theorem d_Mo_chosen_5 : decode b_Mo_chosen 5 = .ok (.aload_n 0, 1) := by decide +kernel
theorem d_Mo_chosen_6 : decode b_Mo_chosen 6 = .ok (.iload_n 1, 1) := by decide +kernel
theorem d_Mo_chosen_7 : decode b_Mo_chosen 7 = .ok (.invokevirtual 98, 3) := by decide +kernel
theorem d_Mo_chosen_10 : decode b_Mo_chosen 10 = .ok (.ifCond .ne 8, 3) := by decide +kernel
theorem d_Mo_chosen_13 : decode b_Mo_chosen 13 = .ok (.bipush (-11), 2) := by decide +kernel
theorem d_Mo_chosen_15 : decode b_Mo_chosen 15 = .ok (.goto 22, 3) := by decide +kernel
theorem d_Mo_chosen_18 : decode b_Mo_chosen 18 = .ok (.aload_n 0, 1) := by decide +kernel
theorem d_Mo_chosen_19 : decode b_Mo_chosen 19 = .ok (.getfield 44, 3) := by decide +kernel
theorem d_Mo_chosen_22 : decode b_Mo_chosen 22 = .ok (.iload_n 1, 1) := by decide +kernel
theorem d_Mo_chosen_23 : decode b_Mo_chosen 23 = .ok (.iaload, 1) := by decide +kernel
theorem d_Mo_chosen_24 : decode b_Mo_chosen 24 = .ok (.ifCond .ne 7, 3) := by decide +kernel
theorem d_Mo_chosen_27 : decode b_Mo_chosen 27 = .ok (.iconst (-1), 1) := by decide +kernel
theorem d_Mo_chosen_28 : decode b_Mo_chosen 28 = .ok (.goto 9, 3) := by decide +kernel
theorem d_Mo_chosen_31 : decode b_Mo_chosen 31 = .ok (.aload_n 0, 1) := by decide +kernel
theorem d_Mo_chosen_32 : decode b_Mo_chosen 32 = .ok (.getfield 47, 3) := by decide +kernel
theorem d_Mo_chosen_35 : decode b_Mo_chosen 35 = .ok (.iload_n 1, 1) := by decide +kernel
theorem d_Mo_chosen_36 : decode b_Mo_chosen 36 = .ok (.iaload, 1) := by decide +kernel
theorem d_Mo_chosen_37 : decode b_Mo_chosen 37 = .ok (.ireturn, 1) := by decide +kernel
theorem d_Mo_arrival_0 : decode b_Mo_arrival 0 = .ok (.aload_n 0, 1) := by decide +kernel
theorem d_Mo_arrival_1 : decode b_Mo_arrival 1 = .ok (.iconst 0, 1) := by decide +kernel
theorem d_Mo_arrival_2 : decode b_Mo_arrival 2 = .ok (.putfield 72, 3) := by decide +kernel
theorem d_Mo_arrival_5 : decode b_Mo_arrival 5 = .ok (.aload_n 0, 1) := by decide +kernel
theorem d_Mo_arrival_6 : decode b_Mo_arrival 6 = .ok (.iload_n 1, 1) := by decide +kernel
theorem d_Mo_arrival_7 : decode b_Mo_arrival 7 = .ok (.invokevirtual 98, 3) := by decide +kernel
theorem d_Mo_arrival_10 : decode b_Mo_arrival 10 = .ok (.ifCond .ne 7, 3) := by decide +kernel
theorem d_Mo_arrival_13 : decode b_Mo_arrival 13 = .ok (.ldc2_w 144, 3) := by decide +kernel
theorem d_Mo_arrival_16 : decode b_Mo_arrival 16 = .ok (.lreturn, 1) := by decide +kernel
theorem d_Mo_arrival_17 : decode b_Mo_arrival 17 = .ok (.aload_n 0, 1) := by decide +kernel
theorem d_Mo_arrival_18 : decode b_Mo_arrival 18 = .ok (.invokevirtual 129, 3) := by decide +kernel
theorem d_Mo_arrival_21 : decode b_Mo_arrival 21 = .ok (.aload_n 0, 1) := by decide +kernel
theorem d_Mo_arrival_22 : decode b_Mo_arrival 22 = .ok (.getfield 59, 3) := by decide +kernel
theorem d_Mo_arrival_25 : decode b_Mo_arrival 25 = .ok (.iload_n 1, 1) := by decide +kernel
theorem d_Mo_arrival_26 : decode b_Mo_arrival 26 = .ok (.laload, 1) := by decide +kernel
theorem d_Mo_arrival_27 : decode b_Mo_arrival 27 = .ok (.lreturn, 1) := by decide +kernel
theorem d_Mo_departs_0 : decode b_Mo_departs 0 = .ok (.aload_n 0, 1) := by decide +kernel
theorem d_Mo_departs_1 : decode b_Mo_departs 1 = .ok (.iconst 0, 1) := by decide +kernel
theorem d_Mo_departs_2 : decode b_Mo_departs 2 = .ok (.putfield 72, 3) := by decide +kernel
theorem d_Mo_departs_5 : decode b_Mo_departs 5 = .ok (.aload_n 0, 1) := by decide +kernel
theorem d_Mo_departs_6 : decode b_Mo_departs 6 = .ok (.iload_n 1, 1) := by decide +kernel
theorem d_Mo_departs_7 : decode b_Mo_departs 7 = .ok (.invokevirtual 90, 3) := by decide +kernel
theorem d_Mo_departs_10 : decode b_Mo_departs 10 = .ok (.ifCond .ne 7, 3) := by decide +kernel
theorem d_Mo_departs_13 : decode b_Mo_departs 13 = .ok (.ldc2_w 144, 3) := by decide +kernel
theorem d_Mo_departs_16 : decode b_Mo_departs 16 = .ok (.lreturn, 1) := by decide +kernel
theorem d_Mo_departs_17 : decode b_Mo_departs 17 = .ok (.aload_n 0, 1) := by decide +kernel
theorem d_Mo_departs_18 : decode b_Mo_departs 18 = .ok (.invokevirtual 129, 3) := by decide +kernel
theorem d_Mo_departs_21 : decode b_Mo_departs 21 = .ok (.aload_n 0, 1) := by decide +kernel
theorem d_Mo_departs_22 : decode b_Mo_departs 22 = .ok (.getfield 29, 3) := by decide +kernel
theorem d_Mo_departs_25 : decode b_Mo_departs 25 = .ok (.iload_n 1, 1) := by decide +kernel
theorem d_Mo_departs_26 : decode b_Mo_departs 26 = .ok (.laload, 1) := by decide +kernel
theorem d_Mo_departs_27 : decode b_Mo_departs 27 = .ok (.lreturn, 1) := by decide +kernel
theorem d_Mo_none_0 : decode b_Mo_none 0 = .ok (.aload_n 0, 1) := by decide +kernel
theorem d_Mo_none_1 : decode b_Mo_none 1 = .ok (.iconst 0, 1) := by decide +kernel
theorem d_Mo_none_2 : decode b_Mo_none 2 = .ok (.putfield 72, 3) := by decide +kernel
theorem d_Mo_none_5 : decode b_Mo_none 5 = .ok (.aload_n 0, 1) := by decide +kernel
theorem d_Mo_none_6 : decode b_Mo_none 6 = .ok (.invokevirtual 129, 3) := by decide +kernel
theorem d_Mo_none_9 : decode b_Mo_none 9 = .ok (.iconst 0, 1) := by decide +kernel
theorem d_Mo_none_10 : decode b_Mo_none 10 = .ok (.istore_n 2, 1) := by decide +kernel
theorem d_Mo_none_11 : decode b_Mo_none 11 = .ok (.iconst 1, 1) := by decide +kernel
theorem d_Mo_none_12 : decode b_Mo_none 12 = .ok (.istore_n 3, 1) := by decide +kernel
theorem d_Mo_none_13 : decode b_Mo_none 13 = .ok (.iload_n 3, 1) := by decide +kernel
theorem d_Mo_none_14 : decode b_Mo_none 14 = .ok (.aload_n 0, 1) := by decide +kernel
theorem d_Mo_none_15 : decode b_Mo_none 15 = .ok (.getfield 79, 3) := by decide +kernel
theorem d_Mo_none_18 : decode b_Mo_none 18 = .ok (.if_icmp .gt 28, 3) := by decide +kernel
theorem d_Mo_none_21 : decode b_Mo_none 21 = .ok (.aload_n 0, 1) := by decide +kernel
theorem d_Mo_none_22 : decode b_Mo_none 22 = .ok (.getfield 62, 3) := by decide +kernel
theorem d_Mo_none_25 : decode b_Mo_none 25 = .ok (.iload_n 3, 1) := by decide +kernel
theorem d_Mo_none_26 : decode b_Mo_none 26 = .ok (.baload, 1) := by decide +kernel
theorem d_Mo_none_27 : decode b_Mo_none 27 = .ok (.ifCond .eq 13, 3) := by decide +kernel
theorem d_Mo_none_30 : decode b_Mo_none 30 = .ok (.iload_n 2, 1) := by decide +kernel
theorem d_Mo_none_31 : decode b_Mo_none 31 = .ok (.iload_n 1, 1) := by decide +kernel
theorem d_Mo_none_32 : decode b_Mo_none 32 = .ok (.if_icmp .ne 5, 3) := by decide +kernel
theorem d_Mo_none_35 : decode b_Mo_none 35 = .ok (.iload_n 3, 1) := by decide +kernel
theorem d_Mo_none_36 : decode b_Mo_none 36 = .ok (.ireturn, 1) := by decide +kernel
theorem d_Mo_none_37 : decode b_Mo_none 37 = .ok (.iinc 2 1, 3) := by decide +kernel
theorem d_Mo_none_40 : decode b_Mo_none 40 = .ok (.iinc 3 1, 3) := by decide +kernel
theorem d_Mo_none_43 : decode b_Mo_none 43 = .ok (.goto (-30), 3) := by decide +kernel
theorem d_Mo_none_46 : decode b_Mo_none 46 = .ok (.iconst (-1), 1) := by decide +kernel
theorem d_Mo_none_47 : decode b_Mo_none 47 = .ok (.ireturn, 1) := by decide +kernel
theorem d_Mo_acts_0 : decode b_Mo_acts 0 = .ok (.aload_n 0, 1) := by decide +kernel
theorem d_Mo_acts_1 : decode b_Mo_acts 1 = .ok (.iconst 0, 1) := by decide +kernel
theorem d_Mo_acts_2 : decode b_Mo_acts 2 = .ok (.putfield 72, 3) := by decide +kernel
theorem d_Mo_acts_5 : decode b_Mo_acts 5 = .ok (.aload_n 0, 1) := by decide +kernel
theorem d_Mo_acts_6 : decode b_Mo_acts 6 = .ok (.invokevirtual 136, 3) := by decide +kernel
theorem d_Mo_acts_9 : decode b_Mo_acts 9 = .ok (.ireturn, 1) := by decide +kernel

set_option maxRecDepth 100000 in
theorem dX8_init_0 : decode cX8_init 0 = .ok (.aload_n 0, 1) := by decide +kernel
set_option maxRecDepth 100000 in
theorem dX8_init_1 : decode cX8_init 1 = .ok (.invokespecial 3, 3) := by decide +kernel
set_option maxRecDepth 100000 in
theorem dX8_init_4 : decode cX8_init 4 = .ok (.aload_n 0, 1) := by decide +kernel
set_option maxRecDepth 100000 in
theorem dX8_init_5 : decode cX8_init 5 = .ok (.bipush 7, 2) := by decide +kernel
set_option maxRecDepth 100000 in
theorem dX8_init_7 : decode cX8_init 7 = .ok (.newarray .int, 2) := by decide +kernel
set_option maxRecDepth 100000 in
theorem dX8_init_9 : decode cX8_init 9 = .ok (.putfield 11, 3) := by decide +kernel
set_option maxRecDepth 100000 in
theorem dX8_init_12 : decode cX8_init 12 = .ok (.aload_n 0, 1) := by decide +kernel
set_option maxRecDepth 100000 in
theorem dX8_init_13 : decode cX8_init 13 = .ok (.sipush 448, 3) := by decide +kernel
set_option maxRecDepth 100000 in
theorem dX8_init_16 : decode cX8_init 16 = .ok (.newarray .int, 2) := by decide +kernel
set_option maxRecDepth 100000 in
theorem dX8_init_18 : decode cX8_init 18 = .ok (.putfield 15, 3) := by decide +kernel
set_option maxRecDepth 100000 in
theorem dX8_init_21 : decode cX8_init 21 = .ok (.return_, 1) := by decide +kernel
set_option maxRecDepth 100000 in
theorem dX8_plan_0 : decode cX8_plan 0 = .ok (.aload_n 0, 1) := by decide +kernel
set_option maxRecDepth 100000 in
theorem dX8_plan_1 : decode cX8_plan 1 = .ok (.iconst 0, 1) := by decide +kernel
set_option maxRecDepth 100000 in
theorem dX8_plan_2 : decode cX8_plan 2 = .ok (.putfield 18, 3) := by decide +kernel
set_option maxRecDepth 100000 in
theorem dX8_plan_5 : decode cX8_plan 5 = .ok (.iconst 0, 1) := by decide +kernel
set_option maxRecDepth 100000 in
theorem dX8_plan_6 : decode cX8_plan 6 = .ok (.istore 4, 2) := by decide +kernel
set_option maxRecDepth 100000 in
theorem dX8_plan_8 : decode cX8_plan 8 = .ok (.iload 4, 2) := by decide +kernel
set_option maxRecDepth 100000 in
theorem dX8_plan_10 : decode cX8_plan 10 = .ok (.aload_n 1, 1) := by decide +kernel
set_option maxRecDepth 100000 in
theorem dX8_plan_11 : decode cX8_plan 11 = .ok (.getfield 22, 3) := by decide +kernel
set_option maxRecDepth 100000 in
theorem dX8_plan_14 : decode cX8_plan 14 = .ok (.if_icmp .ge 48, 3) := by decide +kernel
set_option maxRecDepth 100000 in
theorem dX8_plan_17 : decode cX8_plan 17 = .ok (.aload_n 2, 1) := by decide +kernel
set_option maxRecDepth 100000 in
theorem dX8_plan_18 : decode cX8_plan 18 = .ok (.iload 4, 2) := by decide +kernel
set_option maxRecDepth 100000 in
theorem dX8_plan_20 : decode cX8_plan 20 = .ok (.invokevirtual 27, 3) := by decide +kernel
set_option maxRecDepth 100000 in
theorem dX8_plan_23 : decode cX8_plan 23 = .ok (.ifCond .eq 33, 3) := by decide +kernel
set_option maxRecDepth 100000 in
theorem dX8_plan_26 : decode cX8_plan 26 = .ok (.aload_n 0, 1) := by decide +kernel
set_option maxRecDepth 100000 in
theorem dX8_plan_27 : decode cX8_plan 27 = .ok (.getfield 18, 3) := by decide +kernel
set_option maxRecDepth 100000 in
theorem dX8_plan_30 : decode cX8_plan 30 = .ok (.bipush 6, 2) := by decide +kernel
set_option maxRecDepth 100000 in
theorem dX8_plan_32 : decode cX8_plan 32 = .ok (.if_icmp .ge 24, 3) := by decide +kernel
set_option maxRecDepth 100000 in
theorem dX8_plan_35 : decode cX8_plan 35 = .ok (.aload_n 0, 1) := by decide +kernel
set_option maxRecDepth 100000 in
theorem dX8_plan_36 : decode cX8_plan 36 = .ok (.getfield 11, 3) := by decide +kernel
set_option maxRecDepth 100000 in
theorem dX8_plan_39 : decode cX8_plan 39 = .ok (.aload_n 0, 1) := by decide +kernel
set_option maxRecDepth 100000 in
theorem dX8_plan_40 : decode cX8_plan 40 = .ok (.getfield 18, 3) := by decide +kernel
set_option maxRecDepth 100000 in
theorem dX8_plan_43 : decode cX8_plan 43 = .ok (.iload 4, 2) := by decide +kernel
set_option maxRecDepth 100000 in
theorem dX8_plan_45 : decode cX8_plan 45 = .ok (.iastore, 1) := by decide +kernel
set_option maxRecDepth 100000 in
theorem dX8_plan_46 : decode cX8_plan 46 = .ok (.aload_n 0, 1) := by decide +kernel
set_option maxRecDepth 100000 in
theorem dX8_plan_47 : decode cX8_plan 47 = .ok (.dup, 1) := by decide +kernel
set_option maxRecDepth 100000 in
theorem dX8_plan_48 : decode cX8_plan 48 = .ok (.getfield 18, 3) := by decide +kernel
set_option maxRecDepth 100000 in
theorem dX8_plan_51 : decode cX8_plan 51 = .ok (.iconst 1, 1) := by decide +kernel
set_option maxRecDepth 100000 in
theorem dX8_plan_52 : decode cX8_plan 52 = .ok (.iadd, 1) := by decide +kernel
set_option maxRecDepth 100000 in
theorem dX8_plan_53 : decode cX8_plan 53 = .ok (.putfield 18, 3) := by decide +kernel
set_option maxRecDepth 100000 in
theorem dX8_plan_56 : decode cX8_plan 56 = .ok (.iinc 4 1, 3) := by decide +kernel
set_option maxRecDepth 100000 in
theorem dX8_plan_59 : decode cX8_plan 59 = .ok (.goto (-51), 3) := by decide +kernel
set_option maxRecDepth 100000 in
theorem dX8_plan_62 : decode cX8_plan 62 = .ok (.aload_n 0, 1) := by decide +kernel
set_option maxRecDepth 100000 in
theorem dX8_plan_63 : decode cX8_plan 63 = .ok (.getfield 11, 3) := by decide +kernel
set_option maxRecDepth 100000 in
theorem dX8_plan_66 : decode cX8_plan 66 = .ok (.aload_n 0, 1) := by decide +kernel
set_option maxRecDepth 100000 in
theorem dX8_plan_67 : decode cX8_plan 67 = .ok (.getfield 18, 3) := by decide +kernel
set_option maxRecDepth 100000 in
theorem dX8_plan_70 : decode cX8_plan 70 = .ok (.aload_n 2, 1) := by decide +kernel
set_option maxRecDepth 100000 in
theorem dX8_plan_71 : decode cX8_plan 71 = .ok (.getfield 33, 3) := by decide +kernel
set_option maxRecDepth 100000 in
theorem dX8_plan_74 : decode cX8_plan 74 = .ok (.iastore, 1) := by decide +kernel
set_option maxRecDepth 100000 in
theorem dX8_plan_75 : decode cX8_plan 75 = .ok (.iconst 0, 1) := by decide +kernel
set_option maxRecDepth 100000 in
theorem dX8_plan_76 : decode cX8_plan 76 = .ok (.istore 4, 2) := by decide +kernel
set_option maxRecDepth 100000 in
theorem dX8_plan_78 : decode cX8_plan 78 = .ok (.iload 4, 2) := by decide +kernel
set_option maxRecDepth 100000 in
theorem dX8_plan_80 : decode cX8_plan 80 = .ok (.aload_n 0, 1) := by decide +kernel
set_option maxRecDepth 100000 in
theorem dX8_plan_81 : decode cX8_plan 81 = .ok (.getfield 18, 3) := by decide +kernel
set_option maxRecDepth 100000 in
theorem dX8_plan_84 : decode cX8_plan 84 = .ok (.if_icmp .gt 28, 3) := by decide +kernel
set_option maxRecDepth 100000 in
theorem dX8_plan_87 : decode cX8_plan 87 = .ok (.aload_n 0, 1) := by decide +kernel
set_option maxRecDepth 100000 in
theorem dX8_plan_88 : decode cX8_plan 88 = .ok (.getfield 15, 3) := by decide +kernel
set_option maxRecDepth 100000 in
theorem dX8_plan_91 : decode cX8_plan 91 = .ok (.iload 4, 2) := by decide +kernel
set_option maxRecDepth 100000 in
theorem dX8_plan_93 : decode cX8_plan 93 = .ok (.aload_n 1, 1) := by decide +kernel
set_option maxRecDepth 100000 in
theorem dX8_plan_94 : decode cX8_plan 94 = .ok (.aload_n 0, 1) := by decide +kernel
set_option maxRecDepth 100000 in
theorem dX8_plan_95 : decode cX8_plan 95 = .ok (.getfield 11, 3) := by decide +kernel
set_option maxRecDepth 100000 in
theorem dX8_plan_98 : decode cX8_plan 98 = .ok (.iload 4, 2) := by decide +kernel
set_option maxRecDepth 100000 in
theorem dX8_plan_100 : decode cX8_plan 100 = .ok (.iaload, 1) := by decide +kernel
set_option maxRecDepth 100000 in
theorem dX8_plan_101 : decode cX8_plan 101 = .ok (.iload_n 3, 1) := by decide +kernel
set_option maxRecDepth 100000 in
theorem dX8_plan_102 : decode cX8_plan 102 = .ok (.invokevirtual 36, 3) := by decide +kernel
set_option maxRecDepth 100000 in
theorem dX8_plan_105 : decode cX8_plan 105 = .ok (.iastore, 1) := by decide +kernel
set_option maxRecDepth 100000 in
theorem dX8_plan_106 : decode cX8_plan 106 = .ok (.iinc 4 1, 3) := by decide +kernel
set_option maxRecDepth 100000 in
theorem dX8_plan_109 : decode cX8_plan 109 = .ok (.goto (-31), 3) := by decide +kernel
set_option maxRecDepth 100000 in
theorem dX8_plan_112 : decode cX8_plan 112 = .ok (.iconst 1, 1) := by decide +kernel
set_option maxRecDepth 100000 in
theorem dX8_plan_113 : decode cX8_plan 113 = .ok (.istore 4, 2) := by decide +kernel
set_option maxRecDepth 100000 in
theorem dX8_plan_115 : decode cX8_plan 115 = .ok (.iload 4, 2) := by decide +kernel
set_option maxRecDepth 100000 in
theorem dX8_plan_117 : decode cX8_plan 117 = .ok (.iconst 1, 1) := by decide +kernel
set_option maxRecDepth 100000 in
theorem dX8_plan_118 : decode cX8_plan 118 = .ok (.aload_n 0, 1) := by decide +kernel
set_option maxRecDepth 100000 in
theorem dX8_plan_119 : decode cX8_plan 119 = .ok (.getfield 18, 3) := by decide +kernel
set_option maxRecDepth 100000 in
theorem dX8_plan_122 : decode cX8_plan 122 = .ok (.ishl, 1) := by decide +kernel
set_option maxRecDepth 100000 in
theorem dX8_plan_123 : decode cX8_plan 123 = .ok (.if_icmp .ge 49, 3) := by decide +kernel
set_option maxRecDepth 100000 in
theorem dX8_plan_126 : decode cX8_plan 126 = .ok (.iconst 0, 1) := by decide +kernel
set_option maxRecDepth 100000 in
theorem dX8_plan_127 : decode cX8_plan 127 = .ok (.istore 5, 2) := by decide +kernel
set_option maxRecDepth 100000 in
theorem dX8_plan_129 : decode cX8_plan 129 = .ok (.iload 5, 2) := by decide +kernel
set_option maxRecDepth 100000 in
theorem dX8_plan_131 : decode cX8_plan 131 = .ok (.aload_n 0, 1) := by decide +kernel
set_option maxRecDepth 100000 in
theorem dX8_plan_132 : decode cX8_plan 132 = .ok (.getfield 18, 3) := by decide +kernel
set_option maxRecDepth 100000 in
theorem dX8_plan_135 : decode cX8_plan 135 = .ok (.if_icmp .gt 31, 3) := by decide +kernel
set_option maxRecDepth 100000 in
theorem dX8_plan_138 : decode cX8_plan 138 = .ok (.aload_n 0, 1) := by decide +kernel
set_option maxRecDepth 100000 in
theorem dX8_plan_139 : decode cX8_plan 139 = .ok (.getfield 15, 3) := by decide +kernel
set_option maxRecDepth 100000 in
theorem dX8_plan_142 : decode cX8_plan 142 = .ok (.iload 4, 2) := by decide +kernel
set_option maxRecDepth 100000 in
theorem dX8_plan_144 : decode cX8_plan 144 = .ok (.bipush 7, 2) := by decide +kernel
set_option maxRecDepth 100000 in
theorem dX8_plan_146 : decode cX8_plan 146 = .ok (.imul, 1) := by decide +kernel
set_option maxRecDepth 100000 in
theorem dX8_plan_147 : decode cX8_plan 147 = .ok (.iload 5, 2) := by decide +kernel
set_option maxRecDepth 100000 in
theorem dX8_plan_149 : decode cX8_plan 149 = .ok (.iadd, 1) := by decide +kernel
set_option maxRecDepth 100000 in
theorem dX8_plan_150 : decode cX8_plan 150 = .ok (.aload_n 0, 1) := by decide +kernel
set_option maxRecDepth 100000 in
theorem dX8_plan_151 : decode cX8_plan 151 = .ok (.aload_n 1, 1) := by decide +kernel
set_option maxRecDepth 100000 in
theorem dX8_plan_152 : decode cX8_plan 152 = .ok (.iload 4, 2) := by decide +kernel
set_option maxRecDepth 100000 in
theorem dX8_plan_154 : decode cX8_plan 154 = .ok (.iload 5, 2) := by decide +kernel
set_option maxRecDepth 100000 in
theorem dX8_plan_156 : decode cX8_plan 156 = .ok (.invokevirtual 40, 3) := by decide +kernel
set_option maxRecDepth 100000 in
theorem dX8_plan_159 : decode cX8_plan 159 = .ok (.iastore, 1) := by decide +kernel
set_option maxRecDepth 100000 in
theorem dX8_plan_160 : decode cX8_plan 160 = .ok (.iinc 5 1, 3) := by decide +kernel
set_option maxRecDepth 100000 in
theorem dX8_plan_163 : decode cX8_plan 163 = .ok (.goto (-34), 3) := by decide +kernel
set_option maxRecDepth 100000 in
theorem dX8_plan_166 : decode cX8_plan 166 = .ok (.iinc 4 1, 3) := by decide +kernel
set_option maxRecDepth 100000 in
theorem dX8_plan_169 : decode cX8_plan 169 = .ok (.goto (-54), 3) := by decide +kernel
set_option maxRecDepth 100000 in
theorem dX8_plan_172 : decode cX8_plan 172 = .ok (.return_, 1) := by decide +kernel
set_option maxRecDepth 100000 in
theorem dX8_fewestBy_0 : decode cX8_fewestBy 0 = .ok (.ldc 44, 2) := by decide +kernel
set_option maxRecDepth 100000 in
theorem dX8_fewestBy_2 : decode cX8_fewestBy 2 = .ok (.istore 4, 2) := by decide +kernel
set_option maxRecDepth 100000 in
theorem dX8_fewestBy_4 : decode cX8_fewestBy 4 = .ok (.iconst 0, 1) := by decide +kernel
set_option maxRecDepth 100000 in
theorem dX8_fewestBy_5 : decode cX8_fewestBy 5 = .ok (.istore 5, 2) := by decide +kernel
set_option maxRecDepth 100000 in
theorem dX8_fewestBy_7 : decode cX8_fewestBy 7 = .ok (.iload 5, 2) := by decide +kernel
set_option maxRecDepth 100000 in
theorem dX8_fewestBy_9 : decode cX8_fewestBy 9 = .ok (.aload_n 0, 1) := by decide +kernel
set_option maxRecDepth 100000 in
theorem dX8_fewestBy_10 : decode cX8_fewestBy 10 = .ok (.getfield 18, 3) := by decide +kernel
set_option maxRecDepth 100000 in
theorem dX8_fewestBy_13 : decode cX8_fewestBy 13 = .ok (.if_icmp .ge 35, 3) := by decide +kernel
set_option maxRecDepth 100000 in
theorem dX8_fewestBy_16 : decode cX8_fewestBy 16 = .ok (.iload_n 2, 1) := by decide +kernel
set_option maxRecDepth 100000 in
theorem dX8_fewestBy_17 : decode cX8_fewestBy 17 = .ok (.iload 5, 2) := by decide +kernel
set_option maxRecDepth 100000 in
theorem dX8_fewestBy_19 : decode cX8_fewestBy 19 = .ok (.ishr, 1) := by decide +kernel
set_option maxRecDepth 100000 in
theorem dX8_fewestBy_20 : decode cX8_fewestBy 20 = .ok (.iconst 1, 1) := by decide +kernel
set_option maxRecDepth 100000 in
theorem dX8_fewestBy_21 : decode cX8_fewestBy 21 = .ok (.iand, 1) := by decide +kernel
set_option maxRecDepth 100000 in
theorem dX8_fewestBy_22 : decode cX8_fewestBy 22 = .ok (.iconst 1, 1) := by decide +kernel
set_option maxRecDepth 100000 in
theorem dX8_fewestBy_23 : decode cX8_fewestBy 23 = .ok (.if_icmp .ne 19, 3) := by decide +kernel
set_option maxRecDepth 100000 in
theorem dX8_fewestBy_26 : decode cX8_fewestBy 26 = .ok (.iload 4, 2) := by decide +kernel
set_option maxRecDepth 100000 in
theorem dX8_fewestBy_28 : decode cX8_fewestBy 28 = .ok (.aload_n 0, 1) := by decide +kernel
set_option maxRecDepth 100000 in
theorem dX8_fewestBy_29 : decode cX8_fewestBy 29 = .ok (.aload_n 1, 1) := by decide +kernel
set_option maxRecDepth 100000 in
theorem dX8_fewestBy_30 : decode cX8_fewestBy 30 = .ok (.iload_n 2, 1) := by decide +kernel
set_option maxRecDepth 100000 in
theorem dX8_fewestBy_31 : decode cX8_fewestBy 31 = .ok (.iload_n 3, 1) := by decide +kernel
set_option maxRecDepth 100000 in
theorem dX8_fewestBy_32 : decode cX8_fewestBy 32 = .ok (.iload 5, 2) := by decide +kernel
set_option maxRecDepth 100000 in
theorem dX8_fewestBy_34 : decode cX8_fewestBy 34 = .ok (.invokevirtual 45, 3) := by decide +kernel
set_option maxRecDepth 100000 in
theorem dX8_fewestBy_37 : decode cX8_fewestBy 37 = .ok (.invokestatic 49, 3) := by decide +kernel
set_option maxRecDepth 100000 in
theorem dX8_fewestBy_40 : decode cX8_fewestBy 40 = .ok (.istore 4, 2) := by decide +kernel
set_option maxRecDepth 100000 in
theorem dX8_fewestBy_42 : decode cX8_fewestBy 42 = .ok (.iinc 5 1, 3) := by decide +kernel
set_option maxRecDepth 100000 in
theorem dX8_fewestBy_45 : decode cX8_fewestBy 45 = .ok (.goto (-38), 3) := by decide +kernel
set_option maxRecDepth 100000 in
theorem dX8_fewestBy_48 : decode cX8_fewestBy 48 = .ok (.iload 4, 2) := by decide +kernel
set_option maxRecDepth 100000 in
theorem dX8_fewestBy_50 : decode cX8_fewestBy 50 = .ok (.ireturn, 1) := by decide +kernel
set_option maxRecDepth 100000 in
theorem dX8_minutesBy_0 : decode cX8_minutesBy 0 = .ok (.aload_n 1, 1) := by decide +kernel
set_option maxRecDepth 100000 in
theorem dX8_minutesBy_1 : decode cX8_minutesBy 1 = .ok (.aload_n 0, 1) := by decide +kernel
set_option maxRecDepth 100000 in
theorem dX8_minutesBy_2 : decode cX8_minutesBy 2 = .ok (.getfield 11, 3) := by decide +kernel
set_option maxRecDepth 100000 in
theorem dX8_minutesBy_5 : decode cX8_minutesBy 5 = .ok (.iload_n 3, 1) := by decide +kernel
set_option maxRecDepth 100000 in
theorem dX8_minutesBy_6 : decode cX8_minutesBy 6 = .ok (.iaload, 1) := by decide +kernel
set_option maxRecDepth 100000 in
theorem dX8_minutesBy_7 : decode cX8_minutesBy 7 = .ok (.aload_n 0, 1) := by decide +kernel
set_option maxRecDepth 100000 in
theorem dX8_minutesBy_8 : decode cX8_minutesBy 8 = .ok (.getfield 11, 3) := by decide +kernel
set_option maxRecDepth 100000 in
theorem dX8_minutesBy_11 : decode cX8_minutesBy 11 = .ok (.iload 4, 2) := by decide +kernel
set_option maxRecDepth 100000 in
theorem dX8_minutesBy_13 : decode cX8_minutesBy 13 = .ok (.iaload, 1) := by decide +kernel
set_option maxRecDepth 100000 in
theorem dX8_minutesBy_14 : decode cX8_minutesBy 14 = .ok (.invokevirtual 36, 3) := by decide +kernel
set_option maxRecDepth 100000 in
theorem dX8_minutesBy_17 : decode cX8_minutesBy 17 = .ok (.aload_n 0, 1) := by decide +kernel
set_option maxRecDepth 100000 in
theorem dX8_minutesBy_18 : decode cX8_minutesBy 18 = .ok (.getfield 15, 3) := by decide +kernel
set_option maxRecDepth 100000 in
theorem dX8_minutesBy_21 : decode cX8_minutesBy 21 = .ok (.iload_n 2, 1) := by decide +kernel
set_option maxRecDepth 100000 in
theorem dX8_minutesBy_22 : decode cX8_minutesBy 22 = .ok (.iconst 1, 1) := by decide +kernel
set_option maxRecDepth 100000 in
theorem dX8_minutesBy_23 : decode cX8_minutesBy 23 = .ok (.iload 4, 2) := by decide +kernel
set_option maxRecDepth 100000 in
theorem dX8_minutesBy_25 : decode cX8_minutesBy 25 = .ok (.ishl, 1) := by decide +kernel
set_option maxRecDepth 100000 in
theorem dX8_minutesBy_26 : decode cX8_minutesBy 26 = .ok (.iconst (-1), 1) := by decide +kernel
set_option maxRecDepth 100000 in
theorem dX8_minutesBy_27 : decode cX8_minutesBy 27 = .ok (.ixor, 1) := by decide +kernel
set_option maxRecDepth 100000 in
theorem dX8_minutesBy_28 : decode cX8_minutesBy 28 = .ok (.iand, 1) := by decide +kernel
set_option maxRecDepth 100000 in
theorem dX8_minutesBy_29 : decode cX8_minutesBy 29 = .ok (.bipush 7, 2) := by decide +kernel
set_option maxRecDepth 100000 in
theorem dX8_minutesBy_31 : decode cX8_minutesBy 31 = .ok (.imul, 1) := by decide +kernel
set_option maxRecDepth 100000 in
theorem dX8_minutesBy_32 : decode cX8_minutesBy 32 = .ok (.iload 4, 2) := by decide +kernel
set_option maxRecDepth 100000 in
theorem dX8_minutesBy_34 : decode cX8_minutesBy 34 = .ok (.iadd, 1) := by decide +kernel
set_option maxRecDepth 100000 in
theorem dX8_minutesBy_35 : decode cX8_minutesBy 35 = .ok (.iaload, 1) := by decide +kernel
set_option maxRecDepth 100000 in
theorem dX8_minutesBy_36 : decode cX8_minutesBy 36 = .ok (.iadd, 1) := by decide +kernel
set_option maxRecDepth 100000 in
theorem dX8_minutesBy_37 : decode cX8_minutesBy 37 = .ok (.ireturn, 1) := by decide +kernel
set_option maxRecDepth 100000 in
theorem dX8_minutesInAll_0 : decode cX8_minutesInAll 0 = .ok (.aload_n 0, 1) := by decide +kernel
set_option maxRecDepth 100000 in
theorem dX8_minutesInAll_1 : decode cX8_minutesInAll 1 = .ok (.getfield 15, 3) := by decide +kernel
set_option maxRecDepth 100000 in
theorem dX8_minutesInAll_4 : decode cX8_minutesInAll 4 = .ok (.iconst 1, 1) := by decide +kernel
set_option maxRecDepth 100000 in
theorem dX8_minutesInAll_5 : decode cX8_minutesInAll 5 = .ok (.aload_n 0, 1) := by decide +kernel
set_option maxRecDepth 100000 in
theorem dX8_minutesInAll_6 : decode cX8_minutesInAll 6 = .ok (.getfield 18, 3) := by decide +kernel
set_option maxRecDepth 100000 in
theorem dX8_minutesInAll_9 : decode cX8_minutesInAll 9 = .ok (.ishl, 1) := by decide +kernel
set_option maxRecDepth 100000 in
theorem dX8_minutesInAll_10 : decode cX8_minutesInAll 10 = .ok (.iconst 1, 1) := by decide +kernel
set_option maxRecDepth 100000 in
theorem dX8_minutesInAll_11 : decode cX8_minutesInAll 11 = .ok (.isub, 1) := by decide +kernel
set_option maxRecDepth 100000 in
theorem dX8_minutesInAll_12 : decode cX8_minutesInAll 12 = .ok (.bipush 7, 2) := by decide +kernel
set_option maxRecDepth 100000 in
theorem dX8_minutesInAll_14 : decode cX8_minutesInAll 14 = .ok (.imul, 1) := by decide +kernel
set_option maxRecDepth 100000 in
theorem dX8_minutesInAll_15 : decode cX8_minutesInAll 15 = .ok (.aload_n 0, 1) := by decide +kernel
set_option maxRecDepth 100000 in
theorem dX8_minutesInAll_16 : decode cX8_minutesInAll 16 = .ok (.getfield 18, 3) := by decide +kernel
set_option maxRecDepth 100000 in
theorem dX8_minutesInAll_19 : decode cX8_minutesInAll 19 = .ok (.iadd, 1) := by decide +kernel
set_option maxRecDepth 100000 in
theorem dX8_minutesInAll_20 : decode cX8_minutesInAll 20 = .ok (.iaload, 1) := by decide +kernel
set_option maxRecDepth 100000 in
theorem dX8_minutesInAll_21 : decode cX8_minutesInAll 21 = .ok (.ireturn, 1) := by decide +kernel
set_option maxRecDepth 100000 in
theorem dX8_tellOrder_0 : decode cX8_tellOrder 0 = .ok (.iconst 1, 1) := by decide +kernel
set_option maxRecDepth 100000 in
theorem dX8_tellOrder_1 : decode cX8_tellOrder 1 = .ok (.aload_n 0, 1) := by decide +kernel
set_option maxRecDepth 100000 in
theorem dX8_tellOrder_2 : decode cX8_tellOrder 2 = .ok (.getfield 18, 3) := by decide +kernel
set_option maxRecDepth 100000 in
theorem dX8_tellOrder_5 : decode cX8_tellOrder 5 = .ok (.ishl, 1) := by decide +kernel
set_option maxRecDepth 100000 in
theorem dX8_tellOrder_6 : decode cX8_tellOrder 6 = .ok (.iconst 1, 1) := by decide +kernel
set_option maxRecDepth 100000 in
theorem dX8_tellOrder_7 : decode cX8_tellOrder 7 = .ok (.isub, 1) := by decide +kernel
set_option maxRecDepth 100000 in
theorem dX8_tellOrder_8 : decode cX8_tellOrder 8 = .ok (.istore_n 3, 1) := by decide +kernel
set_option maxRecDepth 100000 in
theorem dX8_tellOrder_9 : decode cX8_tellOrder 9 = .ok (.aload_n 0, 1) := by decide +kernel
set_option maxRecDepth 100000 in
theorem dX8_tellOrder_10 : decode cX8_tellOrder 10 = .ok (.getfield 18, 3) := by decide +kernel
set_option maxRecDepth 100000 in
theorem dX8_tellOrder_13 : decode cX8_tellOrder 13 = .ok (.istore 4, 2) := by decide +kernel
set_option maxRecDepth 100000 in
theorem dX8_tellOrder_15 : decode cX8_tellOrder 15 = .ok (.iconst 0, 1) := by decide +kernel
set_option maxRecDepth 100000 in
theorem dX8_tellOrder_16 : decode cX8_tellOrder 16 = .ok (.istore 5, 2) := by decide +kernel
set_option maxRecDepth 100000 in
theorem dX8_tellOrder_18 : decode cX8_tellOrder 18 = .ok (.iload 5, 2) := by decide +kernel
set_option maxRecDepth 100000 in
theorem dX8_tellOrder_20 : decode cX8_tellOrder 20 = .ok (.aload_n 0, 1) := by decide +kernel
set_option maxRecDepth 100000 in
theorem dX8_tellOrder_21 : decode cX8_tellOrder 21 = .ok (.getfield 18, 3) := by decide +kernel
set_option maxRecDepth 100000 in
theorem dX8_tellOrder_24 : decode cX8_tellOrder 24 = .ok (.if_icmp .ge 50, 3) := by decide +kernel
set_option maxRecDepth 100000 in
theorem dX8_tellOrder_27 : decode cX8_tellOrder 27 = .ok (.aload_n 0, 1) := by decide +kernel
set_option maxRecDepth 100000 in
theorem dX8_tellOrder_28 : decode cX8_tellOrder 28 = .ok (.aload_n 1, 1) := by decide +kernel
set_option maxRecDepth 100000 in
theorem dX8_tellOrder_29 : decode cX8_tellOrder 29 = .ok (.iload_n 3, 1) := by decide +kernel
set_option maxRecDepth 100000 in
theorem dX8_tellOrder_30 : decode cX8_tellOrder 30 = .ok (.iload 4, 2) := by decide +kernel
set_option maxRecDepth 100000 in
theorem dX8_tellOrder_32 : decode cX8_tellOrder 32 = .ok (.invokevirtual 54, 3) := by decide +kernel
set_option maxRecDepth 100000 in
theorem dX8_tellOrder_35 : decode cX8_tellOrder 35 = .ok (.istore 6, 2) := by decide +kernel
set_option maxRecDepth 100000 in
theorem dX8_tellOrder_37 : decode cX8_tellOrder 37 = .ok (.iload 6, 2) := by decide +kernel
set_option maxRecDepth 100000 in
theorem dX8_tellOrder_39 : decode cX8_tellOrder 39 = .ok (.iconst (-1), 1) := by decide +kernel
set_option maxRecDepth 100000 in
theorem dX8_tellOrder_40 : decode cX8_tellOrder 40 = .ok (.if_icmp .eq 28, 3) := by decide +kernel
set_option maxRecDepth 100000 in
theorem dX8_tellOrder_43 : decode cX8_tellOrder 43 = .ok (.aload_n 2, 1) := by decide +kernel
set_option maxRecDepth 100000 in
theorem dX8_tellOrder_44 : decode cX8_tellOrder 44 = .ok (.aload_n 0, 1) := by decide +kernel
set_option maxRecDepth 100000 in
theorem dX8_tellOrder_45 : decode cX8_tellOrder 45 = .ok (.getfield 11, 3) := by decide +kernel
set_option maxRecDepth 100000 in
theorem dX8_tellOrder_48 : decode cX8_tellOrder 48 = .ok (.iload 6, 2) := by decide +kernel
set_option maxRecDepth 100000 in
theorem dX8_tellOrder_50 : decode cX8_tellOrder 50 = .ok (.iaload, 1) := by decide +kernel
set_option maxRecDepth 100000 in
theorem dX8_tellOrder_51 : decode cX8_tellOrder 51 = .ok (.i2l, 1) := by decide +kernel
set_option maxRecDepth 100000 in
theorem dX8_tellOrder_52 : decode cX8_tellOrder 52 = .ok (.invokevirtual 57, 3) := by decide +kernel
set_option maxRecDepth 100000 in
theorem dX8_tellOrder_55 : decode cX8_tellOrder 55 = .ok (.iload_n 3, 1) := by decide +kernel
set_option maxRecDepth 100000 in
theorem dX8_tellOrder_56 : decode cX8_tellOrder 56 = .ok (.iconst 1, 1) := by decide +kernel
set_option maxRecDepth 100000 in
theorem dX8_tellOrder_57 : decode cX8_tellOrder 57 = .ok (.iload 6, 2) := by decide +kernel
set_option maxRecDepth 100000 in
theorem dX8_tellOrder_59 : decode cX8_tellOrder 59 = .ok (.ishl, 1) := by decide +kernel
set_option maxRecDepth 100000 in
theorem dX8_tellOrder_60 : decode cX8_tellOrder 60 = .ok (.iconst (-1), 1) := by decide +kernel
set_option maxRecDepth 100000 in
theorem dX8_tellOrder_61 : decode cX8_tellOrder 61 = .ok (.ixor, 1) := by decide +kernel
set_option maxRecDepth 100000 in
theorem dX8_tellOrder_62 : decode cX8_tellOrder 62 = .ok (.iand, 1) := by decide +kernel
set_option maxRecDepth 100000 in
theorem dX8_tellOrder_63 : decode cX8_tellOrder 63 = .ok (.istore_n 3, 1) := by decide +kernel
set_option maxRecDepth 100000 in
theorem dX8_tellOrder_64 : decode cX8_tellOrder 64 = .ok (.iload 6, 2) := by decide +kernel
set_option maxRecDepth 100000 in
theorem dX8_tellOrder_66 : decode cX8_tellOrder 66 = .ok (.istore 4, 2) := by decide +kernel
set_option maxRecDepth 100000 in
theorem dX8_tellOrder_68 : decode cX8_tellOrder 68 = .ok (.iinc 5 1, 3) := by decide +kernel
set_option maxRecDepth 100000 in
theorem dX8_tellOrder_71 : decode cX8_tellOrder 71 = .ok (.goto (-53), 3) := by decide +kernel
set_option maxRecDepth 100000 in
theorem dX8_tellOrder_74 : decode cX8_tellOrder 74 = .ok (.return_, 1) := by decide +kernel
set_option maxRecDepth 100000 in
theorem dX8_nextGoal_0 : decode cX8_nextGoal 0 = .ok (.iconst 0, 1) := by decide +kernel
set_option maxRecDepth 100000 in
theorem dX8_nextGoal_1 : decode cX8_nextGoal 1 = .ok (.istore 4, 2) := by decide +kernel
set_option maxRecDepth 100000 in
theorem dX8_nextGoal_3 : decode cX8_nextGoal 3 = .ok (.iload 4, 2) := by decide +kernel
set_option maxRecDepth 100000 in
theorem dX8_nextGoal_5 : decode cX8_nextGoal 5 = .ok (.aload_n 0, 1) := by decide +kernel
set_option maxRecDepth 100000 in
theorem dX8_nextGoal_6 : decode cX8_nextGoal 6 = .ok (.getfield 18, 3) := by decide +kernel
set_option maxRecDepth 100000 in
theorem dX8_nextGoal_9 : decode cX8_nextGoal 9 = .ok (.if_icmp .ge 57, 3) := by decide +kernel
set_option maxRecDepth 100000 in
theorem dX8_nextGoal_12 : decode cX8_nextGoal 12 = .ok (.iload_n 2, 1) := by decide +kernel
set_option maxRecDepth 100000 in
theorem dX8_nextGoal_13 : decode cX8_nextGoal 13 = .ok (.iload 4, 2) := by decide +kernel
set_option maxRecDepth 100000 in
theorem dX8_nextGoal_15 : decode cX8_nextGoal 15 = .ok (.ishr, 1) := by decide +kernel
set_option maxRecDepth 100000 in
theorem dX8_nextGoal_16 : decode cX8_nextGoal 16 = .ok (.iconst 1, 1) := by decide +kernel
set_option maxRecDepth 100000 in
theorem dX8_nextGoal_17 : decode cX8_nextGoal 17 = .ok (.iand, 1) := by decide +kernel
set_option maxRecDepth 100000 in
theorem dX8_nextGoal_18 : decode cX8_nextGoal 18 = .ok (.iconst 1, 1) := by decide +kernel
set_option maxRecDepth 100000 in
theorem dX8_nextGoal_19 : decode cX8_nextGoal 19 = .ok (.if_icmp .ne 7, 3) := by decide +kernel
set_option maxRecDepth 100000 in
theorem dX8_nextGoal_22 : decode cX8_nextGoal 22 = .ok (.iconst 1, 1) := by decide +kernel
set_option maxRecDepth 100000 in
theorem dX8_nextGoal_23 : decode cX8_nextGoal 23 = .ok (.goto 4, 3) := by decide +kernel
set_option maxRecDepth 100000 in
theorem dX8_nextGoal_26 : decode cX8_nextGoal 26 = .ok (.iconst 0, 1) := by decide +kernel
set_option maxRecDepth 100000 in
theorem dX8_nextGoal_27 : decode cX8_nextGoal 27 = .ok (.istore 5, 2) := by decide +kernel
set_option maxRecDepth 100000 in
theorem dX8_nextGoal_29 : decode cX8_nextGoal 29 = .ok (.iload 5, 2) := by decide +kernel
set_option maxRecDepth 100000 in
theorem dX8_nextGoal_31 : decode cX8_nextGoal 31 = .ok (.ifCond .eq 29, 3) := by decide +kernel
set_option maxRecDepth 100000 in
theorem dX8_nextGoal_34 : decode cX8_nextGoal 34 = .ok (.aload_n 0, 1) := by decide +kernel
set_option maxRecDepth 100000 in
theorem dX8_nextGoal_35 : decode cX8_nextGoal 35 = .ok (.aload_n 1, 1) := by decide +kernel
set_option maxRecDepth 100000 in
theorem dX8_nextGoal_36 : decode cX8_nextGoal 36 = .ok (.iload_n 2, 1) := by decide +kernel
set_option maxRecDepth 100000 in
theorem dX8_nextGoal_37 : decode cX8_nextGoal 37 = .ok (.iload_n 3, 1) := by decide +kernel
set_option maxRecDepth 100000 in
theorem dX8_nextGoal_38 : decode cX8_nextGoal 38 = .ok (.iload 4, 2) := by decide +kernel
set_option maxRecDepth 100000 in
theorem dX8_nextGoal_40 : decode cX8_nextGoal 40 = .ok (.invokevirtual 45, 3) := by decide +kernel
set_option maxRecDepth 100000 in
theorem dX8_nextGoal_43 : decode cX8_nextGoal 43 = .ok (.aload_n 0, 1) := by decide +kernel
set_option maxRecDepth 100000 in
theorem dX8_nextGoal_44 : decode cX8_nextGoal 44 = .ok (.getfield 15, 3) := by decide +kernel
set_option maxRecDepth 100000 in
theorem dX8_nextGoal_47 : decode cX8_nextGoal 47 = .ok (.iload_n 2, 1) := by decide +kernel
set_option maxRecDepth 100000 in
theorem dX8_nextGoal_48 : decode cX8_nextGoal 48 = .ok (.bipush 7, 2) := by decide +kernel
set_option maxRecDepth 100000 in
theorem dX8_nextGoal_50 : decode cX8_nextGoal 50 = .ok (.imul, 1) := by decide +kernel
set_option maxRecDepth 100000 in
theorem dX8_nextGoal_51 : decode cX8_nextGoal 51 = .ok (.iload_n 3, 1) := by decide +kernel
set_option maxRecDepth 100000 in
theorem dX8_nextGoal_52 : decode cX8_nextGoal 52 = .ok (.iadd, 1) := by decide +kernel
set_option maxRecDepth 100000 in
theorem dX8_nextGoal_53 : decode cX8_nextGoal 53 = .ok (.iaload, 1) := by decide +kernel
set_option maxRecDepth 100000 in
theorem dX8_nextGoal_54 : decode cX8_nextGoal 54 = .ok (.if_icmp .ne 6, 3) := by decide +kernel
set_option maxRecDepth 100000 in
theorem dX8_nextGoal_57 : decode cX8_nextGoal 57 = .ok (.iload 4, 2) := by decide +kernel
set_option maxRecDepth 100000 in
theorem dX8_nextGoal_59 : decode cX8_nextGoal 59 = .ok (.ireturn, 1) := by decide +kernel
set_option maxRecDepth 100000 in
theorem dX8_nextGoal_60 : decode cX8_nextGoal 60 = .ok (.iinc 4 1, 3) := by decide +kernel
set_option maxRecDepth 100000 in
theorem dX8_nextGoal_63 : decode cX8_nextGoal 63 = .ok (.goto (-60), 3) := by decide +kernel
set_option maxRecDepth 100000 in
theorem dX8_nextGoal_66 : decode cX8_nextGoal 66 = .ok (.iconst (-1), 1) := by decide +kernel
set_option maxRecDepth 100000 in
theorem dX8_nextGoal_67 : decode cX8_nextGoal 67 = .ok (.ireturn, 1) := by decide +kernel
set_option maxRecDepth 100000 in
theorem dX9_init_0 : decode cX9_init 0 = .ok (.aload_n 0, 1) := by decide +kernel
set_option maxRecDepth 100000 in
theorem dX9_init_1 : decode cX9_init 1 = .ok (.invokespecial 3, 3) := by decide +kernel
set_option maxRecDepth 100000 in
theorem dX9_init_4 : decode cX9_init 4 = .ok (.aload_n 0, 1) := by decide +kernel
set_option maxRecDepth 100000 in
theorem dX9_init_5 : decode cX9_init 5 = .ok (.bipush 6, 2) := by decide +kernel
set_option maxRecDepth 100000 in
theorem dX9_init_7 : decode cX9_init 7 = .ok (.newarray .int, 2) := by decide +kernel
set_option maxRecDepth 100000 in
theorem dX9_init_9 : decode cX9_init 9 = .ok (.putfield 9, 3) := by decide +kernel
set_option maxRecDepth 100000 in
theorem dX9_init_12 : decode cX9_init 12 = .ok (.aload_n 0, 1) := by decide +kernel
set_option maxRecDepth 100000 in
theorem dX9_init_13 : decode cX9_init 13 = .ok (.bipush 6, 2) := by decide +kernel
set_option maxRecDepth 100000 in
theorem dX9_init_15 : decode cX9_init 15 = .ok (.newarray .int, 2) := by decide +kernel
set_option maxRecDepth 100000 in
theorem dX9_init_17 : decode cX9_init 17 = .ok (.putfield 15, 3) := by decide +kernel
set_option maxRecDepth 100000 in
theorem dX9_init_20 : decode cX9_init 20 = .ok (.aload_n 0, 1) := by decide +kernel
set_option maxRecDepth 100000 in
theorem dX9_init_21 : decode cX9_init 21 = .ok (.bipush 6, 2) := by decide +kernel
set_option maxRecDepth 100000 in
theorem dX9_init_23 : decode cX9_init 23 = .ok (.newarray .int, 2) := by decide +kernel
set_option maxRecDepth 100000 in
theorem dX9_init_25 : decode cX9_init 25 = .ok (.putfield 18, 3) := by decide +kernel
set_option maxRecDepth 100000 in
theorem dX9_init_28 : decode cX9_init 28 = .ok (.aload_n 0, 1) := by decide +kernel
set_option maxRecDepth 100000 in
theorem dX9_init_29 : decode cX9_init 29 = .ok (.bipush 12, 2) := by decide +kernel
set_option maxRecDepth 100000 in
theorem dX9_init_31 : decode cX9_init 31 = .ok (.newarray .int, 2) := by decide +kernel
set_option maxRecDepth 100000 in
theorem dX9_init_33 : decode cX9_init 33 = .ok (.putfield 21, 3) := by decide +kernel
set_option maxRecDepth 100000 in
theorem dX9_init_36 : decode cX9_init 36 = .ok (.return_, 1) := by decide +kernel
set_option maxRecDepth 100000 in
theorem dX9_copyFrom_0 : decode cX9_copyFrom 0 = .ok (.aload_n 0, 1) := by decide +kernel
set_option maxRecDepth 100000 in
theorem dX9_copyFrom_1 : decode cX9_copyFrom 1 = .ok (.aload_n 1, 1) := by decide +kernel
set_option maxRecDepth 100000 in
theorem dX9_copyFrom_2 : decode cX9_copyFrom 2 = .ok (.getfield 24, 3) := by decide +kernel
set_option maxRecDepth 100000 in
theorem dX9_copyFrom_5 : decode cX9_copyFrom 5 = .ok (.putfield 24, 3) := by decide +kernel
set_option maxRecDepth 100000 in
theorem dX9_copyFrom_8 : decode cX9_copyFrom 8 = .ok (.aload_n 0, 1) := by decide +kernel
set_option maxRecDepth 100000 in
theorem dX9_copyFrom_9 : decode cX9_copyFrom 9 = .ok (.aload_n 1, 1) := by decide +kernel
set_option maxRecDepth 100000 in
theorem dX9_copyFrom_10 : decode cX9_copyFrom 10 = .ok (.getfield 28, 3) := by decide +kernel
set_option maxRecDepth 100000 in
theorem dX9_copyFrom_13 : decode cX9_copyFrom 13 = .ok (.putfield 28, 3) := by decide +kernel
set_option maxRecDepth 100000 in
theorem dX9_copyFrom_16 : decode cX9_copyFrom 16 = .ok (.aload_n 0, 1) := by decide +kernel
set_option maxRecDepth 100000 in
theorem dX9_copyFrom_17 : decode cX9_copyFrom 17 = .ok (.aload_n 1, 1) := by decide +kernel
set_option maxRecDepth 100000 in
theorem dX9_copyFrom_18 : decode cX9_copyFrom 18 = .ok (.getfield 31, 3) := by decide +kernel
set_option maxRecDepth 100000 in
theorem dX9_copyFrom_21 : decode cX9_copyFrom 21 = .ok (.putfield 31, 3) := by decide +kernel
set_option maxRecDepth 100000 in
theorem dX9_copyFrom_24 : decode cX9_copyFrom 24 = .ok (.aload_n 0, 1) := by decide +kernel
set_option maxRecDepth 100000 in
theorem dX9_copyFrom_25 : decode cX9_copyFrom 25 = .ok (.aload_n 1, 1) := by decide +kernel
set_option maxRecDepth 100000 in
theorem dX9_copyFrom_26 : decode cX9_copyFrom 26 = .ok (.getfield 34, 3) := by decide +kernel
set_option maxRecDepth 100000 in
theorem dX9_copyFrom_29 : decode cX9_copyFrom 29 = .ok (.putfield 34, 3) := by decide +kernel
set_option maxRecDepth 100000 in
theorem dX9_copyFrom_32 : decode cX9_copyFrom 32 = .ok (.aload_n 1, 1) := by decide +kernel
set_option maxRecDepth 100000 in
theorem dX9_copyFrom_33 : decode cX9_copyFrom 33 = .ok (.getfield 9, 3) := by decide +kernel
set_option maxRecDepth 100000 in
theorem dX9_copyFrom_36 : decode cX9_copyFrom 36 = .ok (.iconst 0, 1) := by decide +kernel
set_option maxRecDepth 100000 in
theorem dX9_copyFrom_37 : decode cX9_copyFrom 37 = .ok (.aload_n 0, 1) := by decide +kernel
set_option maxRecDepth 100000 in
theorem dX9_copyFrom_38 : decode cX9_copyFrom 38 = .ok (.getfield 9, 3) := by decide +kernel
set_option maxRecDepth 100000 in
theorem dX9_copyFrom_41 : decode cX9_copyFrom 41 = .ok (.iconst 0, 1) := by decide +kernel
set_option maxRecDepth 100000 in
theorem dX9_copyFrom_42 : decode cX9_copyFrom 42 = .ok (.bipush 6, 2) := by decide +kernel
set_option maxRecDepth 100000 in
theorem dX9_copyFrom_44 : decode cX9_copyFrom 44 = .ok (.invokestatic 37, 3) := by decide +kernel
set_option maxRecDepth 100000 in
theorem dX9_copyFrom_47 : decode cX9_copyFrom 47 = .ok (.aload_n 1, 1) := by decide +kernel
set_option maxRecDepth 100000 in
theorem dX9_copyFrom_48 : decode cX9_copyFrom 48 = .ok (.getfield 15, 3) := by decide +kernel
set_option maxRecDepth 100000 in
theorem dX9_copyFrom_51 : decode cX9_copyFrom 51 = .ok (.iconst 0, 1) := by decide +kernel
set_option maxRecDepth 100000 in
theorem dX9_copyFrom_52 : decode cX9_copyFrom 52 = .ok (.aload_n 0, 1) := by decide +kernel
set_option maxRecDepth 100000 in
theorem dX9_copyFrom_53 : decode cX9_copyFrom 53 = .ok (.getfield 15, 3) := by decide +kernel
set_option maxRecDepth 100000 in
theorem dX9_copyFrom_56 : decode cX9_copyFrom 56 = .ok (.iconst 0, 1) := by decide +kernel
set_option maxRecDepth 100000 in
theorem dX9_copyFrom_57 : decode cX9_copyFrom 57 = .ok (.bipush 6, 2) := by decide +kernel
set_option maxRecDepth 100000 in
theorem dX9_copyFrom_59 : decode cX9_copyFrom 59 = .ok (.invokestatic 37, 3) := by decide +kernel
set_option maxRecDepth 100000 in
theorem dX9_copyFrom_62 : decode cX9_copyFrom 62 = .ok (.aload_n 1, 1) := by decide +kernel
set_option maxRecDepth 100000 in
theorem dX9_copyFrom_63 : decode cX9_copyFrom 63 = .ok (.getfield 18, 3) := by decide +kernel
set_option maxRecDepth 100000 in
theorem dX9_copyFrom_66 : decode cX9_copyFrom 66 = .ok (.iconst 0, 1) := by decide +kernel
set_option maxRecDepth 100000 in
theorem dX9_copyFrom_67 : decode cX9_copyFrom 67 = .ok (.aload_n 0, 1) := by decide +kernel
set_option maxRecDepth 100000 in
theorem dX9_copyFrom_68 : decode cX9_copyFrom 68 = .ok (.getfield 18, 3) := by decide +kernel
set_option maxRecDepth 100000 in
theorem dX9_copyFrom_71 : decode cX9_copyFrom 71 = .ok (.iconst 0, 1) := by decide +kernel
set_option maxRecDepth 100000 in
theorem dX9_copyFrom_72 : decode cX9_copyFrom 72 = .ok (.bipush 6, 2) := by decide +kernel
set_option maxRecDepth 100000 in
theorem dX9_copyFrom_74 : decode cX9_copyFrom 74 = .ok (.invokestatic 37, 3) := by decide +kernel
set_option maxRecDepth 100000 in
theorem dX9_copyFrom_77 : decode cX9_copyFrom 77 = .ok (.aload_n 1, 1) := by decide +kernel
set_option maxRecDepth 100000 in
theorem dX9_copyFrom_78 : decode cX9_copyFrom 78 = .ok (.getfield 21, 3) := by decide +kernel
set_option maxRecDepth 100000 in
theorem dX9_copyFrom_81 : decode cX9_copyFrom 81 = .ok (.iconst 0, 1) := by decide +kernel
set_option maxRecDepth 100000 in
theorem dX9_copyFrom_82 : decode cX9_copyFrom 82 = .ok (.aload_n 0, 1) := by decide +kernel
set_option maxRecDepth 100000 in
theorem dX9_copyFrom_83 : decode cX9_copyFrom 83 = .ok (.getfield 21, 3) := by decide +kernel
set_option maxRecDepth 100000 in
theorem dX9_copyFrom_86 : decode cX9_copyFrom 86 = .ok (.iconst 0, 1) := by decide +kernel
set_option maxRecDepth 100000 in
theorem dX9_copyFrom_87 : decode cX9_copyFrom 87 = .ok (.bipush 12, 2) := by decide +kernel
set_option maxRecDepth 100000 in
theorem dX9_copyFrom_89 : decode cX9_copyFrom 89 = .ok (.invokestatic 37, 3) := by decide +kernel
set_option maxRecDepth 100000 in
theorem dX9_copyFrom_92 : decode cX9_copyFrom 92 = .ok (.return_, 1) := by decide +kernel
set_option maxRecDepth 100000 in
theorem dX9_empty_0 : decode cX9_empty 0 = .ok (.aload_n 0, 1) := by decide +kernel
set_option maxRecDepth 100000 in
theorem dX9_empty_1 : decode cX9_empty 1 = .ok (.iconst 0, 1) := by decide +kernel
set_option maxRecDepth 100000 in
theorem dX9_empty_2 : decode cX9_empty 2 = .ok (.putfield 24, 3) := by decide +kernel
set_option maxRecDepth 100000 in
theorem dX9_empty_5 : decode cX9_empty 5 = .ok (.aload_n 0, 1) := by decide +kernel
set_option maxRecDepth 100000 in
theorem dX9_empty_6 : decode cX9_empty 6 = .ok (.iconst 0, 1) := by decide +kernel
set_option maxRecDepth 100000 in
theorem dX9_empty_7 : decode cX9_empty 7 = .ok (.putfield 28, 3) := by decide +kernel
set_option maxRecDepth 100000 in
theorem dX9_empty_10 : decode cX9_empty 10 = .ok (.aload_n 0, 1) := by decide +kernel
set_option maxRecDepth 100000 in
theorem dX9_empty_11 : decode cX9_empty 11 = .ok (.iconst 0, 1) := by decide +kernel
set_option maxRecDepth 100000 in
theorem dX9_empty_12 : decode cX9_empty 12 = .ok (.putfield 31, 3) := by decide +kernel
set_option maxRecDepth 100000 in
theorem dX9_empty_15 : decode cX9_empty 15 = .ok (.aload_n 0, 1) := by decide +kernel
set_option maxRecDepth 100000 in
theorem dX9_empty_16 : decode cX9_empty 16 = .ok (.iconst 0, 1) := by decide +kernel
set_option maxRecDepth 100000 in
theorem dX9_empty_17 : decode cX9_empty 17 = .ok (.putfield 34, 3) := by decide +kernel
set_option maxRecDepth 100000 in
theorem dX9_empty_20 : decode cX9_empty 20 = .ok (.return_, 1) := by decide +kernel
set_option maxRecDepth 100000 in
theorem dX9_has_0 : decode cX9_has 0 = .ok (.iload_n 1, 1) := by decide +kernel
set_option maxRecDepth 100000 in
theorem dX9_has_1 : decode cX9_has 1 = .ok (.ifCond .lt 15, 3) := by decide +kernel
set_option maxRecDepth 100000 in
theorem dX9_has_4 : decode cX9_has 4 = .ok (.iload_n 1, 1) := by decide +kernel
set_option maxRecDepth 100000 in
theorem dX9_has_5 : decode cX9_has 5 = .ok (.aload_n 0, 1) := by decide +kernel
set_option maxRecDepth 100000 in
theorem dX9_has_6 : decode cX9_has 6 = .ok (.getfield 31, 3) := by decide +kernel
set_option maxRecDepth 100000 in
theorem dX9_has_9 : decode cX9_has 9 = .ok (.if_icmp .ge 7, 3) := by decide +kernel
set_option maxRecDepth 100000 in
theorem dX9_has_12 : decode cX9_has 12 = .ok (.iconst 1, 1) := by decide +kernel
set_option maxRecDepth 100000 in
theorem dX9_has_13 : decode cX9_has 13 = .ok (.goto 4, 3) := by decide +kernel
set_option maxRecDepth 100000 in
theorem dX9_has_16 : decode cX9_has 16 = .ok (.iconst 0, 1) := by decide +kernel
set_option maxRecDepth 100000 in
theorem dX9_has_17 : decode cX9_has 17 = .ok (.ireturn, 1) := by decide +kernel
set_option maxRecDepth 100000 in
theorem dX9_add_0 : decode cX9_add 0 = .ok (.aload_n 0, 1) := by decide +kernel
set_option maxRecDepth 100000 in
theorem dX9_add_1 : decode cX9_add 1 = .ok (.getfield 31, 3) := by decide +kernel
set_option maxRecDepth 100000 in
theorem dX9_add_4 : decode cX9_add 4 = .ok (.bipush 6, 2) := by decide +kernel
set_option maxRecDepth 100000 in
theorem dX9_add_6 : decode cX9_add 6 = .ok (.if_icmp .lt 4, 3) := by decide +kernel
set_option maxRecDepth 100000 in
theorem dX9_add_9 : decode cX9_add 9 = .ok (.return_, 1) := by decide +kernel
set_option maxRecDepth 100000 in
theorem dX9_add_10 : decode cX9_add 10 = .ok (.aload_n 0, 1) := by decide +kernel
set_option maxRecDepth 100000 in
theorem dX9_add_11 : decode cX9_add 11 = .ok (.getfield 31, 3) := by decide +kernel
set_option maxRecDepth 100000 in
theorem dX9_add_14 : decode cX9_add 14 = .ok (.istore_n 2, 1) := by decide +kernel
set_option maxRecDepth 100000 in
theorem dX9_add_15 : decode cX9_add 15 = .ok (.aload_n 0, 1) := by decide +kernel
set_option maxRecDepth 100000 in
theorem dX9_add_16 : decode cX9_add 16 = .ok (.dup, 1) := by decide +kernel
set_option maxRecDepth 100000 in
theorem dX9_add_17 : decode cX9_add 17 = .ok (.getfield 31, 3) := by decide +kernel
set_option maxRecDepth 100000 in
theorem dX9_add_20 : decode cX9_add 20 = .ok (.iconst 1, 1) := by decide +kernel
set_option maxRecDepth 100000 in
theorem dX9_add_21 : decode cX9_add 21 = .ok (.iadd, 1) := by decide +kernel
set_option maxRecDepth 100000 in
theorem dX9_add_22 : decode cX9_add 22 = .ok (.putfield 31, 3) := by decide +kernel
set_option maxRecDepth 100000 in
theorem dX9_add_25 : decode cX9_add 25 = .ok (.iload_n 1, 1) := by decide +kernel
set_option maxRecDepth 100000 in
theorem dX9_add_26 : decode cX9_add 26 = .ok (.iconst (-1), 1) := by decide +kernel
set_option maxRecDepth 100000 in
theorem dX9_add_27 : decode cX9_add 27 = .ok (.if_icmp .ne 11, 3) := by decide +kernel
set_option maxRecDepth 100000 in
theorem dX9_add_30 : decode cX9_add 30 = .ok (.aload_n 0, 1) := by decide +kernel
set_option maxRecDepth 100000 in
theorem dX9_add_31 : decode cX9_add 31 = .ok (.iload_n 2, 1) := by decide +kernel
set_option maxRecDepth 100000 in
theorem dX9_add_32 : decode cX9_add 32 = .ok (.invokevirtual 43, 3) := by decide +kernel
set_option maxRecDepth 100000 in
theorem dX9_add_35 : decode cX9_add 35 = .ok (.goto 17, 3) := by decide +kernel
set_option maxRecDepth 100000 in
theorem dX9_add_38 : decode cX9_add 38 = .ok (.aload_n 0, 1) := by decide +kernel
set_option maxRecDepth 100000 in
theorem dX9_add_39 : decode cX9_add 39 = .ok (.getfield 15, 3) := by decide +kernel
set_option maxRecDepth 100000 in
theorem dX9_add_42 : decode cX9_add 42 = .ok (.iload_n 2, 1) := by decide +kernel
set_option maxRecDepth 100000 in
theorem dX9_add_43 : decode cX9_add 43 = .ok (.iconst (-1), 1) := by decide +kernel
set_option maxRecDepth 100000 in
theorem dX9_add_44 : decode cX9_add 44 = .ok (.iastore, 1) := by decide +kernel
set_option maxRecDepth 100000 in
theorem dX9_add_45 : decode cX9_add 45 = .ok (.aload_n 0, 1) := by decide +kernel
set_option maxRecDepth 100000 in
theorem dX9_add_46 : decode cX9_add 46 = .ok (.getfield 18, 3) := by decide +kernel
set_option maxRecDepth 100000 in
theorem dX9_add_49 : decode cX9_add 49 = .ok (.iload_n 2, 1) := by decide +kernel
set_option maxRecDepth 100000 in
theorem dX9_add_50 : decode cX9_add 50 = .ok (.iload_n 1, 1) := by decide +kernel
set_option maxRecDepth 100000 in
theorem dX9_add_51 : decode cX9_add 51 = .ok (.iastore, 1) := by decide +kernel
set_option maxRecDepth 100000 in
theorem dX9_add_52 : decode cX9_add 52 = .ok (.return_, 1) := by decide +kernel
set_option maxRecDepth 100000 in
theorem dX9_append_0 : decode cX9_append 0 = .ok (.aload_n 0, 1) := by decide +kernel
set_option maxRecDepth 100000 in
theorem dX9_append_1 : decode cX9_append 1 = .ok (.getfield 34, 3) := by decide +kernel
set_option maxRecDepth 100000 in
theorem dX9_append_4 : decode cX9_append 4 = .ok (.bipush 6, 2) := by decide +kernel
set_option maxRecDepth 100000 in
theorem dX9_append_6 : decode cX9_append 6 = .ok (.if_icmp .ge 33, 3) := by decide +kernel
set_option maxRecDepth 100000 in
theorem dX9_append_9 : decode cX9_append 9 = .ok (.aload_n 0, 1) := by decide +kernel
set_option maxRecDepth 100000 in
theorem dX9_append_10 : decode cX9_append 10 = .ok (.getfield 15, 3) := by decide +kernel
set_option maxRecDepth 100000 in
theorem dX9_append_13 : decode cX9_append 13 = .ok (.iload_n 1, 1) := by decide +kernel
set_option maxRecDepth 100000 in
theorem dX9_append_14 : decode cX9_append 14 = .ok (.aload_n 0, 1) := by decide +kernel
set_option maxRecDepth 100000 in
theorem dX9_append_15 : decode cX9_append 15 = .ok (.getfield 34, 3) := by decide +kernel
set_option maxRecDepth 100000 in
theorem dX9_append_18 : decode cX9_append 18 = .ok (.iastore, 1) := by decide +kernel
set_option maxRecDepth 100000 in
theorem dX9_append_19 : decode cX9_append 19 = .ok (.aload_n 0, 1) := by decide +kernel
set_option maxRecDepth 100000 in
theorem dX9_append_20 : decode cX9_append 20 = .ok (.getfield 9, 3) := by decide +kernel
set_option maxRecDepth 100000 in
theorem dX9_append_23 : decode cX9_append 23 = .ok (.aload_n 0, 1) := by decide +kernel
set_option maxRecDepth 100000 in
theorem dX9_append_24 : decode cX9_append 24 = .ok (.getfield 34, 3) := by decide +kernel
set_option maxRecDepth 100000 in
theorem dX9_append_27 : decode cX9_append 27 = .ok (.iload_n 1, 1) := by decide +kernel
set_option maxRecDepth 100000 in
theorem dX9_append_28 : decode cX9_append 28 = .ok (.iastore, 1) := by decide +kernel
set_option maxRecDepth 100000 in
theorem dX9_append_29 : decode cX9_append 29 = .ok (.aload_n 0, 1) := by decide +kernel
set_option maxRecDepth 100000 in
theorem dX9_append_30 : decode cX9_append 30 = .ok (.dup, 1) := by decide +kernel
set_option maxRecDepth 100000 in
theorem dX9_append_31 : decode cX9_append 31 = .ok (.getfield 34, 3) := by decide +kernel
set_option maxRecDepth 100000 in
theorem dX9_append_34 : decode cX9_append 34 = .ok (.iconst 1, 1) := by decide +kernel
set_option maxRecDepth 100000 in
theorem dX9_append_35 : decode cX9_append 35 = .ok (.iadd, 1) := by decide +kernel
set_option maxRecDepth 100000 in
theorem dX9_append_36 : decode cX9_append 36 = .ok (.putfield 34, 3) := by decide +kernel
set_option maxRecDepth 100000 in
theorem dX9_append_39 : decode cX9_append 39 = .ok (.return_, 1) := by decide +kernel
set_option maxRecDepth 100000 in
theorem dX9_haltOf_0 : decode cX9_haltOf 0 = .ok (.aload_n 0, 1) := by decide +kernel
set_option maxRecDepth 100000 in
theorem dX9_haltOf_1 : decode cX9_haltOf 1 = .ok (.getfield 15, 3) := by decide +kernel
set_option maxRecDepth 100000 in
theorem dX9_haltOf_4 : decode cX9_haltOf 4 = .ok (.iload_n 1, 1) := by decide +kernel
set_option maxRecDepth 100000 in
theorem dX9_haltOf_5 : decode cX9_haltOf 5 = .ok (.iaload, 1) := by decide +kernel
set_option maxRecDepth 100000 in
theorem dX9_haltOf_6 : decode cX9_haltOf 6 = .ok (.iconst (-1), 1) := by decide +kernel
set_option maxRecDepth 100000 in
theorem dX9_haltOf_7 : decode cX9_haltOf 7 = .ok (.if_icmp .ne 12, 3) := by decide +kernel
set_option maxRecDepth 100000 in
theorem dX9_haltOf_10 : decode cX9_haltOf 10 = .ok (.aload_n 0, 1) := by decide +kernel
set_option maxRecDepth 100000 in
theorem dX9_haltOf_11 : decode cX9_haltOf 11 = .ok (.getfield 18, 3) := by decide +kernel
set_option maxRecDepth 100000 in
theorem dX9_haltOf_14 : decode cX9_haltOf 14 = .ok (.iload_n 1, 1) := by decide +kernel
set_option maxRecDepth 100000 in
theorem dX9_haltOf_15 : decode cX9_haltOf 15 = .ok (.iaload, 1) := by decide +kernel
set_option maxRecDepth 100000 in
theorem dX9_haltOf_16 : decode cX9_haltOf 16 = .ok (.goto 7, 3) := by decide +kernel
set_option maxRecDepth 100000 in
theorem dX9_haltOf_19 : decode cX9_haltOf 19 = .ok (.aload_n 0, 1) := by decide +kernel
set_option maxRecDepth 100000 in
theorem dX9_haltOf_20 : decode cX9_haltOf 20 = .ok (.getfield 24, 3) := by decide +kernel
set_option maxRecDepth 100000 in
theorem dX9_haltOf_23 : decode cX9_haltOf 23 = .ok (.ireturn, 1) := by decide +kernel
set_option maxRecDepth 100000 in
theorem dX9_standingAt_0 : decode cX9_standingAt 0 = .ok (.iconst 0, 1) := by decide +kernel
set_option maxRecDepth 100000 in
theorem dX9_standingAt_1 : decode cX9_standingAt 1 = .ok (.istore_n 2, 1) := by decide +kernel
set_option maxRecDepth 100000 in
theorem dX9_standingAt_2 : decode cX9_standingAt 2 = .ok (.iconst 0, 1) := by decide +kernel
set_option maxRecDepth 100000 in
theorem dX9_standingAt_3 : decode cX9_standingAt 3 = .ok (.istore_n 3, 1) := by decide +kernel
set_option maxRecDepth 100000 in
theorem dX9_standingAt_4 : decode cX9_standingAt 4 = .ok (.iload_n 3, 1) := by decide +kernel
set_option maxRecDepth 100000 in
theorem dX9_standingAt_5 : decode cX9_standingAt 5 = .ok (.aload_n 0, 1) := by decide +kernel
set_option maxRecDepth 100000 in
theorem dX9_standingAt_6 : decode cX9_standingAt 6 = .ok (.getfield 31, 3) := by decide +kernel
set_option maxRecDepth 100000 in
theorem dX9_standingAt_9 : decode cX9_standingAt 9 = .ok (.if_icmp .ge 35, 3) := by decide +kernel
set_option maxRecDepth 100000 in
theorem dX9_standingAt_12 : decode cX9_standingAt 12 = .ok (.aload_n 0, 1) := by decide +kernel
set_option maxRecDepth 100000 in
theorem dX9_standingAt_13 : decode cX9_standingAt 13 = .ok (.getfield 15, 3) := by decide +kernel
set_option maxRecDepth 100000 in
theorem dX9_standingAt_16 : decode cX9_standingAt 16 = .ok (.iload_n 3, 1) := by decide +kernel
set_option maxRecDepth 100000 in
theorem dX9_standingAt_17 : decode cX9_standingAt 17 = .ok (.iaload, 1) := by decide +kernel
set_option maxRecDepth 100000 in
theorem dX9_standingAt_18 : decode cX9_standingAt 18 = .ok (.iconst (-1), 1) := by decide +kernel
set_option maxRecDepth 100000 in
theorem dX9_standingAt_19 : decode cX9_standingAt 19 = .ok (.if_icmp .ne 19, 3) := by decide +kernel
set_option maxRecDepth 100000 in
theorem dX9_standingAt_22 : decode cX9_standingAt 22 = .ok (.aload_n 0, 1) := by decide +kernel
set_option maxRecDepth 100000 in
theorem dX9_standingAt_23 : decode cX9_standingAt 23 = .ok (.getfield 18, 3) := by decide +kernel
set_option maxRecDepth 100000 in
theorem dX9_standingAt_26 : decode cX9_standingAt 26 = .ok (.iload_n 3, 1) := by decide +kernel
set_option maxRecDepth 100000 in
theorem dX9_standingAt_27 : decode cX9_standingAt 27 = .ok (.iaload, 1) := by decide +kernel
set_option maxRecDepth 100000 in
theorem dX9_standingAt_28 : decode cX9_standingAt 28 = .ok (.iload_n 1, 1) := by decide +kernel
set_option maxRecDepth 100000 in
theorem dX9_standingAt_29 : decode cX9_standingAt 29 = .ok (.if_icmp .ne 9, 3) := by decide +kernel
set_option maxRecDepth 100000 in
theorem dX9_standingAt_32 : decode cX9_standingAt 32 = .ok (.iload_n 2, 1) := by decide +kernel
set_option maxRecDepth 100000 in
theorem dX9_standingAt_33 : decode cX9_standingAt 33 = .ok (.iconst 1, 1) := by decide +kernel
set_option maxRecDepth 100000 in
theorem dX9_standingAt_34 : decode cX9_standingAt 34 = .ok (.iload_n 3, 1) := by decide +kernel
set_option maxRecDepth 100000 in
theorem dX9_standingAt_35 : decode cX9_standingAt 35 = .ok (.ishl, 1) := by decide +kernel
set_option maxRecDepth 100000 in
theorem dX9_standingAt_36 : decode cX9_standingAt 36 = .ok (.ior, 1) := by decide +kernel
set_option maxRecDepth 100000 in
theorem dX9_standingAt_37 : decode cX9_standingAt 37 = .ok (.istore_n 2, 1) := by decide +kernel
set_option maxRecDepth 100000 in
theorem dX9_standingAt_38 : decode cX9_standingAt 38 = .ok (.iinc 3 1, 3) := by decide +kernel
set_option maxRecDepth 100000 in
theorem dX9_standingAt_41 : decode cX9_standingAt 41 = .ok (.goto (-37), 3) := by decide +kernel
set_option maxRecDepth 100000 in
theorem dX9_standingAt_44 : decode cX9_standingAt 44 = .ok (.iload_n 2, 1) := by decide +kernel
set_option maxRecDepth 100000 in
theorem dX9_standingAt_45 : decode cX9_standingAt 45 = .ok (.ireturn, 1) := by decide +kernel
set_option maxRecDepth 100000 in
theorem dX9_trainBits_0 : decode cX9_trainBits 0 = .ok (.iconst 0, 1) := by decide +kernel
set_option maxRecDepth 100000 in
theorem dX9_trainBits_1 : decode cX9_trainBits 1 = .ok (.istore_n 1, 1) := by decide +kernel
set_option maxRecDepth 100000 in
theorem dX9_trainBits_2 : decode cX9_trainBits 2 = .ok (.iconst 0, 1) := by decide +kernel
set_option maxRecDepth 100000 in
theorem dX9_trainBits_3 : decode cX9_trainBits 3 = .ok (.istore_n 2, 1) := by decide +kernel
set_option maxRecDepth 100000 in
theorem dX9_trainBits_4 : decode cX9_trainBits 4 = .ok (.iload_n 2, 1) := by decide +kernel
set_option maxRecDepth 100000 in
theorem dX9_trainBits_5 : decode cX9_trainBits 5 = .ok (.aload_n 0, 1) := by decide +kernel
set_option maxRecDepth 100000 in
theorem dX9_trainBits_6 : decode cX9_trainBits 6 = .ok (.getfield 34, 3) := by decide +kernel
set_option maxRecDepth 100000 in
theorem dX9_trainBits_9 : decode cX9_trainBits 9 = .ok (.if_icmp .ge 20, 3) := by decide +kernel
set_option maxRecDepth 100000 in
theorem dX9_trainBits_12 : decode cX9_trainBits 12 = .ok (.iload_n 1, 1) := by decide +kernel
set_option maxRecDepth 100000 in
theorem dX9_trainBits_13 : decode cX9_trainBits 13 = .ok (.iconst 1, 1) := by decide +kernel
set_option maxRecDepth 100000 in
theorem dX9_trainBits_14 : decode cX9_trainBits 14 = .ok (.aload_n 0, 1) := by decide +kernel
set_option maxRecDepth 100000 in
theorem dX9_trainBits_15 : decode cX9_trainBits 15 = .ok (.getfield 9, 3) := by decide +kernel
set_option maxRecDepth 100000 in
theorem dX9_trainBits_18 : decode cX9_trainBits 18 = .ok (.iload_n 2, 1) := by decide +kernel
set_option maxRecDepth 100000 in
theorem dX9_trainBits_19 : decode cX9_trainBits 19 = .ok (.iaload, 1) := by decide +kernel
set_option maxRecDepth 100000 in
theorem dX9_trainBits_20 : decode cX9_trainBits 20 = .ok (.ishl, 1) := by decide +kernel
set_option maxRecDepth 100000 in
theorem dX9_trainBits_21 : decode cX9_trainBits 21 = .ok (.ior, 1) := by decide +kernel
set_option maxRecDepth 100000 in
theorem dX9_trainBits_22 : decode cX9_trainBits 22 = .ok (.istore_n 1, 1) := by decide +kernel
set_option maxRecDepth 100000 in
theorem dX9_trainBits_23 : decode cX9_trainBits 23 = .ok (.iinc 2 1, 3) := by decide +kernel
set_option maxRecDepth 100000 in
theorem dX9_trainBits_26 : decode cX9_trainBits 26 = .ok (.goto (-22), 3) := by decide +kernel
set_option maxRecDepth 100000 in
theorem dX9_trainBits_29 : decode cX9_trainBits 29 = .ok (.iload_n 1, 1) := by decide +kernel
set_option maxRecDepth 100000 in
theorem dX9_trainBits_30 : decode cX9_trainBits 30 = .ok (.ireturn, 1) := by decide +kernel
set_option maxRecDepth 100000 in
theorem dX9_standingBits_0 : decode cX9_standingBits 0 = .ok (.iconst 1, 1) := by decide +kernel
set_option maxRecDepth 100000 in
theorem dX9_standingBits_1 : decode cX9_standingBits 1 = .ok (.aload_n 0, 1) := by decide +kernel
set_option maxRecDepth 100000 in
theorem dX9_standingBits_2 : decode cX9_standingBits 2 = .ok (.getfield 31, 3) := by decide +kernel
set_option maxRecDepth 100000 in
theorem dX9_standingBits_5 : decode cX9_standingBits 5 = .ok (.ishl, 1) := by decide +kernel
set_option maxRecDepth 100000 in
theorem dX9_standingBits_6 : decode cX9_standingBits 6 = .ok (.iconst 1, 1) := by decide +kernel
set_option maxRecDepth 100000 in
theorem dX9_standingBits_7 : decode cX9_standingBits 7 = .ok (.isub, 1) := by decide +kernel
set_option maxRecDepth 100000 in
theorem dX9_standingBits_8 : decode cX9_standingBits 8 = .ok (.aload_n 0, 1) := by decide +kernel
set_option maxRecDepth 100000 in
theorem dX9_standingBits_9 : decode cX9_standingBits 9 = .ok (.invokevirtual 47, 3) := by decide +kernel
set_option maxRecDepth 100000 in
theorem dX9_standingBits_12 : decode cX9_standingBits 12 = .ok (.iconst (-1), 1) := by decide +kernel
set_option maxRecDepth 100000 in
theorem dX9_standingBits_13 : decode cX9_standingBits 13 = .ok (.ixor, 1) := by decide +kernel
set_option maxRecDepth 100000 in
theorem dX9_standingBits_14 : decode cX9_standingBits 14 = .ok (.iand, 1) := by decide +kernel
set_option maxRecDepth 100000 in
theorem dX9_standingBits_15 : decode cX9_standingBits 15 = .ok (.ireturn, 1) := by decide +kernel
set_option maxRecDepth 100000 in
theorem dX9_inside_0 : decode cX9_inside 0 = .ok (.iconst 0, 1) := by decide +kernel
set_option maxRecDepth 100000 in
theorem dX9_inside_1 : decode cX9_inside 1 = .ok (.istore_n 3, 1) := by decide +kernel
set_option maxRecDepth 100000 in
theorem dX9_inside_2 : decode cX9_inside 2 = .ok (.iconst 0, 1) := by decide +kernel
set_option maxRecDepth 100000 in
theorem dX9_inside_3 : decode cX9_inside 3 = .ok (.istore 4, 2) := by decide +kernel
set_option maxRecDepth 100000 in
theorem dX9_inside_5 : decode cX9_inside 5 = .ok (.iload 4, 2) := by decide +kernel
set_option maxRecDepth 100000 in
theorem dX9_inside_7 : decode cX9_inside 7 = .ok (.iload_n 2, 1) := by decide +kernel
set_option maxRecDepth 100000 in
theorem dX9_inside_8 : decode cX9_inside 8 = .ok (.if_icmp .ge 27, 3) := by decide +kernel
set_option maxRecDepth 100000 in
theorem dX9_inside_11 : decode cX9_inside 11 = .ok (.aload_n 0, 1) := by decide +kernel
set_option maxRecDepth 100000 in
theorem dX9_inside_12 : decode cX9_inside 12 = .ok (.getfield 21, 3) := by decide +kernel
set_option maxRecDepth 100000 in
theorem dX9_inside_15 : decode cX9_inside 15 = .ok (.iload 4, 2) := by decide +kernel
set_option maxRecDepth 100000 in
theorem dX9_inside_17 : decode cX9_inside 17 = .ok (.iaload, 1) := by decide +kernel
set_option maxRecDepth 100000 in
theorem dX9_inside_18 : decode cX9_inside 18 = .ok (.iload_n 1, 1) := by decide +kernel
set_option maxRecDepth 100000 in
theorem dX9_inside_19 : decode cX9_inside 19 = .ok (.if_icmp .ne 10, 3) := by decide +kernel
set_option maxRecDepth 100000 in
theorem dX9_inside_22 : decode cX9_inside 22 = .ok (.iload_n 3, 1) := by decide +kernel
set_option maxRecDepth 100000 in
theorem dX9_inside_23 : decode cX9_inside 23 = .ok (.iconst 1, 1) := by decide +kernel
set_option maxRecDepth 100000 in
theorem dX9_inside_24 : decode cX9_inside 24 = .ok (.iload 4, 2) := by decide +kernel
set_option maxRecDepth 100000 in
theorem dX9_inside_26 : decode cX9_inside 26 = .ok (.ishl, 1) := by decide +kernel
set_option maxRecDepth 100000 in
theorem dX9_inside_27 : decode cX9_inside 27 = .ok (.ior, 1) := by decide +kernel
set_option maxRecDepth 100000 in
theorem dX9_inside_28 : decode cX9_inside 28 = .ok (.istore_n 3, 1) := by decide +kernel
set_option maxRecDepth 100000 in
theorem dX9_inside_29 : decode cX9_inside 29 = .ok (.iinc 4 1, 3) := by decide +kernel
set_option maxRecDepth 100000 in
theorem dX9_inside_32 : decode cX9_inside 32 = .ok (.goto (-27), 3) := by decide +kernel
set_option maxRecDepth 100000 in
theorem dX9_inside_35 : decode cX9_inside 35 = .ok (.iload_n 3, 1) := by decide +kernel
set_option maxRecDepth 100000 in
theorem dX9_inside_36 : decode cX9_inside 36 = .ok (.ireturn, 1) := by decide +kernel
set_option maxRecDepth 100000 in
theorem dX9_outBits_0 : decode cX9_outBits 0 = .ok (.aload_n 0, 1) := by decide +kernel
set_option maxRecDepth 100000 in
theorem dX9_outBits_1 : decode cX9_outBits 1 = .ok (.iconst (-1), 1) := by decide +kernel
set_option maxRecDepth 100000 in
theorem dX9_outBits_2 : decode cX9_outBits 2 = .ok (.iload_n 1, 1) := by decide +kernel
set_option maxRecDepth 100000 in
theorem dX9_outBits_3 : decode cX9_outBits 3 = .ok (.invokevirtual 51, 3) := by decide +kernel
set_option maxRecDepth 100000 in
theorem dX9_outBits_6 : decode cX9_outBits 6 = .ok (.ireturn, 1) := by decide +kernel
set_option maxRecDepth 100000 in
theorem dX9_carries_0 : decode cX9_carries 0 = .ok (.aload_n 0, 1) := by decide +kernel
set_option maxRecDepth 100000 in
theorem dX9_carries_1 : decode cX9_carries 1 = .ok (.getfield 21, 3) := by decide +kernel
set_option maxRecDepth 100000 in
theorem dX9_carries_4 : decode cX9_carries 4 = .ok (.iload_n 1, 1) := by decide +kernel
set_option maxRecDepth 100000 in
theorem dX9_carries_5 : decode cX9_carries 5 = .ok (.iaload, 1) := by decide +kernel
set_option maxRecDepth 100000 in
theorem dX9_carries_6 : decode cX9_carries 6 = .ok (.iconst (-1), 1) := by decide +kernel
set_option maxRecDepth 100000 in
theorem dX9_carries_7 : decode cX9_carries 7 = .ok (.if_icmp .eq 22, 3) := by decide +kernel
set_option maxRecDepth 100000 in
theorem dX9_carries_10 : decode cX9_carries 10 = .ok (.aload_n 0, 1) := by decide +kernel
set_option maxRecDepth 100000 in
theorem dX9_carries_11 : decode cX9_carries 11 = .ok (.getfield 15, 3) := by decide +kernel
set_option maxRecDepth 100000 in
theorem dX9_carries_14 : decode cX9_carries 14 = .ok (.aload_n 0, 1) := by decide +kernel
set_option maxRecDepth 100000 in
theorem dX9_carries_15 : decode cX9_carries 15 = .ok (.getfield 21, 3) := by decide +kernel
set_option maxRecDepth 100000 in
theorem dX9_carries_18 : decode cX9_carries 18 = .ok (.iload_n 1, 1) := by decide +kernel
set_option maxRecDepth 100000 in
theorem dX9_carries_19 : decode cX9_carries 19 = .ok (.iaload, 1) := by decide +kernel
set_option maxRecDepth 100000 in
theorem dX9_carries_20 : decode cX9_carries 20 = .ok (.iaload, 1) := by decide +kernel
set_option maxRecDepth 100000 in
theorem dX9_carries_21 : decode cX9_carries 21 = .ok (.iconst (-1), 1) := by decide +kernel
set_option maxRecDepth 100000 in
theorem dX9_carries_22 : decode cX9_carries 22 = .ok (.if_icmp .eq 7, 3) := by decide +kernel
set_option maxRecDepth 100000 in
theorem dX9_carries_25 : decode cX9_carries 25 = .ok (.iconst 1, 1) := by decide +kernel
set_option maxRecDepth 100000 in
theorem dX9_carries_26 : decode cX9_carries 26 = .ok (.goto 4, 3) := by decide +kernel
set_option maxRecDepth 100000 in
theorem dX9_carries_29 : decode cX9_carries 29 = .ok (.iconst 0, 1) := by decide +kernel
set_option maxRecDepth 100000 in
theorem dX9_carries_30 : decode cX9_carries 30 = .ok (.ireturn, 1) := by decide +kernel
set_option maxRecDepth 100000 in
theorem dX9_carriedBits_0 : decode cX9_carriedBits 0 = .ok (.iconst 0, 1) := by decide +kernel
set_option maxRecDepth 100000 in
theorem dX9_carriedBits_1 : decode cX9_carriedBits 1 = .ok (.istore_n 2, 1) := by decide +kernel
set_option maxRecDepth 100000 in
theorem dX9_carriedBits_2 : decode cX9_carriedBits 2 = .ok (.iconst 0, 1) := by decide +kernel
set_option maxRecDepth 100000 in
theorem dX9_carriedBits_3 : decode cX9_carriedBits 3 = .ok (.istore_n 3, 1) := by decide +kernel
set_option maxRecDepth 100000 in
theorem dX9_carriedBits_4 : decode cX9_carriedBits 4 = .ok (.iload_n 3, 1) := by decide +kernel
set_option maxRecDepth 100000 in
theorem dX9_carriedBits_5 : decode cX9_carriedBits 5 = .ok (.iload_n 1, 1) := by decide +kernel
set_option maxRecDepth 100000 in
theorem dX9_carriedBits_6 : decode cX9_carriedBits 6 = .ok (.if_icmp .ge 23, 3) := by decide +kernel
set_option maxRecDepth 100000 in
theorem dX9_carriedBits_9 : decode cX9_carriedBits 9 = .ok (.aload_n 0, 1) := by decide +kernel
set_option maxRecDepth 100000 in
theorem dX9_carriedBits_10 : decode cX9_carriedBits 10 = .ok (.iload_n 3, 1) := by decide +kernel
set_option maxRecDepth 100000 in
theorem dX9_carriedBits_11 : decode cX9_carriedBits 11 = .ok (.invokevirtual 55, 3) := by decide +kernel
set_option maxRecDepth 100000 in
theorem dX9_carriedBits_14 : decode cX9_carriedBits 14 = .ok (.ifCond .eq 9, 3) := by decide +kernel
set_option maxRecDepth 100000 in
theorem dX9_carriedBits_17 : decode cX9_carriedBits 17 = .ok (.iload_n 2, 1) := by decide +kernel
set_option maxRecDepth 100000 in
theorem dX9_carriedBits_18 : decode cX9_carriedBits 18 = .ok (.iconst 1, 1) := by decide +kernel
set_option maxRecDepth 100000 in
theorem dX9_carriedBits_19 : decode cX9_carriedBits 19 = .ok (.iload_n 3, 1) := by decide +kernel
set_option maxRecDepth 100000 in
theorem dX9_carriedBits_20 : decode cX9_carriedBits 20 = .ok (.ishl, 1) := by decide +kernel
set_option maxRecDepth 100000 in
theorem dX9_carriedBits_21 : decode cX9_carriedBits 21 = .ok (.ior, 1) := by decide +kernel
set_option maxRecDepth 100000 in
theorem dX9_carriedBits_22 : decode cX9_carriedBits 22 = .ok (.istore_n 2, 1) := by decide +kernel
set_option maxRecDepth 100000 in
theorem dX9_carriedBits_23 : decode cX9_carriedBits 23 = .ok (.iinc 3 1, 3) := by decide +kernel
set_option maxRecDepth 100000 in
theorem dX9_carriedBits_26 : decode cX9_carriedBits 26 = .ok (.goto (-22), 3) := by decide +kernel
set_option maxRecDepth 100000 in
theorem dX9_carriedBits_29 : decode cX9_carriedBits 29 = .ok (.iload_n 2, 1) := by decide +kernel
set_option maxRecDepth 100000 in
theorem dX9_carriedBits_30 : decode cX9_carriedBits 30 = .ok (.ireturn, 1) := by decide +kernel
set_option maxRecDepth 100000 in
theorem dX9_areNeighbours_0 : decode cX9_areNeighbours 0 = .ok (.aload_n 0, 1) := by decide +kernel
set_option maxRecDepth 100000 in
theorem dX9_areNeighbours_1 : decode cX9_areNeighbours 1 = .ok (.getfield 15, 3) := by decide +kernel
set_option maxRecDepth 100000 in
theorem dX9_areNeighbours_4 : decode cX9_areNeighbours 4 = .ok (.iload_n 1, 1) := by decide +kernel
set_option maxRecDepth 100000 in
theorem dX9_areNeighbours_5 : decode cX9_areNeighbours 5 = .ok (.iaload, 1) := by decide +kernel
set_option maxRecDepth 100000 in
theorem dX9_areNeighbours_6 : decode cX9_areNeighbours 6 = .ok (.iconst (-1), 1) := by decide +kernel
set_option maxRecDepth 100000 in
theorem dX9_areNeighbours_7 : decode cX9_areNeighbours 7 = .ok (.if_icmp .eq 37, 3) := by decide +kernel
set_option maxRecDepth 100000 in
theorem dX9_areNeighbours_10 : decode cX9_areNeighbours 10 = .ok (.aload_n 0, 1) := by decide +kernel
set_option maxRecDepth 100000 in
theorem dX9_areNeighbours_11 : decode cX9_areNeighbours 11 = .ok (.getfield 15, 3) := by decide +kernel
set_option maxRecDepth 100000 in
theorem dX9_areNeighbours_14 : decode cX9_areNeighbours 14 = .ok (.iload_n 2, 1) := by decide +kernel
set_option maxRecDepth 100000 in
theorem dX9_areNeighbours_15 : decode cX9_areNeighbours 15 = .ok (.iaload, 1) := by decide +kernel
set_option maxRecDepth 100000 in
theorem dX9_areNeighbours_16 : decode cX9_areNeighbours 16 = .ok (.iconst (-1), 1) := by decide +kernel
set_option maxRecDepth 100000 in
theorem dX9_areNeighbours_17 : decode cX9_areNeighbours 17 = .ok (.if_icmp .eq 27, 3) := by decide +kernel
set_option maxRecDepth 100000 in
theorem dX9_areNeighbours_20 : decode cX9_areNeighbours 20 = .ok (.aload_n 0, 1) := by decide +kernel
set_option maxRecDepth 100000 in
theorem dX9_areNeighbours_21 : decode cX9_areNeighbours 21 = .ok (.getfield 15, 3) := by decide +kernel
set_option maxRecDepth 100000 in
theorem dX9_areNeighbours_24 : decode cX9_areNeighbours 24 = .ok (.iload_n 1, 1) := by decide +kernel
set_option maxRecDepth 100000 in
theorem dX9_areNeighbours_25 : decode cX9_areNeighbours 25 = .ok (.iaload, 1) := by decide +kernel
set_option maxRecDepth 100000 in
theorem dX9_areNeighbours_26 : decode cX9_areNeighbours 26 = .ok (.aload_n 0, 1) := by decide +kernel
set_option maxRecDepth 100000 in
theorem dX9_areNeighbours_27 : decode cX9_areNeighbours 27 = .ok (.getfield 15, 3) := by decide +kernel
set_option maxRecDepth 100000 in
theorem dX9_areNeighbours_30 : decode cX9_areNeighbours 30 = .ok (.iload_n 2, 1) := by decide +kernel
set_option maxRecDepth 100000 in
theorem dX9_areNeighbours_31 : decode cX9_areNeighbours 31 = .ok (.iaload, 1) := by decide +kernel
set_option maxRecDepth 100000 in
theorem dX9_areNeighbours_32 : decode cX9_areNeighbours 32 = .ok (.isub, 1) := by decide +kernel
set_option maxRecDepth 100000 in
theorem dX9_areNeighbours_33 : decode cX9_areNeighbours 33 = .ok (.invokestatic 59, 3) := by decide +kernel
set_option maxRecDepth 100000 in
theorem dX9_areNeighbours_36 : decode cX9_areNeighbours 36 = .ok (.iconst 1, 1) := by decide +kernel
set_option maxRecDepth 100000 in
theorem dX9_areNeighbours_37 : decode cX9_areNeighbours 37 = .ok (.if_icmp .ne 7, 3) := by decide +kernel
set_option maxRecDepth 100000 in
theorem dX9_areNeighbours_40 : decode cX9_areNeighbours 40 = .ok (.iconst 1, 1) := by decide +kernel
set_option maxRecDepth 100000 in
theorem dX9_areNeighbours_41 : decode cX9_areNeighbours 41 = .ok (.goto 4, 3) := by decide +kernel
set_option maxRecDepth 100000 in
theorem dX9_areNeighbours_44 : decode cX9_areNeighbours 44 = .ok (.iconst 0, 1) := by decide +kernel
set_option maxRecDepth 100000 in
theorem dX9_areNeighbours_45 : decode cX9_areNeighbours 45 = .ok (.ireturn, 1) := by decide +kernel
set_option maxRecDepth 100000 in
theorem dX9_shorten_0 : decode cX9_shorten 0 = .ok (.iconst 0, 1) := by decide +kernel
set_option maxRecDepth 100000 in
theorem dX9_shorten_1 : decode cX9_shorten 1 = .ok (.istore_n 2, 1) := by decide +kernel
set_option maxRecDepth 100000 in
theorem dX9_shorten_2 : decode cX9_shorten 2 = .ok (.iload_n 1, 1) := by decide +kernel
set_option maxRecDepth 100000 in
theorem dX9_shorten_3 : decode cX9_shorten 3 = .ok (.istore_n 3, 1) := by decide +kernel
set_option maxRecDepth 100000 in
theorem dX9_shorten_4 : decode cX9_shorten 4 = .ok (.iload_n 3, 1) := by decide +kernel
set_option maxRecDepth 100000 in
theorem dX9_shorten_5 : decode cX9_shorten 5 = .ok (.aload_n 0, 1) := by decide +kernel
set_option maxRecDepth 100000 in
theorem dX9_shorten_6 : decode cX9_shorten 6 = .ok (.getfield 34, 3) := by decide +kernel
set_option maxRecDepth 100000 in
theorem dX9_shorten_9 : decode cX9_shorten 9 = .ok (.if_icmp .ge 43, 3) := by decide +kernel
set_option maxRecDepth 100000 in
theorem dX9_shorten_12 : decode cX9_shorten 12 = .ok (.aload_n 0, 1) := by decide +kernel
set_option maxRecDepth 100000 in
theorem dX9_shorten_13 : decode cX9_shorten 13 = .ok (.getfield 9, 3) := by decide +kernel
set_option maxRecDepth 100000 in
theorem dX9_shorten_16 : decode cX9_shorten 16 = .ok (.iload_n 3, 1) := by decide +kernel
set_option maxRecDepth 100000 in
theorem dX9_shorten_17 : decode cX9_shorten 17 = .ok (.iaload, 1) := by decide +kernel
set_option maxRecDepth 100000 in
theorem dX9_shorten_18 : decode cX9_shorten 18 = .ok (.istore 4, 2) := by decide +kernel
set_option maxRecDepth 100000 in
theorem dX9_shorten_20 : decode cX9_shorten 20 = .ok (.aload_n 0, 1) := by decide +kernel
set_option maxRecDepth 100000 in
theorem dX9_shorten_21 : decode cX9_shorten 21 = .ok (.getfield 15, 3) := by decide +kernel
set_option maxRecDepth 100000 in
theorem dX9_shorten_24 : decode cX9_shorten 24 = .ok (.iload 4, 2) := by decide +kernel
set_option maxRecDepth 100000 in
theorem dX9_shorten_26 : decode cX9_shorten 26 = .ok (.iconst (-1), 1) := by decide +kernel
set_option maxRecDepth 100000 in
theorem dX9_shorten_27 : decode cX9_shorten 27 = .ok (.iastore, 1) := by decide +kernel
set_option maxRecDepth 100000 in
theorem dX9_shorten_28 : decode cX9_shorten 28 = .ok (.aload_n 0, 1) := by decide +kernel
set_option maxRecDepth 100000 in
theorem dX9_shorten_29 : decode cX9_shorten 29 = .ok (.getfield 18, 3) := by decide +kernel
set_option maxRecDepth 100000 in
theorem dX9_shorten_32 : decode cX9_shorten 32 = .ok (.iload 4, 2) := by decide +kernel
set_option maxRecDepth 100000 in
theorem dX9_shorten_34 : decode cX9_shorten 34 = .ok (.aload_n 0, 1) := by decide +kernel
set_option maxRecDepth 100000 in
theorem dX9_shorten_35 : decode cX9_shorten 35 = .ok (.getfield 24, 3) := by decide +kernel
set_option maxRecDepth 100000 in
theorem dX9_shorten_38 : decode cX9_shorten 38 = .ok (.iastore, 1) := by decide +kernel
set_option maxRecDepth 100000 in
theorem dX9_shorten_39 : decode cX9_shorten 39 = .ok (.iload_n 2, 1) := by decide +kernel
set_option maxRecDepth 100000 in
theorem dX9_shorten_40 : decode cX9_shorten 40 = .ok (.iconst 1, 1) := by decide +kernel
set_option maxRecDepth 100000 in
theorem dX9_shorten_41 : decode cX9_shorten 41 = .ok (.iload 4, 2) := by decide +kernel
set_option maxRecDepth 100000 in
theorem dX9_shorten_43 : decode cX9_shorten 43 = .ok (.ishl, 1) := by decide +kernel
set_option maxRecDepth 100000 in
theorem dX9_shorten_44 : decode cX9_shorten 44 = .ok (.ior, 1) := by decide +kernel
set_option maxRecDepth 100000 in
theorem dX9_shorten_45 : decode cX9_shorten 45 = .ok (.istore_n 2, 1) := by decide +kernel
set_option maxRecDepth 100000 in
theorem dX9_shorten_46 : decode cX9_shorten 46 = .ok (.iinc 3 1, 3) := by decide +kernel
set_option maxRecDepth 100000 in
theorem dX9_shorten_49 : decode cX9_shorten 49 = .ok (.goto (-45), 3) := by decide +kernel
set_option maxRecDepth 100000 in
theorem dX9_shorten_52 : decode cX9_shorten 52 = .ok (.aload_n 0, 1) := by decide +kernel
set_option maxRecDepth 100000 in
theorem dX9_shorten_53 : decode cX9_shorten 53 = .ok (.aload_n 0, 1) := by decide +kernel
set_option maxRecDepth 100000 in
theorem dX9_shorten_54 : decode cX9_shorten 54 = .ok (.getfield 34, 3) := by decide +kernel
set_option maxRecDepth 100000 in
theorem dX9_shorten_57 : decode cX9_shorten 57 = .ok (.iload_n 1, 1) := by decide +kernel
set_option maxRecDepth 100000 in
theorem dX9_shorten_58 : decode cX9_shorten 58 = .ok (.invokestatic 65, 3) := by decide +kernel
set_option maxRecDepth 100000 in
theorem dX9_shorten_61 : decode cX9_shorten 61 = .ok (.putfield 34, 3) := by decide +kernel
set_option maxRecDepth 100000 in
theorem dX9_shorten_64 : decode cX9_shorten 64 = .ok (.iload_n 2, 1) := by decide +kernel
set_option maxRecDepth 100000 in
theorem dX9_shorten_65 : decode cX9_shorten 65 = .ok (.ireturn, 1) := by decide +kernel
set_option maxRecDepth 100000 in
theorem dX9_leave_0 : decode cX9_leave 0 = .ok (.aload_n 0, 1) := by decide +kernel
set_option maxRecDepth 100000 in
theorem dX9_leave_1 : decode cX9_leave 1 = .ok (.iload_n 1, 1) := by decide +kernel
set_option maxRecDepth 100000 in
theorem dX9_leave_2 : decode cX9_leave 2 = .ok (.invokevirtual 68, 3) := by decide +kernel
set_option maxRecDepth 100000 in
theorem dX9_leave_5 : decode cX9_leave 5 = .ok (.istore 4, 2) := by decide +kernel
set_option maxRecDepth 100000 in
theorem dX9_leave_7 : decode cX9_leave 7 = .ok (.aload_n 0, 1) := by decide +kernel
set_option maxRecDepth 100000 in
theorem dX9_leave_8 : decode cX9_leave 8 = .ok (.iload_n 2, 1) := by decide +kernel
set_option maxRecDepth 100000 in
theorem dX9_leave_9 : decode cX9_leave 9 = .ok (.putfield 24, 3) := by decide +kernel
set_option maxRecDepth 100000 in
theorem dX9_leave_12 : decode cX9_leave 12 = .ok (.aload_n 0, 1) := by decide +kernel
set_option maxRecDepth 100000 in
theorem dX9_leave_13 : decode cX9_leave 13 = .ok (.dup, 1) := by decide +kernel
set_option maxRecDepth 100000 in
theorem dX9_leave_14 : decode cX9_leave 14 = .ok (.getfield 28, 3) := by decide +kernel
set_option maxRecDepth 100000 in
theorem dX9_leave_17 : decode cX9_leave 17 = .ok (.iload_n 3, 1) := by decide +kernel
set_option maxRecDepth 100000 in
theorem dX9_leave_18 : decode cX9_leave 18 = .ok (.iadd, 1) := by decide +kernel
set_option maxRecDepth 100000 in
theorem dX9_leave_19 : decode cX9_leave 19 = .ok (.putfield 28, 3) := by decide +kernel
set_option maxRecDepth 100000 in
theorem dX9_leave_22 : decode cX9_leave 22 = .ok (.iload 4, 2) := by decide +kernel
set_option maxRecDepth 100000 in
theorem dX9_leave_24 : decode cX9_leave 24 = .ok (.ireturn, 1) := by decide +kernel
set_option maxRecDepth 100000 in
theorem dX9_takeStanding_0 : decode cX9_takeStanding 0 = .ok (.aload_n 0, 1) := by decide +kernel
set_option maxRecDepth 100000 in
theorem dX9_takeStanding_1 : decode cX9_takeStanding 1 = .ok (.aload_n 0, 1) := by decide +kernel
set_option maxRecDepth 100000 in
theorem dX9_takeStanding_2 : decode cX9_takeStanding 2 = .ok (.getfield 24, 3) := by decide +kernel
set_option maxRecDepth 100000 in
theorem dX9_takeStanding_5 : decode cX9_takeStanding 5 = .ok (.invokevirtual 71, 3) := by decide +kernel
set_option maxRecDepth 100000 in
theorem dX9_takeStanding_8 : decode cX9_takeStanding 8 = .ok (.istore_n 1, 1) := by decide +kernel
set_option maxRecDepth 100000 in
theorem dX9_takeStanding_9 : decode cX9_takeStanding 9 = .ok (.iconst 0, 1) := by decide +kernel
set_option maxRecDepth 100000 in
theorem dX9_takeStanding_10 : decode cX9_takeStanding 10 = .ok (.istore_n 2, 1) := by decide +kernel
set_option maxRecDepth 100000 in
theorem dX9_takeStanding_11 : decode cX9_takeStanding 11 = .ok (.iload_n 2, 1) := by decide +kernel
set_option maxRecDepth 100000 in
theorem dX9_takeStanding_12 : decode cX9_takeStanding 12 = .ok (.aload_n 0, 1) := by decide +kernel
set_option maxRecDepth 100000 in
theorem dX9_takeStanding_13 : decode cX9_takeStanding 13 = .ok (.getfield 31, 3) := by decide +kernel
set_option maxRecDepth 100000 in
theorem dX9_takeStanding_16 : decode cX9_takeStanding 16 = .ok (.if_icmp .ge 23, 3) := by decide +kernel
set_option maxRecDepth 100000 in
theorem dX9_takeStanding_19 : decode cX9_takeStanding 19 = .ok (.iload_n 1, 1) := by decide +kernel
set_option maxRecDepth 100000 in
theorem dX9_takeStanding_20 : decode cX9_takeStanding 20 = .ok (.iload_n 2, 1) := by decide +kernel
set_option maxRecDepth 100000 in
theorem dX9_takeStanding_21 : decode cX9_takeStanding 21 = .ok (.ishr, 1) := by decide +kernel
set_option maxRecDepth 100000 in
theorem dX9_takeStanding_22 : decode cX9_takeStanding 22 = .ok (.iconst 1, 1) := by decide +kernel
set_option maxRecDepth 100000 in
theorem dX9_takeStanding_23 : decode cX9_takeStanding 23 = .ok (.iand, 1) := by decide +kernel
set_option maxRecDepth 100000 in
theorem dX9_takeStanding_24 : decode cX9_takeStanding 24 = .ok (.iconst 1, 1) := by decide +kernel
set_option maxRecDepth 100000 in
theorem dX9_takeStanding_25 : decode cX9_takeStanding 25 = .ok (.if_icmp .ne 8, 3) := by decide +kernel
set_option maxRecDepth 100000 in
theorem dX9_takeStanding_28 : decode cX9_takeStanding 28 = .ok (.aload_n 0, 1) := by decide +kernel
set_option maxRecDepth 100000 in
theorem dX9_takeStanding_29 : decode cX9_takeStanding 29 = .ok (.iload_n 2, 1) := by decide +kernel
set_option maxRecDepth 100000 in
theorem dX9_takeStanding_30 : decode cX9_takeStanding 30 = .ok (.invokevirtual 43, 3) := by decide +kernel
set_option maxRecDepth 100000 in
theorem dX9_takeStanding_33 : decode cX9_takeStanding 33 = .ok (.iinc 2 1, 3) := by decide +kernel
set_option maxRecDepth 100000 in
theorem dX9_takeStanding_36 : decode cX9_takeStanding 36 = .ok (.goto (-25), 3) := by decide +kernel
set_option maxRecDepth 100000 in
theorem dX9_takeStanding_39 : decode cX9_takeStanding 39 = .ok (.iload_n 1, 1) := by decide +kernel
set_option maxRecDepth 100000 in
theorem dX9_takeStanding_40 : decode cX9_takeStanding 40 = .ok (.invokestatic 74, 3) := by decide +kernel
set_option maxRecDepth 100000 in
theorem dX9_takeStanding_43 : decode cX9_takeStanding 43 = .ok (.ireturn, 1) := by decide +kernel
set_option maxRecDepth 100000 in
theorem dX9_letOut_0 : decode cX9_letOut 0 = .ok (.iconst 0, 1) := by decide +kernel
set_option maxRecDepth 100000 in
theorem dX9_letOut_1 : decode cX9_letOut 1 = .ok (.istore_n 2, 1) := by decide +kernel
set_option maxRecDepth 100000 in
theorem dX9_letOut_2 : decode cX9_letOut 2 = .ok (.iconst 0, 1) := by decide +kernel
set_option maxRecDepth 100000 in
theorem dX9_letOut_3 : decode cX9_letOut 3 = .ok (.istore_n 3, 1) := by decide +kernel
set_option maxRecDepth 100000 in
theorem dX9_letOut_4 : decode cX9_letOut 4 = .ok (.iload_n 3, 1) := by decide +kernel
set_option maxRecDepth 100000 in
theorem dX9_letOut_5 : decode cX9_letOut 5 = .ok (.aload_n 1, 1) := by decide +kernel
set_option maxRecDepth 100000 in
theorem dX9_letOut_6 : decode cX9_letOut 6 = .ok (.getfield 79, 3) := by decide +kernel
set_option maxRecDepth 100000 in
theorem dX9_letOut_9 : decode cX9_letOut 9 = .ok (.if_icmp .ge 51, 3) := by decide +kernel
set_option maxRecDepth 100000 in
theorem dX9_letOut_12 : decode cX9_letOut 12 = .ok (.aload_n 0, 1) := by decide +kernel
set_option maxRecDepth 100000 in
theorem dX9_letOut_13 : decode cX9_letOut 13 = .ok (.getfield 21, 3) := by decide +kernel
set_option maxRecDepth 100000 in
theorem dX9_letOut_16 : decode cX9_letOut 16 = .ok (.iload_n 3, 1) := by decide +kernel
set_option maxRecDepth 100000 in
theorem dX9_letOut_17 : decode cX9_letOut 17 = .ok (.iaload, 1) := by decide +kernel
set_option maxRecDepth 100000 in
theorem dX9_letOut_18 : decode cX9_letOut 18 = .ok (.iconst (-1), 1) := by decide +kernel
set_option maxRecDepth 100000 in
theorem dX9_letOut_19 : decode cX9_letOut 19 = .ok (.if_icmp .eq 35, 3) := by decide +kernel
set_option maxRecDepth 100000 in
theorem dX9_letOut_22 : decode cX9_letOut 22 = .ok (.aload_n 0, 1) := by decide +kernel
set_option maxRecDepth 100000 in
theorem dX9_letOut_23 : decode cX9_letOut 23 = .ok (.aload_n 0, 1) := by decide +kernel
set_option maxRecDepth 100000 in
theorem dX9_letOut_24 : decode cX9_letOut 24 = .ok (.getfield 21, 3) := by decide +kernel
set_option maxRecDepth 100000 in
theorem dX9_letOut_27 : decode cX9_letOut 27 = .ok (.iload_n 3, 1) := by decide +kernel
set_option maxRecDepth 100000 in
theorem dX9_letOut_28 : decode cX9_letOut 28 = .ok (.iaload, 1) := by decide +kernel
set_option maxRecDepth 100000 in
theorem dX9_letOut_29 : decode cX9_letOut 29 = .ok (.invokevirtual 84, 3) := by decide +kernel
set_option maxRecDepth 100000 in
theorem dX9_letOut_32 : decode cX9_letOut 32 = .ok (.aload_n 1, 1) := by decide +kernel
set_option maxRecDepth 100000 in
theorem dX9_letOut_33 : decode cX9_letOut 33 = .ok (.getfield 87, 3) := by decide +kernel
set_option maxRecDepth 100000 in
theorem dX9_letOut_36 : decode cX9_letOut 36 = .ok (.iload_n 3, 1) := by decide +kernel
set_option maxRecDepth 100000 in
theorem dX9_letOut_37 : decode cX9_letOut 37 = .ok (.iaload, 1) := by decide +kernel
set_option maxRecDepth 100000 in
theorem dX9_letOut_38 : decode cX9_letOut 38 = .ok (.if_icmp .ne 16, 3) := by decide +kernel
set_option maxRecDepth 100000 in
theorem dX9_letOut_41 : decode cX9_letOut 41 = .ok (.aload_n 0, 1) := by decide +kernel
set_option maxRecDepth 100000 in
theorem dX9_letOut_42 : decode cX9_letOut 42 = .ok (.getfield 21, 3) := by decide +kernel
set_option maxRecDepth 100000 in
theorem dX9_letOut_45 : decode cX9_letOut 45 = .ok (.iload_n 3, 1) := by decide +kernel
set_option maxRecDepth 100000 in
theorem dX9_letOut_46 : decode cX9_letOut 46 = .ok (.iconst (-1), 1) := by decide +kernel
set_option maxRecDepth 100000 in
theorem dX9_letOut_47 : decode cX9_letOut 47 = .ok (.iastore, 1) := by decide +kernel
set_option maxRecDepth 100000 in
theorem dX9_letOut_48 : decode cX9_letOut 48 = .ok (.iload_n 2, 1) := by decide +kernel
set_option maxRecDepth 100000 in
theorem dX9_letOut_49 : decode cX9_letOut 49 = .ok (.iconst 1, 1) := by decide +kernel
set_option maxRecDepth 100000 in
theorem dX9_letOut_50 : decode cX9_letOut 50 = .ok (.iload_n 3, 1) := by decide +kernel
set_option maxRecDepth 100000 in
theorem dX9_letOut_51 : decode cX9_letOut 51 = .ok (.ishl, 1) := by decide +kernel
set_option maxRecDepth 100000 in
theorem dX9_letOut_52 : decode cX9_letOut 52 = .ok (.ior, 1) := by decide +kernel
set_option maxRecDepth 100000 in
theorem dX9_letOut_53 : decode cX9_letOut 53 = .ok (.istore_n 2, 1) := by decide +kernel
set_option maxRecDepth 100000 in
theorem dX9_letOut_54 : decode cX9_letOut 54 = .ok (.iinc 3 1, 3) := by decide +kernel
set_option maxRecDepth 100000 in
theorem dX9_letOut_57 : decode cX9_letOut 57 = .ok (.goto (-53), 3) := by decide +kernel
set_option maxRecDepth 100000 in
theorem dX9_letOut_60 : decode cX9_letOut 60 = .ok (.iload_n 2, 1) := by decide +kernel
set_option maxRecDepth 100000 in
theorem dX9_letOut_61 : decode cX9_letOut 61 = .ok (.ireturn, 1) := by decide +kernel
set_option maxRecDepth 100000 in
theorem dX10_init_0 : decode cX10_init 0 = .ok (.aload_n 0, 1) := by decide +kernel
set_option maxRecDepth 100000 in
theorem dX10_init_1 : decode cX10_init 1 = .ok (.invokespecial 3, 3) := by decide +kernel
set_option maxRecDepth 100000 in
theorem dX10_init_4 : decode cX10_init 4 = .ok (.aload_n 0, 1) := by decide +kernel
set_option maxRecDepth 100000 in
theorem dX10_init_5 : decode cX10_init 5 = .ok (.bipush 12, 2) := by decide +kernel
set_option maxRecDepth 100000 in
theorem dX10_init_7 : decode cX10_init 7 = .ok (.newarray .int, 2) := by decide +kernel
set_option maxRecDepth 100000 in
theorem dX10_init_9 : decode cX10_init 9 = .ok (.putfield 9, 3) := by decide +kernel
set_option maxRecDepth 100000 in
theorem dX10_init_12 : decode cX10_init 12 = .ok (.aload_n 0, 1) := by decide +kernel
set_option maxRecDepth 100000 in
theorem dX10_init_13 : decode cX10_init 13 = .ok (.bipush 12, 2) := by decide +kernel
set_option maxRecDepth 100000 in
theorem dX10_init_15 : decode cX10_init 15 = .ok (.newarray .int, 2) := by decide +kernel
set_option maxRecDepth 100000 in
theorem dX10_init_17 : decode cX10_init 17 = .ok (.putfield 15, 3) := by decide +kernel
set_option maxRecDepth 100000 in
theorem dX10_init_20 : decode cX10_init 20 = .ok (.aload_n 0, 1) := by decide +kernel
set_option maxRecDepth 100000 in
theorem dX10_init_21 : decode cX10_init 21 = .ok (.bipush 18, 2) := by decide +kernel
set_option maxRecDepth 100000 in
theorem dX10_init_23 : decode cX10_init 23 = .ok (.newarray .int, 2) := by decide +kernel
set_option maxRecDepth 100000 in
theorem dX10_init_25 : decode cX10_init 25 = .ok (.putfield 18, 3) := by decide +kernel
set_option maxRecDepth 100000 in
theorem dX10_init_28 : decode cX10_init 28 = .ok (.aload_n 0, 1) := by decide +kernel
set_option maxRecDepth 100000 in
theorem dX10_init_29 : decode cX10_init 29 = .ok (.iconst 3, 1) := by decide +kernel
set_option maxRecDepth 100000 in
theorem dX10_init_30 : decode cX10_init 30 = .ok (.newarray .int, 2) := by decide +kernel
set_option maxRecDepth 100000 in
theorem dX10_init_32 : decode cX10_init 32 = .ok (.putfield 21, 3) := by decide +kernel
set_option maxRecDepth 100000 in
theorem dX10_init_35 : decode cX10_init 35 = .ok (.aload_n 0, 1) := by decide +kernel
set_option maxRecDepth 100000 in
theorem dX10_init_36 : decode cX10_init 36 = .ok (.bipush 6, 2) := by decide +kernel
set_option maxRecDepth 100000 in
theorem dX10_init_38 : decode cX10_init 38 = .ok (.newarray .int, 2) := by decide +kernel
set_option maxRecDepth 100000 in
theorem dX10_init_40 : decode cX10_init 40 = .ok (.putfield 24, 3) := by decide +kernel
set_option maxRecDepth 100000 in
theorem dX10_init_43 : decode cX10_init 43 = .ok (.aload_n 0, 1) := by decide +kernel
set_option maxRecDepth 100000 in
theorem dX10_init_44 : decode cX10_init 44 = .ok (.iconst 3, 1) := by decide +kernel
set_option maxRecDepth 100000 in
theorem dX10_init_45 : decode cX10_init 45 = .ok (.newarray .int, 2) := by decide +kernel
set_option maxRecDepth 100000 in
theorem dX10_init_47 : decode cX10_init 47 = .ok (.putfield 27, 3) := by decide +kernel
set_option maxRecDepth 100000 in
theorem dX10_init_50 : decode cX10_init 50 = .ok (.aload_n 0, 1) := by decide +kernel
set_option maxRecDepth 100000 in
theorem dX10_init_51 : decode cX10_init 51 = .ok (.bipush 6, 2) := by decide +kernel
set_option maxRecDepth 100000 in
theorem dX10_init_53 : decode cX10_init 53 = .ok (.newarray .int, 2) := by decide +kernel
set_option maxRecDepth 100000 in
theorem dX10_init_55 : decode cX10_init 55 = .ok (.putfield 30, 3) := by decide +kernel
set_option maxRecDepth 100000 in
theorem dX10_init_58 : decode cX10_init 58 = .ok (.return_, 1) := by decide +kernel
set_option maxRecDepth 100000 in
theorem dX10_hold_0 : decode cX10_hold 0 = .ok (.aload_n 0, 1) := by decide +kernel
set_option maxRecDepth 100000 in
theorem dX10_hold_1 : decode cX10_hold 1 = .ok (.aload_n 2, 1) := by decide +kernel
set_option maxRecDepth 100000 in
theorem dX10_hold_2 : decode cX10_hold 2 = .ok (.aload_n 3, 1) := by decide +kernel
set_option maxRecDepth 100000 in
theorem dX10_hold_3 : decode cX10_hold 3 = .ok (.getfield 33, 3) := by decide +kernel
set_option maxRecDepth 100000 in
theorem dX10_hold_6 : decode cX10_hold 6 = .ok (.invokevirtual 39, 3) := by decide +kernel
set_option maxRecDepth 100000 in
theorem dX10_hold_9 : decode cX10_hold 9 = .ok (.iconst 0, 1) := by decide +kernel
set_option maxRecDepth 100000 in
theorem dX10_hold_10 : decode cX10_hold 10 = .ok (.istore 5, 2) := by decide +kernel
set_option maxRecDepth 100000 in
theorem dX10_hold_12 : decode cX10_hold 12 = .ok (.iload 5, 2) := by decide +kernel
set_option maxRecDepth 100000 in
theorem dX10_hold_14 : decode cX10_hold 14 = .ok (.aload_n 3, 1) := by decide +kernel
set_option maxRecDepth 100000 in
theorem dX10_hold_15 : decode cX10_hold 15 = .ok (.getfield 33, 3) := by decide +kernel
set_option maxRecDepth 100000 in
theorem dX10_hold_18 : decode cX10_hold 18 = .ok (.if_icmp .ge 259, 3) := by decide +kernel
set_option maxRecDepth 100000 in
theorem dX10_hold_21 : decode cX10_hold 21 = .ok (.aload_n 2, 1) := by decide +kernel
set_option maxRecDepth 100000 in
theorem dX10_hold_22 : decode cX10_hold 22 = .ok (.getfield 43, 3) := by decide +kernel
set_option maxRecDepth 100000 in
theorem dX10_hold_25 : decode cX10_hold 25 = .ok (.iload 5, 2) := by decide +kernel
set_option maxRecDepth 100000 in
theorem dX10_hold_27 : decode cX10_hold 27 = .ok (.iaload, 1) := by decide +kernel
set_option maxRecDepth 100000 in
theorem dX10_hold_28 : decode cX10_hold 28 = .ok (.istore 6, 2) := by decide +kernel
set_option maxRecDepth 100000 in
theorem dX10_hold_30 : decode cX10_hold 30 = .ok (.aload_n 0, 1) := by decide +kernel
set_option maxRecDepth 100000 in
theorem dX10_hold_31 : decode cX10_hold 31 = .ok (.getfield 9, 3) := by decide +kernel
set_option maxRecDepth 100000 in
theorem dX10_hold_34 : decode cX10_hold 34 = .ok (.iload 5, 2) := by decide +kernel
set_option maxRecDepth 100000 in
theorem dX10_hold_36 : decode cX10_hold 36 = .ok (.iconst 0, 1) := by decide +kernel
set_option maxRecDepth 100000 in
theorem dX10_hold_37 : decode cX10_hold 37 = .ok (.iastore, 1) := by decide +kernel
set_option maxRecDepth 100000 in
theorem dX10_hold_38 : decode cX10_hold 38 = .ok (.aload_n 0, 1) := by decide +kernel
set_option maxRecDepth 100000 in
theorem dX10_hold_39 : decode cX10_hold 39 = .ok (.getfield 15, 3) := by decide +kernel
set_option maxRecDepth 100000 in
theorem dX10_hold_42 : decode cX10_hold 42 = .ok (.iload 5, 2) := by decide +kernel
set_option maxRecDepth 100000 in
theorem dX10_hold_44 : decode cX10_hold 44 = .ok (.iconst (-1), 1) := by decide +kernel
set_option maxRecDepth 100000 in
theorem dX10_hold_45 : decode cX10_hold 45 = .ok (.iastore, 1) := by decide +kernel
set_option maxRecDepth 100000 in
theorem dX10_hold_46 : decode cX10_hold 46 = .ok (.iload 6, 2) := by decide +kernel
set_option maxRecDepth 100000 in
theorem dX10_hold_48 : decode cX10_hold 48 = .ok (.iconst (-1), 1) := by decide +kernel
set_option maxRecDepth 100000 in
theorem dX10_hold_49 : decode cX10_hold 49 = .ok (.if_icmp .eq 222, 3) := by decide +kernel
set_option maxRecDepth 100000 in
theorem dX10_hold_52 : decode cX10_hold 52 = .ok (.aload_n 2, 1) := by decide +kernel
set_option maxRecDepth 100000 in
theorem dX10_hold_53 : decode cX10_hold 53 = .ok (.iload 6, 2) := by decide +kernel
set_option maxRecDepth 100000 in
theorem dX10_hold_55 : decode cX10_hold 55 = .ok (.invokevirtual 48, 3) := by decide +kernel
set_option maxRecDepth 100000 in
theorem dX10_hold_58 : decode cX10_hold 58 = .ok (.istore 7, 2) := by decide +kernel
set_option maxRecDepth 100000 in
theorem dX10_hold_60 : decode cX10_hold 60 = .ok (.aload_n 1, 1) := by decide +kernel
set_option maxRecDepth 100000 in
theorem dX10_hold_61 : decode cX10_hold 61 = .ok (.iload 7, 2) := by decide +kernel
set_option maxRecDepth 100000 in
theorem dX10_hold_63 : decode cX10_hold 63 = .ok (.aload_n 3, 1) := by decide +kernel
set_option maxRecDepth 100000 in
theorem dX10_hold_64 : decode cX10_hold 64 = .ok (.getfield 52, 3) := by decide +kernel
set_option maxRecDepth 100000 in
theorem dX10_hold_67 : decode cX10_hold 67 = .ok (.iload 5, 2) := by decide +kernel
set_option maxRecDepth 100000 in
theorem dX10_hold_69 : decode cX10_hold 69 = .ok (.iaload, 1) := by decide +kernel
set_option maxRecDepth 100000 in
theorem dX10_hold_70 : decode cX10_hold 70 = .ok (.invokevirtual 55, 3) := by decide +kernel
set_option maxRecDepth 100000 in
theorem dX10_hold_73 : decode cX10_hold 73 = .ok (.istore 8, 2) := by decide +kernel
set_option maxRecDepth 100000 in
theorem dX10_hold_75 : decode cX10_hold 75 = .ok (.aload_n 0, 1) := by decide +kernel
set_option maxRecDepth 100000 in
theorem dX10_hold_76 : decode cX10_hold 76 = .ok (.getfield 30, 3) := by decide +kernel
set_option maxRecDepth 100000 in
theorem dX10_hold_79 : decode cX10_hold 79 = .ok (.iconst 0, 1) := by decide +kernel
set_option maxRecDepth 100000 in
theorem dX10_hold_80 : decode cX10_hold 80 = .ok (.aload_n 3, 1) := by decide +kernel
set_option maxRecDepth 100000 in
theorem dX10_hold_81 : decode cX10_hold 81 = .ok (.getfield 61, 3) := by decide +kernel
set_option maxRecDepth 100000 in
theorem dX10_hold_84 : decode cX10_hold 84 = .ok (.iload 5, 2) := by decide +kernel
set_option maxRecDepth 100000 in
theorem dX10_hold_86 : decode cX10_hold 86 = .ok (.iaload, 1) := by decide +kernel
set_option maxRecDepth 100000 in
theorem dX10_hold_87 : decode cX10_hold 87 = .ok (.iastore, 1) := by decide +kernel
set_option maxRecDepth 100000 in
theorem dX10_hold_88 : decode cX10_hold 88 = .ok (.aload_n 0, 1) := by decide +kernel
set_option maxRecDepth 100000 in
theorem dX10_hold_89 : decode cX10_hold 89 = .ok (.getfield 30, 3) := by decide +kernel
set_option maxRecDepth 100000 in
theorem dX10_hold_92 : decode cX10_hold 92 = .ok (.iconst 1, 1) := by decide +kernel
set_option maxRecDepth 100000 in
theorem dX10_hold_93 : decode cX10_hold 93 = .ok (.iload 6, 2) := by decide +kernel
set_option maxRecDepth 100000 in
theorem dX10_hold_95 : decode cX10_hold 95 = .ok (.iastore, 1) := by decide +kernel
set_option maxRecDepth 100000 in
theorem dX10_hold_96 : decode cX10_hold 96 = .ok (.aload_n 0, 1) := by decide +kernel
set_option maxRecDepth 100000 in
theorem dX10_hold_97 : decode cX10_hold 97 = .ok (.getfield 30, 3) := by decide +kernel
set_option maxRecDepth 100000 in
theorem dX10_hold_100 : decode cX10_hold 100 = .ok (.iconst 2, 1) := by decide +kernel
set_option maxRecDepth 100000 in
theorem dX10_hold_101 : decode cX10_hold 101 = .ok (.aload_n 0, 1) := by decide +kernel
set_option maxRecDepth 100000 in
theorem dX10_hold_102 : decode cX10_hold 102 = .ok (.getfield 24, 3) := by decide +kernel
set_option maxRecDepth 100000 in
theorem dX10_hold_105 : decode cX10_hold 105 = .ok (.iload 6, 2) := by decide +kernel
set_option maxRecDepth 100000 in
theorem dX10_hold_107 : decode cX10_hold 107 = .ok (.iaload, 1) := by decide +kernel
set_option maxRecDepth 100000 in
theorem dX10_hold_108 : decode cX10_hold 108 = .ok (.iastore, 1) := by decide +kernel
set_option maxRecDepth 100000 in
theorem dX10_hold_109 : decode cX10_hold 109 = .ok (.aload_n 0, 1) := by decide +kernel
set_option maxRecDepth 100000 in
theorem dX10_hold_110 : decode cX10_hold 110 = .ok (.getfield 30, 3) := by decide +kernel
set_option maxRecDepth 100000 in
theorem dX10_hold_113 : decode cX10_hold 113 = .ok (.iconst 3, 1) := by decide +kernel
set_option maxRecDepth 100000 in
theorem dX10_hold_114 : decode cX10_hold 114 = .ok (.iload 8, 2) := by decide +kernel
set_option maxRecDepth 100000 in
theorem dX10_hold_116 : decode cX10_hold 116 = .ok (.ldc 64, 2) := by decide +kernel
set_option maxRecDepth 100000 in
theorem dX10_hold_118 : decode cX10_hold 118 = .ok (.if_icmp .ge 8, 3) := by decide +kernel
set_option maxRecDepth 100000 in
theorem dX10_hold_121 : decode cX10_hold 121 = .ok (.iload 8, 2) := by decide +kernel
set_option maxRecDepth 100000 in
theorem dX10_hold_123 : decode cX10_hold 123 = .ok (.goto 5, 3) := by decide +kernel
set_option maxRecDepth 100000 in
theorem dX10_hold_126 : decode cX10_hold 126 = .ok (.bipush 99, 2) := by decide +kernel
set_option maxRecDepth 100000 in
theorem dX10_hold_128 : decode cX10_hold 128 = .ok (.iastore, 1) := by decide +kernel
set_option maxRecDepth 100000 in
theorem dX10_hold_129 : decode cX10_hold 129 = .ok (.aload_n 0, 1) := by decide +kernel
set_option maxRecDepth 100000 in
theorem dX10_hold_130 : decode cX10_hold 130 = .ok (.getfield 30, 3) := by decide +kernel
set_option maxRecDepth 100000 in
theorem dX10_hold_133 : decode cX10_hold 133 = .ok (.iconst 4, 1) := by decide +kernel
set_option maxRecDepth 100000 in
theorem dX10_hold_134 : decode cX10_hold 134 = .ok (.aload_n 2, 1) := by decide +kernel
set_option maxRecDepth 100000 in
theorem dX10_hold_135 : decode cX10_hold 135 = .ok (.getfield 65, 3) := by decide +kernel
set_option maxRecDepth 100000 in
theorem dX10_hold_138 : decode cX10_hold 138 = .ok (.iload 6, 2) := by decide +kernel
set_option maxRecDepth 100000 in
theorem dX10_hold_140 : decode cX10_hold 140 = .ok (.iaload, 1) := by decide +kernel
set_option maxRecDepth 100000 in
theorem dX10_hold_141 : decode cX10_hold 141 = .ok (.iconst (-1), 1) := by decide +kernel
set_option maxRecDepth 100000 in
theorem dX10_hold_142 : decode cX10_hold 142 = .ok (.if_icmp .ne 8, 3) := by decide +kernel
set_option maxRecDepth 100000 in
theorem dX10_hold_145 : decode cX10_hold 145 = .ok (.bipush 9, 2) := by decide +kernel
set_option maxRecDepth 100000 in
theorem dX10_hold_147 : decode cX10_hold 147 = .ok (.goto 10, 3) := by decide +kernel
set_option maxRecDepth 100000 in
theorem dX10_hold_150 : decode cX10_hold 150 = .ok (.aload_n 2, 1) := by decide +kernel
set_option maxRecDepth 100000 in
theorem dX10_hold_151 : decode cX10_hold 151 = .ok (.getfield 65, 3) := by decide +kernel
set_option maxRecDepth 100000 in
theorem dX10_hold_154 : decode cX10_hold 154 = .ok (.iload 6, 2) := by decide +kernel
set_option maxRecDepth 100000 in
theorem dX10_hold_156 : decode cX10_hold 156 = .ok (.iaload, 1) := by decide +kernel
set_option maxRecDepth 100000 in
theorem dX10_hold_157 : decode cX10_hold 157 = .ok (.iastore, 1) := by decide +kernel
set_option maxRecDepth 100000 in
theorem dX10_hold_158 : decode cX10_hold 158 = .ok (.aload_n 0, 1) := by decide +kernel
set_option maxRecDepth 100000 in
theorem dX10_hold_159 : decode cX10_hold 159 = .ok (.getfield 30, 3) := by decide +kernel
set_option maxRecDepth 100000 in
theorem dX10_hold_162 : decode cX10_hold 162 = .ok (.iconst 5, 1) := by decide +kernel
set_option maxRecDepth 100000 in
theorem dX10_hold_163 : decode cX10_hold 163 = .ok (.aload_n 2, 1) := by decide +kernel
set_option maxRecDepth 100000 in
theorem dX10_hold_164 : decode cX10_hold 164 = .ok (.getfield 68, 3) := by decide +kernel
set_option maxRecDepth 100000 in
theorem dX10_hold_167 : decode cX10_hold 167 = .ok (.bipush 60, 2) := by decide +kernel
set_option maxRecDepth 100000 in
theorem dX10_hold_169 : decode cX10_hold 169 = .ok (.irem, 1) := by decide +kernel
set_option maxRecDepth 100000 in
theorem dX10_hold_170 : decode cX10_hold 170 = .ok (.iastore, 1) := by decide +kernel
set_option maxRecDepth 100000 in
theorem dX10_hold_171 : decode cX10_hold 171 = .ok (.aload_n 0, 1) := by decide +kernel
set_option maxRecDepth 100000 in
theorem dX10_hold_172 : decode cX10_hold 172 = .ok (.getfield 9, 3) := by decide +kernel
set_option maxRecDepth 100000 in
theorem dX10_hold_175 : decode cX10_hold 175 = .ok (.iload 5, 2) := by decide +kernel
set_option maxRecDepth 100000 in
theorem dX10_hold_177 : decode cX10_hold 177 = .ok (.aload 4, 2) := by decide +kernel
set_option maxRecDepth 100000 in
theorem dX10_hold_179 : decode cX10_hold 179 = .ok (.aload_n 0, 1) := by decide +kernel
set_option maxRecDepth 100000 in
theorem dX10_hold_180 : decode cX10_hold 180 = .ok (.getfield 30, 3) := by decide +kernel
set_option maxRecDepth 100000 in
theorem dX10_hold_183 : decode cX10_hold 183 = .ok (.invokevirtual 71, 3) := by decide +kernel
set_option maxRecDepth 100000 in
theorem dX10_hold_186 : decode cX10_hold 186 = .ok (.iastore, 1) := by decide +kernel
set_option maxRecDepth 100000 in
theorem dX10_hold_187 : decode cX10_hold 187 = .ok (.aload_n 0, 1) := by decide +kernel
set_option maxRecDepth 100000 in
theorem dX10_hold_188 : decode cX10_hold 188 = .ok (.getfield 15, 3) := by decide +kernel
set_option maxRecDepth 100000 in
theorem dX10_hold_191 : decode cX10_hold 191 = .ok (.iload 5, 2) := by decide +kernel
set_option maxRecDepth 100000 in
theorem dX10_hold_193 : decode cX10_hold 193 = .ok (.aload_n 1, 1) := by decide +kernel
set_option maxRecDepth 100000 in
theorem dX10_hold_194 : decode cX10_hold 194 = .ok (.iload 7, 2) := by decide +kernel
set_option maxRecDepth 100000 in
theorem dX10_hold_196 : decode cX10_hold 196 = .ok (.aload_n 3, 1) := by decide +kernel
set_option maxRecDepth 100000 in
theorem dX10_hold_197 : decode cX10_hold 197 = .ok (.getfield 52, 3) := by decide +kernel
set_option maxRecDepth 100000 in
theorem dX10_hold_200 : decode cX10_hold 200 = .ok (.iload 5, 2) := by decide +kernel
set_option maxRecDepth 100000 in
theorem dX10_hold_202 : decode cX10_hold 202 = .ok (.iaload, 1) := by decide +kernel
set_option maxRecDepth 100000 in
theorem dX10_hold_203 : decode cX10_hold 203 = .ok (.invokevirtual 77, 3) := by decide +kernel
set_option maxRecDepth 100000 in
theorem dX10_hold_206 : decode cX10_hold 206 = .ok (.iastore, 1) := by decide +kernel
set_option maxRecDepth 100000 in
theorem dX10_hold_207 : decode cX10_hold 207 = .ok (.aload_n 0, 1) := by decide +kernel
set_option maxRecDepth 100000 in
theorem dX10_hold_208 : decode cX10_hold 208 = .ok (.getfield 18, 3) := by decide +kernel
set_option maxRecDepth 100000 in
theorem dX10_hold_211 : decode cX10_hold 211 = .ok (.iconst 3, 1) := by decide +kernel
set_option maxRecDepth 100000 in
theorem dX10_hold_212 : decode cX10_hold 212 = .ok (.iload 6, 2) := by decide +kernel
set_option maxRecDepth 100000 in
theorem dX10_hold_214 : decode cX10_hold 214 = .ok (.imul, 1) := by decide +kernel
set_option maxRecDepth 100000 in
theorem dX10_hold_215 : decode cX10_hold 215 = .ok (.aload_n 0, 1) := by decide +kernel
set_option maxRecDepth 100000 in
theorem dX10_hold_216 : decode cX10_hold 216 = .ok (.getfield 15, 3) := by decide +kernel
set_option maxRecDepth 100000 in
theorem dX10_hold_219 : decode cX10_hold 219 = .ok (.iload 5, 2) := by decide +kernel
set_option maxRecDepth 100000 in
theorem dX10_hold_221 : decode cX10_hold 221 = .ok (.iaload, 1) := by decide +kernel
set_option maxRecDepth 100000 in
theorem dX10_hold_222 : decode cX10_hold 222 = .ok (.iadd, 1) := by decide +kernel
set_option maxRecDepth 100000 in
theorem dX10_hold_223 : decode cX10_hold 223 = .ok (.dup2, 1) := by decide +kernel
set_option maxRecDepth 100000 in
theorem dX10_hold_224 : decode cX10_hold 224 = .ok (.iaload, 1) := by decide +kernel
set_option maxRecDepth 100000 in
theorem dX10_hold_225 : decode cX10_hold 225 = .ok (.aload_n 0, 1) := by decide +kernel
set_option maxRecDepth 100000 in
theorem dX10_hold_226 : decode cX10_hold 226 = .ok (.getfield 9, 3) := by decide +kernel
set_option maxRecDepth 100000 in
theorem dX10_hold_229 : decode cX10_hold 229 = .ok (.iload 5, 2) := by decide +kernel
set_option maxRecDepth 100000 in
theorem dX10_hold_231 : decode cX10_hold 231 = .ok (.iaload, 1) := by decide +kernel
set_option maxRecDepth 100000 in
theorem dX10_hold_232 : decode cX10_hold 232 = .ok (.iadd, 1) := by decide +kernel
set_option maxRecDepth 100000 in
theorem dX10_hold_233 : decode cX10_hold 233 = .ok (.iastore, 1) := by decide +kernel
set_option maxRecDepth 100000 in
theorem dX10_hold_234 : decode cX10_hold 234 = .ok (.aload_n 0, 1) := by decide +kernel
set_option maxRecDepth 100000 in
theorem dX10_hold_235 : decode cX10_hold 235 = .ok (.getfield 21, 3) := by decide +kernel
set_option maxRecDepth 100000 in
theorem dX10_hold_238 : decode cX10_hold 238 = .ok (.aload_n 0, 1) := by decide +kernel
set_option maxRecDepth 100000 in
theorem dX10_hold_239 : decode cX10_hold 239 = .ok (.getfield 15, 3) := by decide +kernel
set_option maxRecDepth 100000 in
theorem dX10_hold_242 : decode cX10_hold 242 = .ok (.iload 5, 2) := by decide +kernel
set_option maxRecDepth 100000 in
theorem dX10_hold_244 : decode cX10_hold 244 = .ok (.iaload, 1) := by decide +kernel
set_option maxRecDepth 100000 in
theorem dX10_hold_245 : decode cX10_hold 245 = .ok (.dup2, 1) := by decide +kernel
set_option maxRecDepth 100000 in
theorem dX10_hold_246 : decode cX10_hold 246 = .ok (.iaload, 1) := by decide +kernel
set_option maxRecDepth 100000 in
theorem dX10_hold_247 : decode cX10_hold 247 = .ok (.aload_n 2, 1) := by decide +kernel
set_option maxRecDepth 100000 in
theorem dX10_hold_248 : decode cX10_hold 248 = .ok (.getfield 65, 3) := by decide +kernel
set_option maxRecDepth 100000 in
theorem dX10_hold_251 : decode cX10_hold 251 = .ok (.iload 6, 2) := by decide +kernel
set_option maxRecDepth 100000 in
theorem dX10_hold_253 : decode cX10_hold 253 = .ok (.iaload, 1) := by decide +kernel
set_option maxRecDepth 100000 in
theorem dX10_hold_254 : decode cX10_hold 254 = .ok (.iconst (-1), 1) := by decide +kernel
set_option maxRecDepth 100000 in
theorem dX10_hold_255 : decode cX10_hold 255 = .ok (.if_icmp .ne 7, 3) := by decide +kernel
set_option maxRecDepth 100000 in
theorem dX10_hold_258 : decode cX10_hold 258 = .ok (.iconst 0, 1) := by decide +kernel
set_option maxRecDepth 100000 in
theorem dX10_hold_259 : decode cX10_hold 259 = .ok (.goto 10, 3) := by decide +kernel
set_option maxRecDepth 100000 in
theorem dX10_hold_262 : decode cX10_hold 262 = .ok (.aload_n 0, 1) := by decide +kernel
set_option maxRecDepth 100000 in
theorem dX10_hold_263 : decode cX10_hold 263 = .ok (.getfield 9, 3) := by decide +kernel
set_option maxRecDepth 100000 in
theorem dX10_hold_266 : decode cX10_hold 266 = .ok (.iload 5, 2) := by decide +kernel
set_option maxRecDepth 100000 in
theorem dX10_hold_268 : decode cX10_hold 268 = .ok (.iaload, 1) := by decide +kernel
set_option maxRecDepth 100000 in
theorem dX10_hold_269 : decode cX10_hold 269 = .ok (.iadd, 1) := by decide +kernel
set_option maxRecDepth 100000 in
theorem dX10_hold_270 : decode cX10_hold 270 = .ok (.iastore, 1) := by decide +kernel
set_option maxRecDepth 100000 in
theorem dX10_hold_271 : decode cX10_hold 271 = .ok (.iinc 5 1, 3) := by decide +kernel
set_option maxRecDepth 100000 in
theorem dX10_hold_274 : decode cX10_hold 274 = .ok (.goto (-262), 3) := by decide +kernel
set_option maxRecDepth 100000 in
theorem dX10_hold_277 : decode cX10_hold 277 = .ok (.return_, 1) := by decide +kernel
set_option maxRecDepth 100000 in
theorem dX10_clear_0 : decode cX10_clear 0 = .ok (.iconst 0, 1) := by decide +kernel
set_option maxRecDepth 100000 in
theorem dX10_clear_1 : decode cX10_clear 1 = .ok (.istore_n 3, 1) := by decide +kernel
set_option maxRecDepth 100000 in
theorem dX10_clear_2 : decode cX10_clear 2 = .ok (.iload_n 3, 1) := by decide +kernel
set_option maxRecDepth 100000 in
theorem dX10_clear_3 : decode cX10_clear 3 = .ok (.bipush 18, 2) := by decide +kernel
set_option maxRecDepth 100000 in
theorem dX10_clear_5 : decode cX10_clear 5 = .ok (.if_icmp .ge 16, 3) := by decide +kernel
set_option maxRecDepth 100000 in
theorem dX10_clear_8 : decode cX10_clear 8 = .ok (.aload_n 0, 1) := by decide +kernel
set_option maxRecDepth 100000 in
theorem dX10_clear_9 : decode cX10_clear 9 = .ok (.getfield 18, 3) := by decide +kernel
set_option maxRecDepth 100000 in
theorem dX10_clear_12 : decode cX10_clear 12 = .ok (.iload_n 3, 1) := by decide +kernel
set_option maxRecDepth 100000 in
theorem dX10_clear_13 : decode cX10_clear 13 = .ok (.iconst 0, 1) := by decide +kernel
set_option maxRecDepth 100000 in
theorem dX10_clear_14 : decode cX10_clear 14 = .ok (.iastore, 1) := by decide +kernel
set_option maxRecDepth 100000 in
theorem dX10_clear_15 : decode cX10_clear 15 = .ok (.iinc 3 1, 3) := by decide +kernel
set_option maxRecDepth 100000 in
theorem dX10_clear_18 : decode cX10_clear 18 = .ok (.goto (-16), 3) := by decide +kernel
set_option maxRecDepth 100000 in
theorem dX10_clear_21 : decode cX10_clear 21 = .ok (.iconst 0, 1) := by decide +kernel
set_option maxRecDepth 100000 in
theorem dX10_clear_22 : decode cX10_clear 22 = .ok (.istore_n 3, 1) := by decide +kernel
set_option maxRecDepth 100000 in
theorem dX10_clear_23 : decode cX10_clear 23 = .ok (.iload_n 3, 1) := by decide +kernel
set_option maxRecDepth 100000 in
theorem dX10_clear_24 : decode cX10_clear 24 = .ok (.bipush 6, 2) := by decide +kernel
set_option maxRecDepth 100000 in
theorem dX10_clear_26 : decode cX10_clear 26 = .ok (.if_icmp .ge 16, 3) := by decide +kernel
set_option maxRecDepth 100000 in
theorem dX10_clear_29 : decode cX10_clear 29 = .ok (.aload_n 0, 1) := by decide +kernel
set_option maxRecDepth 100000 in
theorem dX10_clear_30 : decode cX10_clear 30 = .ok (.getfield 24, 3) := by decide +kernel
set_option maxRecDepth 100000 in
theorem dX10_clear_33 : decode cX10_clear 33 = .ok (.iload_n 3, 1) := by decide +kernel
set_option maxRecDepth 100000 in
theorem dX10_clear_34 : decode cX10_clear 34 = .ok (.iconst 0, 1) := by decide +kernel
set_option maxRecDepth 100000 in
theorem dX10_clear_35 : decode cX10_clear 35 = .ok (.iastore, 1) := by decide +kernel
set_option maxRecDepth 100000 in
theorem dX10_clear_36 : decode cX10_clear 36 = .ok (.iinc 3 1, 3) := by decide +kernel
set_option maxRecDepth 100000 in
theorem dX10_clear_39 : decode cX10_clear 39 = .ok (.goto (-16), 3) := by decide +kernel
set_option maxRecDepth 100000 in
theorem dX10_clear_42 : decode cX10_clear 42 = .ok (.iconst 0, 1) := by decide +kernel
set_option maxRecDepth 100000 in
theorem dX10_clear_43 : decode cX10_clear 43 = .ok (.istore_n 3, 1) := by decide +kernel
set_option maxRecDepth 100000 in
theorem dX10_clear_44 : decode cX10_clear 44 = .ok (.iload_n 3, 1) := by decide +kernel
set_option maxRecDepth 100000 in
theorem dX10_clear_45 : decode cX10_clear 45 = .ok (.iconst 2, 1) := by decide +kernel
set_option maxRecDepth 100000 in
theorem dX10_clear_46 : decode cX10_clear 46 = .ok (.if_icmp .gt 16, 3) := by decide +kernel
set_option maxRecDepth 100000 in
theorem dX10_clear_49 : decode cX10_clear 49 = .ok (.aload_n 0, 1) := by decide +kernel
set_option maxRecDepth 100000 in
theorem dX10_clear_50 : decode cX10_clear 50 = .ok (.getfield 21, 3) := by decide +kernel
set_option maxRecDepth 100000 in
theorem dX10_clear_53 : decode cX10_clear 53 = .ok (.iload_n 3, 1) := by decide +kernel
set_option maxRecDepth 100000 in
theorem dX10_clear_54 : decode cX10_clear 54 = .ok (.iconst 0, 1) := by decide +kernel
set_option maxRecDepth 100000 in
theorem dX10_clear_55 : decode cX10_clear 55 = .ok (.iastore, 1) := by decide +kernel
set_option maxRecDepth 100000 in
theorem dX10_clear_56 : decode cX10_clear 56 = .ok (.iinc 3 1, 3) := by decide +kernel
set_option maxRecDepth 100000 in
theorem dX10_clear_59 : decode cX10_clear 59 = .ok (.goto (-15), 3) := by decide +kernel
set_option maxRecDepth 100000 in
theorem dX10_clear_62 : decode cX10_clear 62 = .ok (.iconst 0, 1) := by decide +kernel
set_option maxRecDepth 100000 in
theorem dX10_clear_63 : decode cX10_clear 63 = .ok (.istore_n 3, 1) := by decide +kernel
set_option maxRecDepth 100000 in
theorem dX10_clear_64 : decode cX10_clear 64 = .ok (.iload_n 3, 1) := by decide +kernel
set_option maxRecDepth 100000 in
theorem dX10_clear_65 : decode cX10_clear 65 = .ok (.iload_n 2, 1) := by decide +kernel
set_option maxRecDepth 100000 in
theorem dX10_clear_66 : decode cX10_clear 66 = .ok (.if_icmp .ge 34, 3) := by decide +kernel
set_option maxRecDepth 100000 in
theorem dX10_clear_69 : decode cX10_clear 69 = .ok (.aload_n 1, 1) := by decide +kernel
set_option maxRecDepth 100000 in
theorem dX10_clear_70 : decode cX10_clear 70 = .ok (.getfield 43, 3) := by decide +kernel
set_option maxRecDepth 100000 in
theorem dX10_clear_73 : decode cX10_clear 73 = .ok (.iload_n 3, 1) := by decide +kernel
set_option maxRecDepth 100000 in
theorem dX10_clear_74 : decode cX10_clear 74 = .ok (.iaload, 1) := by decide +kernel
set_option maxRecDepth 100000 in
theorem dX10_clear_75 : decode cX10_clear 75 = .ok (.iconst (-1), 1) := by decide +kernel
set_option maxRecDepth 100000 in
theorem dX10_clear_76 : decode cX10_clear 76 = .ok (.if_icmp .eq 18, 3) := by decide +kernel
set_option maxRecDepth 100000 in
theorem dX10_clear_79 : decode cX10_clear 79 = .ok (.aload_n 0, 1) := by decide +kernel
set_option maxRecDepth 100000 in
theorem dX10_clear_80 : decode cX10_clear 80 = .ok (.getfield 24, 3) := by decide +kernel
set_option maxRecDepth 100000 in
theorem dX10_clear_83 : decode cX10_clear 83 = .ok (.aload_n 1, 1) := by decide +kernel
set_option maxRecDepth 100000 in
theorem dX10_clear_84 : decode cX10_clear 84 = .ok (.getfield 43, 3) := by decide +kernel
set_option maxRecDepth 100000 in
theorem dX10_clear_87 : decode cX10_clear 87 = .ok (.iload_n 3, 1) := by decide +kernel
set_option maxRecDepth 100000 in
theorem dX10_clear_88 : decode cX10_clear 88 = .ok (.iaload, 1) := by decide +kernel
set_option maxRecDepth 100000 in
theorem dX10_clear_89 : decode cX10_clear 89 = .ok (.dup2, 1) := by decide +kernel
set_option maxRecDepth 100000 in
theorem dX10_clear_90 : decode cX10_clear 90 = .ok (.iaload, 1) := by decide +kernel
set_option maxRecDepth 100000 in
theorem dX10_clear_91 : decode cX10_clear 91 = .ok (.iconst 1, 1) := by decide +kernel
set_option maxRecDepth 100000 in
theorem dX10_clear_92 : decode cX10_clear 92 = .ok (.iadd, 1) := by decide +kernel
set_option maxRecDepth 100000 in
theorem dX10_clear_93 : decode cX10_clear 93 = .ok (.iastore, 1) := by decide +kernel
set_option maxRecDepth 100000 in
theorem dX10_clear_94 : decode cX10_clear 94 = .ok (.iinc 3 1, 3) := by decide +kernel
set_option maxRecDepth 100000 in
theorem dX10_clear_97 : decode cX10_clear 97 = .ok (.goto (-33), 3) := by decide +kernel
set_option maxRecDepth 100000 in
theorem dX10_clear_100 : decode cX10_clear 100 = .ok (.return_, 1) := by decide +kernel
set_option maxRecDepth 100000 in
theorem dX10_choice_0 : decode cX10_choice 0 = .ok (.iload_n 0, 1) := by decide +kernel
set_option maxRecDepth 100000 in
theorem dX10_choice_1 : decode cX10_choice 1 = .ok (.ifCond .ne 9, 3) := by decide +kernel
set_option maxRecDepth 100000 in
theorem dX10_choice_4 : decode cX10_choice 4 = .ok (.iload_n 1, 1) := by decide +kernel
set_option maxRecDepth 100000 in
theorem dX10_choice_5 : decode cX10_choice 5 = .ok (.ifCond .ne 5, 3) := by decide +kernel
set_option maxRecDepth 100000 in
theorem dX10_choice_8 : decode cX10_choice 8 = .ok (.iconst 2, 1) := by decide +kernel
set_option maxRecDepth 100000 in
theorem dX10_choice_9 : decode cX10_choice 9 = .ok (.ireturn, 1) := by decide +kernel
set_option maxRecDepth 100000 in
theorem dX10_choice_10 : decode cX10_choice 10 = .ok (.iload_n 0, 1) := by decide +kernel
set_option maxRecDepth 100000 in
theorem dX10_choice_11 : decode cX10_choice 11 = .ok (.iload_n 1, 1) := by decide +kernel
set_option maxRecDepth 100000 in
theorem dX10_choice_12 : decode cX10_choice 12 = .ok (.if_icmp .lt 10, 3) := by decide +kernel
set_option maxRecDepth 100000 in
theorem dX10_choice_15 : decode cX10_choice 15 = .ok (.iload_n 0, 1) := by decide +kernel
set_option maxRecDepth 100000 in
theorem dX10_choice_16 : decode cX10_choice 16 = .ok (.iload_n 2, 1) := by decide +kernel
set_option maxRecDepth 100000 in
theorem dX10_choice_17 : decode cX10_choice 17 = .ok (.if_icmp .lt 5, 3) := by decide +kernel
set_option maxRecDepth 100000 in
theorem dX10_choice_20 : decode cX10_choice 20 = .ok (.iconst 0, 1) := by decide +kernel
set_option maxRecDepth 100000 in
theorem dX10_choice_21 : decode cX10_choice 21 = .ok (.ireturn, 1) := by decide +kernel
set_option maxRecDepth 100000 in
theorem dX10_choice_22 : decode cX10_choice 22 = .ok (.iload_n 1, 1) := by decide +kernel
set_option maxRecDepth 100000 in
theorem dX10_choice_23 : decode cX10_choice 23 = .ok (.iload_n 2, 1) := by decide +kernel
set_option maxRecDepth 100000 in
theorem dX10_choice_24 : decode cX10_choice 24 = .ok (.if_icmp .lt 7, 3) := by decide +kernel
set_option maxRecDepth 100000 in
theorem dX10_choice_27 : decode cX10_choice 27 = .ok (.iconst 1, 1) := by decide +kernel
set_option maxRecDepth 100000 in
theorem dX10_choice_28 : decode cX10_choice 28 = .ok (.goto 4, 3) := by decide +kernel
set_option maxRecDepth 100000 in
theorem dX10_choice_31 : decode cX10_choice 31 = .ok (.iconst 2, 1) := by decide +kernel
set_option maxRecDepth 100000 in
theorem dX10_choice_32 : decode cX10_choice 32 = .ok (.ireturn, 1) := by decide +kernel
set_option maxRecDepth 100000 in
theorem dX10_voteOf_0 : decode cX10_voteOf 0 = .ok (.aload_n 0, 1) := by decide +kernel
set_option maxRecDepth 100000 in
theorem dX10_voteOf_1 : decode cX10_voteOf 1 = .ok (.getfield 18, 3) := by decide +kernel
set_option maxRecDepth 100000 in
theorem dX10_voteOf_4 : decode cX10_voteOf 4 = .ok (.iconst 3, 1) := by decide +kernel
set_option maxRecDepth 100000 in
theorem dX10_voteOf_5 : decode cX10_voteOf 5 = .ok (.iload_n 1, 1) := by decide +kernel
set_option maxRecDepth 100000 in
theorem dX10_voteOf_6 : decode cX10_voteOf 6 = .ok (.imul, 1) := by decide +kernel
set_option maxRecDepth 100000 in
theorem dX10_voteOf_7 : decode cX10_voteOf 7 = .ok (.iaload, 1) := by decide +kernel
set_option maxRecDepth 100000 in
theorem dX10_voteOf_8 : decode cX10_voteOf 8 = .ok (.aload_n 0, 1) := by decide +kernel
set_option maxRecDepth 100000 in
theorem dX10_voteOf_9 : decode cX10_voteOf 9 = .ok (.getfield 18, 3) := by decide +kernel
set_option maxRecDepth 100000 in
theorem dX10_voteOf_12 : decode cX10_voteOf 12 = .ok (.iconst 3, 1) := by decide +kernel
set_option maxRecDepth 100000 in
theorem dX10_voteOf_13 : decode cX10_voteOf 13 = .ok (.iload_n 1, 1) := by decide +kernel
set_option maxRecDepth 100000 in
theorem dX10_voteOf_14 : decode cX10_voteOf 14 = .ok (.imul, 1) := by decide +kernel
set_option maxRecDepth 100000 in
theorem dX10_voteOf_15 : decode cX10_voteOf 15 = .ok (.iconst 1, 1) := by decide +kernel
set_option maxRecDepth 100000 in
theorem dX10_voteOf_16 : decode cX10_voteOf 16 = .ok (.iadd, 1) := by decide +kernel
set_option maxRecDepth 100000 in
theorem dX10_voteOf_17 : decode cX10_voteOf 17 = .ok (.iaload, 1) := by decide +kernel
set_option maxRecDepth 100000 in
theorem dX10_voteOf_18 : decode cX10_voteOf 18 = .ok (.aload_n 0, 1) := by decide +kernel
set_option maxRecDepth 100000 in
theorem dX10_voteOf_19 : decode cX10_voteOf 19 = .ok (.getfield 18, 3) := by decide +kernel
set_option maxRecDepth 100000 in
theorem dX10_voteOf_22 : decode cX10_voteOf 22 = .ok (.iconst 3, 1) := by decide +kernel
set_option maxRecDepth 100000 in
theorem dX10_voteOf_23 : decode cX10_voteOf 23 = .ok (.iload_n 1, 1) := by decide +kernel
set_option maxRecDepth 100000 in
theorem dX10_voteOf_24 : decode cX10_voteOf 24 = .ok (.imul, 1) := by decide +kernel
set_option maxRecDepth 100000 in
theorem dX10_voteOf_25 : decode cX10_voteOf 25 = .ok (.iconst 2, 1) := by decide +kernel
set_option maxRecDepth 100000 in
theorem dX10_voteOf_26 : decode cX10_voteOf 26 = .ok (.iadd, 1) := by decide +kernel
set_option maxRecDepth 100000 in
theorem dX10_voteOf_27 : decode cX10_voteOf 27 = .ok (.iaload, 1) := by decide +kernel
set_option maxRecDepth 100000 in
theorem dX10_voteOf_28 : decode cX10_voteOf 28 = .ok (.invokestatic 80, 3) := by decide +kernel
set_option maxRecDepth 100000 in
theorem dX10_voteOf_31 : decode cX10_voteOf 31 = .ok (.ireturn, 1) := by decide +kernel
set_option maxRecDepth 100000 in
theorem dX10_voteOfAll_0 : decode cX10_voteOfAll 0 = .ok (.aload_n 0, 1) := by decide +kernel
set_option maxRecDepth 100000 in
theorem dX10_voteOfAll_1 : decode cX10_voteOfAll 1 = .ok (.getfield 21, 3) := by decide +kernel
set_option maxRecDepth 100000 in
theorem dX10_voteOfAll_4 : decode cX10_voteOfAll 4 = .ok (.iconst 0, 1) := by decide +kernel
set_option maxRecDepth 100000 in
theorem dX10_voteOfAll_5 : decode cX10_voteOfAll 5 = .ok (.iaload, 1) := by decide +kernel
set_option maxRecDepth 100000 in
theorem dX10_voteOfAll_6 : decode cX10_voteOfAll 6 = .ok (.aload_n 0, 1) := by decide +kernel
set_option maxRecDepth 100000 in
theorem dX10_voteOfAll_7 : decode cX10_voteOfAll 7 = .ok (.getfield 21, 3) := by decide +kernel
set_option maxRecDepth 100000 in
theorem dX10_voteOfAll_10 : decode cX10_voteOfAll 10 = .ok (.iconst 1, 1) := by decide +kernel
set_option maxRecDepth 100000 in
theorem dX10_voteOfAll_11 : decode cX10_voteOfAll 11 = .ok (.iaload, 1) := by decide +kernel
set_option maxRecDepth 100000 in
theorem dX10_voteOfAll_12 : decode cX10_voteOfAll 12 = .ok (.aload_n 0, 1) := by decide +kernel
set_option maxRecDepth 100000 in
theorem dX10_voteOfAll_13 : decode cX10_voteOfAll 13 = .ok (.getfield 21, 3) := by decide +kernel
set_option maxRecDepth 100000 in
theorem dX10_voteOfAll_16 : decode cX10_voteOfAll 16 = .ok (.iconst 2, 1) := by decide +kernel
set_option maxRecDepth 100000 in
theorem dX10_voteOfAll_17 : decode cX10_voteOfAll 17 = .ok (.iaload, 1) := by decide +kernel
set_option maxRecDepth 100000 in
theorem dX10_voteOfAll_18 : decode cX10_voteOfAll 18 = .ok (.invokestatic 80, 3) := by decide +kernel
set_option maxRecDepth 100000 in
theorem dX10_voteOfAll_21 : decode cX10_voteOfAll 21 = .ok (.ireturn, 1) := by decide +kernel
set_option maxRecDepth 100000 in
theorem dX10_voteOfHeads_0 : decode cX10_voteOfHeads 0 = .ok (.aload_n 0, 1) := by decide +kernel
set_option maxRecDepth 100000 in
theorem dX10_voteOfHeads_1 : decode cX10_voteOfHeads 1 = .ok (.invokevirtual 84, 3) := by decide +kernel
set_option maxRecDepth 100000 in
theorem dX10_voteOfHeads_4 : decode cX10_voteOfHeads 4 = .ok (.iconst 0, 1) := by decide +kernel
set_option maxRecDepth 100000 in
theorem dX10_voteOfHeads_5 : decode cX10_voteOfHeads 5 = .ok (.istore_n 2, 1) := by decide +kernel
set_option maxRecDepth 100000 in
theorem dX10_voteOfHeads_6 : decode cX10_voteOfHeads 6 = .ok (.iload_n 2, 1) := by decide +kernel
set_option maxRecDepth 100000 in
theorem dX10_voteOfHeads_7 : decode cX10_voteOfHeads 7 = .ok (.aload_n 1, 1) := by decide +kernel
set_option maxRecDepth 100000 in
theorem dX10_voteOfHeads_8 : decode cX10_voteOfHeads 8 = .ok (.getfield 87, 3) := by decide +kernel
set_option maxRecDepth 100000 in
theorem dX10_voteOfHeads_11 : decode cX10_voteOfHeads 11 = .ok (.if_icmp .ge 28, 3) := by decide +kernel
set_option maxRecDepth 100000 in
theorem dX10_voteOfHeads_14 : decode cX10_voteOfHeads 14 = .ok (.aload_n 0, 1) := by decide +kernel
set_option maxRecDepth 100000 in
theorem dX10_voteOfHeads_15 : decode cX10_voteOfHeads 15 = .ok (.getfield 27, 3) := by decide +kernel
set_option maxRecDepth 100000 in
theorem dX10_voteOfHeads_18 : decode cX10_voteOfHeads 18 = .ok (.aload_n 0, 1) := by decide +kernel
set_option maxRecDepth 100000 in
theorem dX10_voteOfHeads_19 : decode cX10_voteOfHeads 19 = .ok (.aload_n 1, 1) := by decide +kernel
set_option maxRecDepth 100000 in
theorem dX10_voteOfHeads_20 : decode cX10_voteOfHeads 20 = .ok (.getfield 90, 3) := by decide +kernel
set_option maxRecDepth 100000 in
theorem dX10_voteOfHeads_23 : decode cX10_voteOfHeads 23 = .ok (.iload_n 2, 1) := by decide +kernel
set_option maxRecDepth 100000 in
theorem dX10_voteOfHeads_24 : decode cX10_voteOfHeads 24 = .ok (.iaload, 1) := by decide +kernel
set_option maxRecDepth 100000 in
theorem dX10_voteOfHeads_25 : decode cX10_voteOfHeads 25 = .ok (.invokevirtual 93, 3) := by decide +kernel
set_option maxRecDepth 100000 in
theorem dX10_voteOfHeads_28 : decode cX10_voteOfHeads 28 = .ok (.dup2, 1) := by decide +kernel
set_option maxRecDepth 100000 in
theorem dX10_voteOfHeads_29 : decode cX10_voteOfHeads 29 = .ok (.iaload, 1) := by decide +kernel
set_option maxRecDepth 100000 in
theorem dX10_voteOfHeads_30 : decode cX10_voteOfHeads 30 = .ok (.iconst 1, 1) := by decide +kernel
set_option maxRecDepth 100000 in
theorem dX10_voteOfHeads_31 : decode cX10_voteOfHeads 31 = .ok (.iadd, 1) := by decide +kernel
set_option maxRecDepth 100000 in
theorem dX10_voteOfHeads_32 : decode cX10_voteOfHeads 32 = .ok (.iastore, 1) := by decide +kernel
set_option maxRecDepth 100000 in
theorem dX10_voteOfHeads_33 : decode cX10_voteOfHeads 33 = .ok (.iinc 2 1, 3) := by decide +kernel
set_option maxRecDepth 100000 in
theorem dX10_voteOfHeads_36 : decode cX10_voteOfHeads 36 = .ok (.goto (-30), 3) := by decide +kernel
set_option maxRecDepth 100000 in
theorem dX10_voteOfHeads_39 : decode cX10_voteOfHeads 39 = .ok (.aload_n 0, 1) := by decide +kernel
set_option maxRecDepth 100000 in
theorem dX10_voteOfHeads_40 : decode cX10_voteOfHeads 40 = .ok (.getfield 27, 3) := by decide +kernel
set_option maxRecDepth 100000 in
theorem dX10_voteOfHeads_43 : decode cX10_voteOfHeads 43 = .ok (.iconst 0, 1) := by decide +kernel
set_option maxRecDepth 100000 in
theorem dX10_voteOfHeads_44 : decode cX10_voteOfHeads 44 = .ok (.iaload, 1) := by decide +kernel
set_option maxRecDepth 100000 in
theorem dX10_voteOfHeads_45 : decode cX10_voteOfHeads 45 = .ok (.aload_n 0, 1) := by decide +kernel
set_option maxRecDepth 100000 in
theorem dX10_voteOfHeads_46 : decode cX10_voteOfHeads 46 = .ok (.getfield 27, 3) := by decide +kernel
set_option maxRecDepth 100000 in
theorem dX10_voteOfHeads_49 : decode cX10_voteOfHeads 49 = .ok (.iconst 1, 1) := by decide +kernel
set_option maxRecDepth 100000 in
theorem dX10_voteOfHeads_50 : decode cX10_voteOfHeads 50 = .ok (.iaload, 1) := by decide +kernel
set_option maxRecDepth 100000 in
theorem dX10_voteOfHeads_51 : decode cX10_voteOfHeads 51 = .ok (.aload_n 0, 1) := by decide +kernel
set_option maxRecDepth 100000 in
theorem dX10_voteOfHeads_52 : decode cX10_voteOfHeads 52 = .ok (.getfield 27, 3) := by decide +kernel
set_option maxRecDepth 100000 in
theorem dX10_voteOfHeads_55 : decode cX10_voteOfHeads 55 = .ok (.iconst 2, 1) := by decide +kernel
set_option maxRecDepth 100000 in
theorem dX10_voteOfHeads_56 : decode cX10_voteOfHeads 56 = .ok (.iaload, 1) := by decide +kernel
set_option maxRecDepth 100000 in
theorem dX10_voteOfHeads_57 : decode cX10_voteOfHeads 57 = .ok (.invokestatic 80, 3) := by decide +kernel
set_option maxRecDepth 100000 in
theorem dX10_voteOfHeads_60 : decode cX10_voteOfHeads 60 = .ok (.ireturn, 1) := by decide +kernel
set_option maxRecDepth 100000 in
theorem dX10_alongBy_0 : decode cX10_alongBy 0 = .ok (.iconst 0, 1) := by decide +kernel
set_option maxRecDepth 100000 in
theorem dX10_alongBy_1 : decode cX10_alongBy 1 = .ok (.istore_n 3, 1) := by decide +kernel
set_option maxRecDepth 100000 in
theorem dX10_alongBy_2 : decode cX10_alongBy 2 = .ok (.iload_n 3, 1) := by decide +kernel
set_option maxRecDepth 100000 in
theorem dX10_alongBy_3 : decode cX10_alongBy 3 = .ok (.aload_n 1, 1) := by decide +kernel
set_option maxRecDepth 100000 in
theorem dX10_alongBy_4 : decode cX10_alongBy 4 = .ok (.getfield 87, 3) := by decide +kernel
set_option maxRecDepth 100000 in
theorem dX10_alongBy_7 : decode cX10_alongBy 7 = .ok (.if_icmp .ge 25, 3) := by decide +kernel
set_option maxRecDepth 100000 in
theorem dX10_alongBy_10 : decode cX10_alongBy 10 = .ok (.aload_n 0, 1) := by decide +kernel
set_option maxRecDepth 100000 in
theorem dX10_alongBy_11 : decode cX10_alongBy 11 = .ok (.aload_n 1, 1) := by decide +kernel
set_option maxRecDepth 100000 in
theorem dX10_alongBy_12 : decode cX10_alongBy 12 = .ok (.getfield 90, 3) := by decide +kernel
set_option maxRecDepth 100000 in
theorem dX10_alongBy_15 : decode cX10_alongBy 15 = .ok (.iload_n 3, 1) := by decide +kernel
set_option maxRecDepth 100000 in
theorem dX10_alongBy_16 : decode cX10_alongBy 16 = .ok (.iaload, 1) := by decide +kernel
set_option maxRecDepth 100000 in
theorem dX10_alongBy_17 : decode cX10_alongBy 17 = .ok (.invokevirtual 93, 3) := by decide +kernel
set_option maxRecDepth 100000 in
theorem dX10_alongBy_20 : decode cX10_alongBy 20 = .ok (.iload_n 2, 1) := by decide +kernel
set_option maxRecDepth 100000 in
theorem dX10_alongBy_21 : decode cX10_alongBy 21 = .ok (.if_icmp .eq 5, 3) := by decide +kernel
set_option maxRecDepth 100000 in
theorem dX10_alongBy_24 : decode cX10_alongBy 24 = .ok (.iload_n 3, 1) := by decide +kernel
set_option maxRecDepth 100000 in
theorem dX10_alongBy_25 : decode cX10_alongBy 25 = .ok (.ireturn, 1) := by decide +kernel
set_option maxRecDepth 100000 in
theorem dX10_alongBy_26 : decode cX10_alongBy 26 = .ok (.iinc 3 1, 3) := by decide +kernel
set_option maxRecDepth 100000 in
theorem dX10_alongBy_29 : decode cX10_alongBy 29 = .ok (.goto (-27), 3) := by decide +kernel
set_option maxRecDepth 100000 in
theorem dX10_alongBy_32 : decode cX10_alongBy 32 = .ok (.aload_n 1, 1) := by decide +kernel
set_option maxRecDepth 100000 in
theorem dX10_alongBy_33 : decode cX10_alongBy 33 = .ok (.getfield 87, 3) := by decide +kernel
set_option maxRecDepth 100000 in
theorem dX10_alongBy_36 : decode cX10_alongBy 36 = .ok (.ireturn, 1) := by decide +kernel
set_option maxRecDepth 100000 in
theorem dX10_clearSome_0 : decode cX10_clearSome 0 = .ok (.iconst 0, 1) := by decide +kernel
set_option maxRecDepth 100000 in
theorem dX10_clearSome_1 : decode cX10_clearSome 1 = .ok (.istore_n 1, 1) := by decide +kernel
set_option maxRecDepth 100000 in
theorem dX10_clearSome_2 : decode cX10_clearSome 2 = .ok (.iload_n 1, 1) := by decide +kernel
set_option maxRecDepth 100000 in
theorem dX10_clearSome_3 : decode cX10_clearSome 3 = .ok (.iconst 2, 1) := by decide +kernel
set_option maxRecDepth 100000 in
theorem dX10_clearSome_4 : decode cX10_clearSome 4 = .ok (.if_icmp .gt 16, 3) := by decide +kernel
set_option maxRecDepth 100000 in
theorem dX10_clearSome_7 : decode cX10_clearSome 7 = .ok (.aload_n 0, 1) := by decide +kernel
set_option maxRecDepth 100000 in
theorem dX10_clearSome_8 : decode cX10_clearSome 8 = .ok (.getfield 27, 3) := by decide +kernel
set_option maxRecDepth 100000 in
theorem dX10_clearSome_11 : decode cX10_clearSome 11 = .ok (.iload_n 1, 1) := by decide +kernel
set_option maxRecDepth 100000 in
theorem dX10_clearSome_12 : decode cX10_clearSome 12 = .ok (.iconst 0, 1) := by decide +kernel
set_option maxRecDepth 100000 in
theorem dX10_clearSome_13 : decode cX10_clearSome 13 = .ok (.iastore, 1) := by decide +kernel
set_option maxRecDepth 100000 in
theorem dX10_clearSome_14 : decode cX10_clearSome 14 = .ok (.iinc 1 1, 3) := by decide +kernel
set_option maxRecDepth 100000 in
theorem dX10_clearSome_17 : decode cX10_clearSome 17 = .ok (.goto (-15), 3) := by decide +kernel
set_option maxRecDepth 100000 in
theorem dX10_clearSome_20 : decode cX10_clearSome 20 = .ok (.return_, 1) := by decide +kernel
set_option maxRecDepth 100000 in
theorem dX10_votesIn_0 : decode cX10_votesIn 0 = .ok (.iconst 0, 1) := by decide +kernel
set_option maxRecDepth 100000 in
theorem dX10_votesIn_1 : decode cX10_votesIn 1 = .ok (.istore_n 2, 1) := by decide +kernel
set_option maxRecDepth 100000 in
theorem dX10_votesIn_2 : decode cX10_votesIn 2 = .ok (.iconst 0, 1) := by decide +kernel
set_option maxRecDepth 100000 in
theorem dX10_votesIn_3 : decode cX10_votesIn 3 = .ok (.istore_n 3, 1) := by decide +kernel
set_option maxRecDepth 100000 in
theorem dX10_votesIn_4 : decode cX10_votesIn 4 = .ok (.iload_n 3, 1) := by decide +kernel
set_option maxRecDepth 100000 in
theorem dX10_votesIn_5 : decode cX10_votesIn 5 = .ok (.bipush 12, 2) := by decide +kernel
set_option maxRecDepth 100000 in
theorem dX10_votesIn_7 : decode cX10_votesIn 7 = .ok (.if_icmp .ge 37, 3) := by decide +kernel
set_option maxRecDepth 100000 in
theorem dX10_votesIn_10 : decode cX10_votesIn 10 = .ok (.iload_n 1, 1) := by decide +kernel
set_option maxRecDepth 100000 in
theorem dX10_votesIn_11 : decode cX10_votesIn 11 = .ok (.iload_n 3, 1) := by decide +kernel
set_option maxRecDepth 100000 in
theorem dX10_votesIn_12 : decode cX10_votesIn 12 = .ok (.ishr, 1) := by decide +kernel
set_option maxRecDepth 100000 in
theorem dX10_votesIn_13 : decode cX10_votesIn 13 = .ok (.ifCond .eq 31, 3) := by decide +kernel
set_option maxRecDepth 100000 in
theorem dX10_votesIn_16 : decode cX10_votesIn 16 = .ok (.iload_n 2, 1) := by decide +kernel
set_option maxRecDepth 100000 in
theorem dX10_votesIn_17 : decode cX10_votesIn 17 = .ok (.iload_n 1, 1) := by decide +kernel
set_option maxRecDepth 100000 in
theorem dX10_votesIn_18 : decode cX10_votesIn 18 = .ok (.iload_n 3, 1) := by decide +kernel
set_option maxRecDepth 100000 in
theorem dX10_votesIn_19 : decode cX10_votesIn 19 = .ok (.ishr, 1) := by decide +kernel
set_option maxRecDepth 100000 in
theorem dX10_votesIn_20 : decode cX10_votesIn 20 = .ok (.iconst 1, 1) := by decide +kernel
set_option maxRecDepth 100000 in
theorem dX10_votesIn_21 : decode cX10_votesIn 21 = .ok (.iand, 1) := by decide +kernel
set_option maxRecDepth 100000 in
theorem dX10_votesIn_22 : decode cX10_votesIn 22 = .ok (.iconst 1, 1) := by decide +kernel
set_option maxRecDepth 100000 in
theorem dX10_votesIn_23 : decode cX10_votesIn 23 = .ok (.if_icmp .ne 12, 3) := by decide +kernel
set_option maxRecDepth 100000 in
theorem dX10_votesIn_26 : decode cX10_votesIn 26 = .ok (.aload_n 0, 1) := by decide +kernel
set_option maxRecDepth 100000 in
theorem dX10_votesIn_27 : decode cX10_votesIn 27 = .ok (.getfield 9, 3) := by decide +kernel
set_option maxRecDepth 100000 in
theorem dX10_votesIn_30 : decode cX10_votesIn 30 = .ok (.iload_n 3, 1) := by decide +kernel
set_option maxRecDepth 100000 in
theorem dX10_votesIn_31 : decode cX10_votesIn 31 = .ok (.iaload, 1) := by decide +kernel
set_option maxRecDepth 100000 in
theorem dX10_votesIn_32 : decode cX10_votesIn 32 = .ok (.goto 4, 3) := by decide +kernel
set_option maxRecDepth 100000 in
theorem dX10_votesIn_35 : decode cX10_votesIn 35 = .ok (.iconst 0, 1) := by decide +kernel
set_option maxRecDepth 100000 in
theorem dX10_votesIn_36 : decode cX10_votesIn 36 = .ok (.iadd, 1) := by decide +kernel
set_option maxRecDepth 100000 in
theorem dX10_votesIn_37 : decode cX10_votesIn 37 = .ok (.istore_n 2, 1) := by decide +kernel
set_option maxRecDepth 100000 in
theorem dX10_votesIn_38 : decode cX10_votesIn 38 = .ok (.iinc 3 1, 3) := by decide +kernel
set_option maxRecDepth 100000 in
theorem dX10_votesIn_41 : decode cX10_votesIn 41 = .ok (.goto (-37), 3) := by decide +kernel
set_option maxRecDepth 100000 in
theorem dX10_votesIn_44 : decode cX10_votesIn 44 = .ok (.iload_n 2, 1) := by decide +kernel
set_option maxRecDepth 100000 in
theorem dX10_votesIn_45 : decode cX10_votesIn 45 = .ok (.ireturn, 1) := by decide +kernel
set_option maxRecDepth 100000 in
theorem dX10_othersThan_0 : decode cX10_othersThan 0 = .ok (.iconst 0, 1) := by decide +kernel
set_option maxRecDepth 100000 in
theorem dX10_othersThan_1 : decode cX10_othersThan 1 = .ok (.istore_n 2, 1) := by decide +kernel
set_option maxRecDepth 100000 in
theorem dX10_othersThan_2 : decode cX10_othersThan 2 = .ok (.iconst 0, 1) := by decide +kernel
set_option maxRecDepth 100000 in
theorem dX10_othersThan_3 : decode cX10_othersThan 3 = .ok (.istore_n 3, 1) := by decide +kernel
set_option maxRecDepth 100000 in
theorem dX10_othersThan_4 : decode cX10_othersThan 4 = .ok (.iload_n 3, 1) := by decide +kernel
set_option maxRecDepth 100000 in
theorem dX10_othersThan_5 : decode cX10_othersThan 5 = .ok (.bipush 12, 2) := by decide +kernel
set_option maxRecDepth 100000 in
theorem dX10_othersThan_7 : decode cX10_othersThan 7 = .ok (.if_icmp .ge 34, 3) := by decide +kernel
set_option maxRecDepth 100000 in
theorem dX10_othersThan_10 : decode cX10_othersThan 10 = .ok (.aload_n 0, 1) := by decide +kernel
set_option maxRecDepth 100000 in
theorem dX10_othersThan_11 : decode cX10_othersThan 11 = .ok (.getfield 15, 3) := by decide +kernel
set_option maxRecDepth 100000 in
theorem dX10_othersThan_14 : decode cX10_othersThan 14 = .ok (.iload_n 3, 1) := by decide +kernel
set_option maxRecDepth 100000 in
theorem dX10_othersThan_15 : decode cX10_othersThan 15 = .ok (.iaload, 1) := by decide +kernel
set_option maxRecDepth 100000 in
theorem dX10_othersThan_16 : decode cX10_othersThan 16 = .ok (.iload_n 1, 1) := by decide +kernel
set_option maxRecDepth 100000 in
theorem dX10_othersThan_17 : decode cX10_othersThan 17 = .ok (.if_icmp .eq 18, 3) := by decide +kernel
set_option maxRecDepth 100000 in
theorem dX10_othersThan_20 : decode cX10_othersThan 20 = .ok (.aload_n 0, 1) := by decide +kernel
set_option maxRecDepth 100000 in
theorem dX10_othersThan_21 : decode cX10_othersThan 21 = .ok (.getfield 9, 3) := by decide +kernel
set_option maxRecDepth 100000 in
theorem dX10_othersThan_24 : decode cX10_othersThan 24 = .ok (.iload_n 3, 1) := by decide +kernel
set_option maxRecDepth 100000 in
theorem dX10_othersThan_25 : decode cX10_othersThan 25 = .ok (.iaload, 1) := by decide +kernel
set_option maxRecDepth 100000 in
theorem dX10_othersThan_26 : decode cX10_othersThan 26 = .ok (.ifCond .le 9, 3) := by decide +kernel
set_option maxRecDepth 100000 in
theorem dX10_othersThan_29 : decode cX10_othersThan 29 = .ok (.iload_n 2, 1) := by decide +kernel
set_option maxRecDepth 100000 in
theorem dX10_othersThan_30 : decode cX10_othersThan 30 = .ok (.iconst 1, 1) := by decide +kernel
set_option maxRecDepth 100000 in
theorem dX10_othersThan_31 : decode cX10_othersThan 31 = .ok (.iload_n 3, 1) := by decide +kernel
set_option maxRecDepth 100000 in
theorem dX10_othersThan_32 : decode cX10_othersThan 32 = .ok (.ishl, 1) := by decide +kernel
set_option maxRecDepth 100000 in
theorem dX10_othersThan_33 : decode cX10_othersThan 33 = .ok (.ior, 1) := by decide +kernel
set_option maxRecDepth 100000 in
theorem dX10_othersThan_34 : decode cX10_othersThan 34 = .ok (.istore_n 2, 1) := by decide +kernel
set_option maxRecDepth 100000 in
theorem dX10_othersThan_35 : decode cX10_othersThan 35 = .ok (.iinc 3 1, 3) := by decide +kernel
set_option maxRecDepth 100000 in
theorem dX10_othersThan_38 : decode cX10_othersThan 38 = .ok (.goto (-34), 3) := by decide +kernel
set_option maxRecDepth 100000 in
theorem dX10_othersThan_41 : decode cX10_othersThan 41 = .ok (.iload_n 2, 1) := by decide +kernel
set_option maxRecDepth 100000 in
theorem dX10_othersThan_42 : decode cX10_othersThan 42 = .ok (.ireturn, 1) := by decide +kernel
set_option maxRecDepth 100000 in
theorem dX10_isTipping_0 : decode cX10_isTipping 0 = .ok (.aload_n 0, 1) := by decide +kernel
set_option maxRecDepth 100000 in
theorem dX10_isTipping_1 : decode cX10_isTipping 1 = .ok (.iload_n 1, 1) := by decide +kernel
set_option maxRecDepth 100000 in
theorem dX10_isTipping_2 : decode cX10_isTipping 2 = .ok (.invokevirtual 93, 3) := by decide +kernel
set_option maxRecDepth 100000 in
theorem dX10_isTipping_5 : decode cX10_isTipping 5 = .ok (.istore_n 3, 1) := by decide +kernel
set_option maxRecDepth 100000 in
theorem dX10_isTipping_6 : decode cX10_isTipping 6 = .ok (.iconst 0, 1) := by decide +kernel
set_option maxRecDepth 100000 in
theorem dX10_isTipping_7 : decode cX10_isTipping 7 = .ok (.istore 4, 2) := by decide +kernel
set_option maxRecDepth 100000 in
theorem dX10_isTipping_9 : decode cX10_isTipping 9 = .ok (.iload 4, 2) := by decide +kernel
set_option maxRecDepth 100000 in
theorem dX10_isTipping_11 : decode cX10_isTipping 11 = .ok (.iconst 2, 1) := by decide +kernel
set_option maxRecDepth 100000 in
theorem dX10_isTipping_12 : decode cX10_isTipping 12 = .ok (.if_icmp .gt 25, 3) := by decide +kernel
set_option maxRecDepth 100000 in
theorem dX10_isTipping_15 : decode cX10_isTipping 15 = .ok (.aload_n 0, 1) := by decide +kernel
set_option maxRecDepth 100000 in
theorem dX10_isTipping_16 : decode cX10_isTipping 16 = .ok (.iload_n 1, 1) := by decide +kernel
set_option maxRecDepth 100000 in
theorem dX10_isTipping_17 : decode cX10_isTipping 17 = .ok (.iconst 1, 1) := by decide +kernel
set_option maxRecDepth 100000 in
theorem dX10_isTipping_18 : decode cX10_isTipping 18 = .ok (.iload_n 2, 1) := by decide +kernel
set_option maxRecDepth 100000 in
theorem dX10_isTipping_19 : decode cX10_isTipping 19 = .ok (.ishl, 1) := by decide +kernel
set_option maxRecDepth 100000 in
theorem dX10_isTipping_20 : decode cX10_isTipping 20 = .ok (.iload 4, 2) := by decide +kernel
set_option maxRecDepth 100000 in
theorem dX10_isTipping_22 : decode cX10_isTipping 22 = .ok (.invokevirtual 96, 3) := by decide +kernel
set_option maxRecDepth 100000 in
theorem dX10_isTipping_25 : decode cX10_isTipping 25 = .ok (.iload_n 3, 1) := by decide +kernel
set_option maxRecDepth 100000 in
theorem dX10_isTipping_26 : decode cX10_isTipping 26 = .ok (.if_icmp .eq 5, 3) := by decide +kernel
set_option maxRecDepth 100000 in
theorem dX10_isTipping_29 : decode cX10_isTipping 29 = .ok (.iconst 1, 1) := by decide +kernel
set_option maxRecDepth 100000 in
theorem dX10_isTipping_30 : decode cX10_isTipping 30 = .ok (.ireturn, 1) := by decide +kernel
set_option maxRecDepth 100000 in
theorem dX10_isTipping_31 : decode cX10_isTipping 31 = .ok (.iinc 4 1, 3) := by decide +kernel
set_option maxRecDepth 100000 in
theorem dX10_isTipping_34 : decode cX10_isTipping 34 = .ok (.goto (-25), 3) := by decide +kernel
set_option maxRecDepth 100000 in
theorem dX10_isTipping_37 : decode cX10_isTipping 37 = .ok (.iconst 0, 1) := by decide +kernel
set_option maxRecDepth 100000 in
theorem dX10_isTipping_38 : decode cX10_isTipping 38 = .ok (.ireturn, 1) := by decide +kernel
set_option maxRecDepth 100000 in
theorem dX10_voteIfWon_0 : decode cX10_voteIfWon 0 = .ok (.iconst 0, 1) := by decide +kernel
set_option maxRecDepth 100000 in
theorem dX10_voteIfWon_1 : decode cX10_voteIfWon 1 = .ok (.istore 4, 2) := by decide +kernel
set_option maxRecDepth 100000 in
theorem dX10_voteIfWon_3 : decode cX10_voteIfWon 3 = .ok (.iload 4, 2) := by decide +kernel
set_option maxRecDepth 100000 in
theorem dX10_voteIfWon_5 : decode cX10_voteIfWon 5 = .ok (.iconst 2, 1) := by decide +kernel
set_option maxRecDepth 100000 in
theorem dX10_voteIfWon_6 : decode cX10_voteIfWon 6 = .ok (.if_icmp .gt 27, 3) := by decide +kernel
set_option maxRecDepth 100000 in
theorem dX10_voteIfWon_9 : decode cX10_voteIfWon 9 = .ok (.aload_n 0, 1) := by decide +kernel
set_option maxRecDepth 100000 in
theorem dX10_voteIfWon_10 : decode cX10_voteIfWon 10 = .ok (.getfield 27, 3) := by decide +kernel
set_option maxRecDepth 100000 in
theorem dX10_voteIfWon_13 : decode cX10_voteIfWon 13 = .ok (.iload 4, 2) := by decide +kernel
set_option maxRecDepth 100000 in
theorem dX10_voteIfWon_15 : decode cX10_voteIfWon 15 = .ok (.aload_n 0, 1) := by decide +kernel
set_option maxRecDepth 100000 in
theorem dX10_voteIfWon_16 : decode cX10_voteIfWon 16 = .ok (.getfield 18, 3) := by decide +kernel
set_option maxRecDepth 100000 in
theorem dX10_voteIfWon_19 : decode cX10_voteIfWon 19 = .ok (.iconst 3, 1) := by decide +kernel
set_option maxRecDepth 100000 in
theorem dX10_voteIfWon_20 : decode cX10_voteIfWon 20 = .ok (.iload_n 1, 1) := by decide +kernel
set_option maxRecDepth 100000 in
theorem dX10_voteIfWon_21 : decode cX10_voteIfWon 21 = .ok (.imul, 1) := by decide +kernel
set_option maxRecDepth 100000 in
theorem dX10_voteIfWon_22 : decode cX10_voteIfWon 22 = .ok (.iload 4, 2) := by decide +kernel
set_option maxRecDepth 100000 in
theorem dX10_voteIfWon_24 : decode cX10_voteIfWon 24 = .ok (.iadd, 1) := by decide +kernel
set_option maxRecDepth 100000 in
theorem dX10_voteIfWon_25 : decode cX10_voteIfWon 25 = .ok (.iaload, 1) := by decide +kernel
set_option maxRecDepth 100000 in
theorem dX10_voteIfWon_26 : decode cX10_voteIfWon 26 = .ok (.iastore, 1) := by decide +kernel
set_option maxRecDepth 100000 in
theorem dX10_voteIfWon_27 : decode cX10_voteIfWon 27 = .ok (.iinc 4 1, 3) := by decide +kernel
set_option maxRecDepth 100000 in
theorem dX10_voteIfWon_30 : decode cX10_voteIfWon 30 = .ok (.goto (-27), 3) := by decide +kernel
set_option maxRecDepth 100000 in
theorem dX10_voteIfWon_33 : decode cX10_voteIfWon 33 = .ok (.iconst 0, 1) := by decide +kernel
set_option maxRecDepth 100000 in
theorem dX10_voteIfWon_34 : decode cX10_voteIfWon 34 = .ok (.istore 4, 2) := by decide +kernel
set_option maxRecDepth 100000 in
theorem dX10_voteIfWon_36 : decode cX10_voteIfWon 36 = .ok (.iload 4, 2) := by decide +kernel
set_option maxRecDepth 100000 in
theorem dX10_voteIfWon_38 : decode cX10_voteIfWon 38 = .ok (.bipush 12, 2) := by decide +kernel
set_option maxRecDepth 100000 in
theorem dX10_voteIfWon_40 : decode cX10_voteIfWon 40 = .ok (.if_icmp .ge 75, 3) := by decide +kernel
set_option maxRecDepth 100000 in
theorem dX10_voteIfWon_43 : decode cX10_voteIfWon 43 = .ok (.iload_n 2, 1) := by decide +kernel
set_option maxRecDepth 100000 in
theorem dX10_voteIfWon_44 : decode cX10_voteIfWon 44 = .ok (.iload 4, 2) := by decide +kernel
set_option maxRecDepth 100000 in
theorem dX10_voteIfWon_46 : decode cX10_voteIfWon 46 = .ok (.ishr, 1) := by decide +kernel
set_option maxRecDepth 100000 in
theorem dX10_voteIfWon_47 : decode cX10_voteIfWon 47 = .ok (.ifCond .eq 68, 3) := by decide +kernel
set_option maxRecDepth 100000 in
theorem dX10_voteIfWon_50 : decode cX10_voteIfWon 50 = .ok (.iload_n 2, 1) := by decide +kernel
set_option maxRecDepth 100000 in
theorem dX10_voteIfWon_51 : decode cX10_voteIfWon 51 = .ok (.iload 4, 2) := by decide +kernel
set_option maxRecDepth 100000 in
theorem dX10_voteIfWon_53 : decode cX10_voteIfWon 53 = .ok (.ishr, 1) := by decide +kernel
set_option maxRecDepth 100000 in
theorem dX10_voteIfWon_54 : decode cX10_voteIfWon 54 = .ok (.iconst 1, 1) := by decide +kernel
set_option maxRecDepth 100000 in
theorem dX10_voteIfWon_55 : decode cX10_voteIfWon 55 = .ok (.iand, 1) := by decide +kernel
set_option maxRecDepth 100000 in
theorem dX10_voteIfWon_56 : decode cX10_voteIfWon 56 = .ok (.iconst 1, 1) := by decide +kernel
set_option maxRecDepth 100000 in
theorem dX10_voteIfWon_57 : decode cX10_voteIfWon 57 = .ok (.if_icmp .ne 52, 3) := by decide +kernel
set_option maxRecDepth 100000 in
theorem dX10_voteIfWon_60 : decode cX10_voteIfWon 60 = .ok (.aload_n 0, 1) := by decide +kernel
set_option maxRecDepth 100000 in
theorem dX10_voteIfWon_61 : decode cX10_voteIfWon 61 = .ok (.getfield 15, 3) := by decide +kernel
set_option maxRecDepth 100000 in
theorem dX10_voteIfWon_64 : decode cX10_voteIfWon 64 = .ok (.iload 4, 2) := by decide +kernel
set_option maxRecDepth 100000 in
theorem dX10_voteIfWon_66 : decode cX10_voteIfWon 66 = .ok (.iaload, 1) := by decide +kernel
set_option maxRecDepth 100000 in
theorem dX10_voteIfWon_67 : decode cX10_voteIfWon 67 = .ok (.iconst (-1), 1) := by decide +kernel
set_option maxRecDepth 100000 in
theorem dX10_voteIfWon_68 : decode cX10_voteIfWon 68 = .ok (.if_icmp .eq 41, 3) := by decide +kernel
set_option maxRecDepth 100000 in
theorem dX10_voteIfWon_71 : decode cX10_voteIfWon 71 = .ok (.aload_n 0, 1) := by decide +kernel
set_option maxRecDepth 100000 in
theorem dX10_voteIfWon_72 : decode cX10_voteIfWon 72 = .ok (.getfield 27, 3) := by decide +kernel
set_option maxRecDepth 100000 in
theorem dX10_voteIfWon_75 : decode cX10_voteIfWon 75 = .ok (.aload_n 0, 1) := by decide +kernel
set_option maxRecDepth 100000 in
theorem dX10_voteIfWon_76 : decode cX10_voteIfWon 76 = .ok (.getfield 15, 3) := by decide +kernel
set_option maxRecDepth 100000 in
theorem dX10_voteIfWon_79 : decode cX10_voteIfWon 79 = .ok (.iload 4, 2) := by decide +kernel
set_option maxRecDepth 100000 in
theorem dX10_voteIfWon_81 : decode cX10_voteIfWon 81 = .ok (.iaload, 1) := by decide +kernel
set_option maxRecDepth 100000 in
theorem dX10_voteIfWon_82 : decode cX10_voteIfWon 82 = .ok (.dup2, 1) := by decide +kernel
set_option maxRecDepth 100000 in
theorem dX10_voteIfWon_83 : decode cX10_voteIfWon 83 = .ok (.iaload, 1) := by decide +kernel
set_option maxRecDepth 100000 in
theorem dX10_voteIfWon_84 : decode cX10_voteIfWon 84 = .ok (.aload_n 0, 1) := by decide +kernel
set_option maxRecDepth 100000 in
theorem dX10_voteIfWon_85 : decode cX10_voteIfWon 85 = .ok (.getfield 9, 3) := by decide +kernel
set_option maxRecDepth 100000 in
theorem dX10_voteIfWon_88 : decode cX10_voteIfWon 88 = .ok (.iload 4, 2) := by decide +kernel
set_option maxRecDepth 100000 in
theorem dX10_voteIfWon_90 : decode cX10_voteIfWon 90 = .ok (.iaload, 1) := by decide +kernel
set_option maxRecDepth 100000 in
theorem dX10_voteIfWon_91 : decode cX10_voteIfWon 91 = .ok (.isub, 1) := by decide +kernel
set_option maxRecDepth 100000 in
theorem dX10_voteIfWon_92 : decode cX10_voteIfWon 92 = .ok (.iastore, 1) := by decide +kernel
set_option maxRecDepth 100000 in
theorem dX10_voteIfWon_93 : decode cX10_voteIfWon 93 = .ok (.aload_n 0, 1) := by decide +kernel
set_option maxRecDepth 100000 in
theorem dX10_voteIfWon_94 : decode cX10_voteIfWon 94 = .ok (.getfield 27, 3) := by decide +kernel
set_option maxRecDepth 100000 in
theorem dX10_voteIfWon_97 : decode cX10_voteIfWon 97 = .ok (.iload_n 3, 1) := by decide +kernel
set_option maxRecDepth 100000 in
theorem dX10_voteIfWon_98 : decode cX10_voteIfWon 98 = .ok (.dup2, 1) := by decide +kernel
set_option maxRecDepth 100000 in
theorem dX10_voteIfWon_99 : decode cX10_voteIfWon 99 = .ok (.iaload, 1) := by decide +kernel
set_option maxRecDepth 100000 in
theorem dX10_voteIfWon_100 : decode cX10_voteIfWon 100 = .ok (.aload_n 0, 1) := by decide +kernel
set_option maxRecDepth 100000 in
theorem dX10_voteIfWon_101 : decode cX10_voteIfWon 101 = .ok (.getfield 9, 3) := by decide +kernel
set_option maxRecDepth 100000 in
theorem dX10_voteIfWon_104 : decode cX10_voteIfWon 104 = .ok (.iload 4, 2) := by decide +kernel
set_option maxRecDepth 100000 in
theorem dX10_voteIfWon_106 : decode cX10_voteIfWon 106 = .ok (.iaload, 1) := by decide +kernel
set_option maxRecDepth 100000 in
theorem dX10_voteIfWon_107 : decode cX10_voteIfWon 107 = .ok (.iadd, 1) := by decide +kernel
set_option maxRecDepth 100000 in
theorem dX10_voteIfWon_108 : decode cX10_voteIfWon 108 = .ok (.iastore, 1) := by decide +kernel
set_option maxRecDepth 100000 in
theorem dX10_voteIfWon_109 : decode cX10_voteIfWon 109 = .ok (.iinc 4 1, 3) := by decide +kernel
set_option maxRecDepth 100000 in
theorem dX10_voteIfWon_112 : decode cX10_voteIfWon 112 = .ok (.goto (-76), 3) := by decide +kernel
set_option maxRecDepth 100000 in
theorem dX10_voteIfWon_115 : decode cX10_voteIfWon 115 = .ok (.aload_n 0, 1) := by decide +kernel
set_option maxRecDepth 100000 in
theorem dX10_voteIfWon_116 : decode cX10_voteIfWon 116 = .ok (.getfield 27, 3) := by decide +kernel
set_option maxRecDepth 100000 in
theorem dX10_voteIfWon_119 : decode cX10_voteIfWon 119 = .ok (.iconst 0, 1) := by decide +kernel
set_option maxRecDepth 100000 in
theorem dX10_voteIfWon_120 : decode cX10_voteIfWon 120 = .ok (.iaload, 1) := by decide +kernel
set_option maxRecDepth 100000 in
theorem dX10_voteIfWon_121 : decode cX10_voteIfWon 121 = .ok (.aload_n 0, 1) := by decide +kernel
set_option maxRecDepth 100000 in
theorem dX10_voteIfWon_122 : decode cX10_voteIfWon 122 = .ok (.getfield 27, 3) := by decide +kernel
set_option maxRecDepth 100000 in
theorem dX10_voteIfWon_125 : decode cX10_voteIfWon 125 = .ok (.iconst 1, 1) := by decide +kernel
set_option maxRecDepth 100000 in
theorem dX10_voteIfWon_126 : decode cX10_voteIfWon 126 = .ok (.iaload, 1) := by decide +kernel
set_option maxRecDepth 100000 in
theorem dX10_voteIfWon_127 : decode cX10_voteIfWon 127 = .ok (.aload_n 0, 1) := by decide +kernel
set_option maxRecDepth 100000 in
theorem dX10_voteIfWon_128 : decode cX10_voteIfWon 128 = .ok (.getfield 27, 3) := by decide +kernel
set_option maxRecDepth 100000 in
theorem dX10_voteIfWon_131 : decode cX10_voteIfWon 131 = .ok (.iconst 2, 1) := by decide +kernel
set_option maxRecDepth 100000 in
theorem dX10_voteIfWon_132 : decode cX10_voteIfWon 132 = .ok (.iaload, 1) := by decide +kernel
set_option maxRecDepth 100000 in
theorem dX10_voteIfWon_133 : decode cX10_voteIfWon 133 = .ok (.invokestatic 80, 3) := by decide +kernel
set_option maxRecDepth 100000 in
theorem dX10_voteIfWon_136 : decode cX10_voteIfWon 136 = .ok (.ireturn, 1) := by decide +kernel
set_option maxRecDepth 100000 in
theorem dX10_voteAmong_0 : decode cX10_voteAmong 0 = .ok (.aload_n 0, 1) := by decide +kernel
set_option maxRecDepth 100000 in
theorem dX10_voteAmong_1 : decode cX10_voteAmong 1 = .ok (.invokevirtual 84, 3) := by decide +kernel
set_option maxRecDepth 100000 in
theorem dX10_voteAmong_4 : decode cX10_voteAmong 4 = .ok (.iconst 0, 1) := by decide +kernel
set_option maxRecDepth 100000 in
theorem dX10_voteAmong_5 : decode cX10_voteAmong 5 = .ok (.istore_n 2, 1) := by decide +kernel
set_option maxRecDepth 100000 in
theorem dX10_voteAmong_6 : decode cX10_voteAmong 6 = .ok (.iload_n 2, 1) := by decide +kernel
set_option maxRecDepth 100000 in
theorem dX10_voteAmong_7 : decode cX10_voteAmong 7 = .ok (.bipush 12, 2) := by decide +kernel
set_option maxRecDepth 100000 in
theorem dX10_voteAmong_9 : decode cX10_voteAmong 9 = .ok (.if_icmp .ge 54, 3) := by decide +kernel
set_option maxRecDepth 100000 in
theorem dX10_voteAmong_12 : decode cX10_voteAmong 12 = .ok (.iload_n 1, 1) := by decide +kernel
set_option maxRecDepth 100000 in
theorem dX10_voteAmong_13 : decode cX10_voteAmong 13 = .ok (.iload_n 2, 1) := by decide +kernel
set_option maxRecDepth 100000 in
theorem dX10_voteAmong_14 : decode cX10_voteAmong 14 = .ok (.ishr, 1) := by decide +kernel
set_option maxRecDepth 100000 in
theorem dX10_voteAmong_15 : decode cX10_voteAmong 15 = .ok (.ifCond .eq 48, 3) := by decide +kernel
set_option maxRecDepth 100000 in
theorem dX10_voteAmong_18 : decode cX10_voteAmong 18 = .ok (.iload_n 1, 1) := by decide +kernel
set_option maxRecDepth 100000 in
theorem dX10_voteAmong_19 : decode cX10_voteAmong 19 = .ok (.iload_n 2, 1) := by decide +kernel
set_option maxRecDepth 100000 in
theorem dX10_voteAmong_20 : decode cX10_voteAmong 20 = .ok (.ishr, 1) := by decide +kernel
set_option maxRecDepth 100000 in
theorem dX10_voteAmong_21 : decode cX10_voteAmong 21 = .ok (.iconst 1, 1) := by decide +kernel
set_option maxRecDepth 100000 in
theorem dX10_voteAmong_22 : decode cX10_voteAmong 22 = .ok (.iand, 1) := by decide +kernel
set_option maxRecDepth 100000 in
theorem dX10_voteAmong_23 : decode cX10_voteAmong 23 = .ok (.iconst 1, 1) := by decide +kernel
set_option maxRecDepth 100000 in
theorem dX10_voteAmong_24 : decode cX10_voteAmong 24 = .ok (.if_icmp .ne 33, 3) := by decide +kernel
set_option maxRecDepth 100000 in
theorem dX10_voteAmong_27 : decode cX10_voteAmong 27 = .ok (.aload_n 0, 1) := by decide +kernel
set_option maxRecDepth 100000 in
theorem dX10_voteAmong_28 : decode cX10_voteAmong 28 = .ok (.getfield 15, 3) := by decide +kernel
set_option maxRecDepth 100000 in
theorem dX10_voteAmong_31 : decode cX10_voteAmong 31 = .ok (.iload_n 2, 1) := by decide +kernel
set_option maxRecDepth 100000 in
theorem dX10_voteAmong_32 : decode cX10_voteAmong 32 = .ok (.iaload, 1) := by decide +kernel
set_option maxRecDepth 100000 in
theorem dX10_voteAmong_33 : decode cX10_voteAmong 33 = .ok (.iconst (-1), 1) := by decide +kernel
set_option maxRecDepth 100000 in
theorem dX10_voteAmong_34 : decode cX10_voteAmong 34 = .ok (.if_icmp .eq 23, 3) := by decide +kernel
set_option maxRecDepth 100000 in
theorem dX10_voteAmong_37 : decode cX10_voteAmong 37 = .ok (.aload_n 0, 1) := by decide +kernel
set_option maxRecDepth 100000 in
theorem dX10_voteAmong_38 : decode cX10_voteAmong 38 = .ok (.getfield 27, 3) := by decide +kernel
set_option maxRecDepth 100000 in
theorem dX10_voteAmong_41 : decode cX10_voteAmong 41 = .ok (.aload_n 0, 1) := by decide +kernel
set_option maxRecDepth 100000 in
theorem dX10_voteAmong_42 : decode cX10_voteAmong 42 = .ok (.getfield 15, 3) := by decide +kernel
set_option maxRecDepth 100000 in
theorem dX10_voteAmong_45 : decode cX10_voteAmong 45 = .ok (.iload_n 2, 1) := by decide +kernel
set_option maxRecDepth 100000 in
theorem dX10_voteAmong_46 : decode cX10_voteAmong 46 = .ok (.iaload, 1) := by decide +kernel
set_option maxRecDepth 100000 in
theorem dX10_voteAmong_47 : decode cX10_voteAmong 47 = .ok (.dup2, 1) := by decide +kernel
set_option maxRecDepth 100000 in
theorem dX10_voteAmong_48 : decode cX10_voteAmong 48 = .ok (.iaload, 1) := by decide +kernel
set_option maxRecDepth 100000 in
theorem dX10_voteAmong_49 : decode cX10_voteAmong 49 = .ok (.aload_n 0, 1) := by decide +kernel
set_option maxRecDepth 100000 in
theorem dX10_voteAmong_50 : decode cX10_voteAmong 50 = .ok (.getfield 9, 3) := by decide +kernel
set_option maxRecDepth 100000 in
theorem dX10_voteAmong_53 : decode cX10_voteAmong 53 = .ok (.iload_n 2, 1) := by decide +kernel
set_option maxRecDepth 100000 in
theorem dX10_voteAmong_54 : decode cX10_voteAmong 54 = .ok (.iaload, 1) := by decide +kernel
set_option maxRecDepth 100000 in
theorem dX10_voteAmong_55 : decode cX10_voteAmong 55 = .ok (.iadd, 1) := by decide +kernel
set_option maxRecDepth 100000 in
theorem dX10_voteAmong_56 : decode cX10_voteAmong 56 = .ok (.iastore, 1) := by decide +kernel
set_option maxRecDepth 100000 in
theorem dX10_voteAmong_57 : decode cX10_voteAmong 57 = .ok (.iinc 2 1, 3) := by decide +kernel
set_option maxRecDepth 100000 in
theorem dX10_voteAmong_60 : decode cX10_voteAmong 60 = .ok (.goto (-54), 3) := by decide +kernel
set_option maxRecDepth 100000 in
theorem dX10_voteAmong_63 : decode cX10_voteAmong 63 = .ok (.aload_n 0, 1) := by decide +kernel
set_option maxRecDepth 100000 in
theorem dX10_voteAmong_64 : decode cX10_voteAmong 64 = .ok (.getfield 27, 3) := by decide +kernel
set_option maxRecDepth 100000 in
theorem dX10_voteAmong_67 : decode cX10_voteAmong 67 = .ok (.iconst 0, 1) := by decide +kernel
set_option maxRecDepth 100000 in
theorem dX10_voteAmong_68 : decode cX10_voteAmong 68 = .ok (.iaload, 1) := by decide +kernel
set_option maxRecDepth 100000 in
theorem dX10_voteAmong_69 : decode cX10_voteAmong 69 = .ok (.aload_n 0, 1) := by decide +kernel
set_option maxRecDepth 100000 in
theorem dX10_voteAmong_70 : decode cX10_voteAmong 70 = .ok (.getfield 27, 3) := by decide +kernel
set_option maxRecDepth 100000 in
theorem dX10_voteAmong_73 : decode cX10_voteAmong 73 = .ok (.iconst 1, 1) := by decide +kernel
set_option maxRecDepth 100000 in
theorem dX10_voteAmong_74 : decode cX10_voteAmong 74 = .ok (.iaload, 1) := by decide +kernel
set_option maxRecDepth 100000 in
theorem dX10_voteAmong_75 : decode cX10_voteAmong 75 = .ok (.aload_n 0, 1) := by decide +kernel
set_option maxRecDepth 100000 in
theorem dX10_voteAmong_76 : decode cX10_voteAmong 76 = .ok (.getfield 27, 3) := by decide +kernel
set_option maxRecDepth 100000 in
theorem dX10_voteAmong_79 : decode cX10_voteAmong 79 = .ok (.iconst 2, 1) := by decide +kernel
set_option maxRecDepth 100000 in
theorem dX10_voteAmong_80 : decode cX10_voteAmong 80 = .ok (.iaload, 1) := by decide +kernel
set_option maxRecDepth 100000 in
theorem dX10_voteAmong_81 : decode cX10_voteAmong 81 = .ok (.invokestatic 80, 3) := by decide +kernel
set_option maxRecDepth 100000 in
theorem dX10_voteAmong_84 : decode cX10_voteAmong 84 = .ok (.ireturn, 1) := by decide +kernel

set_option maxRecDepth 100000 in
theorem dX11_init_0 : decode cX11_init 0 = .ok (.aload_n 0, 1) := by decide +kernel
set_option maxRecDepth 100000 in
theorem dX11_init_1 : decode cX11_init 1 = .ok (.invokespecial 1, 3) := by decide +kernel
set_option maxRecDepth 100000 in
theorem dX11_init_4 : decode cX11_init 4 = .ok (.aload_n 0, 1) := by decide +kernel
set_option maxRecDepth 100000 in
theorem dX11_init_5 : decode cX11_init 5 = .ok (.new 7, 3) := by decide +kernel
set_option maxRecDepth 100000 in
theorem dX11_init_8 : decode cX11_init 8 = .ok (.dup, 1) := by decide +kernel
set_option maxRecDepth 100000 in
theorem dX11_init_9 : decode cX11_init 9 = .ok (.invokespecial 9, 3) := by decide +kernel
set_option maxRecDepth 100000 in
theorem dX11_init_12 : decode cX11_init 12 = .ok (.putfield 10, 3) := by decide +kernel
set_option maxRecDepth 100000 in
theorem dX11_init_15 : decode cX11_init 15 = .ok (.aload_n 0, 1) := by decide +kernel
set_option maxRecDepth 100000 in
theorem dX11_init_16 : decode cX11_init 16 = .ok (.new 16, 3) := by decide +kernel
set_option maxRecDepth 100000 in
theorem dX11_init_19 : decode cX11_init 19 = .ok (.dup, 1) := by decide +kernel
set_option maxRecDepth 100000 in
theorem dX11_init_20 : decode cX11_init 20 = .ok (.invokespecial 18, 3) := by decide +kernel
set_option maxRecDepth 100000 in
theorem dX11_init_23 : decode cX11_init 23 = .ok (.putfield 19, 3) := by decide +kernel
set_option maxRecDepth 100000 in
theorem dX11_init_26 : decode cX11_init 26 = .ok (.aload_n 0, 1) := by decide +kernel
set_option maxRecDepth 100000 in
theorem dX11_init_27 : decode cX11_init 27 = .ok (.new 16, 3) := by decide +kernel
set_option maxRecDepth 100000 in
theorem dX11_init_30 : decode cX11_init 30 = .ok (.dup, 1) := by decide +kernel
set_option maxRecDepth 100000 in
theorem dX11_init_31 : decode cX11_init 31 = .ok (.invokespecial 18, 3) := by decide +kernel
set_option maxRecDepth 100000 in
theorem dX11_init_34 : decode cX11_init 34 = .ok (.putfield 23, 3) := by decide +kernel
set_option maxRecDepth 100000 in
theorem dX11_init_37 : decode cX11_init 37 = .ok (.aload_n 0, 1) := by decide +kernel
set_option maxRecDepth 100000 in
theorem dX11_init_38 : decode cX11_init 38 = .ok (.new 26, 3) := by decide +kernel
set_option maxRecDepth 100000 in
theorem dX11_init_41 : decode cX11_init 41 = .ok (.dup, 1) := by decide +kernel
set_option maxRecDepth 100000 in
theorem dX11_init_42 : decode cX11_init 42 = .ok (.invokespecial 28, 3) := by decide +kernel
set_option maxRecDepth 100000 in
theorem dX11_init_45 : decode cX11_init 45 = .ok (.putfield 29, 3) := by decide +kernel
set_option maxRecDepth 100000 in
theorem dX11_init_48 : decode cX11_init 48 = .ok (.aload_n 0, 1) := by decide +kernel
set_option maxRecDepth 100000 in
theorem dX11_init_49 : decode cX11_init 49 = .ok (.new 33, 3) := by decide +kernel
set_option maxRecDepth 100000 in
theorem dX11_init_52 : decode cX11_init 52 = .ok (.dup, 1) := by decide +kernel
set_option maxRecDepth 100000 in
theorem dX11_init_53 : decode cX11_init 53 = .ok (.invokespecial 35, 3) := by decide +kernel
set_option maxRecDepth 100000 in
theorem dX11_init_56 : decode cX11_init 56 = .ok (.putfield 36, 3) := by decide +kernel
set_option maxRecDepth 100000 in
theorem dX11_init_59 : decode cX11_init 59 = .ok (.aload_n 0, 1) := by decide +kernel
set_option maxRecDepth 100000 in
theorem dX11_init_60 : decode cX11_init 60 = .ok (.new 33, 3) := by decide +kernel
set_option maxRecDepth 100000 in
theorem dX11_init_63 : decode cX11_init 63 = .ok (.dup, 1) := by decide +kernel
set_option maxRecDepth 100000 in
theorem dX11_init_64 : decode cX11_init 64 = .ok (.invokespecial 35, 3) := by decide +kernel
set_option maxRecDepth 100000 in
theorem dX11_init_67 : decode cX11_init 67 = .ok (.putfield 40, 3) := by decide +kernel
set_option maxRecDepth 100000 in
theorem dX11_init_70 : decode cX11_init 70 = .ok (.aload_n 0, 1) := by decide +kernel
set_option maxRecDepth 100000 in
theorem dX11_init_71 : decode cX11_init 71 = .ok (.new 33, 3) := by decide +kernel
set_option maxRecDepth 100000 in
theorem dX11_init_74 : decode cX11_init 74 = .ok (.dup, 1) := by decide +kernel
set_option maxRecDepth 100000 in
theorem dX11_init_75 : decode cX11_init 75 = .ok (.invokespecial 35, 3) := by decide +kernel
set_option maxRecDepth 100000 in
theorem dX11_init_78 : decode cX11_init 78 = .ok (.putfield 43, 3) := by decide +kernel
set_option maxRecDepth 100000 in
theorem dX11_init_81 : decode cX11_init 81 = .ok (.aload_n 0, 1) := by decide +kernel
set_option maxRecDepth 100000 in
theorem dX11_init_82 : decode cX11_init 82 = .ok (.new 46, 3) := by decide +kernel
set_option maxRecDepth 100000 in
theorem dX11_init_85 : decode cX11_init 85 = .ok (.dup, 1) := by decide +kernel
set_option maxRecDepth 100000 in
theorem dX11_init_86 : decode cX11_init 86 = .ok (.invokespecial 48, 3) := by decide +kernel
set_option maxRecDepth 100000 in
theorem dX11_init_89 : decode cX11_init 89 = .ok (.putfield 49, 3) := by decide +kernel
set_option maxRecDepth 100000 in
theorem dX11_init_92 : decode cX11_init 92 = .ok (.aload_n 0, 1) := by decide +kernel
set_option maxRecDepth 100000 in
theorem dX11_init_93 : decode cX11_init 93 = .ok (.new 46, 3) := by decide +kernel
set_option maxRecDepth 100000 in
theorem dX11_init_96 : decode cX11_init 96 = .ok (.dup, 1) := by decide +kernel
set_option maxRecDepth 100000 in
theorem dX11_init_97 : decode cX11_init 97 = .ok (.invokespecial 48, 3) := by decide +kernel
set_option maxRecDepth 100000 in
theorem dX11_init_100 : decode cX11_init 100 = .ok (.putfield 53, 3) := by decide +kernel
set_option maxRecDepth 100000 in
theorem dX11_init_103 : decode cX11_init 103 = .ok (.aload_n 0, 1) := by decide +kernel
set_option maxRecDepth 100000 in
theorem dX11_init_104 : decode cX11_init 104 = .ok (.new 56, 3) := by decide +kernel
set_option maxRecDepth 100000 in
theorem dX11_init_107 : decode cX11_init 107 = .ok (.dup, 1) := by decide +kernel
set_option maxRecDepth 100000 in
theorem dX11_init_108 : decode cX11_init 108 = .ok (.invokespecial 58, 3) := by decide +kernel
set_option maxRecDepth 100000 in
theorem dX11_init_111 : decode cX11_init 111 = .ok (.putfield 59, 3) := by decide +kernel
set_option maxRecDepth 100000 in
theorem dX11_init_114 : decode cX11_init 114 = .ok (.aload_n 0, 1) := by decide +kernel
set_option maxRecDepth 100000 in
theorem dX11_init_115 : decode cX11_init 115 = .ok (.new 63, 3) := by decide +kernel
set_option maxRecDepth 100000 in
theorem dX11_init_118 : decode cX11_init 118 = .ok (.dup, 1) := by decide +kernel
set_option maxRecDepth 100000 in
theorem dX11_init_119 : decode cX11_init 119 = .ok (.invokespecial 65, 3) := by decide +kernel
set_option maxRecDepth 100000 in
theorem dX11_init_122 : decode cX11_init 122 = .ok (.putfield 66, 3) := by decide +kernel
set_option maxRecDepth 100000 in
theorem dX11_init_125 : decode cX11_init 125 = .ok (.aload_n 0, 1) := by decide +kernel
set_option maxRecDepth 100000 in
theorem dX11_init_126 : decode cX11_init 126 = .ok (.new 70, 3) := by decide +kernel
set_option maxRecDepth 100000 in
theorem dX11_init_129 : decode cX11_init 129 = .ok (.dup, 1) := by decide +kernel
set_option maxRecDepth 100000 in
theorem dX11_init_130 : decode cX11_init 130 = .ok (.invokespecial 72, 3) := by decide +kernel
set_option maxRecDepth 100000 in
theorem dX11_init_133 : decode cX11_init 133 = .ok (.putfield 73, 3) := by decide +kernel
set_option maxRecDepth 100000 in
theorem dX11_init_136 : decode cX11_init 136 = .ok (.aload_n 0, 1) := by decide +kernel
set_option maxRecDepth 100000 in
theorem dX11_init_137 : decode cX11_init 137 = .ok (.new 77, 3) := by decide +kernel
set_option maxRecDepth 100000 in
theorem dX11_init_140 : decode cX11_init 140 = .ok (.dup, 1) := by decide +kernel
set_option maxRecDepth 100000 in
theorem dX11_init_141 : decode cX11_init 141 = .ok (.invokespecial 79, 3) := by decide +kernel
set_option maxRecDepth 100000 in
theorem dX11_init_144 : decode cX11_init 144 = .ok (.putfield 80, 3) := by decide +kernel
set_option maxRecDepth 100000 in
theorem dX11_init_147 : decode cX11_init 147 = .ok (.aload_n 0, 1) := by decide +kernel
set_option maxRecDepth 100000 in
theorem dX11_init_148 : decode cX11_init 148 = .ok (.new 84, 3) := by decide +kernel
set_option maxRecDepth 100000 in
theorem dX11_init_151 : decode cX11_init 151 = .ok (.dup, 1) := by decide +kernel
set_option maxRecDepth 100000 in
theorem dX11_init_152 : decode cX11_init 152 = .ok (.invokespecial 86, 3) := by decide +kernel
set_option maxRecDepth 100000 in
theorem dX11_init_155 : decode cX11_init 155 = .ok (.putfield 87, 3) := by decide +kernel
set_option maxRecDepth 100000 in
theorem dX11_init_158 : decode cX11_init 158 = .ok (.return_, 1) := by decide +kernel
set_option maxRecDepth 100000 in
theorem dX11_sign_0 : decode cX11_sign 0 = .ok (.aload_n 0, 1) := by decide +kernel
set_option maxRecDepth 100000 in
theorem dX11_sign_1 : decode cX11_sign 1 = .ok (.getfield 10, 3) := by decide +kernel
set_option maxRecDepth 100000 in
theorem dX11_sign_4 : decode cX11_sign 4 = .ok (.getfield 91, 3) := by decide +kernel
set_option maxRecDepth 100000 in
theorem dX11_sign_7 : decode cX11_sign 7 = .ok (.iconst 4, 1) := by decide +kernel
set_option maxRecDepth 100000 in
theorem dX11_sign_8 : decode cX11_sign 8 = .ok (.iadd, 1) := by decide +kernel
set_option maxRecDepth 100000 in
theorem dX11_sign_9 : decode cX11_sign 9 = .ok (.bipush 80, 2) := by decide +kernel
set_option maxRecDepth 100000 in
theorem dX11_sign_11 : decode cX11_sign 11 = .ok (.if_icmp .le 5, 3) := by decide +kernel
set_option maxRecDepth 100000 in
theorem dX11_sign_14 : decode cX11_sign 14 = .ok (.iconst (-1), 1) := by decide +kernel
set_option maxRecDepth 100000 in
theorem dX11_sign_15 : decode cX11_sign 15 = .ok (.ireturn, 1) := by decide +kernel
set_option maxRecDepth 100000 in
theorem dX11_sign_16 : decode cX11_sign 16 = .ok (.aload_n 0, 1) := by decide +kernel
set_option maxRecDepth 100000 in
theorem dX11_sign_17 : decode cX11_sign 17 = .ok (.getfield 10, 3) := by decide +kernel
set_option maxRecDepth 100000 in
theorem dX11_sign_20 : decode cX11_sign 20 = .ok (.iload_n 1, 1) := by decide +kernel
set_option maxRecDepth 100000 in
theorem dX11_sign_21 : decode cX11_sign 21 = .ok (.invokevirtual 95, 3) := by decide +kernel
set_option maxRecDepth 100000 in
theorem dX11_sign_24 : decode cX11_sign 24 = .ok (.aload_n 0, 1) := by decide +kernel
set_option maxRecDepth 100000 in
theorem dX11_sign_25 : decode cX11_sign 25 = .ok (.getfield 10, 3) := by decide +kernel
set_option maxRecDepth 100000 in
theorem dX11_sign_28 : decode cX11_sign 28 = .ok (.getfield 91, 3) := by decide +kernel
set_option maxRecDepth 100000 in
theorem dX11_sign_31 : decode cX11_sign 31 = .ok (.ireturn, 1) := by decide +kernel
set_option maxRecDepth 100000 in
theorem dX11_end_0 : decode cX11_end 0 = .ok (.iload_n 1, 1) := by decide +kernel
set_option maxRecDepth 100000 in
theorem dX11_end_1 : decode cX11_end 1 = .ok (.ifCond .lt 14, 3) := by decide +kernel
set_option maxRecDepth 100000 in
theorem dX11_end_4 : decode cX11_end 4 = .ok (.iload_n 1, 1) := by decide +kernel
set_option maxRecDepth 100000 in
theorem dX11_end_5 : decode cX11_end 5 = .ok (.aload_n 0, 1) := by decide +kernel
set_option maxRecDepth 100000 in
theorem dX11_end_6 : decode cX11_end 6 = .ok (.getfield 10, 3) := by decide +kernel
set_option maxRecDepth 100000 in
theorem dX11_end_9 : decode cX11_end 9 = .ok (.getfield 91, 3) := by decide +kernel
set_option maxRecDepth 100000 in
theorem dX11_end_12 : decode cX11_end 12 = .ok (.if_icmp .le 5, 3) := by decide +kernel
set_option maxRecDepth 100000 in
theorem dX11_end_15 : decode cX11_end 15 = .ok (.iconst 0, 1) := by decide +kernel
set_option maxRecDepth 100000 in
theorem dX11_end_16 : decode cX11_end 16 = .ok (.ireturn, 1) := by decide +kernel
set_option maxRecDepth 100000 in
theorem dX11_end_17 : decode cX11_end 17 = .ok (.aload_n 0, 1) := by decide +kernel
set_option maxRecDepth 100000 in
theorem dX11_end_18 : decode cX11_end 18 = .ok (.getfield 10, 3) := by decide +kernel
set_option maxRecDepth 100000 in
theorem dX11_end_21 : decode cX11_end 21 = .ok (.iload_n 1, 1) := by decide +kernel
set_option maxRecDepth 100000 in
theorem dX11_end_22 : decode cX11_end 22 = .ok (.putfield 91, 3) := by decide +kernel
set_option maxRecDepth 100000 in
theorem dX11_end_25 : decode cX11_end 25 = .ok (.iconst 1, 1) := by decide +kernel
set_option maxRecDepth 100000 in
theorem dX11_end_26 : decode cX11_end 26 = .ok (.ireturn, 1) := by decide +kernel
set_option maxRecDepth 100000 in
theorem dX11_net_0 : decode cX11_net 0 = .ok (.aload_n 0, 1) := by decide +kernel
set_option maxRecDepth 100000 in
theorem dX11_net_1 : decode cX11_net 1 = .ok (.getfield 10, 3) := by decide +kernel
set_option maxRecDepth 100000 in
theorem dX11_net_4 : decode cX11_net 4 = .ok (.bipush 46, 2) := by decide +kernel
set_option maxRecDepth 100000 in
theorem dX11_net_6 : decode cX11_net 6 = .ok (.invokevirtual 99, 3) := by decide +kernel
set_option maxRecDepth 100000 in
theorem dX11_net_9 : decode cX11_net 9 = .ok (.aload_n 0, 1) := by decide +kernel
set_option maxRecDepth 100000 in
theorem dX11_net_10 : decode cX11_net 10 = .ok (.getfield 23, 3) := by decide +kernel
set_option maxRecDepth 100000 in
theorem dX11_net_13 : decode cX11_net 13 = .ok (.aload_n 0, 1) := by decide +kernel
set_option maxRecDepth 100000 in
theorem dX11_net_14 : decode cX11_net 14 = .ok (.getfield 10, 3) := by decide +kernel
set_option maxRecDepth 100000 in
theorem dX11_net_17 : decode cX11_net 17 = .ok (.invokevirtual 102, 3) := by decide +kernel
set_option maxRecDepth 100000 in
theorem dX11_net_20 : decode cX11_net 20 = .ok (.istore_n 1, 1) := by decide +kernel
set_option maxRecDepth 100000 in
theorem dX11_net_21 : decode cX11_net 21 = .ok (.aload_n 0, 1) := by decide +kernel
set_option maxRecDepth 100000 in
theorem dX11_net_22 : decode cX11_net 22 = .ok (.getfield 10, 3) := by decide +kernel
set_option maxRecDepth 100000 in
theorem dX11_net_25 : decode cX11_net 25 = .ok (.iconst 0, 1) := by decide +kernel
set_option maxRecDepth 100000 in
theorem dX11_net_26 : decode cX11_net 26 = .ok (.putfield 91, 3) := by decide +kernel
set_option maxRecDepth 100000 in
theorem dX11_net_29 : decode cX11_net 29 = .ok (.iload_n 1, 1) := by decide +kernel
set_option maxRecDepth 100000 in
theorem dX11_net_30 : decode cX11_net 30 = .ok (.ifCond .le 50, 3) := by decide +kernel
set_option maxRecDepth 100000 in
theorem dX11_net_33 : decode cX11_net 33 = .ok (.aload_n 0, 1) := by decide +kernel
set_option maxRecDepth 100000 in
theorem dX11_net_34 : decode cX11_net 34 = .ok (.getfield 19, 3) := by decide +kernel
set_option maxRecDepth 100000 in
theorem dX11_net_37 : decode cX11_net 37 = .ok (.aload_n 0, 1) := by decide +kernel
set_option maxRecDepth 100000 in
theorem dX11_net_38 : decode cX11_net 38 = .ok (.getfield 23, 3) := by decide +kernel
set_option maxRecDepth 100000 in
theorem dX11_net_41 : decode cX11_net 41 = .ok (.invokevirtual 106, 3) := by decide +kernel
set_option maxRecDepth 100000 in
theorem dX11_net_44 : decode cX11_net 44 = .ok (.aload_n 0, 1) := by decide +kernel
set_option maxRecDepth 100000 in
theorem dX11_net_45 : decode cX11_net 45 = .ok (.getfield 19, 3) := by decide +kernel
set_option maxRecDepth 100000 in
theorem dX11_net_48 : decode cX11_net 48 = .ok (.invokevirtual 110, 3) := by decide +kernel
set_option maxRecDepth 100000 in
theorem dX11_net_51 : decode cX11_net 51 = .ok (.aload_n 0, 1) := by decide +kernel
set_option maxRecDepth 100000 in
theorem dX11_net_52 : decode cX11_net 52 = .ok (.getfield 36, 3) := by decide +kernel
set_option maxRecDepth 100000 in
theorem dX11_net_55 : decode cX11_net 55 = .ok (.invokevirtual 113, 3) := by decide +kernel
set_option maxRecDepth 100000 in
theorem dX11_net_58 : decode cX11_net 58 = .ok (.aload_n 0, 1) := by decide +kernel
set_option maxRecDepth 100000 in
theorem dX11_net_59 : decode cX11_net 59 = .ok (.getfield 29, 3) := by decide +kernel
set_option maxRecDepth 100000 in
theorem dX11_net_62 : decode cX11_net 62 = .ok (.iconst 0, 1) := by decide +kernel
set_option maxRecDepth 100000 in
theorem dX11_net_63 : decode cX11_net 63 = .ok (.putfield 116, 3) := by decide +kernel
set_option maxRecDepth 100000 in
theorem dX11_net_66 : decode cX11_net 66 = .ok (.aload_n 0, 1) := by decide +kernel
set_option maxRecDepth 100000 in
theorem dX11_net_67 : decode cX11_net 67 = .ok (.getfield 73, 3) := by decide +kernel
set_option maxRecDepth 100000 in
theorem dX11_net_70 : decode cX11_net 70 = .ok (.invokevirtual 119, 3) := by decide +kernel
set_option maxRecDepth 100000 in
theorem dX11_net_73 : decode cX11_net 73 = .ok (.aload_n 0, 1) := by decide +kernel
set_option maxRecDepth 100000 in
theorem dX11_net_74 : decode cX11_net 74 = .ok (.getfield 66, 3) := by decide +kernel
set_option maxRecDepth 100000 in
theorem dX11_net_77 : decode cX11_net 77 = .ok (.invokevirtual 122, 3) := by decide +kernel
set_option maxRecDepth 100000 in
theorem dX11_net_80 : decode cX11_net 80 = .ok (.iload_n 1, 1) := by decide +kernel
set_option maxRecDepth 100000 in
theorem dX11_net_81 : decode cX11_net 81 = .ok (.ireturn, 1) := by decide +kernel
set_option maxRecDepth 100000 in
theorem dX11_coaches_0 : decode cX11_coaches 0 = .ok (.aload_n 0, 1) := by decide +kernel
set_option maxRecDepth 100000 in
theorem dX11_coaches_1 : decode cX11_coaches 1 = .ok (.invokevirtual 125, 3) := by decide +kernel
set_option maxRecDepth 100000 in
theorem dX11_coaches_4 : decode cX11_coaches 4 = .ok (.istore_n 1, 1) := by decide +kernel
set_option maxRecDepth 100000 in
theorem dX11_coaches_5 : decode cX11_coaches 5 = .ok (.iconst 0, 1) := by decide +kernel
set_option maxRecDepth 100000 in
theorem dX11_coaches_6 : decode cX11_coaches 6 = .ok (.istore_n 2, 1) := by decide +kernel
set_option maxRecDepth 100000 in
theorem dX11_coaches_7 : decode cX11_coaches 7 = .ok (.iload_n 2, 1) := by decide +kernel
set_option maxRecDepth 100000 in
theorem dX11_coaches_8 : decode cX11_coaches 8 = .ok (.iload_n 1, 1) := by decide +kernel
set_option maxRecDepth 100000 in
theorem dX11_coaches_9 : decode cX11_coaches 9 = .ok (.if_icmp .ge 33, 3) := by decide +kernel
set_option maxRecDepth 100000 in
theorem dX11_coaches_12 : decode cX11_coaches 12 = .ok (.aload_n 0, 1) := by decide +kernel
set_option maxRecDepth 100000 in
theorem dX11_coaches_13 : decode cX11_coaches 13 = .ok (.getfield 36, 3) := by decide +kernel
set_option maxRecDepth 100000 in
theorem dX11_coaches_16 : decode cX11_coaches 16 = .ok (.aload_n 0, 1) := by decide +kernel
set_option maxRecDepth 100000 in
theorem dX11_coaches_17 : decode cX11_coaches 17 = .ok (.getfield 10, 3) := by decide +kernel
set_option maxRecDepth 100000 in
theorem dX11_coaches_20 : decode cX11_coaches 20 = .ok (.iload_n 2, 1) := by decide +kernel
set_option maxRecDepth 100000 in
theorem dX11_coaches_21 : decode cX11_coaches 21 = .ok (.bipush 97, 2) := by decide +kernel
set_option maxRecDepth 100000 in
theorem dX11_coaches_23 : decode cX11_coaches 23 = .ok (.aload_n 0, 1) := by decide +kernel
set_option maxRecDepth 100000 in
theorem dX11_coaches_24 : decode cX11_coaches 24 = .ok (.getfield 19, 3) := by decide +kernel
set_option maxRecDepth 100000 in
theorem dX11_coaches_27 : decode cX11_coaches 27 = .ok (.getfield 129, 3) := by decide +kernel
set_option maxRecDepth 100000 in
theorem dX11_coaches_30 : decode cX11_coaches 30 = .ok (.invokevirtual 132, 3) := by decide +kernel
set_option maxRecDepth 100000 in
theorem dX11_coaches_33 : decode cX11_coaches 33 = .ok (.invokevirtual 136, 3) := by decide +kernel
set_option maxRecDepth 100000 in
theorem dX11_coaches_36 : decode cX11_coaches 36 = .ok (.iinc 2 1, 3) := by decide +kernel
set_option maxRecDepth 100000 in
theorem dX11_coaches_39 : decode cX11_coaches 39 = .ok (.goto (-32), 3) := by decide +kernel
set_option maxRecDepth 100000 in
theorem dX11_coaches_42 : decode cX11_coaches 42 = .ok (.aload_n 0, 1) := by decide +kernel
set_option maxRecDepth 100000 in
theorem dX11_coaches_43 : decode cX11_coaches 43 = .ok (.getfield 10, 3) := by decide +kernel
set_option maxRecDepth 100000 in
theorem dX11_coaches_46 : decode cX11_coaches 46 = .ok (.iconst 0, 1) := by decide +kernel
set_option maxRecDepth 100000 in
theorem dX11_coaches_47 : decode cX11_coaches 47 = .ok (.putfield 91, 3) := by decide +kernel
set_option maxRecDepth 100000 in
theorem dX11_coaches_50 : decode cX11_coaches 50 = .ok (.iload_n 1, 1) := by decide +kernel
set_option maxRecDepth 100000 in
theorem dX11_coaches_51 : decode cX11_coaches 51 = .ok (.ifCond .le 10, 3) := by decide +kernel
set_option maxRecDepth 100000 in
theorem dX11_coaches_54 : decode cX11_coaches 54 = .ok (.aload_n 0, 1) := by decide +kernel
set_option maxRecDepth 100000 in
theorem dX11_coaches_55 : decode cX11_coaches 55 = .ok (.getfield 66, 3) := by decide +kernel
set_option maxRecDepth 100000 in
theorem dX11_coaches_58 : decode cX11_coaches 58 = .ok (.invokevirtual 122, 3) := by decide +kernel
set_option maxRecDepth 100000 in
theorem dX11_coaches_61 : decode cX11_coaches 61 = .ok (.iload_n 1, 1) := by decide +kernel
set_option maxRecDepth 100000 in
theorem dX11_coaches_62 : decode cX11_coaches 62 = .ok (.ireturn, 1) := by decide +kernel
set_option maxRecDepth 100000 in
theorem dX11_passengers_0 : decode cX11_passengers 0 = .ok (.aload_n 0, 1) := by decide +kernel
set_option maxRecDepth 100000 in
theorem dX11_passengers_1 : decode cX11_passengers 1 = .ok (.getfield 10, 3) := by decide +kernel
set_option maxRecDepth 100000 in
theorem dX11_passengers_4 : decode cX11_passengers 4 = .ok (.bipush 47, 2) := by decide +kernel
set_option maxRecDepth 100000 in
theorem dX11_passengers_6 : decode cX11_passengers 6 = .ok (.invokevirtual 99, 3) := by decide +kernel
set_option maxRecDepth 100000 in
theorem dX11_passengers_9 : decode cX11_passengers 9 = .ok (.aload_n 0, 1) := by decide +kernel
set_option maxRecDepth 100000 in
theorem dX11_passengers_10 : decode cX11_passengers 10 = .ok (.getfield 10, 3) := by decide +kernel
set_option maxRecDepth 100000 in
theorem dX11_passengers_13 : decode cX11_passengers 13 = .ok (.getfield 91, 3) := by decide +kernel
set_option maxRecDepth 100000 in
theorem dX11_passengers_16 : decode cX11_passengers 16 = .ok (.ifCond .ne 7, 3) := by decide +kernel
set_option maxRecDepth 100000 in
theorem dX11_passengers_19 : decode cX11_passengers 19 = .ok (.iconst 0, 1) := by decide +kernel
set_option maxRecDepth 100000 in
theorem dX11_passengers_20 : decode cX11_passengers 20 = .ok (.goto 7, 3) := by decide +kernel
set_option maxRecDepth 100000 in
theorem dX11_passengers_23 : decode cX11_passengers 23 = .ok (.aload_n 0, 1) := by decide +kernel
set_option maxRecDepth 100000 in
theorem dX11_passengers_24 : decode cX11_passengers 24 = .ok (.invokevirtual 139, 3) := by decide +kernel
set_option maxRecDepth 100000 in
theorem dX11_passengers_27 : decode cX11_passengers 27 = .ok (.istore_n 1, 1) := by decide +kernel
set_option maxRecDepth 100000 in
theorem dX11_passengers_28 : decode cX11_passengers 28 = .ok (.iconst 0, 1) := by decide +kernel
set_option maxRecDepth 100000 in
theorem dX11_passengers_29 : decode cX11_passengers 29 = .ok (.istore_n 2, 1) := by decide +kernel
set_option maxRecDepth 100000 in
theorem dX11_passengers_30 : decode cX11_passengers 30 = .ok (.iload_n 2, 1) := by decide +kernel
set_option maxRecDepth 100000 in
theorem dX11_passengers_31 : decode cX11_passengers 31 = .ok (.iload_n 1, 1) := by decide +kernel
set_option maxRecDepth 100000 in
theorem dX11_passengers_32 : decode cX11_passengers 32 = .ok (.if_icmp .ge 16, 3) := by decide +kernel
set_option maxRecDepth 100000 in
theorem dX11_passengers_35 : decode cX11_passengers 35 = .ok (.aload_n 0, 1) := by decide +kernel
set_option maxRecDepth 100000 in
theorem dX11_passengers_36 : decode cX11_passengers 36 = .ok (.iconst 4, 1) := by decide +kernel
set_option maxRecDepth 100000 in
theorem dX11_passengers_37 : decode cX11_passengers 37 = .ok (.iload_n 2, 1) := by decide +kernel
set_option maxRecDepth 100000 in
theorem dX11_passengers_38 : decode cX11_passengers 38 = .ok (.imul, 1) := by decide +kernel
set_option maxRecDepth 100000 in
theorem dX11_passengers_39 : decode cX11_passengers 39 = .ok (.invokevirtual 142, 3) := by decide +kernel
set_option maxRecDepth 100000 in
theorem dX11_passengers_42 : decode cX11_passengers 42 = .ok (.iinc 2 1, 3) := by decide +kernel
set_option maxRecDepth 100000 in
theorem dX11_passengers_45 : decode cX11_passengers 45 = .ok (.goto (-15), 3) := by decide +kernel
set_option maxRecDepth 100000 in
theorem dX11_passengers_48 : decode cX11_passengers 48 = .ok (.aload_n 0, 1) := by decide +kernel
set_option maxRecDepth 100000 in
theorem dX11_passengers_49 : decode cX11_passengers 49 = .ok (.getfield 10, 3) := by decide +kernel
set_option maxRecDepth 100000 in
theorem dX11_passengers_52 : decode cX11_passengers 52 = .ok (.iconst 0, 1) := by decide +kernel
set_option maxRecDepth 100000 in
theorem dX11_passengers_53 : decode cX11_passengers 53 = .ok (.putfield 91, 3) := by decide +kernel
set_option maxRecDepth 100000 in
theorem dX11_passengers_56 : decode cX11_passengers 56 = .ok (.iload_n 1, 1) := by decide +kernel
set_option maxRecDepth 100000 in
theorem dX11_passengers_57 : decode cX11_passengers 57 = .ok (.ifCond .le 22, 3) := by decide +kernel
set_option maxRecDepth 100000 in
theorem dX11_passengers_60 : decode cX11_passengers 60 = .ok (.aload_n 0, 1) := by decide +kernel
set_option maxRecDepth 100000 in
theorem dX11_passengers_61 : decode cX11_passengers 61 = .ok (.getfield 36, 3) := by decide +kernel
set_option maxRecDepth 100000 in
theorem dX11_passengers_64 : decode cX11_passengers 64 = .ok (.aload_n 0, 1) := by decide +kernel
set_option maxRecDepth 100000 in
theorem dX11_passengers_65 : decode cX11_passengers 65 = .ok (.getfield 29, 3) := by decide +kernel
set_option maxRecDepth 100000 in
theorem dX11_passengers_68 : decode cX11_passengers 68 = .ok (.invokevirtual 145, 3) := by decide +kernel
set_option maxRecDepth 100000 in
theorem dX11_passengers_71 : decode cX11_passengers 71 = .ok (.pop, 1) := by decide +kernel
set_option maxRecDepth 100000 in
theorem dX11_passengers_72 : decode cX11_passengers 72 = .ok (.aload_n 0, 1) := by decide +kernel
set_option maxRecDepth 100000 in
theorem dX11_passengers_73 : decode cX11_passengers 73 = .ok (.getfield 66, 3) := by decide +kernel
set_option maxRecDepth 100000 in
theorem dX11_passengers_76 : decode cX11_passengers 76 = .ok (.invokevirtual 122, 3) := by decide +kernel
set_option maxRecDepth 100000 in
theorem dX11_passengers_79 : decode cX11_passengers 79 = .ok (.iload_n 1, 1) := by decide +kernel
set_option maxRecDepth 100000 in
theorem dX11_passengers_80 : decode cX11_passengers 80 = .ok (.ireturn, 1) := by decide +kernel
set_option maxRecDepth 100000 in
theorem dX11_rule_0 : decode cX11_rule 0 = .ok (.aload_n 0, 1) := by decide +kernel
set_option maxRecDepth 100000 in
theorem dX11_rule_1 : decode cX11_rule 1 = .ok (.getfield 53, 3) := by decide +kernel
set_option maxRecDepth 100000 in
theorem dX11_rule_4 : decode cX11_rule 4 = .ok (.aload_n 0, 1) := by decide +kernel
set_option maxRecDepth 100000 in
theorem dX11_rule_5 : decode cX11_rule 5 = .ok (.getfield 10, 3) := by decide +kernel
set_option maxRecDepth 100000 in
theorem dX11_rule_8 : decode cX11_rule 8 = .ok (.invokevirtual 149, 3) := by decide +kernel
set_option maxRecDepth 100000 in
theorem dX11_rule_11 : decode cX11_rule 11 = .ok (.istore_n 1, 1) := by decide +kernel
set_option maxRecDepth 100000 in
theorem dX11_rule_12 : decode cX11_rule 12 = .ok (.aload_n 0, 1) := by decide +kernel
set_option maxRecDepth 100000 in
theorem dX11_rule_13 : decode cX11_rule 13 = .ok (.getfield 10, 3) := by decide +kernel
set_option maxRecDepth 100000 in
theorem dX11_rule_16 : decode cX11_rule 16 = .ok (.iconst 0, 1) := by decide +kernel
set_option maxRecDepth 100000 in
theorem dX11_rule_17 : decode cX11_rule 17 = .ok (.putfield 91, 3) := by decide +kernel
set_option maxRecDepth 100000 in
theorem dX11_rule_20 : decode cX11_rule 20 = .ok (.iload_n 1, 1) := by decide +kernel
set_option maxRecDepth 100000 in
theorem dX11_rule_21 : decode cX11_rule 21 = .ok (.ifCond .ne 14, 3) := by decide +kernel
set_option maxRecDepth 100000 in
theorem dX11_rule_24 : decode cX11_rule 24 = .ok (.aload_n 0, 1) := by decide +kernel
set_option maxRecDepth 100000 in
theorem dX11_rule_25 : decode cX11_rule 25 = .ok (.getfield 49, 3) := by decide +kernel
set_option maxRecDepth 100000 in
theorem dX11_rule_28 : decode cX11_rule 28 = .ok (.aload_n 0, 1) := by decide +kernel
set_option maxRecDepth 100000 in
theorem dX11_rule_29 : decode cX11_rule 29 = .ok (.getfield 53, 3) := by decide +kernel
set_option maxRecDepth 100000 in
theorem dX11_rule_32 : decode cX11_rule 32 = .ok (.invokevirtual 150, 3) := by decide +kernel
set_option maxRecDepth 100000 in
theorem dX11_rule_35 : decode cX11_rule 35 = .ok (.iload_n 1, 1) := by decide +kernel
set_option maxRecDepth 100000 in
theorem dX11_rule_36 : decode cX11_rule 36 = .ok (.ireturn, 1) := by decide +kernel
set_option maxRecDepth 100000 in
theorem dX11_halt_0 : decode cX11_halt 0 = .ok (.iload_n 1, 1) := by decide +kernel
set_option maxRecDepth 100000 in
theorem dX11_halt_1 : decode cX11_halt 1 = .ok (.ifCond .lt 23, 3) := by decide +kernel
set_option maxRecDepth 100000 in
theorem dX11_halt_4 : decode cX11_halt 4 = .ok (.iload_n 1, 1) := by decide +kernel
set_option maxRecDepth 100000 in
theorem dX11_halt_5 : decode cX11_halt 5 = .ok (.aload_n 0, 1) := by decide +kernel
set_option maxRecDepth 100000 in
theorem dX11_halt_6 : decode cX11_halt 6 = .ok (.getfield 19, 3) := by decide +kernel
set_option maxRecDepth 100000 in
theorem dX11_halt_9 : decode cX11_halt 9 = .ok (.getfield 129, 3) := by decide +kernel
set_option maxRecDepth 100000 in
theorem dX11_halt_12 : decode cX11_halt 12 = .ok (.if_icmp .ge 12, 3) := by decide +kernel
set_option maxRecDepth 100000 in
theorem dX11_halt_15 : decode cX11_halt 15 = .ok (.iload_n 2, 1) := by decide +kernel
set_option maxRecDepth 100000 in
theorem dX11_halt_16 : decode cX11_halt 16 = .ok (.ifCond .lt 8, 3) := by decide +kernel
set_option maxRecDepth 100000 in
theorem dX11_halt_19 : decode cX11_halt 19 = .ok (.iload_n 2, 1) := by decide +kernel
set_option maxRecDepth 100000 in
theorem dX11_halt_20 : decode cX11_halt 20 = .ok (.iconst 5, 1) := by decide +kernel
set_option maxRecDepth 100000 in
theorem dX11_halt_21 : decode cX11_halt 21 = .ok (.if_icmp .le 13, 3) := by decide +kernel
set_option maxRecDepth 100000 in
theorem dX11_halt_24 : decode cX11_halt 24 = .ok (.new 153, 3) := by decide +kernel
set_option maxRecDepth 100000 in
theorem dX11_halt_27 : decode cX11_halt 27 = .ok (.dup, 1) := by decide +kernel
set_option maxRecDepth 100000 in
theorem dX11_halt_28 : decode cX11_halt 28 = .ok (.ldc 155, 2) := by decide +kernel
set_option maxRecDepth 100000 in
theorem dX11_halt_30 : decode cX11_halt 30 = .ok (.invokespecial 157, 3) := by decide +kernel
set_option maxRecDepth 100000 in
theorem dX11_halt_33 : decode cX11_halt 33 = .ok (.athrow, 1) := by decide +kernel
set_option maxRecDepth 100000 in
theorem dX11_halt_34 : decode cX11_halt 34 = .ok (.iload_n 2, 1) := by decide +kernel
set_option maxRecDepth 100000 in
theorem dX11_halt_35 : decode cX11_halt 35 = .ok (.iconst 2, 1) := by decide +kernel
set_option maxRecDepth 100000 in
theorem dX11_halt_36 : decode cX11_halt 36 = .ok (.if_icmp .ge 17, 3) := by decide +kernel
set_option maxRecDepth 100000 in
theorem dX11_halt_39 : decode cX11_halt 39 = .ok (.aload_n 0, 1) := by decide +kernel
set_option maxRecDepth 100000 in
theorem dX11_halt_40 : decode cX11_halt 40 = .ok (.getfield 19, 3) := by decide +kernel
set_option maxRecDepth 100000 in
theorem dX11_halt_43 : decode cX11_halt 43 = .ok (.getfield 160, 3) := by decide +kernel
set_option maxRecDepth 100000 in
theorem dX11_halt_46 : decode cX11_halt 46 = .ok (.iconst 2, 1) := by decide +kernel
set_option maxRecDepth 100000 in
theorem dX11_halt_47 : decode cX11_halt 47 = .ok (.iload_n 1, 1) := by decide +kernel
set_option maxRecDepth 100000 in
theorem dX11_halt_48 : decode cX11_halt 48 = .ok (.imul, 1) := by decide +kernel
set_option maxRecDepth 100000 in
theorem dX11_halt_49 : decode cX11_halt 49 = .ok (.iload_n 2, 1) := by decide +kernel
set_option maxRecDepth 100000 in
theorem dX11_halt_50 : decode cX11_halt 50 = .ok (.iadd, 1) := by decide +kernel
set_option maxRecDepth 100000 in
theorem dX11_halt_51 : decode cX11_halt 51 = .ok (.iaload, 1) := by decide +kernel
set_option maxRecDepth 100000 in
theorem dX11_halt_52 : decode cX11_halt 52 = .ok (.ireturn, 1) := by decide +kernel
set_option maxRecDepth 100000 in
theorem dX11_halt_53 : decode cX11_halt 53 = .ok (.iload_n 2, 1) := by decide +kernel
set_option maxRecDepth 100000 in
theorem dX11_halt_54 : decode cX11_halt 54 = .ok (.iconst 4, 1) := by decide +kernel
set_option maxRecDepth 100000 in
theorem dX11_halt_55 : decode cX11_halt 55 = .ok (.if_icmp .ge 19, 3) := by decide +kernel
set_option maxRecDepth 100000 in
theorem dX11_halt_58 : decode cX11_halt 58 = .ok (.aload_n 0, 1) := by decide +kernel
set_option maxRecDepth 100000 in
theorem dX11_halt_59 : decode cX11_halt 59 = .ok (.getfield 19, 3) := by decide +kernel
set_option maxRecDepth 100000 in
theorem dX11_halt_62 : decode cX11_halt 62 = .ok (.getfield 164, 3) := by decide +kernel
set_option maxRecDepth 100000 in
theorem dX11_halt_65 : decode cX11_halt 65 = .ok (.iconst 2, 1) := by decide +kernel
set_option maxRecDepth 100000 in
theorem dX11_halt_66 : decode cX11_halt 66 = .ok (.iload_n 1, 1) := by decide +kernel
set_option maxRecDepth 100000 in
theorem dX11_halt_67 : decode cX11_halt 67 = .ok (.imul, 1) := by decide +kernel
set_option maxRecDepth 100000 in
theorem dX11_halt_68 : decode cX11_halt 68 = .ok (.iload_n 2, 1) := by decide +kernel
set_option maxRecDepth 100000 in
theorem dX11_halt_69 : decode cX11_halt 69 = .ok (.iadd, 1) := by decide +kernel
set_option maxRecDepth 100000 in
theorem dX11_halt_70 : decode cX11_halt 70 = .ok (.iconst 2, 1) := by decide +kernel
set_option maxRecDepth 100000 in
theorem dX11_halt_71 : decode cX11_halt 71 = .ok (.isub, 1) := by decide +kernel
set_option maxRecDepth 100000 in
theorem dX11_halt_72 : decode cX11_halt 72 = .ok (.iaload, 1) := by decide +kernel
set_option maxRecDepth 100000 in
theorem dX11_halt_73 : decode cX11_halt 73 = .ok (.ireturn, 1) := by decide +kernel
set_option maxRecDepth 100000 in
theorem dX11_halt_74 : decode cX11_halt 74 = .ok (.iload_n 2, 1) := by decide +kernel
set_option maxRecDepth 100000 in
theorem dX11_halt_75 : decode cX11_halt 75 = .ok (.iconst 4, 1) := by decide +kernel
set_option maxRecDepth 100000 in
theorem dX11_halt_76 : decode cX11_halt 76 = .ok (.if_icmp .ne 12, 3) := by decide +kernel
set_option maxRecDepth 100000 in
theorem dX11_halt_79 : decode cX11_halt 79 = .ok (.aload_n 0, 1) := by decide +kernel
set_option maxRecDepth 100000 in
theorem dX11_halt_80 : decode cX11_halt 80 = .ok (.getfield 36, 3) := by decide +kernel
set_option maxRecDepth 100000 in
theorem dX11_halt_83 : decode cX11_halt 83 = .ok (.iload_n 1, 1) := by decide +kernel
set_option maxRecDepth 100000 in
theorem dX11_halt_84 : decode cX11_halt 84 = .ok (.invokevirtual 167, 3) := by decide +kernel
set_option maxRecDepth 100000 in
theorem dX11_halt_87 : decode cX11_halt 87 = .ok (.ireturn, 1) := by decide +kernel
set_option maxRecDepth 100000 in
theorem dX11_halt_88 : decode cX11_halt 88 = .ok (.aload_n 0, 1) := by decide +kernel
set_option maxRecDepth 100000 in
theorem dX11_halt_89 : decode cX11_halt 89 = .ok (.getfield 36, 3) := by decide +kernel
set_option maxRecDepth 100000 in
theorem dX11_halt_92 : decode cX11_halt 92 = .ok (.getfield 171, 3) := by decide +kernel
set_option maxRecDepth 100000 in
theorem dX11_halt_95 : decode cX11_halt 95 = .ok (.iload_n 1, 1) := by decide +kernel
set_option maxRecDepth 100000 in
theorem dX11_halt_96 : decode cX11_halt 96 = .ok (.if_icmp .ne 7, 3) := by decide +kernel
set_option maxRecDepth 100000 in
theorem dX11_halt_99 : decode cX11_halt 99 = .ok (.iconst 1, 1) := by decide +kernel
set_option maxRecDepth 100000 in
theorem dX11_halt_100 : decode cX11_halt 100 = .ok (.goto 4, 3) := by decide +kernel
set_option maxRecDepth 100000 in
theorem dX11_halt_103 : decode cX11_halt 103 = .ok (.iconst 0, 1) := by decide +kernel
set_option maxRecDepth 100000 in
theorem dX11_halt_104 : decode cX11_halt 104 = .ok (.ireturn, 1) := by decide +kernel
set_option maxRecDepth 100000 in
theorem dX11_coach_0 : decode cX11_coach 0 = .ok (.aload_n 0, 1) := by decide +kernel
set_option maxRecDepth 100000 in
theorem dX11_coach_1 : decode cX11_coach 1 = .ok (.getfield 36, 3) := by decide +kernel
set_option maxRecDepth 100000 in
theorem dX11_coach_4 : decode cX11_coach 4 = .ok (.iload_n 1, 1) := by decide +kernel
set_option maxRecDepth 100000 in
theorem dX11_coach_5 : decode cX11_coach 5 = .ok (.invokevirtual 174, 3) := by decide +kernel
set_option maxRecDepth 100000 in
theorem dX11_coach_8 : decode cX11_coach 8 = .ok (.ifCond .eq 13, 3) := by decide +kernel
set_option maxRecDepth 100000 in
theorem dX11_coach_11 : decode cX11_coach 11 = .ok (.iload_n 2, 1) := by decide +kernel
set_option maxRecDepth 100000 in
theorem dX11_coach_12 : decode cX11_coach 12 = .ok (.ifCond .lt 9, 3) := by decide +kernel
set_option maxRecDepth 100000 in
theorem dX11_coach_15 : decode cX11_coach 15 = .ok (.iload_n 2, 1) := by decide +kernel
set_option maxRecDepth 100000 in
theorem dX11_coach_16 : decode cX11_coach 16 = .ok (.bipush 6, 2) := by decide +kernel
set_option maxRecDepth 100000 in
theorem dX11_coach_18 : decode cX11_coach 18 = .ok (.if_icmp .le 13, 3) := by decide +kernel
set_option maxRecDepth 100000 in
theorem dX11_coach_21 : decode cX11_coach 21 = .ok (.new 153, 3) := by decide +kernel
set_option maxRecDepth 100000 in
theorem dX11_coach_24 : decode cX11_coach 24 = .ok (.dup, 1) := by decide +kernel
set_option maxRecDepth 100000 in
theorem dX11_coach_25 : decode cX11_coach 25 = .ok (.ldc 178, 2) := by decide +kernel
set_option maxRecDepth 100000 in
theorem dX11_coach_27 : decode cX11_coach 27 = .ok (.invokespecial 157, 3) := by decide +kernel
set_option maxRecDepth 100000 in
theorem dX11_coach_30 : decode cX11_coach 30 = .ok (.athrow, 1) := by decide +kernel
set_option maxRecDepth 100000 in
theorem dX11_coach_31 : decode cX11_coach 31 = .ok (.iload_n 2, 1) := by decide +kernel
set_option maxRecDepth 100000 in
theorem dX11_coach_32 : decode cX11_coach 32 = .ok (.ifCond .ne 12, 3) := by decide +kernel
set_option maxRecDepth 100000 in
theorem dX11_coach_35 : decode cX11_coach 35 = .ok (.aload_n 0, 1) := by decide +kernel
set_option maxRecDepth 100000 in
theorem dX11_coach_36 : decode cX11_coach 36 = .ok (.getfield 36, 3) := by decide +kernel
set_option maxRecDepth 100000 in
theorem dX11_coach_39 : decode cX11_coach 39 = .ok (.iload_n 1, 1) := by decide +kernel
set_option maxRecDepth 100000 in
theorem dX11_coach_40 : decode cX11_coach 40 = .ok (.invokevirtual 180, 3) := by decide +kernel
set_option maxRecDepth 100000 in
theorem dX11_coach_43 : decode cX11_coach 43 = .ok (.ireturn, 1) := by decide +kernel
set_option maxRecDepth 100000 in
theorem dX11_coach_44 : decode cX11_coach 44 = .ok (.iload_n 2, 1) := by decide +kernel
set_option maxRecDepth 100000 in
theorem dX11_coach_45 : decode cX11_coach 45 = .ok (.iconst 1, 1) := by decide +kernel
set_option maxRecDepth 100000 in
theorem dX11_coach_46 : decode cX11_coach 46 = .ok (.if_icmp .ne 13, 3) := by decide +kernel
set_option maxRecDepth 100000 in
theorem dX11_coach_49 : decode cX11_coach 49 = .ok (.aload_n 0, 1) := by decide +kernel
set_option maxRecDepth 100000 in
theorem dX11_coach_50 : decode cX11_coach 50 = .ok (.getfield 36, 3) := by decide +kernel
set_option maxRecDepth 100000 in
theorem dX11_coach_53 : decode cX11_coach 53 = .ok (.getfield 183, 3) := by decide +kernel
set_option maxRecDepth 100000 in
theorem dX11_coach_56 : decode cX11_coach 56 = .ok (.iload_n 1, 1) := by decide +kernel
set_option maxRecDepth 100000 in
theorem dX11_coach_57 : decode cX11_coach 57 = .ok (.iaload, 1) := by decide +kernel
set_option maxRecDepth 100000 in
theorem dX11_coach_58 : decode cX11_coach 58 = .ok (.ireturn, 1) := by decide +kernel
set_option maxRecDepth 100000 in
theorem dX11_coach_59 : decode cX11_coach 59 = .ok (.iload_n 2, 1) := by decide +kernel
set_option maxRecDepth 100000 in
theorem dX11_coach_60 : decode cX11_coach 60 = .ok (.iconst 2, 1) := by decide +kernel
set_option maxRecDepth 100000 in
theorem dX11_coach_61 : decode cX11_coach 61 = .ok (.if_icmp .ne 19, 3) := by decide +kernel
set_option maxRecDepth 100000 in
theorem dX11_coach_64 : decode cX11_coach 64 = .ok (.aload_n 0, 1) := by decide +kernel
set_option maxRecDepth 100000 in
theorem dX11_coach_65 : decode cX11_coach 65 = .ok (.getfield 36, 3) := by decide +kernel
set_option maxRecDepth 100000 in
theorem dX11_coach_68 : decode cX11_coach 68 = .ok (.iload_n 1, 1) := by decide +kernel
set_option maxRecDepth 100000 in
theorem dX11_coach_69 : decode cX11_coach 69 = .ok (.aload_n 0, 1) := by decide +kernel
set_option maxRecDepth 100000 in
theorem dX11_coach_70 : decode cX11_coach 70 = .ok (.getfield 29, 3) := by decide +kernel
set_option maxRecDepth 100000 in
theorem dX11_coach_73 : decode cX11_coach 73 = .ok (.getfield 116, 3) := by decide +kernel
set_option maxRecDepth 100000 in
theorem dX11_coach_76 : decode cX11_coach 76 = .ok (.invokevirtual 186, 3) := by decide +kernel
set_option maxRecDepth 100000 in
theorem dX11_coach_79 : decode cX11_coach 79 = .ok (.ireturn, 1) := by decide +kernel
set_option maxRecDepth 100000 in
theorem dX11_coach_80 : decode cX11_coach 80 = .ok (.aload_n 0, 1) := by decide +kernel
set_option maxRecDepth 100000 in
theorem dX11_coach_81 : decode cX11_coach 81 = .ok (.invokevirtual 190, 3) := by decide +kernel
set_option maxRecDepth 100000 in
theorem dX11_coach_84 : decode cX11_coach 84 = .ok (.astore_n 3, 1) := by decide +kernel
set_option maxRecDepth 100000 in
theorem dX11_coach_85 : decode cX11_coach 85 = .ok (.iload_n 2, 1) := by decide +kernel
set_option maxRecDepth 100000 in
theorem dX11_coach_86 : decode cX11_coach 86 = .ok (.iconst 3, 1) := by decide +kernel
set_option maxRecDepth 100000 in
theorem dX11_coach_87 : decode cX11_coach 87 = .ok (.if_icmp .ne 11, 3) := by decide +kernel
set_option maxRecDepth 100000 in
theorem dX11_coach_90 : decode cX11_coach 90 = .ok (.aload_n 3, 1) := by decide +kernel
set_option maxRecDepth 100000 in
theorem dX11_coach_91 : decode cX11_coach 91 = .ok (.iload_n 1, 1) := by decide +kernel
set_option maxRecDepth 100000 in
theorem dX11_coach_92 : decode cX11_coach 92 = .ok (.invokevirtual 194, 3) := by decide +kernel
set_option maxRecDepth 100000 in
theorem dX11_coach_95 : decode cX11_coach 95 = .ok (.goto 15, 3) := by decide +kernel
set_option maxRecDepth 100000 in
theorem dX11_coach_98 : decode cX11_coach 98 = .ok (.aload_n 3, 1) := by decide +kernel
set_option maxRecDepth 100000 in
theorem dX11_coach_99 : decode cX11_coach 99 = .ok (.getfield 199, 3) := by decide +kernel
set_option maxRecDepth 100000 in
theorem dX11_coach_102 : decode cX11_coach 102 = .ok (.iconst 3, 1) := by decide +kernel
set_option maxRecDepth 100000 in
theorem dX11_coach_103 : decode cX11_coach 103 = .ok (.iload_n 1, 1) := by decide +kernel
set_option maxRecDepth 100000 in
theorem dX11_coach_104 : decode cX11_coach 104 = .ok (.imul, 1) := by decide +kernel
set_option maxRecDepth 100000 in
theorem dX11_coach_105 : decode cX11_coach 105 = .ok (.iload_n 2, 1) := by decide +kernel
set_option maxRecDepth 100000 in
theorem dX11_coach_106 : decode cX11_coach 106 = .ok (.iadd, 1) := by decide +kernel
set_option maxRecDepth 100000 in
theorem dX11_coach_107 : decode cX11_coach 107 = .ok (.iconst 4, 1) := by decide +kernel
set_option maxRecDepth 100000 in
theorem dX11_coach_108 : decode cX11_coach 108 = .ok (.isub, 1) := by decide +kernel
set_option maxRecDepth 100000 in
theorem dX11_coach_109 : decode cX11_coach 109 = .ok (.iaload, 1) := by decide +kernel
set_option maxRecDepth 100000 in
theorem dX11_coach_110 : decode cX11_coach 110 = .ok (.ireturn, 1) := by decide +kernel
set_option maxRecDepth 100000 in
theorem dX11_passenger_0 : decode cX11_passenger 0 = .ok (.aload_n 0, 1) := by decide +kernel
set_option maxRecDepth 100000 in
theorem dX11_passenger_1 : decode cX11_passenger 1 = .ok (.getfield 29, 3) := by decide +kernel
set_option maxRecDepth 100000 in
theorem dX11_passenger_4 : decode cX11_passenger 4 = .ok (.iload_n 1, 1) := by decide +kernel
set_option maxRecDepth 100000 in
theorem dX11_passenger_5 : decode cX11_passenger 5 = .ok (.invokevirtual 202, 3) := by decide +kernel
set_option maxRecDepth 100000 in
theorem dX11_passenger_8 : decode cX11_passenger 8 = .ok (.ifCond .eq 12, 3) := by decide +kernel
set_option maxRecDepth 100000 in
theorem dX11_passenger_11 : decode cX11_passenger 11 = .ok (.iload_n 2, 1) := by decide +kernel
set_option maxRecDepth 100000 in
theorem dX11_passenger_12 : decode cX11_passenger 12 = .ok (.ifCond .lt 8, 3) := by decide +kernel
set_option maxRecDepth 100000 in
theorem dX11_passenger_15 : decode cX11_passenger 15 = .ok (.iload_n 2, 1) := by decide +kernel
set_option maxRecDepth 100000 in
theorem dX11_passenger_16 : decode cX11_passenger 16 = .ok (.iconst 4, 1) := by decide +kernel
set_option maxRecDepth 100000 in
theorem dX11_passenger_17 : decode cX11_passenger 17 = .ok (.if_icmp .le 13, 3) := by decide +kernel
set_option maxRecDepth 100000 in
theorem dX11_passenger_20 : decode cX11_passenger 20 = .ok (.new 153, 3) := by decide +kernel
set_option maxRecDepth 100000 in
theorem dX11_passenger_23 : decode cX11_passenger 23 = .ok (.dup, 1) := by decide +kernel
set_option maxRecDepth 100000 in
theorem dX11_passenger_24 : decode cX11_passenger 24 = .ok (.ldc 203, 2) := by decide +kernel
set_option maxRecDepth 100000 in
theorem dX11_passenger_26 : decode cX11_passenger 26 = .ok (.invokespecial 157, 3) := by decide +kernel
set_option maxRecDepth 100000 in
theorem dX11_passenger_29 : decode cX11_passenger 29 = .ok (.athrow, 1) := by decide +kernel
set_option maxRecDepth 100000 in
theorem dX11_passenger_30 : decode cX11_passenger 30 = .ok (.iload_n 2, 1) := by decide +kernel
set_option maxRecDepth 100000 in
theorem dX11_passenger_31 : decode cX11_passenger 31 = .ok (.ifCond .ne 13, 3) := by decide +kernel
set_option maxRecDepth 100000 in
theorem dX11_passenger_34 : decode cX11_passenger 34 = .ok (.aload_n 0, 1) := by decide +kernel
set_option maxRecDepth 100000 in
theorem dX11_passenger_35 : decode cX11_passenger 35 = .ok (.getfield 36, 3) := by decide +kernel
set_option maxRecDepth 100000 in
theorem dX11_passenger_38 : decode cX11_passenger 38 = .ok (.getfield 205, 3) := by decide +kernel
set_option maxRecDepth 100000 in
theorem dX11_passenger_41 : decode cX11_passenger 41 = .ok (.iload_n 1, 1) := by decide +kernel
set_option maxRecDepth 100000 in
theorem dX11_passenger_42 : decode cX11_passenger 42 = .ok (.iaload, 1) := by decide +kernel
set_option maxRecDepth 100000 in
theorem dX11_passenger_43 : decode cX11_passenger 43 = .ok (.ireturn, 1) := by decide +kernel
set_option maxRecDepth 100000 in
theorem dX11_passenger_44 : decode cX11_passenger 44 = .ok (.iload_n 2, 1) := by decide +kernel
set_option maxRecDepth 100000 in
theorem dX11_passenger_45 : decode cX11_passenger 45 = .ok (.iconst 1, 1) := by decide +kernel
set_option maxRecDepth 100000 in
theorem dX11_passenger_46 : decode cX11_passenger 46 = .ok (.if_icmp .ne 13, 3) := by decide +kernel
set_option maxRecDepth 100000 in
theorem dX11_passenger_49 : decode cX11_passenger 49 = .ok (.aload_n 0, 1) := by decide +kernel
set_option maxRecDepth 100000 in
theorem dX11_passenger_50 : decode cX11_passenger 50 = .ok (.getfield 29, 3) := by decide +kernel
set_option maxRecDepth 100000 in
theorem dX11_passenger_53 : decode cX11_passenger 53 = .ok (.getfield 208, 3) := by decide +kernel
set_option maxRecDepth 100000 in
theorem dX11_passenger_56 : decode cX11_passenger 56 = .ok (.iload_n 1, 1) := by decide +kernel
set_option maxRecDepth 100000 in
theorem dX11_passenger_57 : decode cX11_passenger 57 = .ok (.iaload, 1) := by decide +kernel
set_option maxRecDepth 100000 in
theorem dX11_passenger_58 : decode cX11_passenger 58 = .ok (.ireturn, 1) := by decide +kernel
set_option maxRecDepth 100000 in
theorem dX11_passenger_59 : decode cX11_passenger 59 = .ok (.iload_n 2, 1) := by decide +kernel
set_option maxRecDepth 100000 in
theorem dX11_passenger_60 : decode cX11_passenger 60 = .ok (.iconst 2, 1) := by decide +kernel
set_option maxRecDepth 100000 in
theorem dX11_passenger_61 : decode cX11_passenger 61 = .ok (.if_icmp .ne 13, 3) := by decide +kernel
set_option maxRecDepth 100000 in
theorem dX11_passenger_64 : decode cX11_passenger 64 = .ok (.aload_n 0, 1) := by decide +kernel
set_option maxRecDepth 100000 in
theorem dX11_passenger_65 : decode cX11_passenger 65 = .ok (.getfield 29, 3) := by decide +kernel
set_option maxRecDepth 100000 in
theorem dX11_passenger_68 : decode cX11_passenger 68 = .ok (.getfield 211, 3) := by decide +kernel
set_option maxRecDepth 100000 in
theorem dX11_passenger_71 : decode cX11_passenger 71 = .ok (.iload_n 1, 1) := by decide +kernel
set_option maxRecDepth 100000 in
theorem dX11_passenger_72 : decode cX11_passenger 72 = .ok (.iaload, 1) := by decide +kernel
set_option maxRecDepth 100000 in
theorem dX11_passenger_73 : decode cX11_passenger 73 = .ok (.ireturn, 1) := by decide +kernel
set_option maxRecDepth 100000 in
theorem dX11_passenger_74 : decode cX11_passenger 74 = .ok (.aload_n 0, 1) := by decide +kernel
set_option maxRecDepth 100000 in
theorem dX11_passenger_75 : decode cX11_passenger 75 = .ok (.invokevirtual 190, 3) := by decide +kernel
set_option maxRecDepth 100000 in
theorem dX11_passenger_78 : decode cX11_passenger 78 = .ok (.astore_n 3, 1) := by decide +kernel
set_option maxRecDepth 100000 in
theorem dX11_passenger_79 : decode cX11_passenger 79 = .ok (.iload_n 2, 1) := by decide +kernel
set_option maxRecDepth 100000 in
theorem dX11_passenger_80 : decode cX11_passenger 80 = .ok (.iconst 3, 1) := by decide +kernel
set_option maxRecDepth 100000 in
theorem dX11_passenger_81 : decode cX11_passenger 81 = .ok (.if_icmp .ne 12, 3) := by decide +kernel
set_option maxRecDepth 100000 in
theorem dX11_passenger_84 : decode cX11_passenger 84 = .ok (.aload_n 3, 1) := by decide +kernel
set_option maxRecDepth 100000 in
theorem dX11_passenger_85 : decode cX11_passenger 85 = .ok (.getfield 214, 3) := by decide +kernel
set_option maxRecDepth 100000 in
theorem dX11_passenger_88 : decode cX11_passenger 88 = .ok (.iload_n 1, 1) := by decide +kernel
set_option maxRecDepth 100000 in
theorem dX11_passenger_89 : decode cX11_passenger 89 = .ok (.iaload, 1) := by decide +kernel
set_option maxRecDepth 100000 in
theorem dX11_passenger_90 : decode cX11_passenger 90 = .ok (.goto 9, 3) := by decide +kernel
set_option maxRecDepth 100000 in
theorem dX11_passenger_93 : decode cX11_passenger 93 = .ok (.aload_n 3, 1) := by decide +kernel
set_option maxRecDepth 100000 in
theorem dX11_passenger_94 : decode cX11_passenger 94 = .ok (.getfield 217, 3) := by decide +kernel
set_option maxRecDepth 100000 in
theorem dX11_passenger_97 : decode cX11_passenger 97 = .ok (.iload_n 1, 1) := by decide +kernel
set_option maxRecDepth 100000 in
theorem dX11_passenger_98 : decode cX11_passenger 98 = .ok (.iaload, 1) := by decide +kernel
set_option maxRecDepth 100000 in
theorem dX11_passenger_99 : decode cX11_passenger 99 = .ok (.ireturn, 1) := by decide +kernel
set_option maxRecDepth 100000 in
theorem dX11_sheet_0 : decode cX11_sheet 0 = .ok (.iload_n 1, 1) := by decide +kernel
set_option maxRecDepth 100000 in
theorem dX11_sheet_1 : decode cX11_sheet 1 = .ok (.ifCond .lt 14, 3) := by decide +kernel
set_option maxRecDepth 100000 in
theorem dX11_sheet_4 : decode cX11_sheet 4 = .ok (.iload_n 1, 1) := by decide +kernel
set_option maxRecDepth 100000 in
theorem dX11_sheet_5 : decode cX11_sheet 5 = .ok (.iconst 3, 1) := by decide +kernel
set_option maxRecDepth 100000 in
theorem dX11_sheet_6 : decode cX11_sheet 6 = .ok (.if_icmp .gt 9, 3) := by decide +kernel
set_option maxRecDepth 100000 in
theorem dX11_sheet_9 : decode cX11_sheet 9 = .ok (.iload_n 2, 1) := by decide +kernel
set_option maxRecDepth 100000 in
theorem dX11_sheet_10 : decode cX11_sheet 10 = .ok (.bipush 12, 2) := by decide +kernel
set_option maxRecDepth 100000 in
theorem dX11_sheet_12 : decode cX11_sheet 12 = .ok (.if_icmp .le 5, 3) := by decide +kernel
set_option maxRecDepth 100000 in
theorem dX11_sheet_15 : decode cX11_sheet 15 = .ok (.iconst (-1), 1) := by decide +kernel
set_option maxRecDepth 100000 in
theorem dX11_sheet_16 : decode cX11_sheet 16 = .ok (.ireturn, 1) := by decide +kernel
set_option maxRecDepth 100000 in
theorem dX11_sheet_17 : decode cX11_sheet 17 = .ok (.iload_n 1, 1) := by decide +kernel
set_option maxRecDepth 100000 in
theorem dX11_sheet_18 : decode cX11_sheet 18 = .ok (.iconst 3, 1) := by decide +kernel
set_option maxRecDepth 100000 in
theorem dX11_sheet_19 : decode cX11_sheet 19 = .ok (.if_icmp .ge 10, 3) := by decide +kernel
set_option maxRecDepth 100000 in
theorem dX11_sheet_22 : decode cX11_sheet 22 = .ok (.iload_n 2, 1) := by decide +kernel
set_option maxRecDepth 100000 in
theorem dX11_sheet_23 : decode cX11_sheet 23 = .ok (.ifCond .ge 6, 3) := by decide +kernel
set_option maxRecDepth 100000 in
theorem dX11_sheet_26 : decode cX11_sheet 26 = .ok (.bipush (-2), 2) := by decide +kernel
set_option maxRecDepth 100000 in
theorem dX11_sheet_28 : decode cX11_sheet 28 = .ok (.ireturn, 1) := by decide +kernel
set_option maxRecDepth 100000 in
theorem dX11_sheet_29 : decode cX11_sheet 29 = .ok (.iload_n 1, 1) := by decide +kernel
set_option maxRecDepth 100000 in
theorem dX11_sheet_30 : decode cX11_sheet 30 = .ok (.iconst 3, 1) := by decide +kernel
set_option maxRecDepth 100000 in
theorem dX11_sheet_31 : decode cX11_sheet 31 = .ok (.if_icmp .ne 7, 3) := by decide +kernel
set_option maxRecDepth 100000 in
theorem dX11_sheet_34 : decode cX11_sheet 34 = .ok (.iconst 0, 1) := by decide +kernel
set_option maxRecDepth 100000 in
theorem dX11_sheet_35 : decode cX11_sheet 35 = .ok (.goto 4, 3) := by decide +kernel
set_option maxRecDepth 100000 in
theorem dX11_sheet_38 : decode cX11_sheet 38 = .ok (.iload_n 2, 1) := by decide +kernel
set_option maxRecDepth 100000 in
theorem dX11_sheet_39 : decode cX11_sheet 39 = .ok (.istore 5, 2) := by decide +kernel
set_option maxRecDepth 100000 in
theorem dX11_sheet_41 : decode cX11_sheet 41 = .ok (.iconst 0, 1) := by decide +kernel
set_option maxRecDepth 100000 in
theorem dX11_sheet_42 : decode cX11_sheet 42 = .ok (.istore 6, 2) := by decide +kernel
set_option maxRecDepth 100000 in
theorem dX11_sheet_44 : decode cX11_sheet 44 = .ok (.iconst 0, 1) := by decide +kernel
set_option maxRecDepth 100000 in
theorem dX11_sheet_45 : decode cX11_sheet 45 = .ok (.istore 7, 2) := by decide +kernel
set_option maxRecDepth 100000 in
theorem dX11_sheet_47 : decode cX11_sheet 47 = .ok (.iload 7, 2) := by decide +kernel
set_option maxRecDepth 100000 in
theorem dX11_sheet_49 : decode cX11_sheet 49 = .ok (.aload_n 0, 1) := by decide +kernel
set_option maxRecDepth 100000 in
theorem dX11_sheet_50 : decode cX11_sheet 50 = .ok (.getfield 29, 3) := by decide +kernel
set_option maxRecDepth 100000 in
theorem dX11_sheet_53 : decode cX11_sheet 53 = .ok (.getfield 116, 3) := by decide +kernel
set_option maxRecDepth 100000 in
theorem dX11_sheet_56 : decode cX11_sheet 56 = .ok (.if_icmp .ge 69, 3) := by decide +kernel
set_option maxRecDepth 100000 in
theorem dX11_sheet_59 : decode cX11_sheet 59 = .ok (.iload 7, 2) := by decide +kernel
set_option maxRecDepth 100000 in
theorem dX11_sheet_61 : decode cX11_sheet 61 = .ok (.iload 5, 2) := by decide +kernel
set_option maxRecDepth 100000 in
theorem dX11_sheet_63 : decode cX11_sheet 63 = .ok (.if_icmp .ge 17, 3) := by decide +kernel
set_option maxRecDepth 100000 in
theorem dX11_sheet_66 : decode cX11_sheet 66 = .ok (.iload_n 1, 1) := by decide +kernel
set_option maxRecDepth 100000 in
theorem dX11_sheet_67 : decode cX11_sheet 67 = .ok (.iload_n 3, 1) := by decide +kernel
set_option maxRecDepth 100000 in
theorem dX11_sheet_68 : decode cX11_sheet 68 = .ok (.iload 7, 2) := by decide +kernel
set_option maxRecDepth 100000 in
theorem dX11_sheet_70 : decode cX11_sheet 70 = .ok (.iload 4, 2) := by decide +kernel
set_option maxRecDepth 100000 in
theorem dX11_sheet_72 : decode cX11_sheet 72 = .ok (.imul, 1) := by decide +kernel
set_option maxRecDepth 100000 in
theorem dX11_sheet_73 : decode cX11_sheet 73 = .ok (.iadd, 1) := by decide +kernel
set_option maxRecDepth 100000 in
theorem dX11_sheet_74 : decode cX11_sheet 74 = .ok (.invokestatic 220, 3) := by decide +kernel
set_option maxRecDepth 100000 in
theorem dX11_sheet_77 : decode cX11_sheet 77 = .ok (.goto 4, 3) := by decide +kernel
set_option maxRecDepth 100000 in
theorem dX11_sheet_80 : decode cX11_sheet 80 = .ok (.iconst 1, 1) := by decide +kernel
set_option maxRecDepth 100000 in
theorem dX11_sheet_81 : decode cX11_sheet 81 = .ok (.istore 8, 2) := by decide +kernel
set_option maxRecDepth 100000 in
theorem dX11_sheet_83 : decode cX11_sheet 83 = .ok (.aload_n 0, 1) := by decide +kernel
set_option maxRecDepth 100000 in
theorem dX11_sheet_84 : decode cX11_sheet 84 = .ok (.getfield 29, 3) := by decide +kernel
set_option maxRecDepth 100000 in
theorem dX11_sheet_87 : decode cX11_sheet 87 = .ok (.getfield 211, 3) := by decide +kernel
set_option maxRecDepth 100000 in
theorem dX11_sheet_90 : decode cX11_sheet 90 = .ok (.iload 7, 2) := by decide +kernel
set_option maxRecDepth 100000 in
theorem dX11_sheet_92 : decode cX11_sheet 92 = .ok (.iconst 1, 1) := by decide +kernel
set_option maxRecDepth 100000 in
theorem dX11_sheet_93 : decode cX11_sheet 93 = .ok (.bipush 9, 2) := by decide +kernel
set_option maxRecDepth 100000 in
theorem dX11_sheet_95 : decode cX11_sheet 95 = .ok (.iload 8, 2) := by decide +kernel
set_option maxRecDepth 100000 in
theorem dX11_sheet_97 : decode cX11_sheet 97 = .ok (.invokestatic 223, 3) := by decide +kernel
set_option maxRecDepth 100000 in
theorem dX11_sheet_100 : decode cX11_sheet 100 = .ok (.invokestatic 228, 3) := by decide +kernel
set_option maxRecDepth 100000 in
theorem dX11_sheet_103 : decode cX11_sheet 103 = .ok (.iastore, 1) := by decide +kernel
set_option maxRecDepth 100000 in
theorem dX11_sheet_104 : decode cX11_sheet 104 = .ok (.iload 6, 2) := by decide +kernel
set_option maxRecDepth 100000 in
theorem dX11_sheet_106 : decode cX11_sheet 106 = .ok (.aload_n 0, 1) := by decide +kernel
set_option maxRecDepth 100000 in
theorem dX11_sheet_107 : decode cX11_sheet 107 = .ok (.getfield 29, 3) := by decide +kernel
set_option maxRecDepth 100000 in
theorem dX11_sheet_110 : decode cX11_sheet 110 = .ok (.getfield 211, 3) := by decide +kernel
set_option maxRecDepth 100000 in
theorem dX11_sheet_113 : decode cX11_sheet 113 = .ok (.iload 7, 2) := by decide +kernel
set_option maxRecDepth 100000 in
theorem dX11_sheet_115 : decode cX11_sheet 115 = .ok (.iaload, 1) := by decide +kernel
set_option maxRecDepth 100000 in
theorem dX11_sheet_116 : decode cX11_sheet 116 = .ok (.iadd, 1) := by decide +kernel
set_option maxRecDepth 100000 in
theorem dX11_sheet_117 : decode cX11_sheet 117 = .ok (.istore 6, 2) := by decide +kernel
set_option maxRecDepth 100000 in
theorem dX11_sheet_119 : decode cX11_sheet 119 = .ok (.iinc 7 1, 3) := by decide +kernel
set_option maxRecDepth 100000 in
theorem dX11_sheet_122 : decode cX11_sheet 122 = .ok (.goto (-75), 3) := by decide +kernel
set_option maxRecDepth 100000 in
theorem dX11_sheet_125 : decode cX11_sheet 125 = .ok (.iload_n 1, 1) := by decide +kernel
set_option maxRecDepth 100000 in
theorem dX11_sheet_126 : decode cX11_sheet 126 = .ok (.iconst 3, 1) := by decide +kernel
set_option maxRecDepth 100000 in
theorem dX11_sheet_127 : decode cX11_sheet 127 = .ok (.if_icmp .ne 8, 3) := by decide +kernel
set_option maxRecDepth 100000 in
theorem dX11_sheet_130 : decode cX11_sheet 130 = .ok (.bipush (-3), 2) := by decide +kernel
set_option maxRecDepth 100000 in
theorem dX11_sheet_132 : decode cX11_sheet 132 = .ok (.goto 5, 3) := by decide +kernel
set_option maxRecDepth 100000 in
theorem dX11_sheet_135 : decode cX11_sheet 135 = .ok (.iload 6, 2) := by decide +kernel
set_option maxRecDepth 100000 in
theorem dX11_sheet_137 : decode cX11_sheet 137 = .ok (.ireturn, 1) := by decide +kernel
set_option maxRecDepth 100000 in
theorem dX11_run_0 : decode cX11_run 0 = .ok (.aload_n 0, 1) := by decide +kernel
set_option maxRecDepth 100000 in
theorem dX11_run_1 : decode cX11_run 1 = .ok (.getfield 40, 3) := by decide +kernel
set_option maxRecDepth 100000 in
theorem dX11_run_4 : decode cX11_run 4 = .ok (.aload_n 0, 1) := by decide +kernel
set_option maxRecDepth 100000 in
theorem dX11_run_5 : decode cX11_run 5 = .ok (.getfield 36, 3) := by decide +kernel
set_option maxRecDepth 100000 in
theorem dX11_run_8 : decode cX11_run 8 = .ok (.invokevirtual 231, 3) := by decide +kernel
set_option maxRecDepth 100000 in
theorem dX11_run_11 : decode cX11_run 11 = .ok (.aload_n 0, 1) := by decide +kernel
set_option maxRecDepth 100000 in
theorem dX11_run_12 : decode cX11_run 12 = .ok (.invokevirtual 234, 3) := by decide +kernel
set_option maxRecDepth 100000 in
theorem dX11_run_15 : decode cX11_run 15 = .ok (.istore_n 1, 1) := by decide +kernel
set_option maxRecDepth 100000 in
theorem dX11_run_16 : decode cX11_run 16 = .ok (.aload_n 0, 1) := by decide +kernel
set_option maxRecDepth 100000 in
theorem dX11_run_17 : decode cX11_run 17 = .ok (.getfield 66, 3) := by decide +kernel
set_option maxRecDepth 100000 in
theorem dX11_run_20 : decode cX11_run 20 = .ok (.aload_n 0, 1) := by decide +kernel
set_option maxRecDepth 100000 in
theorem dX11_run_21 : decode cX11_run 21 = .ok (.getfield 40, 3) := by decide +kernel
set_option maxRecDepth 100000 in
theorem dX11_run_24 : decode cX11_run 24 = .ok (.invokevirtual 237, 3) := by decide +kernel
set_option maxRecDepth 100000 in
theorem dX11_run_27 : decode cX11_run 27 = .ok (.aload_n 0, 1) := by decide +kernel
set_option maxRecDepth 100000 in
theorem dX11_run_28 : decode cX11_run 28 = .ok (.getfield 87, 3) := by decide +kernel
set_option maxRecDepth 100000 in
theorem dX11_run_31 : decode cX11_run 31 = .ok (.invokevirtual 239, 3) := by decide +kernel
set_option maxRecDepth 100000 in
theorem dX11_run_34 : decode cX11_run 34 = .ok (.aload_n 0, 1) := by decide +kernel
set_option maxRecDepth 100000 in
theorem dX11_run_35 : decode cX11_run 35 = .ok (.getfield 87, 3) := by decide +kernel
set_option maxRecDepth 100000 in
theorem dX11_run_38 : decode cX11_run 38 = .ok (.aload_n 0, 1) := by decide +kernel
set_option maxRecDepth 100000 in
theorem dX11_run_39 : decode cX11_run 39 = .ok (.getfield 59, 3) := by decide +kernel
set_option maxRecDepth 100000 in
theorem dX11_run_42 : decode cX11_run 42 = .ok (.getfield 240, 3) := by decide +kernel
set_option maxRecDepth 100000 in
theorem dX11_run_45 : decode cX11_run 45 = .ok (.i2l, 1) := by decide +kernel
set_option maxRecDepth 100000 in
theorem dX11_run_46 : decode cX11_run 46 = .ok (.invokevirtual 243, 3) := by decide +kernel
set_option maxRecDepth 100000 in
theorem dX11_run_49 : decode cX11_run 49 = .ok (.aload_n 0, 1) := by decide +kernel
set_option maxRecDepth 100000 in
theorem dX11_run_50 : decode cX11_run 50 = .ok (.getfield 87, 3) := by decide +kernel
set_option maxRecDepth 100000 in
theorem dX11_run_53 : decode cX11_run 53 = .ok (.aload_n 0, 1) := by decide +kernel
set_option maxRecDepth 100000 in
theorem dX11_run_54 : decode cX11_run 54 = .ok (.getfield 59, 3) := by decide +kernel
set_option maxRecDepth 100000 in
theorem dX11_run_57 : decode cX11_run 57 = .ok (.getfield 246, 3) := by decide +kernel
set_option maxRecDepth 100000 in
theorem dX11_run_60 : decode cX11_run 60 = .ok (.i2l, 1) := by decide +kernel
set_option maxRecDepth 100000 in
theorem dX11_run_61 : decode cX11_run 61 = .ok (.invokevirtual 243, 3) := by decide +kernel
set_option maxRecDepth 100000 in
theorem dX11_run_64 : decode cX11_run 64 = .ok (.aload_n 0, 1) := by decide +kernel
set_option maxRecDepth 100000 in
theorem dX11_run_65 : decode cX11_run 65 = .ok (.getfield 87, 3) := by decide +kernel
set_option maxRecDepth 100000 in
theorem dX11_run_68 : decode cX11_run 68 = .ok (.aload_n 0, 1) := by decide +kernel
set_option maxRecDepth 100000 in
theorem dX11_run_69 : decode cX11_run 69 = .ok (.getfield 59, 3) := by decide +kernel
set_option maxRecDepth 100000 in
theorem dX11_run_72 : decode cX11_run 72 = .ok (.getfield 249, 3) := by decide +kernel
set_option maxRecDepth 100000 in
theorem dX11_run_75 : decode cX11_run 75 = .ok (.i2l, 1) := by decide +kernel
set_option maxRecDepth 100000 in
theorem dX11_run_76 : decode cX11_run 76 = .ok (.invokevirtual 243, 3) := by decide +kernel
set_option maxRecDepth 100000 in
theorem dX11_run_79 : decode cX11_run 79 = .ok (.iload_n 1, 1) := by decide +kernel
set_option maxRecDepth 100000 in
theorem dX11_run_80 : decode cX11_run 80 = .ok (.ireturn, 1) := by decide +kernel
set_option maxRecDepth 100000 in
theorem dX11_go_0 : decode cX11_go 0 = .ok (.aload_n 0, 1) := by decide +kernel
set_option maxRecDepth 100000 in
theorem dX11_go_1 : decode cX11_go 1 = .ok (.getfield 40, 3) := by decide +kernel
set_option maxRecDepth 100000 in
theorem dX11_go_4 : decode cX11_go 4 = .ok (.aload_n 0, 1) := by decide +kernel
set_option maxRecDepth 100000 in
theorem dX11_go_5 : decode cX11_go 5 = .ok (.getfield 36, 3) := by decide +kernel
set_option maxRecDepth 100000 in
theorem dX11_go_8 : decode cX11_go 8 = .ok (.invokevirtual 231, 3) := by decide +kernel
set_option maxRecDepth 100000 in
theorem dX11_go_11 : decode cX11_go 11 = .ok (.aload_n 0, 1) := by decide +kernel
set_option maxRecDepth 100000 in
theorem dX11_go_12 : decode cX11_go 12 = .ok (.iload_n 1, 1) := by decide +kernel
set_option maxRecDepth 100000 in
theorem dX11_go_13 : decode cX11_go 13 = .ok (.iload_n 2, 1) := by decide +kernel
set_option maxRecDepth 100000 in
theorem dX11_go_14 : decode cX11_go 14 = .ok (.invokevirtual 251, 3) := by decide +kernel
set_option maxRecDepth 100000 in
theorem dX11_go_17 : decode cX11_go 17 = .ok (.istore_n 3, 1) := by decide +kernel
set_option maxRecDepth 100000 in
theorem dX11_go_18 : decode cX11_go 18 = .ok (.iload_n 3, 1) := by decide +kernel
set_option maxRecDepth 100000 in
theorem dX11_go_19 : decode cX11_go 19 = .ok (.ifCond .lt 49, 3) := by decide +kernel
set_option maxRecDepth 100000 in
theorem dX11_go_22 : decode cX11_go 22 = .ok (.aload_n 0, 1) := by decide +kernel
set_option maxRecDepth 100000 in
theorem dX11_go_23 : decode cX11_go 23 = .ok (.getfield 87, 3) := by decide +kernel
set_option maxRecDepth 100000 in
theorem dX11_go_26 : decode cX11_go 26 = .ok (.invokevirtual 239, 3) := by decide +kernel
set_option maxRecDepth 100000 in
theorem dX11_go_29 : decode cX11_go 29 = .ok (.aload_n 0, 1) := by decide +kernel
set_option maxRecDepth 100000 in
theorem dX11_go_30 : decode cX11_go 30 = .ok (.getfield 87, 3) := by decide +kernel
set_option maxRecDepth 100000 in
theorem dX11_go_33 : decode cX11_go 33 = .ok (.aload_n 0, 1) := by decide +kernel
set_option maxRecDepth 100000 in
theorem dX11_go_34 : decode cX11_go 34 = .ok (.getfield 36, 3) := by decide +kernel
set_option maxRecDepth 100000 in
theorem dX11_go_37 : decode cX11_go 37 = .ok (.aload_n 0, 1) := by decide +kernel
set_option maxRecDepth 100000 in
theorem dX11_go_38 : decode cX11_go 38 = .ok (.getfield 29, 3) := by decide +kernel
set_option maxRecDepth 100000 in
theorem dX11_go_41 : decode cX11_go 41 = .ok (.getfield 116, 3) := by decide +kernel
set_option maxRecDepth 100000 in
theorem dX11_go_44 : decode cX11_go 44 = .ok (.invokevirtual 254, 3) := by decide +kernel
set_option maxRecDepth 100000 in
theorem dX11_go_47 : decode cX11_go 47 = .ok (.aload_n 0, 1) := by decide +kernel
set_option maxRecDepth 100000 in
theorem dX11_go_48 : decode cX11_go 48 = .ok (.getfield 40, 3) := by decide +kernel
set_option maxRecDepth 100000 in
theorem dX11_go_51 : decode cX11_go 51 = .ok (.aload_n 0, 1) := by decide +kernel
set_option maxRecDepth 100000 in
theorem dX11_go_52 : decode cX11_go 52 = .ok (.getfield 29, 3) := by decide +kernel
set_option maxRecDepth 100000 in
theorem dX11_go_55 : decode cX11_go 55 = .ok (.getfield 116, 3) := by decide +kernel
set_option maxRecDepth 100000 in
theorem dX11_go_58 : decode cX11_go 58 = .ok (.invokevirtual 254, 3) := by decide +kernel
set_option maxRecDepth 100000 in
theorem dX11_go_61 : decode cX11_go 61 = .ok (.iconst (-1), 1) := by decide +kernel
set_option maxRecDepth 100000 in
theorem dX11_go_62 : decode cX11_go 62 = .ok (.ixor, 1) := by decide +kernel
set_option maxRecDepth 100000 in
theorem dX11_go_63 : decode cX11_go 63 = .ok (.iand, 1) := by decide +kernel
set_option maxRecDepth 100000 in
theorem dX11_go_64 : decode cX11_go 64 = .ok (.i2l, 1) := by decide +kernel
set_option maxRecDepth 100000 in
theorem dX11_go_65 : decode cX11_go 65 = .ok (.invokevirtual 243, 3) := by decide +kernel
set_option maxRecDepth 100000 in
theorem dX11_go_68 : decode cX11_go 68 = .ok (.aload_n 0, 1) := by decide +kernel
set_option maxRecDepth 100000 in
theorem dX11_go_69 : decode cX11_go 69 = .ok (.iload_n 3, 1) := by decide +kernel
set_option maxRecDepth 100000 in
theorem dX11_go_70 : decode cX11_go 70 = .ok (.invokevirtual 257, 3) := by decide +kernel
set_option maxRecDepth 100000 in
theorem dX11_go_73 : decode cX11_go 73 = .ok (.ireturn, 1) := by decide +kernel
set_option maxRecDepth 100000 in
theorem dX11_couple_0 : decode cX11_couple 0 = .ok (.aload_n 0, 1) := by decide +kernel
set_option maxRecDepth 100000 in
theorem dX11_couple_1 : decode cX11_couple 1 = .ok (.getfield 40, 3) := by decide +kernel
set_option maxRecDepth 100000 in
theorem dX11_couple_4 : decode cX11_couple 4 = .ok (.aload_n 0, 1) := by decide +kernel
set_option maxRecDepth 100000 in
theorem dX11_couple_5 : decode cX11_couple 5 = .ok (.getfield 36, 3) := by decide +kernel
set_option maxRecDepth 100000 in
theorem dX11_couple_8 : decode cX11_couple 8 = .ok (.invokevirtual 231, 3) := by decide +kernel
set_option maxRecDepth 100000 in
theorem dX11_couple_11 : decode cX11_couple 11 = .ok (.aload_n 0, 1) := by decide +kernel
set_option maxRecDepth 100000 in
theorem dX11_couple_12 : decode cX11_couple 12 = .ok (.aload_n 0, 1) := by decide +kernel
set_option maxRecDepth 100000 in
theorem dX11_couple_13 : decode cX11_couple 13 = .ok (.invokevirtual 260, 3) := by decide +kernel
set_option maxRecDepth 100000 in
theorem dX11_couple_16 : decode cX11_couple 16 = .ok (.invokevirtual 257, 3) := by decide +kernel
set_option maxRecDepth 100000 in
theorem dX11_couple_19 : decode cX11_couple 19 = .ok (.ireturn, 1) := by decide +kernel
set_option maxRecDepth 100000 in
theorem dX11_cut_0 : decode cX11_cut 0 = .ok (.aload_n 0, 1) := by decide +kernel
set_option maxRecDepth 100000 in
theorem dX11_cut_1 : decode cX11_cut 1 = .ok (.getfield 40, 3) := by decide +kernel
set_option maxRecDepth 100000 in
theorem dX11_cut_4 : decode cX11_cut 4 = .ok (.aload_n 0, 1) := by decide +kernel
set_option maxRecDepth 100000 in
theorem dX11_cut_5 : decode cX11_cut 5 = .ok (.getfield 36, 3) := by decide +kernel
set_option maxRecDepth 100000 in
theorem dX11_cut_8 : decode cX11_cut 8 = .ok (.invokevirtual 231, 3) := by decide +kernel
set_option maxRecDepth 100000 in
theorem dX11_cut_11 : decode cX11_cut 11 = .ok (.aload_n 0, 1) := by decide +kernel
set_option maxRecDepth 100000 in
theorem dX11_cut_12 : decode cX11_cut 12 = .ok (.aload_n 0, 1) := by decide +kernel
set_option maxRecDepth 100000 in
theorem dX11_cut_13 : decode cX11_cut 13 = .ok (.iload_n 1, 1) := by decide +kernel
set_option maxRecDepth 100000 in
theorem dX11_cut_14 : decode cX11_cut 14 = .ok (.invokevirtual 263, 3) := by decide +kernel
set_option maxRecDepth 100000 in
theorem dX11_cut_17 : decode cX11_cut 17 = .ok (.invokevirtual 257, 3) := by decide +kernel
set_option maxRecDepth 100000 in
theorem dX11_cut_20 : decode cX11_cut 20 = .ok (.ireturn, 1) := by decide +kernel
set_option maxRecDepth 100000 in
theorem dX11_walk_0 : decode cX11_walk 0 = .ok (.aload_n 0, 1) := by decide +kernel
set_option maxRecDepth 100000 in
theorem dX11_walk_1 : decode cX11_walk 1 = .ok (.getfield 40, 3) := by decide +kernel
set_option maxRecDepth 100000 in
theorem dX11_walk_4 : decode cX11_walk 4 = .ok (.aload_n 0, 1) := by decide +kernel
set_option maxRecDepth 100000 in
theorem dX11_walk_5 : decode cX11_walk 5 = .ok (.getfield 36, 3) := by decide +kernel
set_option maxRecDepth 100000 in
theorem dX11_walk_8 : decode cX11_walk 8 = .ok (.invokevirtual 231, 3) := by decide +kernel
set_option maxRecDepth 100000 in
theorem dX11_walk_11 : decode cX11_walk 11 = .ok (.aload_n 0, 1) := by decide +kernel
set_option maxRecDepth 100000 in
theorem dX11_walk_12 : decode cX11_walk 12 = .ok (.aload_n 0, 1) := by decide +kernel
set_option maxRecDepth 100000 in
theorem dX11_walk_13 : decode cX11_walk 13 = .ok (.iload_n 1, 1) := by decide +kernel
set_option maxRecDepth 100000 in
theorem dX11_walk_14 : decode cX11_walk 14 = .ok (.iload_n 2, 1) := by decide +kernel
set_option maxRecDepth 100000 in
theorem dX11_walk_15 : decode cX11_walk 15 = .ok (.invokevirtual 266, 3) := by decide +kernel
set_option maxRecDepth 100000 in
theorem dX11_walk_18 : decode cX11_walk 18 = .ok (.invokevirtual 257, 3) := by decide +kernel
set_option maxRecDepth 100000 in
theorem dX11_walk_21 : decode cX11_walk 21 = .ok (.ireturn, 1) := by decide +kernel
set_option maxRecDepth 100000 in
theorem dX11_stand_0 : decode cX11_stand 0 = .ok (.aload_n 0, 1) := by decide +kernel
set_option maxRecDepth 100000 in
theorem dX11_stand_1 : decode cX11_stand 1 = .ok (.getfield 40, 3) := by decide +kernel
set_option maxRecDepth 100000 in
theorem dX11_stand_4 : decode cX11_stand 4 = .ok (.aload_n 0, 1) := by decide +kernel
set_option maxRecDepth 100000 in
theorem dX11_stand_5 : decode cX11_stand 5 = .ok (.getfield 36, 3) := by decide +kernel
set_option maxRecDepth 100000 in
theorem dX11_stand_8 : decode cX11_stand 8 = .ok (.invokevirtual 231, 3) := by decide +kernel
set_option maxRecDepth 100000 in
theorem dX11_stand_11 : decode cX11_stand 11 = .ok (.aload_n 0, 1) := by decide +kernel
set_option maxRecDepth 100000 in
theorem dX11_stand_12 : decode cX11_stand 12 = .ok (.aload_n 0, 1) := by decide +kernel
set_option maxRecDepth 100000 in
theorem dX11_stand_13 : decode cX11_stand 13 = .ok (.iload_n 1, 1) := by decide +kernel
set_option maxRecDepth 100000 in
theorem dX11_stand_14 : decode cX11_stand 14 = .ok (.invokevirtual 269, 3) := by decide +kernel
set_option maxRecDepth 100000 in
theorem dX11_stand_17 : decode cX11_stand 17 = .ok (.invokevirtual 257, 3) := by decide +kernel
set_option maxRecDepth 100000 in
theorem dX11_stand_20 : decode cX11_stand 20 = .ok (.ireturn, 1) := by decide +kernel
set_option maxRecDepth 100000 in
theorem dX11_night_0 : decode cX11_night 0 = .ok (.aload_n 0, 1) := by decide +kernel
set_option maxRecDepth 100000 in
theorem dX11_night_1 : decode cX11_night 1 = .ok (.getfield 10, 3) := by decide +kernel
set_option maxRecDepth 100000 in
theorem dX11_night_4 : decode cX11_night 4 = .ok (.bipush 60, 2) := by decide +kernel
set_option maxRecDepth 100000 in
theorem dX11_night_6 : decode cX11_night 6 = .ok (.invokevirtual 99, 3) := by decide +kernel
set_option maxRecDepth 100000 in
theorem dX11_night_9 : decode cX11_night 9 = .ok (.aload_n 0, 1) := by decide +kernel
set_option maxRecDepth 100000 in
theorem dX11_night_10 : decode cX11_night 10 = .ok (.invokevirtual 272, 3) := by decide +kernel
set_option maxRecDepth 100000 in
theorem dX11_night_13 : decode cX11_night 13 = .ok (.istore_n 1, 1) := by decide +kernel
set_option maxRecDepth 100000 in
theorem dX11_night_14 : decode cX11_night 14 = .ok (.iload_n 1, 1) := by decide +kernel
set_option maxRecDepth 100000 in
theorem dX11_night_15 : decode cX11_night 15 = .ok (.ifCond .ge 13, 3) := by decide +kernel
set_option maxRecDepth 100000 in
theorem dX11_night_18 : decode cX11_night 18 = .ok (.aload_n 0, 1) := by decide +kernel
set_option maxRecDepth 100000 in
theorem dX11_night_19 : decode cX11_night 19 = .ok (.getfield 10, 3) := by decide +kernel
set_option maxRecDepth 100000 in
theorem dX11_night_22 : decode cX11_night 22 = .ok (.iconst 0, 1) := by decide +kernel
set_option maxRecDepth 100000 in
theorem dX11_night_23 : decode cX11_night 23 = .ok (.putfield 91, 3) := by decide +kernel
set_option maxRecDepth 100000 in
theorem dX11_night_26 : decode cX11_night 26 = .ok (.iload_n 1, 1) := by decide +kernel
set_option maxRecDepth 100000 in
theorem dX11_night_27 : decode cX11_night 27 = .ok (.ireturn, 1) := by decide +kernel
set_option maxRecDepth 100000 in
theorem dX11_night_28 : decode cX11_night 28 = .ok (.aload_n 0, 1) := by decide +kernel
set_option maxRecDepth 100000 in
theorem dX11_night_29 : decode cX11_night 29 = .ok (.getfield 40, 3) := by decide +kernel
set_option maxRecDepth 100000 in
theorem dX11_night_32 : decode cX11_night 32 = .ok (.aload_n 0, 1) := by decide +kernel
set_option maxRecDepth 100000 in
theorem dX11_night_33 : decode cX11_night 33 = .ok (.getfield 36, 3) := by decide +kernel
set_option maxRecDepth 100000 in
theorem dX11_night_36 : decode cX11_night 36 = .ok (.invokevirtual 231, 3) := by decide +kernel
set_option maxRecDepth 100000 in
theorem dX11_night_39 : decode cX11_night 39 = .ok (.iconst 0, 1) := by decide +kernel
set_option maxRecDepth 100000 in
theorem dX11_night_40 : decode cX11_night 40 = .ok (.istore_n 2, 1) := by decide +kernel
set_option maxRecDepth 100000 in
theorem dX11_night_41 : decode cX11_night 41 = .ok (.iconst 0, 1) := by decide +kernel
set_option maxRecDepth 100000 in
theorem dX11_night_42 : decode cX11_night 42 = .ok (.istore_n 3, 1) := by decide +kernel
set_option maxRecDepth 100000 in
theorem dX11_night_43 : decode cX11_night 43 = .ok (.iconst 0, 1) := by decide +kernel
set_option maxRecDepth 100000 in
theorem dX11_night_44 : decode cX11_night 44 = .ok (.istore 4, 2) := by decide +kernel
set_option maxRecDepth 100000 in
theorem dX11_night_46 : decode cX11_night 46 = .ok (.iconst 0, 1) := by decide +kernel
set_option maxRecDepth 100000 in
theorem dX11_night_47 : decode cX11_night 47 = .ok (.istore 5, 2) := by decide +kernel
set_option maxRecDepth 100000 in
theorem dX11_night_49 : decode cX11_night 49 = .ok (.iload 5, 2) := by decide +kernel
set_option maxRecDepth 100000 in
theorem dX11_night_51 : decode cX11_night 51 = .ok (.bipush 60, 2) := by decide +kernel
set_option maxRecDepth 100000 in
theorem dX11_night_53 : decode cX11_night 53 = .ok (.if_icmp .ge 60, 3) := by decide +kernel
set_option maxRecDepth 100000 in
theorem dX11_night_56 : decode cX11_night 56 = .ok (.iload 4, 2) := by decide +kernel
set_option maxRecDepth 100000 in
theorem dX11_night_58 : decode cX11_night 58 = .ok (.aload_n 0, 1) := by decide +kernel
set_option maxRecDepth 100000 in
theorem dX11_night_59 : decode cX11_night 59 = .ok (.getfield 10, 3) := by decide +kernel
set_option maxRecDepth 100000 in
theorem dX11_night_62 : decode cX11_night 62 = .ok (.getfield 91, 3) := by decide +kernel
set_option maxRecDepth 100000 in
theorem dX11_night_65 : decode cX11_night 65 = .ok (.if_icmp .ge 48, 3) := by decide +kernel
set_option maxRecDepth 100000 in
theorem dX11_night_68 : decode cX11_night 68 = .ok (.iload_n 3, 1) := by decide +kernel
set_option maxRecDepth 100000 in
theorem dX11_night_69 : decode cX11_night 69 = .ok (.ifCond .ne 44, 3) := by decide +kernel
set_option maxRecDepth 100000 in
theorem dX11_night_72 : decode cX11_night 72 = .ok (.aload_n 0, 1) := by decide +kernel
set_option maxRecDepth 100000 in
theorem dX11_night_73 : decode cX11_night 73 = .ok (.iload 4, 2) := by decide +kernel
set_option maxRecDepth 100000 in
theorem dX11_night_75 : decode cX11_night 75 = .ok (.invokevirtual 275, 3) := by decide +kernel
set_option maxRecDepth 100000 in
theorem dX11_night_78 : decode cX11_night 78 = .ok (.ifCond .ge 7, 3) := by decide +kernel
set_option maxRecDepth 100000 in
theorem dX11_night_81 : decode cX11_night 81 = .ok (.iconst 1, 1) := by decide +kernel
set_option maxRecDepth 100000 in
theorem dX11_night_82 : decode cX11_night 82 = .ok (.goto 4, 3) := by decide +kernel
set_option maxRecDepth 100000 in
theorem dX11_night_85 : decode cX11_night 85 = .ok (.iconst 0, 1) := by decide +kernel
set_option maxRecDepth 100000 in
theorem dX11_night_86 : decode cX11_night 86 = .ok (.istore_n 3, 1) := by decide +kernel
set_option maxRecDepth 100000 in
theorem dX11_night_87 : decode cX11_night 87 = .ok (.iload_n 2, 1) := by decide +kernel
set_option maxRecDepth 100000 in
theorem dX11_night_88 : decode cX11_night 88 = .ok (.iload_n 3, 1) := by decide +kernel
set_option maxRecDepth 100000 in
theorem dX11_night_89 : decode cX11_night 89 = .ok (.ifCond .eq 7, 3) := by decide +kernel
set_option maxRecDepth 100000 in
theorem dX11_night_92 : decode cX11_night 92 = .ok (.iconst 0, 1) := by decide +kernel
set_option maxRecDepth 100000 in
theorem dX11_night_93 : decode cX11_night 93 = .ok (.goto 4, 3) := by decide +kernel
set_option maxRecDepth 100000 in
theorem dX11_night_96 : decode cX11_night 96 = .ok (.iconst 1, 1) := by decide +kernel
set_option maxRecDepth 100000 in
theorem dX11_night_97 : decode cX11_night 97 = .ok (.iadd, 1) := by decide +kernel
set_option maxRecDepth 100000 in
theorem dX11_night_98 : decode cX11_night 98 = .ok (.istore_n 2, 1) := by decide +kernel
set_option maxRecDepth 100000 in
theorem dX11_night_99 : decode cX11_night 99 = .ok (.aload_n 0, 1) := by decide +kernel
set_option maxRecDepth 100000 in
theorem dX11_night_100 : decode cX11_night 100 = .ok (.iload 4, 2) := by decide +kernel
set_option maxRecDepth 100000 in
theorem dX11_night_102 : decode cX11_night 102 = .ok (.invokevirtual 278, 3) := by decide +kernel
set_option maxRecDepth 100000 in
theorem dX11_night_105 : decode cX11_night 105 = .ok (.istore 4, 2) := by decide +kernel
set_option maxRecDepth 100000 in
theorem dX11_night_107 : decode cX11_night 107 = .ok (.iinc 5 1, 3) := by decide +kernel
set_option maxRecDepth 100000 in
theorem dX11_night_110 : decode cX11_night 110 = .ok (.goto (-61), 3) := by decide +kernel
set_option maxRecDepth 100000 in
theorem dX11_night_113 : decode cX11_night 113 = .ok (.aload_n 0, 1) := by decide +kernel
set_option maxRecDepth 100000 in
theorem dX11_night_114 : decode cX11_night 114 = .ok (.getfield 10, 3) := by decide +kernel
set_option maxRecDepth 100000 in
theorem dX11_night_117 : decode cX11_night 117 = .ok (.iconst 0, 1) := by decide +kernel
set_option maxRecDepth 100000 in
theorem dX11_night_118 : decode cX11_night 118 = .ok (.putfield 91, 3) := by decide +kernel
set_option maxRecDepth 100000 in
theorem dX11_night_121 : decode cX11_night 121 = .ok (.iload_n 2, 1) := by decide +kernel
set_option maxRecDepth 100000 in
theorem dX11_night_122 : decode cX11_night 122 = .ok (.ifCond .le 14, 3) := by decide +kernel
set_option maxRecDepth 100000 in
theorem dX11_night_125 : decode cX11_night 125 = .ok (.aload_n 0, 1) := by decide +kernel
set_option maxRecDepth 100000 in
theorem dX11_night_126 : decode cX11_night 126 = .ok (.getfield 66, 3) := by decide +kernel
set_option maxRecDepth 100000 in
theorem dX11_night_129 : decode cX11_night 129 = .ok (.aload_n 0, 1) := by decide +kernel
set_option maxRecDepth 100000 in
theorem dX11_night_130 : decode cX11_night 130 = .ok (.getfield 40, 3) := by decide +kernel
set_option maxRecDepth 100000 in
theorem dX11_night_133 : decode cX11_night 133 = .ok (.invokevirtual 237, 3) := by decide +kernel
set_option maxRecDepth 100000 in
theorem dX11_night_136 : decode cX11_night 136 = .ok (.aload_n 0, 1) := by decide +kernel
set_option maxRecDepth 100000 in
theorem dX11_night_137 : decode cX11_night 137 = .ok (.getfield 87, 3) := by decide +kernel
set_option maxRecDepth 100000 in
theorem dX11_night_140 : decode cX11_night 140 = .ok (.invokevirtual 239, 3) := by decide +kernel
set_option maxRecDepth 100000 in
theorem dX11_night_143 : decode cX11_night 143 = .ok (.aload_n 0, 1) := by decide +kernel
set_option maxRecDepth 100000 in
theorem dX11_night_144 : decode cX11_night 144 = .ok (.getfield 87, 3) := by decide +kernel
set_option maxRecDepth 100000 in
theorem dX11_night_147 : decode cX11_night 147 = .ok (.iload_n 3, 1) := by decide +kernel
set_option maxRecDepth 100000 in
theorem dX11_night_148 : decode cX11_night 148 = .ok (.ifCond .eq 7, 3) := by decide +kernel
set_option maxRecDepth 100000 in
theorem dX11_night_151 : decode cX11_night 151 = .ok (.lconst 1, 1) := by decide +kernel
set_option maxRecDepth 100000 in
theorem dX11_night_152 : decode cX11_night 152 = .ok (.goto 4, 3) := by decide +kernel
set_option maxRecDepth 100000 in
theorem dX11_night_155 : decode cX11_night 155 = .ok (.lconst 0, 1) := by decide +kernel
set_option maxRecDepth 100000 in
theorem dX11_night_156 : decode cX11_night 156 = .ok (.invokevirtual 243, 3) := by decide +kernel
set_option maxRecDepth 100000 in
theorem dX11_night_159 : decode cX11_night 159 = .ok (.aload_n 0, 1) := by decide +kernel
set_option maxRecDepth 100000 in
theorem dX11_night_160 : decode cX11_night 160 = .ok (.getfield 87, 3) := by decide +kernel
set_option maxRecDepth 100000 in
theorem dX11_night_163 : decode cX11_night 163 = .ok (.aload_n 0, 1) := by decide +kernel
set_option maxRecDepth 100000 in
theorem dX11_night_164 : decode cX11_night 164 = .ok (.aload_n 0, 1) := by decide +kernel
set_option maxRecDepth 100000 in
theorem dX11_night_165 : decode cX11_night 165 = .ok (.getfield 40, 3) := by decide +kernel
set_option maxRecDepth 100000 in
theorem dX11_night_168 : decode cX11_night 168 = .ok (.aload_n 0, 1) := by decide +kernel
set_option maxRecDepth 100000 in
theorem dX11_night_169 : decode cX11_night 169 = .ok (.getfield 36, 3) := by decide +kernel
set_option maxRecDepth 100000 in
theorem dX11_night_172 : decode cX11_night 172 = .ok (.invokevirtual 281, 3) := by decide +kernel
set_option maxRecDepth 100000 in
theorem dX11_night_175 : decode cX11_night 175 = .ok (.i2l, 1) := by decide +kernel
set_option maxRecDepth 100000 in
theorem dX11_night_176 : decode cX11_night 176 = .ok (.invokevirtual 243, 3) := by decide +kernel
set_option maxRecDepth 100000 in
theorem dX11_night_179 : decode cX11_night 179 = .ok (.iload_n 2, 1) := by decide +kernel
set_option maxRecDepth 100000 in
theorem dX11_night_180 : decode cX11_night 180 = .ok (.ireturn, 1) := by decide +kernel
set_option maxRecDepth 100000 in
theorem dX11_undo_0 : decode cX11_undo 0 = .ok (.aload_n 0, 1) := by decide +kernel
set_option maxRecDepth 100000 in
theorem dX11_undo_1 : decode cX11_undo 1 = .ok (.getfield 66, 3) := by decide +kernel
set_option maxRecDepth 100000 in
theorem dX11_undo_4 : decode cX11_undo 4 = .ok (.getfield 285, 3) := by decide +kernel
set_option maxRecDepth 100000 in
theorem dX11_undo_7 : decode cX11_undo 7 = .ok (.ifCond .ne 5, 3) := by decide +kernel
set_option maxRecDepth 100000 in
theorem dX11_undo_10 : decode cX11_undo 10 = .ok (.iconst (-1), 1) := by decide +kernel
set_option maxRecDepth 100000 in
theorem dX11_undo_11 : decode cX11_undo 11 = .ok (.ireturn, 1) := by decide +kernel
set_option maxRecDepth 100000 in
theorem dX11_undo_12 : decode cX11_undo 12 = .ok (.aload_n 0, 1) := by decide +kernel
set_option maxRecDepth 100000 in
theorem dX11_undo_13 : decode cX11_undo 13 = .ok (.getfield 66, 3) := by decide +kernel
set_option maxRecDepth 100000 in
theorem dX11_undo_16 : decode cX11_undo 16 = .ok (.aload_n 0, 1) := by decide +kernel
set_option maxRecDepth 100000 in
theorem dX11_undo_17 : decode cX11_undo 17 = .ok (.getfield 36, 3) := by decide +kernel
set_option maxRecDepth 100000 in
theorem dX11_undo_20 : decode cX11_undo 20 = .ok (.invokevirtual 286, 3) := by decide +kernel
set_option maxRecDepth 100000 in
theorem dX11_undo_23 : decode cX11_undo 23 = .ok (.aload_n 0, 1) := by decide +kernel
set_option maxRecDepth 100000 in
theorem dX11_undo_24 : decode cX11_undo 24 = .ok (.getfield 66, 3) := by decide +kernel
set_option maxRecDepth 100000 in
theorem dX11_undo_27 : decode cX11_undo 27 = .ok (.getfield 285, 3) := by decide +kernel
set_option maxRecDepth 100000 in
theorem dX11_undo_30 : decode cX11_undo 30 = .ok (.ireturn, 1) := by decide +kernel
set_option maxRecDepth 100000 in
theorem dX11_way_0 : decode cX11_way 0 = .ok (.aload_n 0, 1) := by decide +kernel
set_option maxRecDepth 100000 in
theorem dX11_way_1 : decode cX11_way 1 = .ok (.getfield 19, 3) := by decide +kernel
set_option maxRecDepth 100000 in
theorem dX11_way_4 : decode cX11_way 4 = .ok (.iload_n 1, 1) := by decide +kernel
set_option maxRecDepth 100000 in
theorem dX11_way_5 : decode cX11_way 5 = .ok (.invokevirtual 289, 3) := by decide +kernel
set_option maxRecDepth 100000 in
theorem dX11_way_8 : decode cX11_way 8 = .ok (.ifCond .eq 14, 3) := by decide +kernel
set_option maxRecDepth 100000 in
theorem dX11_way_11 : decode cX11_way 11 = .ok (.aload_n 0, 1) := by decide +kernel
set_option maxRecDepth 100000 in
theorem dX11_way_12 : decode cX11_way 12 = .ok (.getfield 19, 3) := by decide +kernel
set_option maxRecDepth 100000 in
theorem dX11_way_15 : decode cX11_way 15 = .ok (.iload_n 2, 1) := by decide +kernel
set_option maxRecDepth 100000 in
theorem dX11_way_16 : decode cX11_way 16 = .ok (.invokevirtual 289, 3) := by decide +kernel
set_option maxRecDepth 100000 in
theorem dX11_way_19 : decode cX11_way 19 = .ok (.ifCond .ne 5, 3) := by decide +kernel
set_option maxRecDepth 100000 in
theorem dX11_way_22 : decode cX11_way 22 = .ok (.iconst (-1), 1) := by decide +kernel
set_option maxRecDepth 100000 in
theorem dX11_way_23 : decode cX11_way 23 = .ok (.ireturn, 1) := by decide +kernel
set_option maxRecDepth 100000 in
theorem dX11_way_24 : decode cX11_way 24 = .ok (.aload_n 0, 1) := by decide +kernel
set_option maxRecDepth 100000 in
theorem dX11_way_25 : decode cX11_way 25 = .ok (.getfield 19, 3) := by decide +kernel
set_option maxRecDepth 100000 in
theorem dX11_way_28 : decode cX11_way 28 = .ok (.iload_n 1, 1) := by decide +kernel
set_option maxRecDepth 100000 in
theorem dX11_way_29 : decode cX11_way 29 = .ok (.iload_n 2, 1) := by decide +kernel
set_option maxRecDepth 100000 in
theorem dX11_way_30 : decode cX11_way 30 = .ok (.invokevirtual 290, 3) := by decide +kernel
set_option maxRecDepth 100000 in
theorem dX11_way_33 : decode cX11_way 33 = .ok (.istore_n 3, 1) := by decide +kernel
set_option maxRecDepth 100000 in
theorem dX11_way_34 : decode cX11_way 34 = .ok (.iload_n 3, 1) := by decide +kernel
set_option maxRecDepth 100000 in
theorem dX11_way_35 : decode cX11_way 35 = .ok (.ldc_w 293, 3) := by decide +kernel
set_option maxRecDepth 100000 in
theorem dX11_way_38 : decode cX11_way 38 = .ok (.if_icmp .lt 6, 3) := by decide +kernel
set_option maxRecDepth 100000 in
theorem dX11_way_41 : decode cX11_way 41 = .ok (.bipush (-2), 2) := by decide +kernel
set_option maxRecDepth 100000 in
theorem dX11_way_43 : decode cX11_way 43 = .ok (.ireturn, 1) := by decide +kernel
set_option maxRecDepth 100000 in
theorem dX11_way_44 : decode cX11_way 44 = .ok (.aload_n 0, 1) := by decide +kernel
set_option maxRecDepth 100000 in
theorem dX11_way_45 : decode cX11_way 45 = .ok (.getfield 87, 3) := by decide +kernel
set_option maxRecDepth 100000 in
theorem dX11_way_48 : decode cX11_way 48 = .ok (.invokevirtual 239, 3) := by decide +kernel
set_option maxRecDepth 100000 in
theorem dX11_way_51 : decode cX11_way 51 = .ok (.aload_n 0, 1) := by decide +kernel
set_option maxRecDepth 100000 in
theorem dX11_way_52 : decode cX11_way 52 = .ok (.getfield 87, 3) := by decide +kernel
set_option maxRecDepth 100000 in
theorem dX11_way_55 : decode cX11_way 55 = .ok (.iload_n 1, 1) := by decide +kernel
set_option maxRecDepth 100000 in
theorem dX11_way_56 : decode cX11_way 56 = .ok (.i2l, 1) := by decide +kernel
set_option maxRecDepth 100000 in
theorem dX11_way_57 : decode cX11_way 57 = .ok (.invokevirtual 243, 3) := by decide +kernel
set_option maxRecDepth 100000 in
theorem dX11_way_60 : decode cX11_way 60 = .ok (.iload_n 1, 1) := by decide +kernel
set_option maxRecDepth 100000 in
theorem dX11_way_61 : decode cX11_way 61 = .ok (.istore 4, 2) := by decide +kernel
set_option maxRecDepth 100000 in
theorem dX11_way_63 : decode cX11_way 63 = .ok (.iconst 0, 1) := by decide +kernel
set_option maxRecDepth 100000 in
theorem dX11_way_64 : decode cX11_way 64 = .ok (.istore 5, 2) := by decide +kernel
set_option maxRecDepth 100000 in
theorem dX11_way_66 : decode cX11_way 66 = .ok (.iload 5, 2) := by decide +kernel
set_option maxRecDepth 100000 in
theorem dX11_way_68 : decode cX11_way 68 = .ok (.bipush 9, 2) := by decide +kernel
set_option maxRecDepth 100000 in
theorem dX11_way_70 : decode cX11_way 70 = .ok (.if_icmp .ge 37, 3) := by decide +kernel
set_option maxRecDepth 100000 in
theorem dX11_way_73 : decode cX11_way 73 = .ok (.iload 4, 2) := by decide +kernel
set_option maxRecDepth 100000 in
theorem dX11_way_75 : decode cX11_way 75 = .ok (.iload_n 2, 1) := by decide +kernel
set_option maxRecDepth 100000 in
theorem dX11_way_76 : decode cX11_way 76 = .ok (.if_icmp .eq 31, 3) := by decide +kernel
set_option maxRecDepth 100000 in
theorem dX11_way_79 : decode cX11_way 79 = .ok (.aload_n 0, 1) := by decide +kernel
set_option maxRecDepth 100000 in
theorem dX11_way_80 : decode cX11_way 80 = .ok (.getfield 19, 3) := by decide +kernel
set_option maxRecDepth 100000 in
theorem dX11_way_83 : decode cX11_way 83 = .ok (.iload 4, 2) := by decide +kernel
set_option maxRecDepth 100000 in
theorem dX11_way_85 : decode cX11_way 85 = .ok (.iload_n 2, 1) := by decide +kernel
set_option maxRecDepth 100000 in
theorem dX11_way_86 : decode cX11_way 86 = .ok (.invokevirtual 294, 3) := by decide +kernel
set_option maxRecDepth 100000 in
theorem dX11_way_89 : decode cX11_way 89 = .ok (.istore 4, 2) := by decide +kernel
set_option maxRecDepth 100000 in
theorem dX11_way_91 : decode cX11_way 91 = .ok (.aload_n 0, 1) := by decide +kernel
set_option maxRecDepth 100000 in
theorem dX11_way_92 : decode cX11_way 92 = .ok (.getfield 87, 3) := by decide +kernel
set_option maxRecDepth 100000 in
theorem dX11_way_95 : decode cX11_way 95 = .ok (.iload 4, 2) := by decide +kernel
set_option maxRecDepth 100000 in
theorem dX11_way_97 : decode cX11_way 97 = .ok (.i2l, 1) := by decide +kernel
set_option maxRecDepth 100000 in
theorem dX11_way_98 : decode cX11_way 98 = .ok (.invokevirtual 243, 3) := by decide +kernel
set_option maxRecDepth 100000 in
theorem dX11_way_101 : decode cX11_way 101 = .ok (.iinc 5 1, 3) := by decide +kernel
set_option maxRecDepth 100000 in
theorem dX11_way_104 : decode cX11_way 104 = .ok (.goto (-38), 3) := by decide +kernel
set_option maxRecDepth 100000 in
theorem dX11_way_107 : decode cX11_way 107 = .ok (.iload_n 3, 1) := by decide +kernel
set_option maxRecDepth 100000 in
theorem dX11_way_108 : decode cX11_way 108 = .ok (.ireturn, 1) := by decide +kernel
set_option maxRecDepth 100000 in
theorem dX11_course_0 : decode cX11_course 0 = .ok (.aload_n 0, 1) := by decide +kernel
set_option maxRecDepth 100000 in
theorem dX11_course_1 : decode cX11_course 1 = .ok (.getfield 43, 3) := by decide +kernel
set_option maxRecDepth 100000 in
theorem dX11_course_4 : decode cX11_course 4 = .ok (.aload_n 0, 1) := by decide +kernel
set_option maxRecDepth 100000 in
theorem dX11_course_5 : decode cX11_course 5 = .ok (.getfield 36, 3) := by decide +kernel
set_option maxRecDepth 100000 in
theorem dX11_course_8 : decode cX11_course 8 = .ok (.invokevirtual 231, 3) := by decide +kernel
set_option maxRecDepth 100000 in
theorem dX11_course_11 : decode cX11_course 11 = .ok (.aload_n 0, 1) := by decide +kernel
set_option maxRecDepth 100000 in
theorem dX11_course_12 : decode cX11_course 12 = .ok (.getfield 59, 3) := by decide +kernel
set_option maxRecDepth 100000 in
theorem dX11_course_15 : decode cX11_course 15 = .ok (.aload_n 0, 1) := by decide +kernel
set_option maxRecDepth 100000 in
theorem dX11_course_16 : decode cX11_course 16 = .ok (.getfield 19, 3) := by decide +kernel
set_option maxRecDepth 100000 in
theorem dX11_course_19 : decode cX11_course 19 = .ok (.aload_n 0, 1) := by decide +kernel
set_option maxRecDepth 100000 in
theorem dX11_course_20 : decode cX11_course 20 = .ok (.getfield 43, 3) := by decide +kernel
set_option maxRecDepth 100000 in
theorem dX11_course_23 : decode cX11_course 23 = .ok (.aload_n 0, 1) := by decide +kernel
set_option maxRecDepth 100000 in
theorem dX11_course_24 : decode cX11_course 24 = .ok (.getfield 29, 3) := by decide +kernel
set_option maxRecDepth 100000 in
theorem dX11_course_27 : decode cX11_course 27 = .ok (.aload_n 0, 1) := by decide +kernel
set_option maxRecDepth 100000 in
theorem dX11_course_28 : decode cX11_course 28 = .ok (.getfield 49, 3) := by decide +kernel
set_option maxRecDepth 100000 in
theorem dX11_course_31 : decode cX11_course 31 = .ok (.iconst 0, 1) := by decide +kernel
set_option maxRecDepth 100000 in
theorem dX11_course_32 : decode cX11_course 32 = .ok (.invokevirtual 297, 3) := by decide +kernel
set_option maxRecDepth 100000 in
theorem dX11_course_35 : decode cX11_course 35 = .ok (.istore_n 1, 1) := by decide +kernel
set_option maxRecDepth 100000 in
theorem dX11_course_36 : decode cX11_course 36 = .ok (.aload_n 0, 1) := by decide +kernel
set_option maxRecDepth 100000 in
theorem dX11_course_37 : decode cX11_course 37 = .ok (.getfield 87, 3) := by decide +kernel
set_option maxRecDepth 100000 in
theorem dX11_course_40 : decode cX11_course 40 = .ok (.invokevirtual 239, 3) := by decide +kernel
set_option maxRecDepth 100000 in
theorem dX11_course_43 : decode cX11_course 43 = .ok (.aload_n 0, 1) := by decide +kernel
set_option maxRecDepth 100000 in
theorem dX11_course_44 : decode cX11_course 44 = .ok (.getfield 87, 3) := by decide +kernel
set_option maxRecDepth 100000 in
theorem dX11_course_47 : decode cX11_course 47 = .ok (.aload_n 0, 1) := by decide +kernel
set_option maxRecDepth 100000 in
theorem dX11_course_48 : decode cX11_course 48 = .ok (.getfield 59, 3) := by decide +kernel
set_option maxRecDepth 100000 in
theorem dX11_course_51 : decode cX11_course 51 = .ok (.getfield 240, 3) := by decide +kernel
set_option maxRecDepth 100000 in
theorem dX11_course_54 : decode cX11_course 54 = .ok (.i2l, 1) := by decide +kernel
set_option maxRecDepth 100000 in
theorem dX11_course_55 : decode cX11_course 55 = .ok (.invokevirtual 243, 3) := by decide +kernel
set_option maxRecDepth 100000 in
theorem dX11_course_58 : decode cX11_course 58 = .ok (.iconst 0, 1) := by decide +kernel
set_option maxRecDepth 100000 in
theorem dX11_course_59 : decode cX11_course 59 = .ok (.istore_n 2, 1) := by decide +kernel
set_option maxRecDepth 100000 in
theorem dX11_course_60 : decode cX11_course 60 = .ok (.iload_n 2, 1) := by decide +kernel
set_option maxRecDepth 100000 in
theorem dX11_course_61 : decode cX11_course 61 = .ok (.iconst 2, 1) := by decide +kernel
set_option maxRecDepth 100000 in
theorem dX11_course_62 : decode cX11_course 62 = .ok (.if_icmp .gt 29, 3) := by decide +kernel
set_option maxRecDepth 100000 in
theorem dX11_course_65 : decode cX11_course 65 = .ok (.aload_n 0, 1) := by decide +kernel
set_option maxRecDepth 100000 in
theorem dX11_course_66 : decode cX11_course 66 = .ok (.getfield 87, 3) := by decide +kernel
set_option maxRecDepth 100000 in
theorem dX11_course_69 : decode cX11_course 69 = .ok (.aload_n 0, 1) := by decide +kernel
set_option maxRecDepth 100000 in
theorem dX11_course_70 : decode cX11_course 70 = .ok (.getfield 59, 3) := by decide +kernel
set_option maxRecDepth 100000 in
theorem dX11_course_73 : decode cX11_course 73 = .ok (.getfield 301, 3) := by decide +kernel
set_option maxRecDepth 100000 in
theorem dX11_course_76 : decode cX11_course 76 = .ok (.getfield 305, 3) := by decide +kernel
set_option maxRecDepth 100000 in
theorem dX11_course_79 : decode cX11_course 79 = .ok (.iload_n 2, 1) := by decide +kernel
set_option maxRecDepth 100000 in
theorem dX11_course_80 : decode cX11_course 80 = .ok (.iaload, 1) := by decide +kernel
set_option maxRecDepth 100000 in
theorem dX11_course_81 : decode cX11_course 81 = .ok (.i2l, 1) := by decide +kernel
set_option maxRecDepth 100000 in
theorem dX11_course_82 : decode cX11_course 82 = .ok (.invokevirtual 243, 3) := by decide +kernel
set_option maxRecDepth 100000 in
theorem dX11_course_85 : decode cX11_course 85 = .ok (.iinc 2 1, 3) := by decide +kernel
set_option maxRecDepth 100000 in
theorem dX11_course_88 : decode cX11_course 88 = .ok (.goto (-28), 3) := by decide +kernel
set_option maxRecDepth 100000 in
theorem dX11_course_91 : decode cX11_course 91 = .ok (.iload_n 1, 1) := by decide +kernel
set_option maxRecDepth 100000 in
theorem dX11_course_92 : decode cX11_course 92 = .ok (.ireturn, 1) := by decide +kernel
set_option maxRecDepth 100000 in
theorem dX11_ahead_0 : decode cX11_ahead 0 = .ok (.iload_n 1, 1) := by decide +kernel
set_option maxRecDepth 100000 in
theorem dX11_ahead_1 : decode cX11_ahead 1 = .ok (.ifCond .lt 9, 3) := by decide +kernel
set_option maxRecDepth 100000 in
theorem dX11_ahead_4 : decode cX11_ahead 4 = .ok (.iload_n 1, 1) := by decide +kernel
set_option maxRecDepth 100000 in
theorem dX11_ahead_5 : decode cX11_ahead 5 = .ok (.bipush 30, 2) := by decide +kernel
set_option maxRecDepth 100000 in
theorem dX11_ahead_7 : decode cX11_ahead 7 = .ok (.if_icmp .le 5, 3) := by decide +kernel
set_option maxRecDepth 100000 in
theorem dX11_ahead_10 : decode cX11_ahead 10 = .ok (.iconst (-1), 1) := by decide +kernel
set_option maxRecDepth 100000 in
theorem dX11_ahead_11 : decode cX11_ahead 11 = .ok (.ireturn, 1) := by decide +kernel
set_option maxRecDepth 100000 in
theorem dX11_ahead_12 : decode cX11_ahead 12 = .ok (.aload_n 0, 1) := by decide +kernel
set_option maxRecDepth 100000 in
theorem dX11_ahead_13 : decode cX11_ahead 13 = .ok (.getfield 43, 3) := by decide +kernel
set_option maxRecDepth 100000 in
theorem dX11_ahead_16 : decode cX11_ahead 16 = .ok (.aload_n 0, 1) := by decide +kernel
set_option maxRecDepth 100000 in
theorem dX11_ahead_17 : decode cX11_ahead 17 = .ok (.getfield 36, 3) := by decide +kernel
set_option maxRecDepth 100000 in
theorem dX11_ahead_20 : decode cX11_ahead 20 = .ok (.invokevirtual 231, 3) := by decide +kernel
set_option maxRecDepth 100000 in
theorem dX11_ahead_23 : decode cX11_ahead 23 = .ok (.aload_n 0, 1) := by decide +kernel
set_option maxRecDepth 100000 in
theorem dX11_ahead_24 : decode cX11_ahead 24 = .ok (.iload_n 1, 1) := by decide +kernel
set_option maxRecDepth 100000 in
theorem dX11_ahead_25 : decode cX11_ahead 25 = .ok (.aload_n 0, 1) := by decide +kernel
set_option maxRecDepth 100000 in
theorem dX11_ahead_26 : decode cX11_ahead 26 = .ok (.getfield 19, 3) := by decide +kernel
set_option maxRecDepth 100000 in
theorem dX11_ahead_29 : decode cX11_ahead 29 = .ok (.aload_n 0, 1) := by decide +kernel
set_option maxRecDepth 100000 in
theorem dX11_ahead_30 : decode cX11_ahead 30 = .ok (.getfield 49, 3) := by decide +kernel
set_option maxRecDepth 100000 in
theorem dX11_ahead_33 : decode cX11_ahead 33 = .ok (.iconst 0, 1) := by decide +kernel
set_option maxRecDepth 100000 in
theorem dX11_ahead_34 : decode cX11_ahead 34 = .ok (.invokevirtual 308, 3) := by decide +kernel
set_option maxRecDepth 100000 in
theorem dX11_ahead_37 : decode cX11_ahead 37 = .ok (.istore_n 2, 1) := by decide +kernel
set_option maxRecDepth 100000 in
theorem dX11_ahead_38 : decode cX11_ahead 38 = .ok (.aload_n 0, 1) := by decide +kernel
set_option maxRecDepth 100000 in
theorem dX11_ahead_39 : decode cX11_ahead 39 = .ok (.getfield 87, 3) := by decide +kernel
set_option maxRecDepth 100000 in
theorem dX11_ahead_42 : decode cX11_ahead 42 = .ok (.invokevirtual 239, 3) := by decide +kernel
set_option maxRecDepth 100000 in
theorem dX11_ahead_45 : decode cX11_ahead 45 = .ok (.aload_n 0, 1) := by decide +kernel
set_option maxRecDepth 100000 in
theorem dX11_ahead_46 : decode cX11_ahead 46 = .ok (.getfield 87, 3) := by decide +kernel
set_option maxRecDepth 100000 in
theorem dX11_ahead_49 : decode cX11_ahead 49 = .ok (.aload_n 0, 1) := by decide +kernel
set_option maxRecDepth 100000 in
theorem dX11_ahead_50 : decode cX11_ahead 50 = .ok (.getfield 43, 3) := by decide +kernel
set_option maxRecDepth 100000 in
theorem dX11_ahead_53 : decode cX11_ahead 53 = .ok (.getfield 171, 3) := by decide +kernel
set_option maxRecDepth 100000 in
theorem dX11_ahead_56 : decode cX11_ahead 56 = .ok (.i2l, 1) := by decide +kernel
set_option maxRecDepth 100000 in
theorem dX11_ahead_57 : decode cX11_ahead 57 = .ok (.invokevirtual 243, 3) := by decide +kernel
set_option maxRecDepth 100000 in
theorem dX11_ahead_60 : decode cX11_ahead 60 = .ok (.aload_n 0, 1) := by decide +kernel
set_option maxRecDepth 100000 in
theorem dX11_ahead_61 : decode cX11_ahead 61 = .ok (.getfield 87, 3) := by decide +kernel
set_option maxRecDepth 100000 in
theorem dX11_ahead_64 : decode cX11_ahead 64 = .ok (.aload_n 0, 1) := by decide +kernel
set_option maxRecDepth 100000 in
theorem dX11_ahead_65 : decode cX11_ahead 65 = .ok (.getfield 43, 3) := by decide +kernel
set_option maxRecDepth 100000 in
theorem dX11_ahead_68 : decode cX11_ahead 68 = .ok (.getfield 312, 3) := by decide +kernel
set_option maxRecDepth 100000 in
theorem dX11_ahead_71 : decode cX11_ahead 71 = .ok (.i2l, 1) := by decide +kernel
set_option maxRecDepth 100000 in
theorem dX11_ahead_72 : decode cX11_ahead 72 = .ok (.invokevirtual 243, 3) := by decide +kernel
set_option maxRecDepth 100000 in
theorem dX11_ahead_75 : decode cX11_ahead 75 = .ok (.aload_n 0, 1) := by decide +kernel
set_option maxRecDepth 100000 in
theorem dX11_ahead_76 : decode cX11_ahead 76 = .ok (.getfield 87, 3) := by decide +kernel
set_option maxRecDepth 100000 in
theorem dX11_ahead_79 : decode cX11_ahead 79 = .ok (.aload_n 0, 1) := by decide +kernel
set_option maxRecDepth 100000 in
theorem dX11_ahead_80 : decode cX11_ahead 80 = .ok (.getfield 43, 3) := by decide +kernel
set_option maxRecDepth 100000 in
theorem dX11_ahead_83 : decode cX11_ahead 83 = .ok (.invokevirtual 315, 3) := by decide +kernel
set_option maxRecDepth 100000 in
theorem dX11_ahead_86 : decode cX11_ahead 86 = .ok (.i2l, 1) := by decide +kernel
set_option maxRecDepth 100000 in
theorem dX11_ahead_87 : decode cX11_ahead 87 = .ok (.invokevirtual 243, 3) := by decide +kernel
set_option maxRecDepth 100000 in
theorem dX11_ahead_90 : decode cX11_ahead 90 = .ok (.iload_n 2, 1) := by decide +kernel
set_option maxRecDepth 100000 in
theorem dX11_ahead_91 : decode cX11_ahead 91 = .ok (.ireturn, 1) := by decide +kernel
set_option maxRecDepth 100000 in
theorem dX11_arrives_0 : decode cX11_arrives 0 = .ok (.aload_n 0, 1) := by decide +kernel
set_option maxRecDepth 100000 in
theorem dX11_arrives_1 : decode cX11_arrives 1 = .ok (.getfield 29, 3) := by decide +kernel
set_option maxRecDepth 100000 in
theorem dX11_arrives_4 : decode cX11_arrives 4 = .ok (.iload_n 1, 1) := by decide +kernel
set_option maxRecDepth 100000 in
theorem dX11_arrives_5 : decode cX11_arrives 5 = .ok (.invokevirtual 202, 3) := by decide +kernel
set_option maxRecDepth 100000 in
theorem dX11_arrives_8 : decode cX11_arrives 8 = .ok (.ifCond .ne 5, 3) := by decide +kernel
set_option maxRecDepth 100000 in
theorem dX11_arrives_11 : decode cX11_arrives 11 = .ok (.iconst (-1), 1) := by decide +kernel
set_option maxRecDepth 100000 in
theorem dX11_arrives_12 : decode cX11_arrives 12 = .ok (.ireturn, 1) := by decide +kernel
set_option maxRecDepth 100000 in
theorem dX11_arrives_13 : decode cX11_arrives 13 = .ok (.aload_n 0, 1) := by decide +kernel
set_option maxRecDepth 100000 in
theorem dX11_arrives_14 : decode cX11_arrives 14 = .ok (.getfield 43, 3) := by decide +kernel
set_option maxRecDepth 100000 in
theorem dX11_arrives_17 : decode cX11_arrives 17 = .ok (.aload_n 0, 1) := by decide +kernel
set_option maxRecDepth 100000 in
theorem dX11_arrives_18 : decode cX11_arrives 18 = .ok (.getfield 36, 3) := by decide +kernel
set_option maxRecDepth 100000 in
theorem dX11_arrives_21 : decode cX11_arrives 21 = .ok (.invokevirtual 231, 3) := by decide +kernel
set_option maxRecDepth 100000 in
theorem dX11_arrives_24 : decode cX11_arrives 24 = .ok (.aload_n 0, 1) := by decide +kernel
set_option maxRecDepth 100000 in
theorem dX11_arrives_25 : decode cX11_arrives 25 = .ok (.iload_n 1, 1) := by decide +kernel
set_option maxRecDepth 100000 in
theorem dX11_arrives_26 : decode cX11_arrives 26 = .ok (.bipush 30, 2) := by decide +kernel
set_option maxRecDepth 100000 in
theorem dX11_arrives_28 : decode cX11_arrives 28 = .ok (.invokevirtual 318, 3) := by decide +kernel
set_option maxRecDepth 100000 in
theorem dX11_arrives_31 : decode cX11_arrives 31 = .ok (.istore_n 2, 1) := by decide +kernel
set_option maxRecDepth 100000 in
theorem dX11_arrives_32 : decode cX11_arrives 32 = .ok (.iload_n 2, 1) := by decide +kernel
set_option maxRecDepth 100000 in
theorem dX11_arrives_33 : decode cX11_arrives 33 = .ok (.iconst (-1), 1) := by decide +kernel
set_option maxRecDepth 100000 in
theorem dX11_arrives_34 : decode cX11_arrives 34 = .ok (.if_icmp .ne 6, 3) := by decide +kernel
set_option maxRecDepth 100000 in
theorem dX11_arrives_37 : decode cX11_arrives 37 = .ok (.bipush (-2), 2) := by decide +kernel
set_option maxRecDepth 100000 in
theorem dX11_arrives_39 : decode cX11_arrives 39 = .ok (.ireturn, 1) := by decide +kernel
set_option maxRecDepth 100000 in
theorem dX11_arrives_40 : decode cX11_arrives 40 = .ok (.aload_n 0, 1) := by decide +kernel
set_option maxRecDepth 100000 in
theorem dX11_arrives_41 : decode cX11_arrives 41 = .ok (.getfield 87, 3) := by decide +kernel
set_option maxRecDepth 100000 in
theorem dX11_arrives_44 : decode cX11_arrives 44 = .ok (.invokevirtual 239, 3) := by decide +kernel
set_option maxRecDepth 100000 in
theorem dX11_arrives_47 : decode cX11_arrives 47 = .ok (.aload_n 0, 1) := by decide +kernel
set_option maxRecDepth 100000 in
theorem dX11_arrives_48 : decode cX11_arrives 48 = .ok (.getfield 87, 3) := by decide +kernel
set_option maxRecDepth 100000 in
theorem dX11_arrives_51 : decode cX11_arrives 51 = .ok (.aload_n 0, 1) := by decide +kernel
set_option maxRecDepth 100000 in
theorem dX11_arrives_52 : decode cX11_arrives 52 = .ok (.getfield 43, 3) := by decide +kernel
set_option maxRecDepth 100000 in
theorem dX11_arrives_55 : decode cX11_arrives 55 = .ok (.getfield 312, 3) := by decide +kernel
set_option maxRecDepth 100000 in
theorem dX11_arrives_58 : decode cX11_arrives 58 = .ok (.i2l, 1) := by decide +kernel
set_option maxRecDepth 100000 in
theorem dX11_arrives_59 : decode cX11_arrives 59 = .ok (.invokevirtual 243, 3) := by decide +kernel
set_option maxRecDepth 100000 in
theorem dX11_arrives_62 : decode cX11_arrives 62 = .ok (.iload_n 2, 1) := by decide +kernel
set_option maxRecDepth 100000 in
theorem dX11_arrives_63 : decode cX11_arrives 63 = .ok (.ireturn, 1) := by decide +kernel
set_option maxRecDepth 100000 in
theorem dX11_tips_0 : decode cX11_tips 0 = .ok (.aload_n 0, 1) := by decide +kernel
set_option maxRecDepth 100000 in
theorem dX11_tips_1 : decode cX11_tips 1 = .ok (.getfield 36, 3) := by decide +kernel
set_option maxRecDepth 100000 in
theorem dX11_tips_4 : decode cX11_tips 4 = .ok (.iload_n 1, 1) := by decide +kernel
set_option maxRecDepth 100000 in
theorem dX11_tips_5 : decode cX11_tips 5 = .ok (.invokevirtual 174, 3) := by decide +kernel
set_option maxRecDepth 100000 in
theorem dX11_tips_8 : decode cX11_tips 8 = .ok (.ifCond .ne 5, 3) := by decide +kernel
set_option maxRecDepth 100000 in
theorem dX11_tips_11 : decode cX11_tips 11 = .ok (.iconst (-1), 1) := by decide +kernel
set_option maxRecDepth 100000 in
theorem dX11_tips_12 : decode cX11_tips 12 = .ok (.ireturn, 1) := by decide +kernel
set_option maxRecDepth 100000 in
theorem dX11_tips_13 : decode cX11_tips 13 = .ok (.aload_n 0, 1) := by decide +kernel
set_option maxRecDepth 100000 in
theorem dX11_tips_14 : decode cX11_tips 14 = .ok (.invokevirtual 190, 3) := by decide +kernel
set_option maxRecDepth 100000 in
theorem dX11_tips_17 : decode cX11_tips 17 = .ok (.astore_n 2, 1) := by decide +kernel
set_option maxRecDepth 100000 in
theorem dX11_tips_18 : decode cX11_tips 18 = .ok (.iconst 0, 1) := by decide +kernel
set_option maxRecDepth 100000 in
theorem dX11_tips_19 : decode cX11_tips 19 = .ok (.istore_n 3, 1) := by decide +kernel
set_option maxRecDepth 100000 in
theorem dX11_tips_20 : decode cX11_tips 20 = .ok (.iconst 0, 1) := by decide +kernel
set_option maxRecDepth 100000 in
theorem dX11_tips_21 : decode cX11_tips 21 = .ok (.istore 4, 2) := by decide +kernel
set_option maxRecDepth 100000 in
theorem dX11_tips_23 : decode cX11_tips 23 = .ok (.iload 4, 2) := by decide +kernel
set_option maxRecDepth 100000 in
theorem dX11_tips_25 : decode cX11_tips 25 = .ok (.aload_n 0, 1) := by decide +kernel
set_option maxRecDepth 100000 in
theorem dX11_tips_26 : decode cX11_tips 26 = .ok (.getfield 29, 3) := by decide +kernel
set_option maxRecDepth 100000 in
theorem dX11_tips_29 : decode cX11_tips 29 = .ok (.getfield 116, 3) := by decide +kernel
set_option maxRecDepth 100000 in
theorem dX11_tips_32 : decode cX11_tips 32 = .ok (.if_icmp .ge 40, 3) := by decide +kernel
set_option maxRecDepth 100000 in
theorem dX11_tips_35 : decode cX11_tips 35 = .ok (.aload_n 0, 1) := by decide +kernel
set_option maxRecDepth 100000 in
theorem dX11_tips_36 : decode cX11_tips 36 = .ok (.getfield 36, 3) := by decide +kernel
set_option maxRecDepth 100000 in
theorem dX11_tips_39 : decode cX11_tips 39 = .ok (.getfield 205, 3) := by decide +kernel
set_option maxRecDepth 100000 in
theorem dX11_tips_42 : decode cX11_tips 42 = .ok (.iload 4, 2) := by decide +kernel
set_option maxRecDepth 100000 in
theorem dX11_tips_44 : decode cX11_tips 44 = .ok (.iaload, 1) := by decide +kernel
set_option maxRecDepth 100000 in
theorem dX11_tips_45 : decode cX11_tips 45 = .ok (.iload_n 1, 1) := by decide +kernel
set_option maxRecDepth 100000 in
theorem dX11_tips_46 : decode cX11_tips 46 = .ok (.if_icmp .ne 20, 3) := by decide +kernel
set_option maxRecDepth 100000 in
theorem dX11_tips_49 : decode cX11_tips 49 = .ok (.aload_n 2, 1) := by decide +kernel
set_option maxRecDepth 100000 in
theorem dX11_tips_50 : decode cX11_tips 50 = .ok (.iload_n 1, 1) := by decide +kernel
set_option maxRecDepth 100000 in
theorem dX11_tips_51 : decode cX11_tips 51 = .ok (.iload 4, 2) := by decide +kernel
set_option maxRecDepth 100000 in
theorem dX11_tips_53 : decode cX11_tips 53 = .ok (.invokevirtual 321, 3) := by decide +kernel
set_option maxRecDepth 100000 in
theorem dX11_tips_56 : decode cX11_tips 56 = .ok (.ifCond .eq 10, 3) := by decide +kernel
set_option maxRecDepth 100000 in
theorem dX11_tips_59 : decode cX11_tips 59 = .ok (.iload_n 3, 1) := by decide +kernel
set_option maxRecDepth 100000 in
theorem dX11_tips_60 : decode cX11_tips 60 = .ok (.iconst 1, 1) := by decide +kernel
set_option maxRecDepth 100000 in
theorem dX11_tips_61 : decode cX11_tips 61 = .ok (.iload 4, 2) := by decide +kernel
set_option maxRecDepth 100000 in
theorem dX11_tips_63 : decode cX11_tips 63 = .ok (.ishl, 1) := by decide +kernel
set_option maxRecDepth 100000 in
theorem dX11_tips_64 : decode cX11_tips 64 = .ok (.ior, 1) := by decide +kernel
set_option maxRecDepth 100000 in
theorem dX11_tips_65 : decode cX11_tips 65 = .ok (.istore_n 3, 1) := by decide +kernel
set_option maxRecDepth 100000 in
theorem dX11_tips_66 : decode cX11_tips 66 = .ok (.iinc 4 1, 3) := by decide +kernel
set_option maxRecDepth 100000 in
theorem dX11_tips_69 : decode cX11_tips 69 = .ok (.goto (-46), 3) := by decide +kernel
set_option maxRecDepth 100000 in
theorem dX11_tips_72 : decode cX11_tips 72 = .ok (.aload_n 0, 1) := by decide +kernel
set_option maxRecDepth 100000 in
theorem dX11_tips_73 : decode cX11_tips 73 = .ok (.getfield 87, 3) := by decide +kernel
set_option maxRecDepth 100000 in
theorem dX11_tips_76 : decode cX11_tips 76 = .ok (.invokevirtual 239, 3) := by decide +kernel
set_option maxRecDepth 100000 in
theorem dX11_tips_79 : decode cX11_tips 79 = .ok (.aload_n 0, 1) := by decide +kernel
set_option maxRecDepth 100000 in
theorem dX11_tips_80 : decode cX11_tips 80 = .ok (.getfield 87, 3) := by decide +kernel
set_option maxRecDepth 100000 in
theorem dX11_tips_83 : decode cX11_tips 83 = .ok (.iload_n 3, 1) := by decide +kernel
set_option maxRecDepth 100000 in
theorem dX11_tips_84 : decode cX11_tips 84 = .ok (.invokestatic 325, 3) := by decide +kernel
set_option maxRecDepth 100000 in
theorem dX11_tips_87 : decode cX11_tips 87 = .ok (.i2l, 1) := by decide +kernel
set_option maxRecDepth 100000 in
theorem dX11_tips_88 : decode cX11_tips 88 = .ok (.invokevirtual 243, 3) := by decide +kernel
set_option maxRecDepth 100000 in
theorem dX11_tips_91 : decode cX11_tips 91 = .ok (.iload_n 3, 1) := by decide +kernel
set_option maxRecDepth 100000 in
theorem dX11_tips_92 : decode cX11_tips 92 = .ok (.ireturn, 1) := by decide +kernel
set_option maxRecDepth 100000 in
theorem dX11_power_0 : decode cX11_power 0 = .ok (.aload_n 0, 1) := by decide +kernel
set_option maxRecDepth 100000 in
theorem dX11_power_1 : decode cX11_power 1 = .ok (.getfield 29, 3) := by decide +kernel
set_option maxRecDepth 100000 in
theorem dX11_power_4 : decode cX11_power 4 = .ok (.iload_n 1, 1) := by decide +kernel
set_option maxRecDepth 100000 in
theorem dX11_power_5 : decode cX11_power 5 = .ok (.invokevirtual 202, 3) := by decide +kernel
set_option maxRecDepth 100000 in
theorem dX11_power_8 : decode cX11_power 8 = .ok (.ifCond .ne 5, 3) := by decide +kernel
set_option maxRecDepth 100000 in
theorem dX11_power_11 : decode cX11_power 11 = .ok (.iconst (-1), 1) := by decide +kernel
set_option maxRecDepth 100000 in
theorem dX11_power_12 : decode cX11_power 12 = .ok (.ireturn, 1) := by decide +kernel
set_option maxRecDepth 100000 in
theorem dX11_power_13 : decode cX11_power 13 = .ok (.aload_n 0, 1) := by decide +kernel
set_option maxRecDepth 100000 in
theorem dX11_power_14 : decode cX11_power 14 = .ok (.getfield 36, 3) := by decide +kernel
set_option maxRecDepth 100000 in
theorem dX11_power_17 : decode cX11_power 17 = .ok (.iload_n 1, 1) := by decide +kernel
set_option maxRecDepth 100000 in
theorem dX11_power_18 : decode cX11_power 18 = .ok (.invokevirtual 330, 3) := by decide +kernel
set_option maxRecDepth 100000 in
theorem dX11_power_21 : decode cX11_power 21 = .ok (.ifCond .ne 6, 3) := by decide +kernel
set_option maxRecDepth 100000 in
theorem dX11_power_24 : decode cX11_power 24 = .ok (.bipush (-2), 2) := by decide +kernel
set_option maxRecDepth 100000 in
theorem dX11_power_26 : decode cX11_power 26 = .ok (.ireturn, 1) := by decide +kernel
set_option maxRecDepth 100000 in
theorem dX11_power_27 : decode cX11_power 27 = .ok (.aload_n 0, 1) := by decide +kernel
set_option maxRecDepth 100000 in
theorem dX11_power_28 : decode cX11_power 28 = .ok (.invokevirtual 190, 3) := by decide +kernel
set_option maxRecDepth 100000 in
theorem dX11_power_31 : decode cX11_power 31 = .ok (.astore_n 2, 1) := by decide +kernel
set_option maxRecDepth 100000 in
theorem dX11_power_32 : decode cX11_power 32 = .ok (.aload_n 0, 1) := by decide +kernel
set_option maxRecDepth 100000 in
theorem dX11_power_33 : decode cX11_power 33 = .ok (.getfield 36, 3) := by decide +kernel
set_option maxRecDepth 100000 in
theorem dX11_power_36 : decode cX11_power 36 = .ok (.aload_n 0, 1) := by decide +kernel
set_option maxRecDepth 100000 in
theorem dX11_power_37 : decode cX11_power 37 = .ok (.getfield 29, 3) := by decide +kernel
set_option maxRecDepth 100000 in
theorem dX11_power_40 : decode cX11_power 40 = .ok (.getfield 116, 3) := by decide +kernel
set_option maxRecDepth 100000 in
theorem dX11_power_43 : decode cX11_power 43 = .ok (.invokevirtual 333, 3) := by decide +kernel
set_option maxRecDepth 100000 in
theorem dX11_power_46 : decode cX11_power 46 = .ok (.iconst 1, 1) := by decide +kernel
set_option maxRecDepth 100000 in
theorem dX11_power_47 : decode cX11_power 47 = .ok (.iload_n 1, 1) := by decide +kernel
set_option maxRecDepth 100000 in
theorem dX11_power_48 : decode cX11_power 48 = .ok (.ishl, 1) := by decide +kernel
set_option maxRecDepth 100000 in
theorem dX11_power_49 : decode cX11_power 49 = .ok (.iconst (-1), 1) := by decide +kernel
set_option maxRecDepth 100000 in
theorem dX11_power_50 : decode cX11_power 50 = .ok (.ixor, 1) := by decide +kernel
set_option maxRecDepth 100000 in
theorem dX11_power_51 : decode cX11_power 51 = .ok (.iand, 1) := by decide +kernel
set_option maxRecDepth 100000 in
theorem dX11_power_52 : decode cX11_power 52 = .ok (.istore_n 3, 1) := by decide +kernel
set_option maxRecDepth 100000 in
theorem dX11_power_53 : decode cX11_power 53 = .ok (.aload_n 2, 1) := by decide +kernel
set_option maxRecDepth 100000 in
theorem dX11_power_54 : decode cX11_power 54 = .ok (.getfield 305, 3) := by decide +kernel
set_option maxRecDepth 100000 in
theorem dX11_power_57 : decode cX11_power 57 = .ok (.iconst 0, 1) := by decide +kernel
set_option maxRecDepth 100000 in
theorem dX11_power_58 : decode cX11_power 58 = .ok (.iaload, 1) := by decide +kernel
set_option maxRecDepth 100000 in
theorem dX11_power_59 : decode cX11_power 59 = .ok (.aload_n 2, 1) := by decide +kernel
set_option maxRecDepth 100000 in
theorem dX11_power_60 : decode cX11_power 60 = .ok (.getfield 305, 3) := by decide +kernel
set_option maxRecDepth 100000 in
theorem dX11_power_63 : decode cX11_power 63 = .ok (.iconst 1, 1) := by decide +kernel
set_option maxRecDepth 100000 in
theorem dX11_power_64 : decode cX11_power 64 = .ok (.iaload, 1) := by decide +kernel
set_option maxRecDepth 100000 in
theorem dX11_power_65 : decode cX11_power 65 = .ok (.iadd, 1) := by decide +kernel
set_option maxRecDepth 100000 in
theorem dX11_power_66 : decode cX11_power 66 = .ok (.aload_n 2, 1) := by decide +kernel
set_option maxRecDepth 100000 in
theorem dX11_power_67 : decode cX11_power 67 = .ok (.getfield 305, 3) := by decide +kernel
set_option maxRecDepth 100000 in
theorem dX11_power_70 : decode cX11_power 70 = .ok (.iconst 2, 1) := by decide +kernel
set_option maxRecDepth 100000 in
theorem dX11_power_71 : decode cX11_power 71 = .ok (.iaload, 1) := by decide +kernel
set_option maxRecDepth 100000 in
theorem dX11_power_72 : decode cX11_power 72 = .ok (.iadd, 1) := by decide +kernel
set_option maxRecDepth 100000 in
theorem dX11_power_73 : decode cX11_power 73 = .ok (.istore 4, 2) := by decide +kernel
set_option maxRecDepth 100000 in
theorem dX11_power_75 : decode cX11_power 75 = .ok (.aload_n 2, 1) := by decide +kernel
set_option maxRecDepth 100000 in
theorem dX11_power_76 : decode cX11_power 76 = .ok (.getfield 214, 3) := by decide +kernel
set_option maxRecDepth 100000 in
theorem dX11_power_79 : decode cX11_power 79 = .ok (.iload_n 1, 1) := by decide +kernel
set_option maxRecDepth 100000 in
theorem dX11_power_80 : decode cX11_power 80 = .ok (.iaload, 1) := by decide +kernel
set_option maxRecDepth 100000 in
theorem dX11_power_81 : decode cX11_power 81 = .ok (.istore 5, 2) := by decide +kernel
set_option maxRecDepth 100000 in
theorem dX11_power_83 : decode cX11_power 83 = .ok (.iconst 1, 1) := by decide +kernel
set_option maxRecDepth 100000 in
theorem dX11_power_84 : decode cX11_power 84 = .ok (.iload_n 3, 1) := by decide +kernel
set_option maxRecDepth 100000 in
theorem dX11_power_85 : decode cX11_power 85 = .ok (.invokestatic 325, 3) := by decide +kernel
set_option maxRecDepth 100000 in
theorem dX11_power_88 : decode cX11_power 88 = .ok (.ishl, 1) := by decide +kernel
set_option maxRecDepth 100000 in
theorem dX11_power_89 : decode cX11_power 89 = .ok (.istore 6, 2) := by decide +kernel
set_option maxRecDepth 100000 in
theorem dX11_power_91 : decode cX11_power 91 = .ok (.iconst 0, 1) := by decide +kernel
set_option maxRecDepth 100000 in
theorem dX11_power_92 : decode cX11_power 92 = .ok (.istore 7, 2) := by decide +kernel
set_option maxRecDepth 100000 in
theorem dX11_power_94 : decode cX11_power 94 = .ok (.iconst 0, 1) := by decide +kernel
set_option maxRecDepth 100000 in
theorem dX11_power_95 : decode cX11_power 95 = .ok (.istore 8, 2) := by decide +kernel
set_option maxRecDepth 100000 in
theorem dX11_power_97 : decode cX11_power 97 = .ok (.iload 5, 2) := by decide +kernel
set_option maxRecDepth 100000 in
theorem dX11_power_99 : decode cX11_power 99 = .ok (.istore 9, 2) := by decide +kernel
set_option maxRecDepth 100000 in
theorem dX11_power_101 : decode cX11_power 101 = .ok (.iconst 0, 1) := by decide +kernel
set_option maxRecDepth 100000 in
theorem dX11_power_102 : decode cX11_power 102 = .ok (.istore 10, 2) := by decide +kernel
set_option maxRecDepth 100000 in
theorem dX11_power_104 : decode cX11_power 104 = .ok (.iload 10, 2) := by decide +kernel
set_option maxRecDepth 100000 in
theorem dX11_power_106 : decode cX11_power 106 = .ok (.iload 6, 2) := by decide +kernel
set_option maxRecDepth 100000 in
theorem dX11_power_108 : decode cX11_power 108 = .ok (.if_icmp .ge 109, 3) := by decide +kernel
set_option maxRecDepth 100000 in
theorem dX11_power_111 : decode cX11_power 111 = .ok (.iload 9, 2) := by decide +kernel
set_option maxRecDepth 100000 in
theorem dX11_power_113 : decode cX11_power 113 = .ok (.iload 4, 2) := by decide +kernel
set_option maxRecDepth 100000 in
theorem dX11_power_115 : decode cX11_power 115 = .ok (.iload 9, 2) := by decide +kernel
set_option maxRecDepth 100000 in
theorem dX11_power_117 : decode cX11_power 117 = .ok (.isub, 1) := by decide +kernel
set_option maxRecDepth 100000 in
theorem dX11_power_118 : decode cX11_power 118 = .ok (.if_icmp .lt 7, 3) := by decide +kernel
set_option maxRecDepth 100000 in
theorem dX11_power_121 : decode cX11_power 121 = .ok (.iconst 1, 1) := by decide +kernel
set_option maxRecDepth 100000 in
theorem dX11_power_122 : decode cX11_power 122 = .ok (.goto 4, 3) := by decide +kernel
set_option maxRecDepth 100000 in
theorem dX11_power_125 : decode cX11_power 125 = .ok (.iconst 0, 1) := by decide +kernel
set_option maxRecDepth 100000 in
theorem dX11_power_126 : decode cX11_power 126 = .ok (.istore 11, 2) := by decide +kernel
set_option maxRecDepth 100000 in
theorem dX11_power_128 : decode cX11_power 128 = .ok (.iload 9, 2) := by decide +kernel
set_option maxRecDepth 100000 in
theorem dX11_power_130 : decode cX11_power 130 = .ok (.iload 5, 2) := by decide +kernel
set_option maxRecDepth 100000 in
theorem dX11_power_132 : decode cX11_power 132 = .ok (.isub, 1) := by decide +kernel
set_option maxRecDepth 100000 in
theorem dX11_power_133 : decode cX11_power 133 = .ok (.iload 4, 2) := by decide +kernel
set_option maxRecDepth 100000 in
theorem dX11_power_135 : decode cX11_power 135 = .ok (.iload 9, 2) := by decide +kernel
set_option maxRecDepth 100000 in
theorem dX11_power_137 : decode cX11_power 137 = .ok (.isub, 1) := by decide +kernel
set_option maxRecDepth 100000 in
theorem dX11_power_138 : decode cX11_power 138 = .ok (.iload 5, 2) := by decide +kernel
set_option maxRecDepth 100000 in
theorem dX11_power_140 : decode cX11_power 140 = .ok (.iadd, 1) := by decide +kernel
set_option maxRecDepth 100000 in
theorem dX11_power_141 : decode cX11_power 141 = .ok (.if_icmp .ge 7, 3) := by decide +kernel
set_option maxRecDepth 100000 in
theorem dX11_power_144 : decode cX11_power 144 = .ok (.iconst 1, 1) := by decide +kernel
set_option maxRecDepth 100000 in
theorem dX11_power_145 : decode cX11_power 145 = .ok (.goto 4, 3) := by decide +kernel
set_option maxRecDepth 100000 in
theorem dX11_power_148 : decode cX11_power 148 = .ok (.iconst 0, 1) := by decide +kernel
set_option maxRecDepth 100000 in
theorem dX11_power_149 : decode cX11_power 149 = .ok (.istore 12, 2) := by decide +kernel
set_option maxRecDepth 100000 in
theorem dX11_power_151 : decode cX11_power 151 = .ok (.iload 7, 2) := by decide +kernel
set_option maxRecDepth 100000 in
theorem dX11_power_153 : decode cX11_power 153 = .ok (.iload 11, 2) := by decide +kernel
set_option maxRecDepth 100000 in
theorem dX11_power_155 : decode cX11_power 155 = .ok (.ifCond .eq 12, 3) := by decide +kernel
set_option maxRecDepth 100000 in
theorem dX11_power_158 : decode cX11_power 158 = .ok (.iload 12, 2) := by decide +kernel
set_option maxRecDepth 100000 in
theorem dX11_power_160 : decode cX11_power 160 = .ok (.ifCond .eq 7, 3) := by decide +kernel
set_option maxRecDepth 100000 in
theorem dX11_power_163 : decode cX11_power 163 = .ok (.iconst 1, 1) := by decide +kernel
set_option maxRecDepth 100000 in
theorem dX11_power_164 : decode cX11_power 164 = .ok (.goto 4, 3) := by decide +kernel
set_option maxRecDepth 100000 in
theorem dX11_power_167 : decode cX11_power 167 = .ok (.iconst 0, 1) := by decide +kernel
set_option maxRecDepth 100000 in
theorem dX11_power_168 : decode cX11_power 168 = .ok (.iadd, 1) := by decide +kernel
set_option maxRecDepth 100000 in
theorem dX11_power_169 : decode cX11_power 169 = .ok (.istore 7, 2) := by decide +kernel
set_option maxRecDepth 100000 in
theorem dX11_power_171 : decode cX11_power 171 = .ok (.iload 8, 2) := by decide +kernel
set_option maxRecDepth 100000 in
theorem dX11_power_173 : decode cX11_power 173 = .ok (.iload_n 3, 1) := by decide +kernel
set_option maxRecDepth 100000 in
theorem dX11_power_174 : decode cX11_power 174 = .ok (.isub, 1) := by decide +kernel
set_option maxRecDepth 100000 in
theorem dX11_power_175 : decode cX11_power 175 = .ok (.iload_n 3, 1) := by decide +kernel
set_option maxRecDepth 100000 in
theorem dX11_power_176 : decode cX11_power 176 = .ok (.iand, 1) := by decide +kernel
set_option maxRecDepth 100000 in
theorem dX11_power_177 : decode cX11_power 177 = .ok (.istore 13, 2) := by decide +kernel
set_option maxRecDepth 100000 in
theorem dX11_power_179 : decode cX11_power 179 = .ok (.iload 9, 2) := by decide +kernel
set_option maxRecDepth 100000 in
theorem dX11_power_181 : decode cX11_power 181 = .ok (.aload_n 2, 1) := by decide +kernel
set_option maxRecDepth 100000 in
theorem dX11_power_182 : decode cX11_power 182 = .ok (.iload 13, 2) := by decide +kernel
set_option maxRecDepth 100000 in
theorem dX11_power_184 : decode cX11_power 184 = .ok (.iload 8, 2) := by decide +kernel
set_option maxRecDepth 100000 in
theorem dX11_power_186 : decode cX11_power 186 = .ok (.iconst (-1), 1) := by decide +kernel
set_option maxRecDepth 100000 in
theorem dX11_power_187 : decode cX11_power 187 = .ok (.ixor, 1) := by decide +kernel
set_option maxRecDepth 100000 in
theorem dX11_power_188 : decode cX11_power 188 = .ok (.iand, 1) := by decide +kernel
set_option maxRecDepth 100000 in
theorem dX11_power_189 : decode cX11_power 189 = .ok (.invokevirtual 336, 3) := by decide +kernel
set_option maxRecDepth 100000 in
theorem dX11_power_192 : decode cX11_power 192 = .ok (.aload_n 2, 1) := by decide +kernel
set_option maxRecDepth 100000 in
theorem dX11_power_193 : decode cX11_power 193 = .ok (.iload 8, 2) := by decide +kernel
set_option maxRecDepth 100000 in
theorem dX11_power_195 : decode cX11_power 195 = .ok (.iload 13, 2) := by decide +kernel
set_option maxRecDepth 100000 in
theorem dX11_power_197 : decode cX11_power 197 = .ok (.iconst (-1), 1) := by decide +kernel
set_option maxRecDepth 100000 in
theorem dX11_power_198 : decode cX11_power 198 = .ok (.ixor, 1) := by decide +kernel
set_option maxRecDepth 100000 in
theorem dX11_power_199 : decode cX11_power 199 = .ok (.iand, 1) := by decide +kernel
set_option maxRecDepth 100000 in
theorem dX11_power_200 : decode cX11_power 200 = .ok (.invokevirtual 336, 3) := by decide +kernel
set_option maxRecDepth 100000 in
theorem dX11_power_203 : decode cX11_power 203 = .ok (.isub, 1) := by decide +kernel
set_option maxRecDepth 100000 in
theorem dX11_power_204 : decode cX11_power 204 = .ok (.iadd, 1) := by decide +kernel
set_option maxRecDepth 100000 in
theorem dX11_power_205 : decode cX11_power 205 = .ok (.istore 9, 2) := by decide +kernel
set_option maxRecDepth 100000 in
theorem dX11_power_207 : decode cX11_power 207 = .ok (.iload 13, 2) := by decide +kernel
set_option maxRecDepth 100000 in
theorem dX11_power_209 : decode cX11_power 209 = .ok (.istore 8, 2) := by decide +kernel
set_option maxRecDepth 100000 in
theorem dX11_power_211 : decode cX11_power 211 = .ok (.iinc 10 1, 3) := by decide +kernel
set_option maxRecDepth 100000 in
theorem dX11_power_214 : decode cX11_power 214 = .ok (.goto (-110), 3) := by decide +kernel
set_option maxRecDepth 100000 in
theorem dX11_power_217 : decode cX11_power 217 = .ok (.aload_n 0, 1) := by decide +kernel
set_option maxRecDepth 100000 in
theorem dX11_power_218 : decode cX11_power 218 = .ok (.iload 7, 2) := by decide +kernel
set_option maxRecDepth 100000 in
theorem dX11_power_220 : decode cX11_power 220 = .ok (.i2l, 1) := by decide +kernel
set_option maxRecDepth 100000 in
theorem dX11_power_221 : decode cX11_power 221 = .ok (.iload 6, 2) := by decide +kernel
set_option maxRecDepth 100000 in
theorem dX11_power_223 : decode cX11_power 223 = .ok (.i2l, 1) := by decide +kernel
set_option maxRecDepth 100000 in
theorem dX11_power_224 : decode cX11_power 224 = .ok (.invokevirtual 339, 3) := by decide +kernel
set_option maxRecDepth 100000 in
theorem dX11_power_227 : decode cX11_power 227 = .ok (.iload 7, 2) := by decide +kernel
set_option maxRecDepth 100000 in
theorem dX11_power_229 : decode cX11_power 229 = .ok (.ireturn, 1) := by decide +kernel
set_option maxRecDepth 100000 in
theorem dX11_lobby_0 : decode cX11_lobby 0 = .ok (.aload_n 0, 1) := by decide +kernel
set_option maxRecDepth 100000 in
theorem dX11_lobby_1 : decode cX11_lobby 1 = .ok (.getfield 36, 3) := by decide +kernel
set_option maxRecDepth 100000 in
theorem dX11_lobby_4 : decode cX11_lobby 4 = .ok (.iload_n 1, 1) := by decide +kernel
set_option maxRecDepth 100000 in
theorem dX11_lobby_5 : decode cX11_lobby 5 = .ok (.invokevirtual 174, 3) := by decide +kernel
set_option maxRecDepth 100000 in
theorem dX11_lobby_8 : decode cX11_lobby 8 = .ok (.ifCond .eq 12, 3) := by decide +kernel
set_option maxRecDepth 100000 in
theorem dX11_lobby_11 : decode cX11_lobby 11 = .ok (.iload_n 2, 1) := by decide +kernel
set_option maxRecDepth 100000 in
theorem dX11_lobby_12 : decode cX11_lobby 12 = .ok (.ifCond .lt 8, 3) := by decide +kernel
set_option maxRecDepth 100000 in
theorem dX11_lobby_15 : decode cX11_lobby 15 = .ok (.iload_n 2, 1) := by decide +kernel
set_option maxRecDepth 100000 in
theorem dX11_lobby_16 : decode cX11_lobby 16 = .ok (.iconst 2, 1) := by decide +kernel
set_option maxRecDepth 100000 in
theorem dX11_lobby_17 : decode cX11_lobby 17 = .ok (.if_icmp .le 5, 3) := by decide +kernel
set_option maxRecDepth 100000 in
theorem dX11_lobby_20 : decode cX11_lobby 20 = .ok (.iconst (-1), 1) := by decide +kernel
set_option maxRecDepth 100000 in
theorem dX11_lobby_21 : decode cX11_lobby 21 = .ok (.ireturn, 1) := by decide +kernel
set_option maxRecDepth 100000 in
theorem dX11_lobby_22 : decode cX11_lobby 22 = .ok (.aload_n 0, 1) := by decide +kernel
set_option maxRecDepth 100000 in
theorem dX11_lobby_23 : decode cX11_lobby 23 = .ok (.invokevirtual 190, 3) := by decide +kernel
set_option maxRecDepth 100000 in
theorem dX11_lobby_26 : decode cX11_lobby 26 = .ok (.astore_n 3, 1) := by decide +kernel
set_option maxRecDepth 100000 in
theorem dX11_lobby_27 : decode cX11_lobby 27 = .ok (.aload_n 3, 1) := by decide +kernel
set_option maxRecDepth 100000 in
theorem dX11_lobby_28 : decode cX11_lobby 28 = .ok (.iload_n 2, 1) := by decide +kernel
set_option maxRecDepth 100000 in
theorem dX11_lobby_29 : decode cX11_lobby 29 = .ok (.invokevirtual 343, 3) := by decide +kernel
set_option maxRecDepth 100000 in
theorem dX11_lobby_32 : decode cX11_lobby 32 = .ok (.aload_n 0, 1) := by decide +kernel
set_option maxRecDepth 100000 in
theorem dX11_lobby_33 : decode cX11_lobby 33 = .ok (.getfield 36, 3) := by decide +kernel
set_option maxRecDepth 100000 in
theorem dX11_lobby_36 : decode cX11_lobby 36 = .ok (.iload_n 1, 1) := by decide +kernel
set_option maxRecDepth 100000 in
theorem dX11_lobby_37 : decode cX11_lobby 37 = .ok (.aload_n 0, 1) := by decide +kernel
set_option maxRecDepth 100000 in
theorem dX11_lobby_38 : decode cX11_lobby 38 = .ok (.getfield 29, 3) := by decide +kernel
set_option maxRecDepth 100000 in
theorem dX11_lobby_41 : decode cX11_lobby 41 = .ok (.getfield 116, 3) := by decide +kernel
set_option maxRecDepth 100000 in
theorem dX11_lobby_44 : decode cX11_lobby 44 = .ok (.invokevirtual 186, 3) := by decide +kernel
set_option maxRecDepth 100000 in
theorem dX11_lobby_47 : decode cX11_lobby 47 = .ok (.iand, 1) := by decide +kernel
set_option maxRecDepth 100000 in
theorem dX11_lobby_48 : decode cX11_lobby 48 = .ok (.istore 4, 2) := by decide +kernel
set_option maxRecDepth 100000 in
theorem dX11_lobby_50 : decode cX11_lobby 50 = .ok (.iconst 1, 1) := by decide +kernel
set_option maxRecDepth 100000 in
theorem dX11_lobby_51 : decode cX11_lobby 51 = .ok (.iload 4, 2) := by decide +kernel
set_option maxRecDepth 100000 in
theorem dX11_lobby_53 : decode cX11_lobby 53 = .ok (.invokestatic 325, 3) := by decide +kernel
set_option maxRecDepth 100000 in
theorem dX11_lobby_56 : decode cX11_lobby 56 = .ok (.ishl, 1) := by decide +kernel
set_option maxRecDepth 100000 in
theorem dX11_lobby_57 : decode cX11_lobby 57 = .ok (.istore 5, 2) := by decide +kernel
set_option maxRecDepth 100000 in
theorem dX11_lobby_59 : decode cX11_lobby 59 = .ok (.bipush 13, 2) := by decide +kernel
set_option maxRecDepth 100000 in
theorem dX11_lobby_61 : decode cX11_lobby 61 = .ok (.istore 6, 2) := by decide +kernel
set_option maxRecDepth 100000 in
theorem dX11_lobby_63 : decode cX11_lobby 63 = .ok (.iconst 0, 1) := by decide +kernel
set_option maxRecDepth 100000 in
theorem dX11_lobby_64 : decode cX11_lobby 64 = .ok (.istore 7, 2) := by decide +kernel
set_option maxRecDepth 100000 in
theorem dX11_lobby_66 : decode cX11_lobby 66 = .ok (.iconst 0, 1) := by decide +kernel
set_option maxRecDepth 100000 in
theorem dX11_lobby_67 : decode cX11_lobby 67 = .ok (.istore 8, 2) := by decide +kernel
set_option maxRecDepth 100000 in
theorem dX11_lobby_69 : decode cX11_lobby 69 = .ok (.iconst 0, 1) := by decide +kernel
set_option maxRecDepth 100000 in
theorem dX11_lobby_70 : decode cX11_lobby 70 = .ok (.istore 9, 2) := by decide +kernel
set_option maxRecDepth 100000 in
theorem dX11_lobby_72 : decode cX11_lobby 72 = .ok (.iload 9, 2) := by decide +kernel
set_option maxRecDepth 100000 in
theorem dX11_lobby_74 : decode cX11_lobby 74 = .ok (.iload 5, 2) := by decide +kernel
set_option maxRecDepth 100000 in
theorem dX11_lobby_76 : decode cX11_lobby 76 = .ok (.if_icmp .ge 53, 3) := by decide +kernel
set_option maxRecDepth 100000 in
theorem dX11_lobby_79 : decode cX11_lobby 79 = .ok (.iload 8, 2) := by decide +kernel
set_option maxRecDepth 100000 in
theorem dX11_lobby_81 : decode cX11_lobby 81 = .ok (.invokestatic 325, 3) := by decide +kernel
set_option maxRecDepth 100000 in
theorem dX11_lobby_84 : decode cX11_lobby 84 = .ok (.istore 10, 2) := by decide +kernel
set_option maxRecDepth 100000 in
theorem dX11_lobby_86 : decode cX11_lobby 86 = .ok (.iload 10, 2) := by decide +kernel
set_option maxRecDepth 100000 in
theorem dX11_lobby_88 : decode cX11_lobby 88 = .ok (.iload 6, 2) := by decide +kernel
set_option maxRecDepth 100000 in
theorem dX11_lobby_90 : decode cX11_lobby 90 = .ok (.if_icmp .ge 23, 3) := by decide +kernel
set_option maxRecDepth 100000 in
theorem dX11_lobby_93 : decode cX11_lobby 93 = .ok (.aload_n 3, 1) := by decide +kernel
set_option maxRecDepth 100000 in
theorem dX11_lobby_94 : decode cX11_lobby 94 = .ok (.iload_n 1, 1) := by decide +kernel
set_option maxRecDepth 100000 in
theorem dX11_lobby_95 : decode cX11_lobby 95 = .ok (.iload 8, 2) := by decide +kernel
set_option maxRecDepth 100000 in
theorem dX11_lobby_97 : decode cX11_lobby 97 = .ok (.iload_n 2, 1) := by decide +kernel
set_option maxRecDepth 100000 in
theorem dX11_lobby_98 : decode cX11_lobby 98 = .ok (.invokevirtual 346, 3) := by decide +kernel
set_option maxRecDepth 100000 in
theorem dX11_lobby_101 : decode cX11_lobby 101 = .ok (.iload_n 2, 1) := by decide +kernel
set_option maxRecDepth 100000 in
theorem dX11_lobby_102 : decode cX11_lobby 102 = .ok (.if_icmp .ne 11, 3) := by decide +kernel
set_option maxRecDepth 100000 in
theorem dX11_lobby_105 : decode cX11_lobby 105 = .ok (.iload 10, 2) := by decide +kernel
set_option maxRecDepth 100000 in
theorem dX11_lobby_107 : decode cX11_lobby 107 = .ok (.istore 6, 2) := by decide +kernel
set_option maxRecDepth 100000 in
theorem dX11_lobby_109 : decode cX11_lobby 109 = .ok (.iload 8, 2) := by decide +kernel
set_option maxRecDepth 100000 in
theorem dX11_lobby_111 : decode cX11_lobby 111 = .ok (.istore 7, 2) := by decide +kernel
set_option maxRecDepth 100000 in
theorem dX11_lobby_113 : decode cX11_lobby 113 = .ok (.iload 8, 2) := by decide +kernel
set_option maxRecDepth 100000 in
theorem dX11_lobby_115 : decode cX11_lobby 115 = .ok (.iload 4, 2) := by decide +kernel
set_option maxRecDepth 100000 in
theorem dX11_lobby_117 : decode cX11_lobby 117 = .ok (.isub, 1) := by decide +kernel
set_option maxRecDepth 100000 in
theorem dX11_lobby_118 : decode cX11_lobby 118 = .ok (.iload 4, 2) := by decide +kernel
set_option maxRecDepth 100000 in
theorem dX11_lobby_120 : decode cX11_lobby 120 = .ok (.iand, 1) := by decide +kernel
set_option maxRecDepth 100000 in
theorem dX11_lobby_121 : decode cX11_lobby 121 = .ok (.istore 8, 2) := by decide +kernel
set_option maxRecDepth 100000 in
theorem dX11_lobby_123 : decode cX11_lobby 123 = .ok (.iinc 9 1, 3) := by decide +kernel
set_option maxRecDepth 100000 in
theorem dX11_lobby_126 : decode cX11_lobby 126 = .ok (.goto (-54), 3) := by decide +kernel
set_option maxRecDepth 100000 in
theorem dX11_lobby_129 : decode cX11_lobby 129 = .ok (.iload 6, 2) := by decide +kernel
set_option maxRecDepth 100000 in
theorem dX11_lobby_131 : decode cX11_lobby 131 = .ok (.bipush 12, 2) := by decide +kernel
set_option maxRecDepth 100000 in
theorem dX11_lobby_133 : decode cX11_lobby 133 = .ok (.if_icmp .le 6, 3) := by decide +kernel
set_option maxRecDepth 100000 in
theorem dX11_lobby_136 : decode cX11_lobby 136 = .ok (.bipush (-2), 2) := by decide +kernel
set_option maxRecDepth 100000 in
theorem dX11_lobby_138 : decode cX11_lobby 138 = .ok (.ireturn, 1) := by decide +kernel
set_option maxRecDepth 100000 in
theorem dX11_lobby_139 : decode cX11_lobby 139 = .ok (.aload_n 0, 1) := by decide +kernel
set_option maxRecDepth 100000 in
theorem dX11_lobby_140 : decode cX11_lobby 140 = .ok (.getfield 87, 3) := by decide +kernel
set_option maxRecDepth 100000 in
theorem dX11_lobby_143 : decode cX11_lobby 143 = .ok (.invokevirtual 239, 3) := by decide +kernel
set_option maxRecDepth 100000 in
theorem dX11_lobby_146 : decode cX11_lobby 146 = .ok (.aload_n 0, 1) := by decide +kernel
set_option maxRecDepth 100000 in
theorem dX11_lobby_147 : decode cX11_lobby 147 = .ok (.getfield 87, 3) := by decide +kernel
set_option maxRecDepth 100000 in
theorem dX11_lobby_150 : decode cX11_lobby 150 = .ok (.iload 7, 2) := by decide +kernel
set_option maxRecDepth 100000 in
theorem dX11_lobby_152 : decode cX11_lobby 152 = .ok (.i2l, 1) := by decide +kernel
set_option maxRecDepth 100000 in
theorem dX11_lobby_153 : decode cX11_lobby 153 = .ok (.invokevirtual 243, 3) := by decide +kernel
set_option maxRecDepth 100000 in
theorem dX11_lobby_156 : decode cX11_lobby 156 = .ok (.iload 6, 2) := by decide +kernel
set_option maxRecDepth 100000 in
theorem dX11_lobby_158 : decode cX11_lobby 158 = .ok (.ireturn, 1) := by decide +kernel
set_option maxRecDepth 100000 in
theorem dX11_seat_0 : decode cX11_seat 0 = .ok (.aload_n 0, 1) := by decide +kernel
set_option maxRecDepth 100000 in
theorem dX11_seat_1 : decode cX11_seat 1 = .ok (.getfield 29, 3) := by decide +kernel
set_option maxRecDepth 100000 in
theorem dX11_seat_4 : decode cX11_seat 4 = .ok (.iload_n 1, 1) := by decide +kernel
set_option maxRecDepth 100000 in
theorem dX11_seat_5 : decode cX11_seat 5 = .ok (.invokevirtual 202, 3) := by decide +kernel
set_option maxRecDepth 100000 in
theorem dX11_seat_8 : decode cX11_seat 8 = .ok (.ifCond .ne 5, 3) := by decide +kernel
set_option maxRecDepth 100000 in
theorem dX11_seat_11 : decode cX11_seat 11 = .ok (.iconst (-1), 1) := by decide +kernel
set_option maxRecDepth 100000 in
theorem dX11_seat_12 : decode cX11_seat 12 = .ok (.ireturn, 1) := by decide +kernel
set_option maxRecDepth 100000 in
theorem dX11_seat_13 : decode cX11_seat 13 = .ok (.aload_n 0, 1) := by decide +kernel
set_option maxRecDepth 100000 in
theorem dX11_seat_14 : decode cX11_seat 14 = .ok (.getfield 36, 3) := by decide +kernel
set_option maxRecDepth 100000 in
theorem dX11_seat_17 : decode cX11_seat 17 = .ok (.iload_n 1, 1) := by decide +kernel
set_option maxRecDepth 100000 in
theorem dX11_seat_18 : decode cX11_seat 18 = .ok (.invokevirtual 330, 3) := by decide +kernel
set_option maxRecDepth 100000 in
theorem dX11_seat_21 : decode cX11_seat 21 = .ok (.ifCond .ne 6, 3) := by decide +kernel
set_option maxRecDepth 100000 in
theorem dX11_seat_24 : decode cX11_seat 24 = .ok (.bipush (-3), 2) := by decide +kernel
set_option maxRecDepth 100000 in
theorem dX11_seat_26 : decode cX11_seat 26 = .ok (.ireturn, 1) := by decide +kernel
set_option maxRecDepth 100000 in
theorem dX11_seat_27 : decode cX11_seat 27 = .ok (.bipush (-2), 2) := by decide +kernel
set_option maxRecDepth 100000 in
theorem dX11_seat_29 : decode cX11_seat 29 = .ok (.istore_n 2, 1) := by decide +kernel
set_option maxRecDepth 100000 in
theorem dX11_seat_30 : decode cX11_seat 30 = .ok (.bipush 31, 2) := by decide +kernel
set_option maxRecDepth 100000 in
theorem dX11_seat_32 : decode cX11_seat 32 = .ok (.istore_n 3, 1) := by decide +kernel
set_option maxRecDepth 100000 in
theorem dX11_seat_33 : decode cX11_seat 33 = .ok (.iconst 0, 1) := by decide +kernel
set_option maxRecDepth 100000 in
theorem dX11_seat_34 : decode cX11_seat 34 = .ok (.istore 4, 2) := by decide +kernel
set_option maxRecDepth 100000 in
theorem dX11_seat_36 : decode cX11_seat 36 = .ok (.iload 4, 2) := by decide +kernel
set_option maxRecDepth 100000 in
theorem dX11_seat_38 : decode cX11_seat 38 = .ok (.aload_n 0, 1) := by decide +kernel
set_option maxRecDepth 100000 in
theorem dX11_seat_39 : decode cX11_seat 39 = .ok (.getfield 36, 3) := by decide +kernel
set_option maxRecDepth 100000 in
theorem dX11_seat_42 : decode cX11_seat 42 = .ok (.getfield 349, 3) := by decide +kernel
set_option maxRecDepth 100000 in
theorem dX11_seat_45 : decode cX11_seat 45 = .ok (.if_icmp .ge 67, 3) := by decide +kernel
set_option maxRecDepth 100000 in
theorem dX11_seat_48 : decode cX11_seat 48 = .ok (.aload_n 0, 1) := by decide +kernel
set_option maxRecDepth 100000 in
theorem dX11_seat_49 : decode cX11_seat 49 = .ok (.getfield 36, 3) := by decide +kernel
set_option maxRecDepth 100000 in
theorem dX11_seat_52 : decode cX11_seat 52 = .ok (.getfield 183, 3) := by decide +kernel
set_option maxRecDepth 100000 in
theorem dX11_seat_55 : decode cX11_seat 55 = .ok (.iload 4, 2) := by decide +kernel
set_option maxRecDepth 100000 in
theorem dX11_seat_57 : decode cX11_seat 57 = .ok (.iaload, 1) := by decide +kernel
set_option maxRecDepth 100000 in
theorem dX11_seat_58 : decode cX11_seat 58 = .ok (.iconst (-1), 1) := by decide +kernel
set_option maxRecDepth 100000 in
theorem dX11_seat_59 : decode cX11_seat 59 = .ok (.if_icmp .eq 47, 3) := by decide +kernel
set_option maxRecDepth 100000 in
theorem dX11_seat_62 : decode cX11_seat 62 = .ok (.aload_n 0, 1) := by decide +kernel
set_option maxRecDepth 100000 in
theorem dX11_seat_63 : decode cX11_seat 63 = .ok (.getfield 43, 3) := by decide +kernel
set_option maxRecDepth 100000 in
theorem dX11_seat_66 : decode cX11_seat 66 = .ok (.aload_n 0, 1) := by decide +kernel
set_option maxRecDepth 100000 in
theorem dX11_seat_67 : decode cX11_seat 67 = .ok (.getfield 36, 3) := by decide +kernel
set_option maxRecDepth 100000 in
theorem dX11_seat_70 : decode cX11_seat 70 = .ok (.invokevirtual 231, 3) := by decide +kernel
set_option maxRecDepth 100000 in
theorem dX11_seat_73 : decode cX11_seat 73 = .ok (.aload_n 0, 1) := by decide +kernel
set_option maxRecDepth 100000 in
theorem dX11_seat_74 : decode cX11_seat 74 = .ok (.getfield 43, 3) := by decide +kernel
set_option maxRecDepth 100000 in
theorem dX11_seat_77 : decode cX11_seat 77 = .ok (.getfield 205, 3) := by decide +kernel
set_option maxRecDepth 100000 in
theorem dX11_seat_80 : decode cX11_seat 80 = .ok (.iload_n 1, 1) := by decide +kernel
set_option maxRecDepth 100000 in
theorem dX11_seat_81 : decode cX11_seat 81 = .ok (.iload 4, 2) := by decide +kernel
set_option maxRecDepth 100000 in
theorem dX11_seat_83 : decode cX11_seat 83 = .ok (.iastore, 1) := by decide +kernel
set_option maxRecDepth 100000 in
theorem dX11_seat_84 : decode cX11_seat 84 = .ok (.aload_n 0, 1) := by decide +kernel
set_option maxRecDepth 100000 in
theorem dX11_seat_85 : decode cX11_seat 85 = .ok (.iload_n 1, 1) := by decide +kernel
set_option maxRecDepth 100000 in
theorem dX11_seat_86 : decode cX11_seat 86 = .ok (.iload_n 3, 1) := by decide +kernel
set_option maxRecDepth 100000 in
theorem dX11_seat_87 : decode cX11_seat 87 = .ok (.iconst 1, 1) := by decide +kernel
set_option maxRecDepth 100000 in
theorem dX11_seat_88 : decode cX11_seat 88 = .ok (.isub, 1) := by decide +kernel
set_option maxRecDepth 100000 in
theorem dX11_seat_89 : decode cX11_seat 89 = .ok (.invokevirtual 318, 3) := by decide +kernel
set_option maxRecDepth 100000 in
theorem dX11_seat_92 : decode cX11_seat 92 = .ok (.istore 5, 2) := by decide +kernel
set_option maxRecDepth 100000 in
theorem dX11_seat_94 : decode cX11_seat 94 = .ok (.iload 5, 2) := by decide +kernel
set_option maxRecDepth 100000 in
theorem dX11_seat_96 : decode cX11_seat 96 = .ok (.iconst (-1), 1) := by decide +kernel
set_option maxRecDepth 100000 in
theorem dX11_seat_97 : decode cX11_seat 97 = .ok (.if_icmp .eq 9, 3) := by decide +kernel
set_option maxRecDepth 100000 in
theorem dX11_seat_100 : decode cX11_seat 100 = .ok (.iload 4, 2) := by decide +kernel
set_option maxRecDepth 100000 in
theorem dX11_seat_102 : decode cX11_seat 102 = .ok (.istore_n 2, 1) := by decide +kernel
set_option maxRecDepth 100000 in
theorem dX11_seat_103 : decode cX11_seat 103 = .ok (.iload 5, 2) := by decide +kernel
set_option maxRecDepth 100000 in
theorem dX11_seat_105 : decode cX11_seat 105 = .ok (.istore_n 3, 1) := by decide +kernel
set_option maxRecDepth 100000 in
theorem dX11_seat_106 : decode cX11_seat 106 = .ok (.iinc 4 1, 3) := by decide +kernel
set_option maxRecDepth 100000 in
theorem dX11_seat_109 : decode cX11_seat 109 = .ok (.goto (-73), 3) := by decide +kernel
set_option maxRecDepth 100000 in
theorem dX11_seat_112 : decode cX11_seat 112 = .ok (.iload_n 2, 1) := by decide +kernel
set_option maxRecDepth 100000 in
theorem dX11_seat_113 : decode cX11_seat 113 = .ok (.ifCond .lt 19, 3) := by decide +kernel
set_option maxRecDepth 100000 in
theorem dX11_seat_116 : decode cX11_seat 116 = .ok (.aload_n 0, 1) := by decide +kernel
set_option maxRecDepth 100000 in
theorem dX11_seat_117 : decode cX11_seat 117 = .ok (.getfield 87, 3) := by decide +kernel
set_option maxRecDepth 100000 in
theorem dX11_seat_120 : decode cX11_seat 120 = .ok (.invokevirtual 239, 3) := by decide +kernel
set_option maxRecDepth 100000 in
theorem dX11_seat_123 : decode cX11_seat 123 = .ok (.aload_n 0, 1) := by decide +kernel
set_option maxRecDepth 100000 in
theorem dX11_seat_124 : decode cX11_seat 124 = .ok (.getfield 87, 3) := by decide +kernel
set_option maxRecDepth 100000 in
theorem dX11_seat_127 : decode cX11_seat 127 = .ok (.iload_n 3, 1) := by decide +kernel
set_option maxRecDepth 100000 in
theorem dX11_seat_128 : decode cX11_seat 128 = .ok (.i2l, 1) := by decide +kernel
set_option maxRecDepth 100000 in
theorem dX11_seat_129 : decode cX11_seat 129 = .ok (.invokevirtual 243, 3) := by decide +kernel
set_option maxRecDepth 100000 in
theorem dX11_seat_132 : decode cX11_seat 132 = .ok (.iload_n 2, 1) := by decide +kernel
set_option maxRecDepth 100000 in
theorem dX11_seat_133 : decode cX11_seat 133 = .ok (.ireturn, 1) := by decide +kernel
set_option maxRecDepth 100000 in
theorem dX11_reseat_0 : decode cX11_reseat 0 = .ok (.iload_n 1, 1) := by decide +kernel
set_option maxRecDepth 100000 in
theorem dX11_reseat_1 : decode cX11_reseat 1 = .ok (.iconst 1, 1) := by decide +kernel
set_option maxRecDepth 100000 in
theorem dX11_reseat_2 : decode cX11_reseat 2 = .ok (.if_icmp .lt 9, 3) := by decide +kernel
set_option maxRecDepth 100000 in
theorem dX11_reseat_5 : decode cX11_reseat 5 = .ok (.iload_n 1, 1) := by decide +kernel
set_option maxRecDepth 100000 in
theorem dX11_reseat_6 : decode cX11_reseat 6 = .ok (.bipush 12, 2) := by decide +kernel
set_option maxRecDepth 100000 in
theorem dX11_reseat_8 : decode cX11_reseat 8 = .ok (.if_icmp .le 5, 3) := by decide +kernel
set_option maxRecDepth 100000 in
theorem dX11_reseat_11 : decode cX11_reseat 11 = .ok (.iconst (-1), 1) := by decide +kernel
set_option maxRecDepth 100000 in
theorem dX11_reseat_12 : decode cX11_reseat 12 = .ok (.ireturn, 1) := by decide +kernel
set_option maxRecDepth 100000 in
theorem dX11_reseat_13 : decode cX11_reseat 13 = .ok (.aload_n 0, 1) := by decide +kernel
set_option maxRecDepth 100000 in
theorem dX11_reseat_14 : decode cX11_reseat 14 = .ok (.getfield 43, 3) := by decide +kernel
set_option maxRecDepth 100000 in
theorem dX11_reseat_17 : decode cX11_reseat 17 = .ok (.aload_n 0, 1) := by decide +kernel
set_option maxRecDepth 100000 in
theorem dX11_reseat_18 : decode cX11_reseat 18 = .ok (.getfield 36, 3) := by decide +kernel
set_option maxRecDepth 100000 in
theorem dX11_reseat_21 : decode cX11_reseat 21 = .ok (.invokevirtual 231, 3) := by decide +kernel
set_option maxRecDepth 100000 in
theorem dX11_reseat_24 : decode cX11_reseat 24 = .ok (.aload_n 0, 1) := by decide +kernel
set_option maxRecDepth 100000 in
theorem dX11_reseat_25 : decode cX11_reseat 25 = .ok (.iload_n 1, 1) := by decide +kernel
set_option maxRecDepth 100000 in
theorem dX11_reseat_26 : decode cX11_reseat 26 = .ok (.aload_n 0, 1) := by decide +kernel
set_option maxRecDepth 100000 in
theorem dX11_reseat_27 : decode cX11_reseat 27 = .ok (.getfield 19, 3) := by decide +kernel
set_option maxRecDepth 100000 in
theorem dX11_reseat_30 : decode cX11_reseat 30 = .ok (.aload_n 0, 1) := by decide +kernel
set_option maxRecDepth 100000 in
theorem dX11_reseat_31 : decode cX11_reseat 31 = .ok (.getfield 49, 3) := by decide +kernel
set_option maxRecDepth 100000 in
theorem dX11_reseat_34 : decode cX11_reseat 34 = .ok (.iconst 0, 1) := by decide +kernel
set_option maxRecDepth 100000 in
theorem dX11_reseat_35 : decode cX11_reseat 35 = .ok (.invokevirtual 308, 3) := by decide +kernel
set_option maxRecDepth 100000 in
theorem dX11_reseat_38 : decode cX11_reseat 38 = .ok (.istore_n 2, 1) := by decide +kernel
set_option maxRecDepth 100000 in
theorem dX11_reseat_39 : decode cX11_reseat 39 = .ok (.iconst (-1), 1) := by decide +kernel
set_option maxRecDepth 100000 in
theorem dX11_reseat_40 : decode cX11_reseat 40 = .ok (.istore_n 3, 1) := by decide +kernel
set_option maxRecDepth 100000 in
theorem dX11_reseat_41 : decode cX11_reseat 41 = .ok (.iconst (-1), 1) := by decide +kernel
set_option maxRecDepth 100000 in
theorem dX11_reseat_42 : decode cX11_reseat 42 = .ok (.istore 4, 2) := by decide +kernel
set_option maxRecDepth 100000 in
theorem dX11_reseat_44 : decode cX11_reseat 44 = .ok (.iconst 0, 1) := by decide +kernel
set_option maxRecDepth 100000 in
theorem dX11_reseat_45 : decode cX11_reseat 45 = .ok (.istore 5, 2) := by decide +kernel
set_option maxRecDepth 100000 in
theorem dX11_reseat_47 : decode cX11_reseat 47 = .ok (.iload 5, 2) := by decide +kernel
set_option maxRecDepth 100000 in
theorem dX11_reseat_49 : decode cX11_reseat 49 = .ok (.aload_n 0, 1) := by decide +kernel
set_option maxRecDepth 100000 in
theorem dX11_reseat_50 : decode cX11_reseat 50 = .ok (.getfield 29, 3) := by decide +kernel
set_option maxRecDepth 100000 in
theorem dX11_reseat_53 : decode cX11_reseat 53 = .ok (.getfield 116, 3) := by decide +kernel
set_option maxRecDepth 100000 in
theorem dX11_reseat_56 : decode cX11_reseat 56 = .ok (.if_icmp .ge 99, 3) := by decide +kernel
set_option maxRecDepth 100000 in
theorem dX11_reseat_59 : decode cX11_reseat 59 = .ok (.iconst 0, 1) := by decide +kernel
set_option maxRecDepth 100000 in
theorem dX11_reseat_60 : decode cX11_reseat 60 = .ok (.istore 6, 2) := by decide +kernel
set_option maxRecDepth 100000 in
theorem dX11_reseat_62 : decode cX11_reseat 62 = .ok (.iload 6, 2) := by decide +kernel
set_option maxRecDepth 100000 in
theorem dX11_reseat_64 : decode cX11_reseat 64 = .ok (.aload_n 0, 1) := by decide +kernel
set_option maxRecDepth 100000 in
theorem dX11_reseat_65 : decode cX11_reseat 65 = .ok (.getfield 36, 3) := by decide +kernel
set_option maxRecDepth 100000 in
theorem dX11_reseat_68 : decode cX11_reseat 68 = .ok (.getfield 349, 3) := by decide +kernel
set_option maxRecDepth 100000 in
theorem dX11_reseat_71 : decode cX11_reseat 71 = .ok (.if_icmp .ge 78, 3) := by decide +kernel
set_option maxRecDepth 100000 in
theorem dX11_reseat_74 : decode cX11_reseat 74 = .ok (.iconst (-1), 1) := by decide +kernel
set_option maxRecDepth 100000 in
theorem dX11_reseat_75 : decode cX11_reseat 75 = .ok (.istore 7, 2) := by decide +kernel
set_option maxRecDepth 100000 in
theorem dX11_reseat_77 : decode cX11_reseat 77 = .ok (.aload_n 0, 1) := by decide +kernel
set_option maxRecDepth 100000 in
theorem dX11_reseat_78 : decode cX11_reseat 78 = .ok (.iload 5, 2) := by decide +kernel
set_option maxRecDepth 100000 in
theorem dX11_reseat_80 : decode cX11_reseat 80 = .ok (.iload 6, 2) := by decide +kernel
set_option maxRecDepth 100000 in
theorem dX11_reseat_82 : decode cX11_reseat 82 = .ok (.invokevirtual 352, 3) := by decide +kernel
set_option maxRecDepth 100000 in
theorem dX11_reseat_85 : decode cX11_reseat 85 = .ok (.ifCond .eq 42, 3) := by decide +kernel
set_option maxRecDepth 100000 in
theorem dX11_reseat_88 : decode cX11_reseat 88 = .ok (.aload_n 0, 1) := by decide +kernel
set_option maxRecDepth 100000 in
theorem dX11_reseat_89 : decode cX11_reseat 89 = .ok (.getfield 43, 3) := by decide +kernel
set_option maxRecDepth 100000 in
theorem dX11_reseat_92 : decode cX11_reseat 92 = .ok (.aload_n 0, 1) := by decide +kernel
set_option maxRecDepth 100000 in
theorem dX11_reseat_93 : decode cX11_reseat 93 = .ok (.getfield 36, 3) := by decide +kernel
set_option maxRecDepth 100000 in
theorem dX11_reseat_96 : decode cX11_reseat 96 = .ok (.invokevirtual 231, 3) := by decide +kernel
set_option maxRecDepth 100000 in
theorem dX11_reseat_99 : decode cX11_reseat 99 = .ok (.aload_n 0, 1) := by decide +kernel
set_option maxRecDepth 100000 in
theorem dX11_reseat_100 : decode cX11_reseat 100 = .ok (.getfield 43, 3) := by decide +kernel
set_option maxRecDepth 100000 in
theorem dX11_reseat_103 : decode cX11_reseat 103 = .ok (.getfield 205, 3) := by decide +kernel
set_option maxRecDepth 100000 in
theorem dX11_reseat_106 : decode cX11_reseat 106 = .ok (.iload 5, 2) := by decide +kernel
set_option maxRecDepth 100000 in
theorem dX11_reseat_108 : decode cX11_reseat 108 = .ok (.iload 6, 2) := by decide +kernel
set_option maxRecDepth 100000 in
theorem dX11_reseat_110 : decode cX11_reseat 110 = .ok (.iastore, 1) := by decide +kernel
set_option maxRecDepth 100000 in
theorem dX11_reseat_111 : decode cX11_reseat 111 = .ok (.aload_n 0, 1) := by decide +kernel
set_option maxRecDepth 100000 in
theorem dX11_reseat_112 : decode cX11_reseat 112 = .ok (.iload_n 1, 1) := by decide +kernel
set_option maxRecDepth 100000 in
theorem dX11_reseat_113 : decode cX11_reseat 113 = .ok (.aload_n 0, 1) := by decide +kernel
set_option maxRecDepth 100000 in
theorem dX11_reseat_114 : decode cX11_reseat 114 = .ok (.getfield 19, 3) := by decide +kernel
set_option maxRecDepth 100000 in
theorem dX11_reseat_117 : decode cX11_reseat 117 = .ok (.aload_n 0, 1) := by decide +kernel
set_option maxRecDepth 100000 in
theorem dX11_reseat_118 : decode cX11_reseat 118 = .ok (.getfield 49, 3) := by decide +kernel
set_option maxRecDepth 100000 in
theorem dX11_reseat_121 : decode cX11_reseat 121 = .ok (.iconst 0, 1) := by decide +kernel
set_option maxRecDepth 100000 in
theorem dX11_reseat_122 : decode cX11_reseat 122 = .ok (.invokevirtual 308, 3) := by decide +kernel
set_option maxRecDepth 100000 in
theorem dX11_reseat_125 : decode cX11_reseat 125 = .ok (.istore 7, 2) := by decide +kernel
set_option maxRecDepth 100000 in
theorem dX11_reseat_127 : decode cX11_reseat 127 = .ok (.iload 7, 2) := by decide +kernel
set_option maxRecDepth 100000 in
theorem dX11_reseat_129 : decode cX11_reseat 129 = .ok (.iload_n 2, 1) := by decide +kernel
set_option maxRecDepth 100000 in
theorem dX11_reseat_130 : decode cX11_reseat 130 = .ok (.if_icmp .le 13, 3) := by decide +kernel
set_option maxRecDepth 100000 in
theorem dX11_reseat_133 : decode cX11_reseat 133 = .ok (.iload 7, 2) := by decide +kernel
set_option maxRecDepth 100000 in
theorem dX11_reseat_135 : decode cX11_reseat 135 = .ok (.istore_n 2, 1) := by decide +kernel
set_option maxRecDepth 100000 in
theorem dX11_reseat_136 : decode cX11_reseat 136 = .ok (.iload 5, 2) := by decide +kernel
set_option maxRecDepth 100000 in
theorem dX11_reseat_138 : decode cX11_reseat 138 = .ok (.istore_n 3, 1) := by decide +kernel
set_option maxRecDepth 100000 in
theorem dX11_reseat_139 : decode cX11_reseat 139 = .ok (.iload 6, 2) := by decide +kernel
set_option maxRecDepth 100000 in
theorem dX11_reseat_141 : decode cX11_reseat 141 = .ok (.istore 4, 2) := by decide +kernel
set_option maxRecDepth 100000 in
theorem dX11_reseat_143 : decode cX11_reseat 143 = .ok (.iinc 6 1, 3) := by decide +kernel
set_option maxRecDepth 100000 in
theorem dX11_reseat_146 : decode cX11_reseat 146 = .ok (.goto (-84), 3) := by decide +kernel
set_option maxRecDepth 100000 in
theorem dX11_reseat_149 : decode cX11_reseat 149 = .ok (.iinc 5 1, 3) := by decide +kernel
set_option maxRecDepth 100000 in
theorem dX11_reseat_152 : decode cX11_reseat 152 = .ok (.goto (-105), 3) := by decide +kernel
set_option maxRecDepth 100000 in
theorem dX11_reseat_155 : decode cX11_reseat 155 = .ok (.aload_n 0, 1) := by decide +kernel
set_option maxRecDepth 100000 in
theorem dX11_reseat_156 : decode cX11_reseat 156 = .ok (.getfield 87, 3) := by decide +kernel
set_option maxRecDepth 100000 in
theorem dX11_reseat_159 : decode cX11_reseat 159 = .ok (.invokevirtual 239, 3) := by decide +kernel
set_option maxRecDepth 100000 in
theorem dX11_reseat_162 : decode cX11_reseat 162 = .ok (.aload_n 0, 1) := by decide +kernel
set_option maxRecDepth 100000 in
theorem dX11_reseat_163 : decode cX11_reseat 163 = .ok (.getfield 87, 3) := by decide +kernel
set_option maxRecDepth 100000 in
theorem dX11_reseat_166 : decode cX11_reseat 166 = .ok (.iload_n 3, 1) := by decide +kernel
set_option maxRecDepth 100000 in
theorem dX11_reseat_167 : decode cX11_reseat 167 = .ok (.i2l, 1) := by decide +kernel
set_option maxRecDepth 100000 in
theorem dX11_reseat_168 : decode cX11_reseat 168 = .ok (.invokevirtual 243, 3) := by decide +kernel
set_option maxRecDepth 100000 in
theorem dX11_reseat_171 : decode cX11_reseat 171 = .ok (.aload_n 0, 1) := by decide +kernel
set_option maxRecDepth 100000 in
theorem dX11_reseat_172 : decode cX11_reseat 172 = .ok (.getfield 87, 3) := by decide +kernel
set_option maxRecDepth 100000 in
theorem dX11_reseat_175 : decode cX11_reseat 175 = .ok (.iload 4, 2) := by decide +kernel
set_option maxRecDepth 100000 in
theorem dX11_reseat_177 : decode cX11_reseat 177 = .ok (.i2l, 1) := by decide +kernel
set_option maxRecDepth 100000 in
theorem dX11_reseat_178 : decode cX11_reseat 178 = .ok (.invokevirtual 243, 3) := by decide +kernel
set_option maxRecDepth 100000 in
theorem dX11_reseat_181 : decode cX11_reseat 181 = .ok (.iload_n 2, 1) := by decide +kernel
set_option maxRecDepth 100000 in
theorem dX11_reseat_182 : decode cX11_reseat 182 = .ok (.ireturn, 1) := by decide +kernel
set_option maxRecDepth 100000 in
theorem dX11_close_0 : decode cX11_close 0 = .ok (.iload_n 1, 1) := by decide +kernel
set_option maxRecDepth 100000 in
theorem dX11_close_1 : decode cX11_close 1 = .ok (.iconst 1, 1) := by decide +kernel
set_option maxRecDepth 100000 in
theorem dX11_close_2 : decode cX11_close 2 = .ok (.if_icmp .lt 9, 3) := by decide +kernel
set_option maxRecDepth 100000 in
theorem dX11_close_5 : decode cX11_close 5 = .ok (.iload_n 1, 1) := by decide +kernel
set_option maxRecDepth 100000 in
theorem dX11_close_6 : decode cX11_close 6 = .ok (.bipush 12, 2) := by decide +kernel
set_option maxRecDepth 100000 in
theorem dX11_close_8 : decode cX11_close 8 = .ok (.if_icmp .le 5, 3) := by decide +kernel
set_option maxRecDepth 100000 in
theorem dX11_close_11 : decode cX11_close 11 = .ok (.iconst (-1), 1) := by decide +kernel
set_option maxRecDepth 100000 in
theorem dX11_close_12 : decode cX11_close 12 = .ok (.ireturn, 1) := by decide +kernel
set_option maxRecDepth 100000 in
theorem dX11_close_13 : decode cX11_close 13 = .ok (.aload_n 0, 1) := by decide +kernel
set_option maxRecDepth 100000 in
theorem dX11_close_14 : decode cX11_close 14 = .ok (.getfield 43, 3) := by decide +kernel
set_option maxRecDepth 100000 in
theorem dX11_close_17 : decode cX11_close 17 = .ok (.aload_n 0, 1) := by decide +kernel
set_option maxRecDepth 100000 in
theorem dX11_close_18 : decode cX11_close 18 = .ok (.getfield 36, 3) := by decide +kernel
set_option maxRecDepth 100000 in
theorem dX11_close_21 : decode cX11_close 21 = .ok (.invokevirtual 231, 3) := by decide +kernel
set_option maxRecDepth 100000 in
theorem dX11_close_24 : decode cX11_close 24 = .ok (.aload_n 0, 1) := by decide +kernel
set_option maxRecDepth 100000 in
theorem dX11_close_25 : decode cX11_close 25 = .ok (.iload_n 1, 1) := by decide +kernel
set_option maxRecDepth 100000 in
theorem dX11_close_26 : decode cX11_close 26 = .ok (.aload_n 0, 1) := by decide +kernel
set_option maxRecDepth 100000 in
theorem dX11_close_27 : decode cX11_close 27 = .ok (.getfield 19, 3) := by decide +kernel
set_option maxRecDepth 100000 in
theorem dX11_close_30 : decode cX11_close 30 = .ok (.aload_n 0, 1) := by decide +kernel
set_option maxRecDepth 100000 in
theorem dX11_close_31 : decode cX11_close 31 = .ok (.getfield 49, 3) := by decide +kernel
set_option maxRecDepth 100000 in
theorem dX11_close_34 : decode cX11_close 34 = .ok (.iconst 0, 1) := by decide +kernel
set_option maxRecDepth 100000 in
theorem dX11_close_35 : decode cX11_close 35 = .ok (.invokevirtual 308, 3) := by decide +kernel
set_option maxRecDepth 100000 in
theorem dX11_close_38 : decode cX11_close 38 = .ok (.istore_n 2, 1) := by decide +kernel
set_option maxRecDepth 100000 in
theorem dX11_close_39 : decode cX11_close 39 = .ok (.bipush (-3), 2) := by decide +kernel
set_option maxRecDepth 100000 in
theorem dX11_close_41 : decode cX11_close 41 = .ok (.istore_n 3, 1) := by decide +kernel
set_option maxRecDepth 100000 in
theorem dX11_close_42 : decode cX11_close 42 = .ok (.iconst 0, 1) := by decide +kernel
set_option maxRecDepth 100000 in
theorem dX11_close_43 : decode cX11_close 43 = .ok (.istore 4, 2) := by decide +kernel
set_option maxRecDepth 100000 in
theorem dX11_close_45 : decode cX11_close 45 = .ok (.iload 4, 2) := by decide +kernel
set_option maxRecDepth 100000 in
theorem dX11_close_47 : decode cX11_close 47 = .ok (.iconst 2, 1) := by decide +kernel
set_option maxRecDepth 100000 in
theorem dX11_close_48 : decode cX11_close 48 = .ok (.aload_n 0, 1) := by decide +kernel
set_option maxRecDepth 100000 in
theorem dX11_close_49 : decode cX11_close 49 = .ok (.getfield 19, 3) := by decide +kernel
set_option maxRecDepth 100000 in
theorem dX11_close_52 : decode cX11_close 52 = .ok (.getfield 129, 3) := by decide +kernel
set_option maxRecDepth 100000 in
theorem dX11_close_55 : decode cX11_close 55 = .ok (.imul, 1) := by decide +kernel
set_option maxRecDepth 100000 in
theorem dX11_close_56 : decode cX11_close 56 = .ok (.if_icmp .ge 68, 3) := by decide +kernel
set_option maxRecDepth 100000 in
theorem dX11_close_59 : decode cX11_close 59 = .ok (.aload_n 0, 1) := by decide +kernel
set_option maxRecDepth 100000 in
theorem dX11_close_60 : decode cX11_close 60 = .ok (.getfield 23, 3) := by decide +kernel
set_option maxRecDepth 100000 in
theorem dX11_close_63 : decode cX11_close 63 = .ok (.aload_n 0, 1) := by decide +kernel
set_option maxRecDepth 100000 in
theorem dX11_close_64 : decode cX11_close 64 = .ok (.getfield 19, 3) := by decide +kernel
set_option maxRecDepth 100000 in
theorem dX11_close_67 : decode cX11_close 67 = .ok (.invokevirtual 106, 3) := by decide +kernel
set_option maxRecDepth 100000 in
theorem dX11_close_70 : decode cX11_close 70 = .ok (.aload_n 0, 1) := by decide +kernel
set_option maxRecDepth 100000 in
theorem dX11_close_71 : decode cX11_close 71 = .ok (.getfield 23, 3) := by decide +kernel
set_option maxRecDepth 100000 in
theorem dX11_close_74 : decode cX11_close 74 = .ok (.iload 4, 2) := by decide +kernel
set_option maxRecDepth 100000 in
theorem dX11_close_76 : decode cX11_close 76 = .ok (.invokevirtual 355, 3) := by decide +kernel
set_option maxRecDepth 100000 in
theorem dX11_close_79 : decode cX11_close 79 = .ok (.aload_n 0, 1) := by decide +kernel
set_option maxRecDepth 100000 in
theorem dX11_close_80 : decode cX11_close 80 = .ok (.getfield 43, 3) := by decide +kernel
set_option maxRecDepth 100000 in
theorem dX11_close_83 : decode cX11_close 83 = .ok (.aload_n 0, 1) := by decide +kernel
set_option maxRecDepth 100000 in
theorem dX11_close_84 : decode cX11_close 84 = .ok (.getfield 36, 3) := by decide +kernel
set_option maxRecDepth 100000 in
theorem dX11_close_87 : decode cX11_close 87 = .ok (.invokevirtual 231, 3) := by decide +kernel
set_option maxRecDepth 100000 in
theorem dX11_close_90 : decode cX11_close 90 = .ok (.aload_n 0, 1) := by decide +kernel
set_option maxRecDepth 100000 in
theorem dX11_close_91 : decode cX11_close 91 = .ok (.iload_n 1, 1) := by decide +kernel
set_option maxRecDepth 100000 in
theorem dX11_close_92 : decode cX11_close 92 = .ok (.aload_n 0, 1) := by decide +kernel
set_option maxRecDepth 100000 in
theorem dX11_close_93 : decode cX11_close 93 = .ok (.getfield 23, 3) := by decide +kernel
set_option maxRecDepth 100000 in
theorem dX11_close_96 : decode cX11_close 96 = .ok (.aload_n 0, 1) := by decide +kernel
set_option maxRecDepth 100000 in
theorem dX11_close_97 : decode cX11_close 97 = .ok (.getfield 49, 3) := by decide +kernel
set_option maxRecDepth 100000 in
theorem dX11_close_100 : decode cX11_close 100 = .ok (.iconst 0, 1) := by decide +kernel
set_option maxRecDepth 100000 in
theorem dX11_close_101 : decode cX11_close 101 = .ok (.invokevirtual 308, 3) := by decide +kernel
set_option maxRecDepth 100000 in
theorem dX11_close_104 : decode cX11_close 104 = .ok (.istore 5, 2) := by decide +kernel
set_option maxRecDepth 100000 in
theorem dX11_close_106 : decode cX11_close 106 = .ok (.iload 5, 2) := by decide +kernel
set_option maxRecDepth 100000 in
theorem dX11_close_108 : decode cX11_close 108 = .ok (.iload_n 2, 1) := by decide +kernel
set_option maxRecDepth 100000 in
theorem dX11_close_109 : decode cX11_close 109 = .ok (.if_icmp .le 9, 3) := by decide +kernel
set_option maxRecDepth 100000 in
theorem dX11_close_112 : decode cX11_close 112 = .ok (.iload 5, 2) := by decide +kernel
set_option maxRecDepth 100000 in
theorem dX11_close_114 : decode cX11_close 114 = .ok (.istore_n 2, 1) := by decide +kernel
set_option maxRecDepth 100000 in
theorem dX11_close_115 : decode cX11_close 115 = .ok (.iload 4, 2) := by decide +kernel
set_option maxRecDepth 100000 in
theorem dX11_close_117 : decode cX11_close 117 = .ok (.istore_n 3, 1) := by decide +kernel
set_option maxRecDepth 100000 in
theorem dX11_close_118 : decode cX11_close 118 = .ok (.iinc 4 1, 3) := by decide +kernel
set_option maxRecDepth 100000 in
theorem dX11_close_121 : decode cX11_close 121 = .ok (.goto (-76), 3) := by decide +kernel
set_option maxRecDepth 100000 in
theorem dX11_close_124 : decode cX11_close 124 = .ok (.aload_n 0, 1) := by decide +kernel
set_option maxRecDepth 100000 in
theorem dX11_close_125 : decode cX11_close 125 = .ok (.getfield 87, 3) := by decide +kernel
set_option maxRecDepth 100000 in
theorem dX11_close_128 : decode cX11_close 128 = .ok (.invokevirtual 239, 3) := by decide +kernel
set_option maxRecDepth 100000 in
theorem dX11_close_131 : decode cX11_close 131 = .ok (.aload_n 0, 1) := by decide +kernel
set_option maxRecDepth 100000 in
theorem dX11_close_132 : decode cX11_close 132 = .ok (.getfield 87, 3) := by decide +kernel
set_option maxRecDepth 100000 in
theorem dX11_close_135 : decode cX11_close 135 = .ok (.iload_n 2, 1) := by decide +kernel
set_option maxRecDepth 100000 in
theorem dX11_close_136 : decode cX11_close 136 = .ok (.i2l, 1) := by decide +kernel
set_option maxRecDepth 100000 in
theorem dX11_close_137 : decode cX11_close 137 = .ok (.invokevirtual 243, 3) := by decide +kernel
set_option maxRecDepth 100000 in
theorem dX11_close_140 : decode cX11_close 140 = .ok (.iload_n 3, 1) := by decide +kernel
set_option maxRecDepth 100000 in
theorem dX11_close_141 : decode cX11_close 141 = .ok (.ireturn, 1) := by decide +kernel
set_option maxRecDepth 100000 in
theorem dX11_fetch_0 : decode cX11_fetch 0 = .ok (.aload_n 0, 1) := by decide +kernel
set_option maxRecDepth 100000 in
theorem dX11_fetch_1 : decode cX11_fetch 1 = .ok (.getfield 19, 3) := by decide +kernel
set_option maxRecDepth 100000 in
theorem dX11_fetch_4 : decode cX11_fetch 4 = .ok (.iload_n 1, 1) := by decide +kernel
set_option maxRecDepth 100000 in
theorem dX11_fetch_5 : decode cX11_fetch 5 = .ok (.invokevirtual 289, 3) := by decide +kernel
set_option maxRecDepth 100000 in
theorem dX11_fetch_8 : decode cX11_fetch 8 = .ok (.ifCond .ne 5, 3) := by decide +kernel
set_option maxRecDepth 100000 in
theorem dX11_fetch_11 : decode cX11_fetch 11 = .ok (.iconst (-1), 1) := by decide +kernel
set_option maxRecDepth 100000 in
theorem dX11_fetch_12 : decode cX11_fetch 12 = .ok (.ireturn, 1) := by decide +kernel
set_option maxRecDepth 100000 in
theorem dX11_fetch_13 : decode cX11_fetch 13 = .ok (.aload_n 0, 1) := by decide +kernel
set_option maxRecDepth 100000 in
theorem dX11_fetch_14 : decode cX11_fetch 14 = .ok (.getfield 80, 3) := by decide +kernel
set_option maxRecDepth 100000 in
theorem dX11_fetch_17 : decode cX11_fetch 17 = .ok (.aload_n 0, 1) := by decide +kernel
set_option maxRecDepth 100000 in
theorem dX11_fetch_18 : decode cX11_fetch 18 = .ok (.getfield 19, 3) := by decide +kernel
set_option maxRecDepth 100000 in
theorem dX11_fetch_21 : decode cX11_fetch 21 = .ok (.aload_n 0, 1) := by decide +kernel
set_option maxRecDepth 100000 in
theorem dX11_fetch_22 : decode cX11_fetch 22 = .ok (.getfield 36, 3) := by decide +kernel
set_option maxRecDepth 100000 in
theorem dX11_fetch_25 : decode cX11_fetch 25 = .ok (.iload_n 1, 1) := by decide +kernel
set_option maxRecDepth 100000 in
theorem dX11_fetch_26 : decode cX11_fetch 26 = .ok (.invokevirtual 358, 3) := by decide +kernel
set_option maxRecDepth 100000 in
theorem dX11_fetch_29 : decode cX11_fetch 29 = .ok (.aload_n 0, 1) := by decide +kernel
set_option maxRecDepth 100000 in
theorem dX11_fetch_30 : decode cX11_fetch 30 = .ok (.getfield 80, 3) := by decide +kernel
set_option maxRecDepth 100000 in
theorem dX11_fetch_33 : decode cX11_fetch 33 = .ok (.invokevirtual 362, 3) := by decide +kernel
set_option maxRecDepth 100000 in
theorem dX11_fetch_36 : decode cX11_fetch 36 = .ok (.istore_n 2, 1) := by decide +kernel
set_option maxRecDepth 100000 in
theorem dX11_fetch_37 : decode cX11_fetch 37 = .ok (.iload_n 2, 1) := by decide +kernel
set_option maxRecDepth 100000 in
theorem dX11_fetch_38 : decode cX11_fetch 38 = .ok (.ldc_w 293, 3) := by decide +kernel
set_option maxRecDepth 100000 in
theorem dX11_fetch_41 : decode cX11_fetch 41 = .ok (.if_icmp .lt 6, 3) := by decide +kernel
set_option maxRecDepth 100000 in
theorem dX11_fetch_44 : decode cX11_fetch 44 = .ok (.bipush (-2), 2) := by decide +kernel
set_option maxRecDepth 100000 in
theorem dX11_fetch_46 : decode cX11_fetch 46 = .ok (.ireturn, 1) := by decide +kernel
set_option maxRecDepth 100000 in
theorem dX11_fetch_47 : decode cX11_fetch 47 = .ok (.aload_n 0, 1) := by decide +kernel
set_option maxRecDepth 100000 in
theorem dX11_fetch_48 : decode cX11_fetch 48 = .ok (.getfield 87, 3) := by decide +kernel
set_option maxRecDepth 100000 in
theorem dX11_fetch_51 : decode cX11_fetch 51 = .ok (.invokevirtual 239, 3) := by decide +kernel
set_option maxRecDepth 100000 in
theorem dX11_fetch_54 : decode cX11_fetch 54 = .ok (.aload_n 0, 1) := by decide +kernel
set_option maxRecDepth 100000 in
theorem dX11_fetch_55 : decode cX11_fetch 55 = .ok (.getfield 80, 3) := by decide +kernel
set_option maxRecDepth 100000 in
theorem dX11_fetch_58 : decode cX11_fetch 58 = .ok (.aload_n 0, 1) := by decide +kernel
set_option maxRecDepth 100000 in
theorem dX11_fetch_59 : decode cX11_fetch 59 = .ok (.getfield 19, 3) := by decide +kernel
set_option maxRecDepth 100000 in
theorem dX11_fetch_62 : decode cX11_fetch 62 = .ok (.aload_n 0, 1) := by decide +kernel
set_option maxRecDepth 100000 in
theorem dX11_fetch_63 : decode cX11_fetch 63 = .ok (.getfield 87, 3) := by decide +kernel
set_option maxRecDepth 100000 in
theorem dX11_fetch_66 : decode cX11_fetch 66 = .ok (.invokevirtual 365, 3) := by decide +kernel
set_option maxRecDepth 100000 in
theorem dX11_fetch_69 : decode cX11_fetch 69 = .ok (.iload_n 2, 1) := by decide +kernel
set_option maxRecDepth 100000 in
theorem dX11_fetch_70 : decode cX11_fetch 70 = .ok (.ireturn, 1) := by decide +kernel
set_option maxRecDepth 100000 in
theorem dX11_law_0 : decode cX11_law 0 = .ok (.aload_n 0, 1) := by decide +kernel
set_option maxRecDepth 100000 in
theorem dX11_law_1 : decode cX11_law 1 = .ok (.getfield 53, 3) := by decide +kernel
set_option maxRecDepth 100000 in
theorem dX11_law_4 : decode cX11_law 4 = .ok (.aload_n 0, 1) := by decide +kernel
set_option maxRecDepth 100000 in
theorem dX11_law_5 : decode cX11_law 5 = .ok (.getfield 10, 3) := by decide +kernel
set_option maxRecDepth 100000 in
theorem dX11_law_8 : decode cX11_law 8 = .ok (.invokevirtual 149, 3) := by decide +kernel
set_option maxRecDepth 100000 in
theorem dX11_law_11 : decode cX11_law 11 = .ok (.istore_n 1, 1) := by decide +kernel
set_option maxRecDepth 100000 in
theorem dX11_law_12 : decode cX11_law 12 = .ok (.aload_n 0, 1) := by decide +kernel
set_option maxRecDepth 100000 in
theorem dX11_law_13 : decode cX11_law 13 = .ok (.getfield 10, 3) := by decide +kernel
set_option maxRecDepth 100000 in
theorem dX11_law_16 : decode cX11_law 16 = .ok (.iconst 0, 1) := by decide +kernel
set_option maxRecDepth 100000 in
theorem dX11_law_17 : decode cX11_law 17 = .ok (.putfield 91, 3) := by decide +kernel
set_option maxRecDepth 100000 in
theorem dX11_law_20 : decode cX11_law 20 = .ok (.iload_n 1, 1) := by decide +kernel
set_option maxRecDepth 100000 in
theorem dX11_law_21 : decode cX11_law 21 = .ok (.ifCond .ge 11, 3) := by decide +kernel
set_option maxRecDepth 100000 in
theorem dX11_law_24 : decode cX11_law 24 = .ok (.iload_n 1, 1) := by decide +kernel
set_option maxRecDepth 100000 in
theorem dX11_law_25 : decode cX11_law 25 = .ok (.iconst 1, 1) := by decide +kernel
set_option maxRecDepth 100000 in
theorem dX11_law_26 : decode cX11_law 26 = .ok (.iadd, 1) := by decide +kernel
set_option maxRecDepth 100000 in
theorem dX11_law_27 : decode cX11_law 27 = .ok (.sipush 10000, 3) := by decide +kernel
set_option maxRecDepth 100000 in
theorem dX11_law_30 : decode cX11_law 30 = .ok (.isub, 1) := by decide +kernel
set_option maxRecDepth 100000 in
theorem dX11_law_31 : decode cX11_law 31 = .ok (.ireturn, 1) := by decide +kernel
set_option maxRecDepth 100000 in
theorem dX11_law_32 : decode cX11_law 32 = .ok (.aload_n 0, 1) := by decide +kernel
set_option maxRecDepth 100000 in
theorem dX11_law_33 : decode cX11_law 33 = .ok (.getfield 43, 3) := by decide +kernel
set_option maxRecDepth 100000 in
theorem dX11_law_36 : decode cX11_law 36 = .ok (.aload_n 0, 1) := by decide +kernel
set_option maxRecDepth 100000 in
theorem dX11_law_37 : decode cX11_law 37 = .ok (.getfield 36, 3) := by decide +kernel
set_option maxRecDepth 100000 in
theorem dX11_law_40 : decode cX11_law 40 = .ok (.invokevirtual 231, 3) := by decide +kernel
set_option maxRecDepth 100000 in
theorem dX11_law_43 : decode cX11_law 43 = .ok (.aload_n 0, 1) := by decide +kernel
set_option maxRecDepth 100000 in
theorem dX11_law_44 : decode cX11_law 44 = .ok (.bipush 10, 2) := by decide +kernel
set_option maxRecDepth 100000 in
theorem dX11_law_46 : decode cX11_law 46 = .ok (.aload_n 0, 1) := by decide +kernel
set_option maxRecDepth 100000 in
theorem dX11_law_47 : decode cX11_law 47 = .ok (.getfield 19, 3) := by decide +kernel
set_option maxRecDepth 100000 in
theorem dX11_law_50 : decode cX11_law 50 = .ok (.aload_n 0, 1) := by decide +kernel
set_option maxRecDepth 100000 in
theorem dX11_law_51 : decode cX11_law 51 = .ok (.getfield 53, 3) := by decide +kernel
set_option maxRecDepth 100000 in
theorem dX11_law_54 : decode cX11_law 54 = .ok (.iconst 0, 1) := by decide +kernel
set_option maxRecDepth 100000 in
theorem dX11_law_55 : decode cX11_law 55 = .ok (.invokevirtual 308, 3) := by decide +kernel
set_option maxRecDepth 100000 in
theorem dX11_law_58 : decode cX11_law 58 = .ok (.istore_n 2, 1) := by decide +kernel
set_option maxRecDepth 100000 in
theorem dX11_law_59 : decode cX11_law 59 = .ok (.aload_n 0, 1) := by decide +kernel
set_option maxRecDepth 100000 in
theorem dX11_law_60 : decode cX11_law 60 = .ok (.getfield 43, 3) := by decide +kernel
set_option maxRecDepth 100000 in
theorem dX11_law_63 : decode cX11_law 63 = .ok (.aload_n 0, 1) := by decide +kernel
set_option maxRecDepth 100000 in
theorem dX11_law_64 : decode cX11_law 64 = .ok (.getfield 36, 3) := by decide +kernel
set_option maxRecDepth 100000 in
theorem dX11_law_67 : decode cX11_law 67 = .ok (.invokevirtual 231, 3) := by decide +kernel
set_option maxRecDepth 100000 in
theorem dX11_law_70 : decode cX11_law 70 = .ok (.aload_n 0, 1) := by decide +kernel
set_option maxRecDepth 100000 in
theorem dX11_law_71 : decode cX11_law 71 = .ok (.bipush 10, 2) := by decide +kernel
set_option maxRecDepth 100000 in
theorem dX11_law_73 : decode cX11_law 73 = .ok (.aload_n 0, 1) := by decide +kernel
set_option maxRecDepth 100000 in
theorem dX11_law_74 : decode cX11_law 74 = .ok (.getfield 19, 3) := by decide +kernel
set_option maxRecDepth 100000 in
theorem dX11_law_77 : decode cX11_law 77 = .ok (.aload_n 0, 1) := by decide +kernel
set_option maxRecDepth 100000 in
theorem dX11_law_78 : decode cX11_law 78 = .ok (.getfield 49, 3) := by decide +kernel
set_option maxRecDepth 100000 in
theorem dX11_law_81 : decode cX11_law 81 = .ok (.iconst 0, 1) := by decide +kernel
set_option maxRecDepth 100000 in
theorem dX11_law_82 : decode cX11_law 82 = .ok (.invokevirtual 308, 3) := by decide +kernel
set_option maxRecDepth 100000 in
theorem dX11_law_85 : decode cX11_law 85 = .ok (.istore_n 3, 1) := by decide +kernel
set_option maxRecDepth 100000 in
theorem dX11_law_86 : decode cX11_law 86 = .ok (.aload_n 0, 1) := by decide +kernel
set_option maxRecDepth 100000 in
theorem dX11_law_87 : decode cX11_law 87 = .ok (.getfield 87, 3) := by decide +kernel
set_option maxRecDepth 100000 in
theorem dX11_law_90 : decode cX11_law 90 = .ok (.invokevirtual 239, 3) := by decide +kernel
set_option maxRecDepth 100000 in
theorem dX11_law_93 : decode cX11_law 93 = .ok (.aload_n 0, 1) := by decide +kernel
set_option maxRecDepth 100000 in
theorem dX11_law_94 : decode cX11_law 94 = .ok (.getfield 87, 3) := by decide +kernel
set_option maxRecDepth 100000 in
theorem dX11_law_97 : decode cX11_law 97 = .ok (.iload_n 2, 1) := by decide +kernel
set_option maxRecDepth 100000 in
theorem dX11_law_98 : decode cX11_law 98 = .ok (.i2l, 1) := by decide +kernel
set_option maxRecDepth 100000 in
theorem dX11_law_99 : decode cX11_law 99 = .ok (.invokevirtual 243, 3) := by decide +kernel
set_option maxRecDepth 100000 in
theorem dX11_law_102 : decode cX11_law 102 = .ok (.aload_n 0, 1) := by decide +kernel
set_option maxRecDepth 100000 in
theorem dX11_law_103 : decode cX11_law 103 = .ok (.getfield 87, 3) := by decide +kernel
set_option maxRecDepth 100000 in
theorem dX11_law_106 : decode cX11_law 106 = .ok (.iload_n 3, 1) := by decide +kernel
set_option maxRecDepth 100000 in
theorem dX11_law_107 : decode cX11_law 107 = .ok (.i2l, 1) := by decide +kernel
set_option maxRecDepth 100000 in
theorem dX11_law_108 : decode cX11_law 108 = .ok (.invokevirtual 243, 3) := by decide +kernel
set_option maxRecDepth 100000 in
theorem dX11_law_111 : decode cX11_law 111 = .ok (.iload_n 2, 1) := by decide +kernel
set_option maxRecDepth 100000 in
theorem dX11_law_112 : decode cX11_law 112 = .ok (.iload_n 3, 1) := by decide +kernel
set_option maxRecDepth 100000 in
theorem dX11_law_113 : decode cX11_law 113 = .ok (.isub, 1) := by decide +kernel
set_option maxRecDepth 100000 in
theorem dX11_law_114 : decode cX11_law 114 = .ok (.ireturn, 1) := by decide +kernel
set_option maxRecDepth 100000 in
theorem dX11_heads_0 : decode cX11_heads 0 = .ok (.iload_n 1, 1) := by decide +kernel
set_option maxRecDepth 100000 in
theorem dX11_heads_1 : decode cX11_heads 1 = .ok (.iconst 1, 1) := by decide +kernel
set_option maxRecDepth 100000 in
theorem dX11_heads_2 : decode cX11_heads 2 = .ok (.if_icmp .lt 9, 3) := by decide +kernel
set_option maxRecDepth 100000 in
theorem dX11_heads_5 : decode cX11_heads 5 = .ok (.iload_n 1, 1) := by decide +kernel
set_option maxRecDepth 100000 in
theorem dX11_heads_6 : decode cX11_heads 6 = .ok (.bipush 30, 2) := by decide +kernel
set_option maxRecDepth 100000 in
theorem dX11_heads_8 : decode cX11_heads 8 = .ok (.if_icmp .le 5, 3) := by decide +kernel
set_option maxRecDepth 100000 in
theorem dX11_heads_11 : decode cX11_heads 11 = .ok (.iconst (-1), 1) := by decide +kernel
set_option maxRecDepth 100000 in
theorem dX11_heads_12 : decode cX11_heads 12 = .ok (.ireturn, 1) := by decide +kernel
set_option maxRecDepth 100000 in
theorem dX11_heads_13 : decode cX11_heads 13 = .ok (.aload_n 0, 1) := by decide +kernel
set_option maxRecDepth 100000 in
theorem dX11_heads_14 : decode cX11_heads 14 = .ok (.getfield 43, 3) := by decide +kernel
set_option maxRecDepth 100000 in
theorem dX11_heads_17 : decode cX11_heads 17 = .ok (.aload_n 0, 1) := by decide +kernel
set_option maxRecDepth 100000 in
theorem dX11_heads_18 : decode cX11_heads 18 = .ok (.getfield 36, 3) := by decide +kernel
set_option maxRecDepth 100000 in
theorem dX11_heads_21 : decode cX11_heads 21 = .ok (.invokevirtual 231, 3) := by decide +kernel
set_option maxRecDepth 100000 in
theorem dX11_heads_24 : decode cX11_heads 24 = .ok (.aload_n 0, 1) := by decide +kernel
set_option maxRecDepth 100000 in
theorem dX11_heads_25 : decode cX11_heads 25 = .ok (.iload_n 1, 1) := by decide +kernel
set_option maxRecDepth 100000 in
theorem dX11_heads_26 : decode cX11_heads 26 = .ok (.aload_n 0, 1) := by decide +kernel
set_option maxRecDepth 100000 in
theorem dX11_heads_27 : decode cX11_heads 27 = .ok (.getfield 19, 3) := by decide +kernel
set_option maxRecDepth 100000 in
theorem dX11_heads_30 : decode cX11_heads 30 = .ok (.aload_n 0, 1) := by decide +kernel
set_option maxRecDepth 100000 in
theorem dX11_heads_31 : decode cX11_heads 31 = .ok (.getfield 49, 3) := by decide +kernel
set_option maxRecDepth 100000 in
theorem dX11_heads_34 : decode cX11_heads 34 = .ok (.iconst 1, 1) := by decide +kernel
set_option maxRecDepth 100000 in
theorem dX11_heads_35 : decode cX11_heads 35 = .ok (.invokevirtual 308, 3) := by decide +kernel
set_option maxRecDepth 100000 in
theorem dX11_heads_38 : decode cX11_heads 38 = .ok (.istore_n 2, 1) := by decide +kernel
set_option maxRecDepth 100000 in
theorem dX11_heads_39 : decode cX11_heads 39 = .ok (.aload_n 0, 1) := by decide +kernel
set_option maxRecDepth 100000 in
theorem dX11_heads_40 : decode cX11_heads 40 = .ok (.getfield 87, 3) := by decide +kernel
set_option maxRecDepth 100000 in
theorem dX11_heads_43 : decode cX11_heads 43 = .ok (.invokevirtual 239, 3) := by decide +kernel
set_option maxRecDepth 100000 in
theorem dX11_heads_46 : decode cX11_heads 46 = .ok (.aload_n 0, 1) := by decide +kernel
set_option maxRecDepth 100000 in
theorem dX11_heads_47 : decode cX11_heads 47 = .ok (.getfield 87, 3) := by decide +kernel
set_option maxRecDepth 100000 in
theorem dX11_heads_50 : decode cX11_heads 50 = .ok (.aload_n 0, 1) := by decide +kernel
set_option maxRecDepth 100000 in
theorem dX11_heads_51 : decode cX11_heads 51 = .ok (.getfield 43, 3) := by decide +kernel
set_option maxRecDepth 100000 in
theorem dX11_heads_54 : decode cX11_heads 54 = .ok (.getfield 171, 3) := by decide +kernel
set_option maxRecDepth 100000 in
theorem dX11_heads_57 : decode cX11_heads 57 = .ok (.i2l, 1) := by decide +kernel
set_option maxRecDepth 100000 in
theorem dX11_heads_58 : decode cX11_heads 58 = .ok (.invokevirtual 243, 3) := by decide +kernel
set_option maxRecDepth 100000 in
theorem dX11_heads_61 : decode cX11_heads 61 = .ok (.iload_n 2, 1) := by decide +kernel
set_option maxRecDepth 100000 in
theorem dX11_heads_62 : decode cX11_heads 62 = .ok (.ireturn, 1) := by decide +kernel
set_option maxRecDepth 100000 in
theorem dX11_seen_0 : decode cX11_seen 0 = .ok (.iload_n 1, 1) := by decide +kernel
set_option maxRecDepth 100000 in
theorem dX11_seen_1 : decode cX11_seen 1 = .ok (.ifCond .lt 33, 3) := by decide +kernel
set_option maxRecDepth 100000 in
theorem dX11_seen_4 : decode cX11_seen 4 = .ok (.iload_n 1, 1) := by decide +kernel
set_option maxRecDepth 100000 in
theorem dX11_seen_5 : decode cX11_seen 5 = .ok (.bipush 12, 2) := by decide +kernel
set_option maxRecDepth 100000 in
theorem dX11_seen_7 : decode cX11_seen 7 = .ok (.if_icmp .gt 27, 3) := by decide +kernel
set_option maxRecDepth 100000 in
theorem dX11_seen_10 : decode cX11_seen 10 = .ok (.aload_n 0, 1) := by decide +kernel
set_option maxRecDepth 100000 in
theorem dX11_seen_11 : decode cX11_seen 11 = .ok (.getfield 19, 3) := by decide +kernel
set_option maxRecDepth 100000 in
theorem dX11_seen_14 : decode cX11_seen 14 = .ok (.iload_n 2, 1) := by decide +kernel
set_option maxRecDepth 100000 in
theorem dX11_seen_15 : decode cX11_seen 15 = .ok (.invokevirtual 289, 3) := by decide +kernel
set_option maxRecDepth 100000 in
theorem dX11_seen_18 : decode cX11_seen 18 = .ok (.ifCond .eq 16, 3) := by decide +kernel
set_option maxRecDepth 100000 in
theorem dX11_seen_21 : decode cX11_seen 21 = .ok (.iload_n 3, 1) := by decide +kernel
set_option maxRecDepth 100000 in
theorem dX11_seen_22 : decode cX11_seen 22 = .ok (.ifCond .eq 8, 3) := by decide +kernel
set_option maxRecDepth 100000 in
theorem dX11_seen_25 : decode cX11_seen 25 = .ok (.iload_n 3, 1) := by decide +kernel
set_option maxRecDepth 100000 in
theorem dX11_seen_26 : decode cX11_seen 26 = .ok (.iconst 1, 1) := by decide +kernel
set_option maxRecDepth 100000 in
theorem dX11_seen_27 : decode cX11_seen 27 = .ok (.if_icmp .ne 7, 3) := by decide +kernel
set_option maxRecDepth 100000 in
theorem dX11_seen_30 : decode cX11_seen 30 = .ok (.iconst 1, 1) := by decide +kernel
set_option maxRecDepth 100000 in
theorem dX11_seen_31 : decode cX11_seen 31 = .ok (.goto 4, 3) := by decide +kernel
set_option maxRecDepth 100000 in
theorem dX11_seen_34 : decode cX11_seen 34 = .ok (.iconst 0, 1) := by decide +kernel
set_option maxRecDepth 100000 in
theorem dX11_seen_35 : decode cX11_seen 35 = .ok (.istore 4, 2) := by decide +kernel
set_option maxRecDepth 100000 in
theorem dX11_seen_37 : decode cX11_seen 37 = .ok (.iload 4, 2) := by decide +kernel
set_option maxRecDepth 100000 in
theorem dX11_seen_39 : decode cX11_seen 39 = .ok (.ifCond .eq 15, 3) := by decide +kernel
set_option maxRecDepth 100000 in
theorem dX11_seen_42 : decode cX11_seen 42 = .ok (.aload_n 0, 1) := by decide +kernel
set_option maxRecDepth 100000 in
theorem dX11_seen_43 : decode cX11_seen 43 = .ok (.getfield 73, 3) := by decide +kernel
set_option maxRecDepth 100000 in
theorem dX11_seen_46 : decode cX11_seen 46 = .ok (.getfield 369, 3) := by decide +kernel
set_option maxRecDepth 100000 in
theorem dX11_seen_49 : decode cX11_seen 49 = .ok (.bipush 12, 2) := by decide +kernel
set_option maxRecDepth 100000 in
theorem dX11_seen_51 : decode cX11_seen 51 = .ok (.if_icmp .lt 5, 3) := by decide +kernel
set_option maxRecDepth 100000 in
theorem dX11_seen_54 : decode cX11_seen 54 = .ok (.iconst (-1), 1) := by decide +kernel
set_option maxRecDepth 100000 in
theorem dX11_seen_55 : decode cX11_seen 55 = .ok (.ireturn, 1) := by decide +kernel
set_option maxRecDepth 100000 in
theorem dX11_seen_56 : decode cX11_seen 56 = .ok (.aload_n 0, 1) := by decide +kernel
set_option maxRecDepth 100000 in
theorem dX11_seen_57 : decode cX11_seen 57 = .ok (.getfield 73, 3) := by decide +kernel
set_option maxRecDepth 100000 in
theorem dX11_seen_60 : decode cX11_seen 60 = .ok (.iload_n 1, 1) := by decide +kernel
set_option maxRecDepth 100000 in
theorem dX11_seen_61 : decode cX11_seen 61 = .ok (.iload_n 2, 1) := by decide +kernel
set_option maxRecDepth 100000 in
theorem dX11_seen_62 : decode cX11_seen 62 = .ok (.iload_n 3, 1) := by decide +kernel
set_option maxRecDepth 100000 in
theorem dX11_seen_63 : decode cX11_seen 63 = .ok (.iconst 1, 1) := by decide +kernel
set_option maxRecDepth 100000 in
theorem dX11_seen_64 : decode cX11_seen 64 = .ok (.if_icmp .ne 7, 3) := by decide +kernel
set_option maxRecDepth 100000 in
theorem dX11_seen_67 : decode cX11_seen 67 = .ok (.iconst 1, 1) := by decide +kernel
set_option maxRecDepth 100000 in
theorem dX11_seen_68 : decode cX11_seen 68 = .ok (.goto 4, 3) := by decide +kernel
set_option maxRecDepth 100000 in
theorem dX11_seen_71 : decode cX11_seen 71 = .ok (.iconst 0, 1) := by decide +kernel
set_option maxRecDepth 100000 in
theorem dX11_seen_72 : decode cX11_seen 72 = .ok (.invokevirtual 370, 3) := by decide +kernel
set_option maxRecDepth 100000 in
theorem dX11_seen_75 : decode cX11_seen 75 = .ok (.aload_n 0, 1) := by decide +kernel
set_option maxRecDepth 100000 in
theorem dX11_seen_76 : decode cX11_seen 76 = .ok (.getfield 73, 3) := by decide +kernel
set_option maxRecDepth 100000 in
theorem dX11_seen_79 : decode cX11_seen 79 = .ok (.getfield 369, 3) := by decide +kernel
set_option maxRecDepth 100000 in
theorem dX11_seen_82 : decode cX11_seen 82 = .ok (.ireturn, 1) := by decide +kernel
set_option maxRecDepth 100000 in
theorem dX11_forget_0 : decode cX11_forget 0 = .ok (.aload_n 0, 1) := by decide +kernel
set_option maxRecDepth 100000 in
theorem dX11_forget_1 : decode cX11_forget 1 = .ok (.getfield 73, 3) := by decide +kernel
set_option maxRecDepth 100000 in
theorem dX11_forget_4 : decode cX11_forget 4 = .ok (.getfield 369, 3) := by decide +kernel
set_option maxRecDepth 100000 in
theorem dX11_forget_7 : decode cX11_forget 7 = .ok (.istore_n 1, 1) := by decide +kernel
set_option maxRecDepth 100000 in
theorem dX11_forget_8 : decode cX11_forget 8 = .ok (.aload_n 0, 1) := by decide +kernel
set_option maxRecDepth 100000 in
theorem dX11_forget_9 : decode cX11_forget 9 = .ok (.getfield 73, 3) := by decide +kernel
set_option maxRecDepth 100000 in
theorem dX11_forget_12 : decode cX11_forget 12 = .ok (.invokevirtual 119, 3) := by decide +kernel
set_option maxRecDepth 100000 in
theorem dX11_forget_15 : decode cX11_forget 15 = .ok (.iload_n 1, 1) := by decide +kernel
set_option maxRecDepth 100000 in
theorem dX11_forget_16 : decode cX11_forget 16 = .ok (.ireturn, 1) := by decide +kernel
set_option maxRecDepth 100000 in
theorem dX11_rows_0 : decode cX11_rows 0 = .ok (.aload_n 0, 1) := by decide +kernel
set_option maxRecDepth 100000 in
theorem dX11_rows_1 : decode cX11_rows 1 = .ok (.getfield 73, 3) := by decide +kernel
set_option maxRecDepth 100000 in
theorem dX11_rows_4 : decode cX11_rows 4 = .ok (.getfield 369, 3) := by decide +kernel
set_option maxRecDepth 100000 in
theorem dX11_rows_7 : decode cX11_rows 7 = .ok (.ifCond .ne 5, 3) := by decide +kernel
set_option maxRecDepth 100000 in
theorem dX11_rows_10 : decode cX11_rows 10 = .ok (.iconst (-1), 1) := by decide +kernel
set_option maxRecDepth 100000 in
theorem dX11_rows_11 : decode cX11_rows 11 = .ok (.ireturn, 1) := by decide +kernel
set_option maxRecDepth 100000 in
theorem dX11_rows_12 : decode cX11_rows 12 = .ok (.aload_n 0, 1) := by decide +kernel
set_option maxRecDepth 100000 in
theorem dX11_rows_13 : decode cX11_rows 13 = .ok (.getfield 73, 3) := by decide +kernel
set_option maxRecDepth 100000 in
theorem dX11_rows_16 : decode cX11_rows 16 = .ok (.aload_n 0, 1) := by decide +kernel
set_option maxRecDepth 100000 in
theorem dX11_rows_17 : decode cX11_rows 17 = .ok (.getfield 19, 3) := by decide +kernel
set_option maxRecDepth 100000 in
theorem dX11_rows_20 : decode cX11_rows 20 = .ok (.aload_n 0, 1) := by decide +kernel
set_option maxRecDepth 100000 in
theorem dX11_rows_21 : decode cX11_rows 21 = .ok (.getfield 36, 3) := by decide +kernel
set_option maxRecDepth 100000 in
theorem dX11_rows_24 : decode cX11_rows 24 = .ok (.getfield 171, 3) := by decide +kernel
set_option maxRecDepth 100000 in
theorem dX11_rows_27 : decode cX11_rows 27 = .ok (.invokevirtual 373, 3) := by decide +kernel
set_option maxRecDepth 100000 in
theorem dX11_rows_30 : decode cX11_rows 30 = .ok (.aload_n 0, 1) := by decide +kernel
set_option maxRecDepth 100000 in
theorem dX11_rows_31 : decode cX11_rows 31 = .ok (.getfield 73, 3) := by decide +kernel
set_option maxRecDepth 100000 in
theorem dX11_rows_34 : decode cX11_rows 34 = .ok (.iconst 0, 1) := by decide +kernel
set_option maxRecDepth 100000 in
theorem dX11_rows_35 : decode cX11_rows 35 = .ok (.aload_n 0, 1) := by decide +kernel
set_option maxRecDepth 100000 in
theorem dX11_rows_36 : decode cX11_rows 36 = .ok (.getfield 36, 3) := by decide +kernel
set_option maxRecDepth 100000 in
theorem dX11_rows_39 : decode cX11_rows 39 = .ok (.getfield 171, 3) := by decide +kernel
set_option maxRecDepth 100000 in
theorem dX11_rows_42 : decode cX11_rows 42 = .ok (.invokevirtual 377, 3) := by decide +kernel
set_option maxRecDepth 100000 in
theorem dX11_rows_45 : decode cX11_rows 45 = .ok (.istore_n 1, 1) := by decide +kernel
set_option maxRecDepth 100000 in
theorem dX11_rows_46 : decode cX11_rows 46 = .ok (.aload_n 0, 1) := by decide +kernel
set_option maxRecDepth 100000 in
theorem dX11_rows_47 : decode cX11_rows 47 = .ok (.getfield 87, 3) := by decide +kernel
set_option maxRecDepth 100000 in
theorem dX11_rows_50 : decode cX11_rows 50 = .ok (.invokevirtual 239, 3) := by decide +kernel
set_option maxRecDepth 100000 in
theorem dX11_rows_53 : decode cX11_rows 53 = .ok (.iload_n 1, 1) := by decide +kernel
set_option maxRecDepth 100000 in
theorem dX11_rows_54 : decode cX11_rows 54 = .ok (.ifCond .le 25, 3) := by decide +kernel
set_option maxRecDepth 100000 in
theorem dX11_rows_57 : decode cX11_rows 57 = .ok (.aload_n 0, 1) := by decide +kernel
set_option maxRecDepth 100000 in
theorem dX11_rows_58 : decode cX11_rows 58 = .ok (.getfield 73, 3) := by decide +kernel
set_option maxRecDepth 100000 in
theorem dX11_rows_61 : decode cX11_rows 61 = .ok (.aload_n 0, 1) := by decide +kernel
set_option maxRecDepth 100000 in
theorem dX11_rows_62 : decode cX11_rows 62 = .ok (.getfield 19, 3) := by decide +kernel
set_option maxRecDepth 100000 in
theorem dX11_rows_65 : decode cX11_rows 65 = .ok (.aload_n 0, 1) := by decide +kernel
set_option maxRecDepth 100000 in
theorem dX11_rows_66 : decode cX11_rows 66 = .ok (.getfield 36, 3) := by decide +kernel
set_option maxRecDepth 100000 in
theorem dX11_rows_69 : decode cX11_rows 69 = .ok (.getfield 171, 3) := by decide +kernel
set_option maxRecDepth 100000 in
theorem dX11_rows_72 : decode cX11_rows 72 = .ok (.aload_n 0, 1) := by decide +kernel
set_option maxRecDepth 100000 in
theorem dX11_rows_73 : decode cX11_rows 73 = .ok (.getfield 87, 3) := by decide +kernel
set_option maxRecDepth 100000 in
theorem dX11_rows_76 : decode cX11_rows 76 = .ok (.invokevirtual 380, 3) := by decide +kernel
set_option maxRecDepth 100000 in
theorem dX11_rows_79 : decode cX11_rows 79 = .ok (.iload_n 1, 1) := by decide +kernel
set_option maxRecDepth 100000 in
theorem dX11_rows_80 : decode cX11_rows 80 = .ok (.ireturn, 1) := by decide +kernel
set_option maxRecDepth 100000 in
theorem dX11_been_0 : decode cX11_been 0 = .ok (.aload_n 0, 1) := by decide +kernel
set_option maxRecDepth 100000 in
theorem dX11_been_1 : decode cX11_been 1 = .ok (.getfield 73, 3) := by decide +kernel
set_option maxRecDepth 100000 in
theorem dX11_been_4 : decode cX11_been 4 = .ok (.getfield 369, 3) := by decide +kernel
set_option maxRecDepth 100000 in
theorem dX11_been_7 : decode cX11_been 7 = .ok (.ifCond .eq 18, 3) := by decide +kernel
set_option maxRecDepth 100000 in
theorem dX11_been_10 : decode cX11_been 10 = .ok (.iload_n 1, 1) := by decide +kernel
set_option maxRecDepth 100000 in
theorem dX11_been_11 : decode cX11_been 11 = .ok (.ifCond .lt 14, 3) := by decide +kernel
set_option maxRecDepth 100000 in
theorem dX11_been_14 : decode cX11_been 14 = .ok (.iload_n 1, 1) := by decide +kernel
set_option maxRecDepth 100000 in
theorem dX11_been_15 : decode cX11_been 15 = .ok (.aload_n 0, 1) := by decide +kernel
set_option maxRecDepth 100000 in
theorem dX11_been_16 : decode cX11_been 16 = .ok (.getfield 73, 3) := by decide +kernel
set_option maxRecDepth 100000 in
theorem dX11_been_19 : decode cX11_been 19 = .ok (.getfield 384, 3) := by decide +kernel
set_option maxRecDepth 100000 in
theorem dX11_been_22 : decode cX11_been 22 = .ok (.if_icmp .le 5, 3) := by decide +kernel
set_option maxRecDepth 100000 in
theorem dX11_been_25 : decode cX11_been 25 = .ok (.iconst (-1), 1) := by decide +kernel
set_option maxRecDepth 100000 in
theorem dX11_been_26 : decode cX11_been 26 = .ok (.ireturn, 1) := by decide +kernel
set_option maxRecDepth 100000 in
theorem dX11_been_27 : decode cX11_been 27 = .ok (.aload_n 0, 1) := by decide +kernel
set_option maxRecDepth 100000 in
theorem dX11_been_28 : decode cX11_been 28 = .ok (.getfield 73, 3) := by decide +kernel
set_option maxRecDepth 100000 in
theorem dX11_been_31 : decode cX11_been 31 = .ok (.aload_n 0, 1) := by decide +kernel
set_option maxRecDepth 100000 in
theorem dX11_been_32 : decode cX11_been 32 = .ok (.getfield 19, 3) := by decide +kernel
set_option maxRecDepth 100000 in
theorem dX11_been_35 : decode cX11_been 35 = .ok (.aload_n 0, 1) := by decide +kernel
set_option maxRecDepth 100000 in
theorem dX11_been_36 : decode cX11_been 36 = .ok (.getfield 36, 3) := by decide +kernel
set_option maxRecDepth 100000 in
theorem dX11_been_39 : decode cX11_been 39 = .ok (.getfield 171, 3) := by decide +kernel
set_option maxRecDepth 100000 in
theorem dX11_been_42 : decode cX11_been 42 = .ok (.invokevirtual 373, 3) := by decide +kernel
set_option maxRecDepth 100000 in
theorem dX11_been_45 : decode cX11_been 45 = .ok (.aload_n 0, 1) := by decide +kernel
set_option maxRecDepth 100000 in
theorem dX11_been_46 : decode cX11_been 46 = .ok (.getfield 73, 3) := by decide +kernel
set_option maxRecDepth 100000 in
theorem dX11_been_49 : decode cX11_been 49 = .ok (.iload_n 1, 1) := by decide +kernel
set_option maxRecDepth 100000 in
theorem dX11_been_50 : decode cX11_been 50 = .ok (.invokevirtual 387, 3) := by decide +kernel
set_option maxRecDepth 100000 in
theorem dX11_been_53 : decode cX11_been 53 = .ok (.istore_n 2, 1) := by decide +kernel
set_option maxRecDepth 100000 in
theorem dX11_been_54 : decode cX11_been 54 = .ok (.aload_n 0, 1) := by decide +kernel
set_option maxRecDepth 100000 in
theorem dX11_been_55 : decode cX11_been 55 = .ok (.getfield 87, 3) := by decide +kernel
set_option maxRecDepth 100000 in
theorem dX11_been_58 : decode cX11_been 58 = .ok (.invokevirtual 239, 3) := by decide +kernel
set_option maxRecDepth 100000 in
theorem dX11_been_61 : decode cX11_been 61 = .ok (.aload_n 0, 1) := by decide +kernel
set_option maxRecDepth 100000 in
theorem dX11_been_62 : decode cX11_been 62 = .ok (.getfield 87, 3) := by decide +kernel
set_option maxRecDepth 100000 in
theorem dX11_been_65 : decode cX11_been 65 = .ok (.iload_n 2, 1) := by decide +kernel
set_option maxRecDepth 100000 in
theorem dX11_been_66 : decode cX11_been 66 = .ok (.invokestatic 325, 3) := by decide +kernel
set_option maxRecDepth 100000 in
theorem dX11_been_69 : decode cX11_been 69 = .ok (.i2l, 1) := by decide +kernel
set_option maxRecDepth 100000 in
theorem dX11_been_70 : decode cX11_been 70 = .ok (.invokevirtual 243, 3) := by decide +kernel
set_option maxRecDepth 100000 in
theorem dX11_been_73 : decode cX11_been 73 = .ok (.iload_n 2, 1) := by decide +kernel
set_option maxRecDepth 100000 in
theorem dX11_been_74 : decode cX11_been 74 = .ok (.ireturn, 1) := by decide +kernel
set_option maxRecDepth 100000 in
theorem dX11_ask_0 : decode cX11_ask 0 = .ok (.aload_n 0, 1) := by decide +kernel
set_option maxRecDepth 100000 in
theorem dX11_ask_1 : decode cX11_ask 1 = .ok (.getfield 73, 3) := by decide +kernel
set_option maxRecDepth 100000 in
theorem dX11_ask_4 : decode cX11_ask 4 = .ok (.aload_n 0, 1) := by decide +kernel
set_option maxRecDepth 100000 in
theorem dX11_ask_5 : decode cX11_ask 5 = .ok (.getfield 19, 3) := by decide +kernel
set_option maxRecDepth 100000 in
theorem dX11_ask_8 : decode cX11_ask 8 = .ok (.aload_n 0, 1) := by decide +kernel
set_option maxRecDepth 100000 in
theorem dX11_ask_9 : decode cX11_ask 9 = .ok (.getfield 36, 3) := by decide +kernel
set_option maxRecDepth 100000 in
theorem dX11_ask_12 : decode cX11_ask 12 = .ok (.getfield 171, 3) := by decide +kernel
set_option maxRecDepth 100000 in
theorem dX11_ask_15 : decode cX11_ask 15 = .ok (.invokevirtual 373, 3) := by decide +kernel
set_option maxRecDepth 100000 in
theorem dX11_ask_18 : decode cX11_ask 18 = .ok (.aload_n 0, 1) := by decide +kernel
set_option maxRecDepth 100000 in
theorem dX11_ask_19 : decode cX11_ask 19 = .ok (.getfield 73, 3) := by decide +kernel
set_option maxRecDepth 100000 in
theorem dX11_ask_22 : decode cX11_ask 22 = .ok (.getfield 369, 3) := by decide +kernel
set_option maxRecDepth 100000 in
theorem dX11_ask_25 : decode cX11_ask 25 = .ok (.ifCond .eq 21, 3) := by decide +kernel
set_option maxRecDepth 100000 in
theorem dX11_ask_28 : decode cX11_ask 28 = .ok (.aload_n 0, 1) := by decide +kernel
set_option maxRecDepth 100000 in
theorem dX11_ask_29 : decode cX11_ask 29 = .ok (.getfield 73, 3) := by decide +kernel
set_option maxRecDepth 100000 in
theorem dX11_ask_32 : decode cX11_ask 32 = .ok (.iconst 0, 1) := by decide +kernel
set_option maxRecDepth 100000 in
theorem dX11_ask_33 : decode cX11_ask 33 = .ok (.aload_n 0, 1) := by decide +kernel
set_option maxRecDepth 100000 in
theorem dX11_ask_34 : decode cX11_ask 34 = .ok (.getfield 36, 3) := by decide +kernel
set_option maxRecDepth 100000 in
theorem dX11_ask_37 : decode cX11_ask 37 = .ok (.getfield 171, 3) := by decide +kernel
set_option maxRecDepth 100000 in
theorem dX11_ask_40 : decode cX11_ask 40 = .ok (.invokevirtual 377, 3) := by decide +kernel
set_option maxRecDepth 100000 in
theorem dX11_ask_43 : decode cX11_ask 43 = .ok (.ifCond .ne 6, 3) := by decide +kernel
set_option maxRecDepth 100000 in
theorem dX11_ask_46 : decode cX11_ask 46 = .ok (.bipush (-2), 2) := by decide +kernel
set_option maxRecDepth 100000 in
theorem dX11_ask_48 : decode cX11_ask 48 = .ok (.ireturn, 1) := by decide +kernel
set_option maxRecDepth 100000 in
theorem dX11_ask_49 : decode cX11_ask 49 = .ok (.iconst 0, 1) := by decide +kernel
set_option maxRecDepth 100000 in
theorem dX11_ask_50 : decode cX11_ask 50 = .ok (.istore_n 1, 1) := by decide +kernel
set_option maxRecDepth 100000 in
theorem dX11_ask_51 : decode cX11_ask 51 = .ok (.iconst 0, 1) := by decide +kernel
set_option maxRecDepth 100000 in
theorem dX11_ask_52 : decode cX11_ask 52 = .ok (.istore_n 2, 1) := by decide +kernel
set_option maxRecDepth 100000 in
theorem dX11_ask_53 : decode cX11_ask 53 = .ok (.iconst 0, 1) := by decide +kernel
set_option maxRecDepth 100000 in
theorem dX11_ask_54 : decode cX11_ask 54 = .ok (.istore_n 3, 1) := by decide +kernel
set_option maxRecDepth 100000 in
theorem dX11_ask_55 : decode cX11_ask 55 = .ok (.iload_n 3, 1) := by decide +kernel
set_option maxRecDepth 100000 in
theorem dX11_ask_56 : decode cX11_ask 56 = .ok (.aload_n 0, 1) := by decide +kernel
set_option maxRecDepth 100000 in
theorem dX11_ask_57 : decode cX11_ask 57 = .ok (.getfield 73, 3) := by decide +kernel
set_option maxRecDepth 100000 in
theorem dX11_ask_60 : decode cX11_ask 60 = .ok (.getfield 384, 3) := by decide +kernel
set_option maxRecDepth 100000 in
theorem dX11_ask_63 : decode cX11_ask 63 = .ok (.if_icmp .gt 33, 3) := by decide +kernel
set_option maxRecDepth 100000 in
theorem dX11_ask_66 : decode cX11_ask 66 = .ok (.aload_n 0, 1) := by decide +kernel
set_option maxRecDepth 100000 in
theorem dX11_ask_67 : decode cX11_ask 67 = .ok (.getfield 73, 3) := by decide +kernel
set_option maxRecDepth 100000 in
theorem dX11_ask_70 : decode cX11_ask 70 = .ok (.iload_n 3, 1) := by decide +kernel
set_option maxRecDepth 100000 in
theorem dX11_ask_71 : decode cX11_ask 71 = .ok (.invokevirtual 387, 3) := by decide +kernel
set_option maxRecDepth 100000 in
theorem dX11_ask_74 : decode cX11_ask 74 = .ok (.invokestatic 325, 3) := by decide +kernel
set_option maxRecDepth 100000 in
theorem dX11_ask_77 : decode cX11_ask 77 = .ok (.istore 4, 2) := by decide +kernel
set_option maxRecDepth 100000 in
theorem dX11_ask_79 : decode cX11_ask 79 = .ok (.iload 4, 2) := by decide +kernel
set_option maxRecDepth 100000 in
theorem dX11_ask_81 : decode cX11_ask 81 = .ok (.iload_n 2, 1) := by decide +kernel
set_option maxRecDepth 100000 in
theorem dX11_ask_82 : decode cX11_ask 82 = .ok (.if_icmp .le 8, 3) := by decide +kernel
set_option maxRecDepth 100000 in
theorem dX11_ask_85 : decode cX11_ask 85 = .ok (.iload 4, 2) := by decide +kernel
set_option maxRecDepth 100000 in
theorem dX11_ask_87 : decode cX11_ask 87 = .ok (.istore_n 2, 1) := by decide +kernel
set_option maxRecDepth 100000 in
theorem dX11_ask_88 : decode cX11_ask 88 = .ok (.iload_n 3, 1) := by decide +kernel
set_option maxRecDepth 100000 in
theorem dX11_ask_89 : decode cX11_ask 89 = .ok (.istore_n 1, 1) := by decide +kernel
set_option maxRecDepth 100000 in
theorem dX11_ask_90 : decode cX11_ask 90 = .ok (.iinc 3 1, 3) := by decide +kernel
set_option maxRecDepth 100000 in
theorem dX11_ask_93 : decode cX11_ask 93 = .ok (.goto (-38), 3) := by decide +kernel
set_option maxRecDepth 100000 in
theorem dX11_ask_96 : decode cX11_ask 96 = .ok (.aload_n 0, 1) := by decide +kernel
set_option maxRecDepth 100000 in
theorem dX11_ask_97 : decode cX11_ask 97 = .ok (.getfield 87, 3) := by decide +kernel
set_option maxRecDepth 100000 in
theorem dX11_ask_100 : decode cX11_ask 100 = .ok (.invokevirtual 239, 3) := by decide +kernel
set_option maxRecDepth 100000 in
theorem dX11_ask_103 : decode cX11_ask 103 = .ok (.aload_n 0, 1) := by decide +kernel
set_option maxRecDepth 100000 in
theorem dX11_ask_104 : decode cX11_ask 104 = .ok (.getfield 87, 3) := by decide +kernel
set_option maxRecDepth 100000 in
theorem dX11_ask_107 : decode cX11_ask 107 = .ok (.iload_n 2, 1) := by decide +kernel
set_option maxRecDepth 100000 in
theorem dX11_ask_108 : decode cX11_ask 108 = .ok (.i2l, 1) := by decide +kernel
set_option maxRecDepth 100000 in
theorem dX11_ask_109 : decode cX11_ask 109 = .ok (.invokevirtual 243, 3) := by decide +kernel
set_option maxRecDepth 100000 in
theorem dX11_ask_112 : decode cX11_ask 112 = .ok (.iload_n 1, 1) := by decide +kernel
set_option maxRecDepth 100000 in
theorem dX11_ask_113 : decode cX11_ask 113 = .ok (.ireturn, 1) := by decide +kernel
set_option maxRecDepth 100000 in
theorem dX11_odds_0 : decode cX11_odds 0 = .ok (.aload_n 0, 1) := by decide +kernel
set_option maxRecDepth 100000 in
theorem dX11_odds_1 : decode cX11_odds 1 = .ok (.getfield 36, 3) := by decide +kernel
set_option maxRecDepth 100000 in
theorem dX11_odds_4 : decode cX11_odds 4 = .ok (.iload_n 1, 1) := by decide +kernel
set_option maxRecDepth 100000 in
theorem dX11_odds_5 : decode cX11_odds 5 = .ok (.invokevirtual 174, 3) := by decide +kernel
set_option maxRecDepth 100000 in
theorem dX11_odds_8 : decode cX11_odds 8 = .ok (.ifCond .eq 22, 3) := by decide +kernel
set_option maxRecDepth 100000 in
theorem dX11_odds_11 : decode cX11_odds 11 = .ok (.iload_n 2, 1) := by decide +kernel
set_option maxRecDepth 100000 in
theorem dX11_odds_12 : decode cX11_odds 12 = .ok (.ifCond .lt 18, 3) := by decide +kernel
set_option maxRecDepth 100000 in
theorem dX11_odds_15 : decode cX11_odds 15 = .ok (.iload_n 2, 1) := by decide +kernel
set_option maxRecDepth 100000 in
theorem dX11_odds_16 : decode cX11_odds 16 = .ok (.iconst 2, 1) := by decide +kernel
set_option maxRecDepth 100000 in
theorem dX11_odds_17 : decode cX11_odds 17 = .ok (.if_icmp .gt 13, 3) := by decide +kernel
set_option maxRecDepth 100000 in
theorem dX11_odds_20 : decode cX11_odds 20 = .ok (.iload_n 3, 1) := by decide +kernel
set_option maxRecDepth 100000 in
theorem dX11_odds_21 : decode cX11_odds 21 = .ok (.ifCond .lt 9, 3) := by decide +kernel
set_option maxRecDepth 100000 in
theorem dX11_odds_24 : decode cX11_odds 24 = .ok (.iload_n 3, 1) := by decide +kernel
set_option maxRecDepth 100000 in
theorem dX11_odds_25 : decode cX11_odds 25 = .ok (.bipush 10, 2) := by decide +kernel
set_option maxRecDepth 100000 in
theorem dX11_odds_27 : decode cX11_odds 27 = .ok (.if_icmp .le 5, 3) := by decide +kernel
set_option maxRecDepth 100000 in
theorem dX11_odds_30 : decode cX11_odds 30 = .ok (.iconst (-1), 1) := by decide +kernel
set_option maxRecDepth 100000 in
theorem dX11_odds_31 : decode cX11_odds 31 = .ok (.ireturn, 1) := by decide +kernel
set_option maxRecDepth 100000 in
theorem dX11_odds_32 : decode cX11_odds 32 = .ok (.aload_n 0, 1) := by decide +kernel
set_option maxRecDepth 100000 in
theorem dX11_odds_33 : decode cX11_odds 33 = .ok (.getfield 36, 3) := by decide +kernel
set_option maxRecDepth 100000 in
theorem dX11_odds_36 : decode cX11_odds 36 = .ok (.iload_n 1, 1) := by decide +kernel
set_option maxRecDepth 100000 in
theorem dX11_odds_37 : decode cX11_odds 37 = .ok (.aload_n 0, 1) := by decide +kernel
set_option maxRecDepth 100000 in
theorem dX11_odds_38 : decode cX11_odds 38 = .ok (.getfield 29, 3) := by decide +kernel
set_option maxRecDepth 100000 in
theorem dX11_odds_41 : decode cX11_odds 41 = .ok (.getfield 116, 3) := by decide +kernel
set_option maxRecDepth 100000 in
theorem dX11_odds_44 : decode cX11_odds 44 = .ok (.invokevirtual 186, 3) := by decide +kernel
set_option maxRecDepth 100000 in
theorem dX11_odds_47 : decode cX11_odds 47 = .ok (.istore 4, 2) := by decide +kernel
set_option maxRecDepth 100000 in
theorem dX11_odds_49 : decode cX11_odds 49 = .ok (.iload 4, 2) := by decide +kernel
set_option maxRecDepth 100000 in
theorem dX11_odds_51 : decode cX11_odds 51 = .ok (.invokestatic 325, 3) := by decide +kernel
set_option maxRecDepth 100000 in
theorem dX11_odds_54 : decode cX11_odds 54 = .ok (.istore 5, 2) := by decide +kernel
set_option maxRecDepth 100000 in
theorem dX11_odds_56 : decode cX11_odds 56 = .ok (.iload 5, 2) := by decide +kernel
set_option maxRecDepth 100000 in
theorem dX11_odds_58 : decode cX11_odds 58 = .ok (.bipush 8, 2) := by decide +kernel
set_option maxRecDepth 100000 in
theorem dX11_odds_60 : decode cX11_odds 60 = .ok (.if_icmp .le 6, 3) := by decide +kernel
set_option maxRecDepth 100000 in
theorem dX11_odds_63 : decode cX11_odds 63 = .ok (.bipush (-2), 2) := by decide +kernel
set_option maxRecDepth 100000 in
theorem dX11_odds_65 : decode cX11_odds 65 = .ok (.ireturn, 1) := by decide +kernel
set_option maxRecDepth 100000 in
theorem dX11_odds_66 : decode cX11_odds 66 = .ok (.aload_n 0, 1) := by decide +kernel
set_option maxRecDepth 100000 in
theorem dX11_odds_67 : decode cX11_odds 67 = .ok (.invokevirtual 190, 3) := by decide +kernel
set_option maxRecDepth 100000 in
theorem dX11_odds_70 : decode cX11_odds 70 = .ok (.astore 6, 2) := by decide +kernel
set_option maxRecDepth 100000 in
theorem dX11_odds_72 : decode cX11_odds 72 = .ok (.lconst 0, 1) := by decide +kernel
set_option maxRecDepth 100000 in
theorem dX11_odds_73 : decode cX11_odds 73 = .ok (.lstore 7, 2) := by decide +kernel
set_option maxRecDepth 100000 in
theorem dX11_odds_75 : decode cX11_odds 75 = .ok (.iconst 0, 1) := by decide +kernel
set_option maxRecDepth 100000 in
theorem dX11_odds_76 : decode cX11_odds 76 = .ok (.istore 9, 2) := by decide +kernel
set_option maxRecDepth 100000 in
theorem dX11_odds_78 : decode cX11_odds 78 = .ok (.iconst 0, 1) := by decide +kernel
set_option maxRecDepth 100000 in
theorem dX11_odds_79 : decode cX11_odds 79 = .ok (.istore 10, 2) := by decide +kernel
set_option maxRecDepth 100000 in
theorem dX11_odds_81 : decode cX11_odds 81 = .ok (.iload 10, 2) := by decide +kernel
set_option maxRecDepth 100000 in
theorem dX11_odds_83 : decode cX11_odds 83 = .ok (.iconst 1, 1) := by decide +kernel
set_option maxRecDepth 100000 in
theorem dX11_odds_84 : decode cX11_odds 84 = .ok (.iload 5, 2) := by decide +kernel
set_option maxRecDepth 100000 in
theorem dX11_odds_86 : decode cX11_odds 86 = .ok (.ishl, 1) := by decide +kernel
set_option maxRecDepth 100000 in
theorem dX11_odds_87 : decode cX11_odds 87 = .ok (.if_icmp .ge 61, 3) := by decide +kernel
set_option maxRecDepth 100000 in
theorem dX11_odds_90 : decode cX11_odds 90 = .ok (.aload 6, 2) := by decide +kernel
set_option maxRecDepth 100000 in
theorem dX11_odds_92 : decode cX11_odds 92 = .ok (.iload 9, 2) := by decide +kernel
set_option maxRecDepth 100000 in
theorem dX11_odds_94 : decode cX11_odds 94 = .ok (.invokevirtual 390, 3) := by decide +kernel
set_option maxRecDepth 100000 in
theorem dX11_odds_97 : decode cX11_odds 97 = .ok (.iload_n 2, 1) := by decide +kernel
set_option maxRecDepth 100000 in
theorem dX11_odds_98 : decode cX11_odds 98 = .ok (.if_icmp .ne 34, 3) := by decide +kernel
set_option maxRecDepth 100000 in
theorem dX11_odds_101 : decode cX11_odds 101 = .ok (.iload 9, 2) := by decide +kernel
set_option maxRecDepth 100000 in
theorem dX11_odds_103 : decode cX11_odds 103 = .ok (.invokestatic 325, 3) := by decide +kernel
set_option maxRecDepth 100000 in
theorem dX11_odds_106 : decode cX11_odds 106 = .ok (.istore 11, 2) := by decide +kernel
set_option maxRecDepth 100000 in
theorem dX11_odds_108 : decode cX11_odds 108 = .ok (.lload 7, 2) := by decide +kernel
set_option maxRecDepth 100000 in
theorem dX11_odds_110 : decode cX11_odds 110 = .ok (.bipush 10, 2) := by decide +kernel
set_option maxRecDepth 100000 in
theorem dX11_odds_112 : decode cX11_odds 112 = .ok (.iload_n 3, 1) := by decide +kernel
set_option maxRecDepth 100000 in
theorem dX11_odds_113 : decode cX11_odds 113 = .ok (.isub, 1) := by decide +kernel
set_option maxRecDepth 100000 in
theorem dX11_odds_114 : decode cX11_odds 114 = .ok (.iload 11, 2) := by decide +kernel
set_option maxRecDepth 100000 in
theorem dX11_odds_116 : decode cX11_odds 116 = .ok (.invokestatic 393, 3) := by decide +kernel
set_option maxRecDepth 100000 in
theorem dX11_odds_119 : decode cX11_odds 119 = .ok (.iload_n 3, 1) := by decide +kernel
set_option maxRecDepth 100000 in
theorem dX11_odds_120 : decode cX11_odds 120 = .ok (.iload 5, 2) := by decide +kernel
set_option maxRecDepth 100000 in
theorem dX11_odds_122 : decode cX11_odds 122 = .ok (.iload 11, 2) := by decide +kernel
set_option maxRecDepth 100000 in
theorem dX11_odds_124 : decode cX11_odds 124 = .ok (.isub, 1) := by decide +kernel
set_option maxRecDepth 100000 in
theorem dX11_odds_125 : decode cX11_odds 125 = .ok (.invokestatic 393, 3) := by decide +kernel
set_option maxRecDepth 100000 in
theorem dX11_odds_128 : decode cX11_odds 128 = .ok (.lmul, 1) := by decide +kernel
set_option maxRecDepth 100000 in
theorem dX11_odds_129 : decode cX11_odds 129 = .ok (.ladd, 1) := by decide +kernel
set_option maxRecDepth 100000 in
theorem dX11_odds_130 : decode cX11_odds 130 = .ok (.lstore 7, 2) := by decide +kernel
set_option maxRecDepth 100000 in
theorem dX11_odds_132 : decode cX11_odds 132 = .ok (.iload 9, 2) := by decide +kernel
set_option maxRecDepth 100000 in
theorem dX11_odds_134 : decode cX11_odds 134 = .ok (.iload 4, 2) := by decide +kernel
set_option maxRecDepth 100000 in
theorem dX11_odds_136 : decode cX11_odds 136 = .ok (.isub, 1) := by decide +kernel
set_option maxRecDepth 100000 in
theorem dX11_odds_137 : decode cX11_odds 137 = .ok (.iload 4, 2) := by decide +kernel
set_option maxRecDepth 100000 in
theorem dX11_odds_139 : decode cX11_odds 139 = .ok (.iand, 1) := by decide +kernel
set_option maxRecDepth 100000 in
theorem dX11_odds_140 : decode cX11_odds 140 = .ok (.istore 9, 2) := by decide +kernel
set_option maxRecDepth 100000 in
theorem dX11_odds_142 : decode cX11_odds 142 = .ok (.iinc 10 1, 3) := by decide +kernel
set_option maxRecDepth 100000 in
theorem dX11_odds_145 : decode cX11_odds 145 = .ok (.goto (-64), 3) := by decide +kernel
set_option maxRecDepth 100000 in
theorem dX11_odds_148 : decode cX11_odds 148 = .ok (.aload_n 0, 1) := by decide +kernel
set_option maxRecDepth 100000 in
theorem dX11_odds_149 : decode cX11_odds 149 = .ok (.lload 7, 2) := by decide +kernel
set_option maxRecDepth 100000 in
theorem dX11_odds_151 : decode cX11_odds 151 = .ok (.bipush 10, 2) := by decide +kernel
set_option maxRecDepth 100000 in
theorem dX11_odds_153 : decode cX11_odds 153 = .ok (.iload 5, 2) := by decide +kernel
set_option maxRecDepth 100000 in
theorem dX11_odds_155 : decode cX11_odds 155 = .ok (.invokestatic 393, 3) := by decide +kernel
set_option maxRecDepth 100000 in
theorem dX11_odds_158 : decode cX11_odds 158 = .ok (.invokevirtual 339, 3) := by decide +kernel
set_option maxRecDepth 100000 in
theorem dX11_odds_161 : decode cX11_odds 161 = .ok (.iconst 0, 1) := by decide +kernel
set_option maxRecDepth 100000 in
theorem dX11_odds_162 : decode cX11_odds 162 = .ok (.ireturn, 1) := by decide +kernel
set_option maxRecDepth 100000 in
theorem dX11_bargain_0 : decode cX11_bargain 0 = .ok (.iload_n 1, 1) := by decide +kernel
set_option maxRecDepth 100000 in
theorem dX11_bargain_1 : decode cX11_bargain 1 = .ok (.iconst 1, 1) := by decide +kernel
set_option maxRecDepth 100000 in
theorem dX11_bargain_2 : decode cX11_bargain 2 = .ok (.if_icmp .lt 9, 3) := by decide +kernel
set_option maxRecDepth 100000 in
theorem dX11_bargain_5 : decode cX11_bargain 5 = .ok (.iload_n 1, 1) := by decide +kernel
set_option maxRecDepth 100000 in
theorem dX11_bargain_6 : decode cX11_bargain 6 = .ok (.bipush 20, 2) := by decide +kernel
set_option maxRecDepth 100000 in
theorem dX11_bargain_8 : decode cX11_bargain 8 = .ok (.if_icmp .le 5, 3) := by decide +kernel
set_option maxRecDepth 100000 in
theorem dX11_bargain_11 : decode cX11_bargain 11 = .ok (.iconst (-1), 1) := by decide +kernel
set_option maxRecDepth 100000 in
theorem dX11_bargain_12 : decode cX11_bargain 12 = .ok (.ireturn, 1) := by decide +kernel
set_option maxRecDepth 100000 in
theorem dX11_bargain_13 : decode cX11_bargain 13 = .ok (.iconst 0, 1) := by decide +kernel
set_option maxRecDepth 100000 in
theorem dX11_bargain_14 : decode cX11_bargain 14 = .ok (.istore_n 2, 1) := by decide +kernel
set_option maxRecDepth 100000 in
theorem dX11_bargain_15 : decode cX11_bargain 15 = .ok (.iconst 0, 1) := by decide +kernel
set_option maxRecDepth 100000 in
theorem dX11_bargain_16 : decode cX11_bargain 16 = .ok (.istore_n 3, 1) := by decide +kernel
set_option maxRecDepth 100000 in
theorem dX11_bargain_17 : decode cX11_bargain 17 = .ok (.iload_n 3, 1) := by decide +kernel
set_option maxRecDepth 100000 in
theorem dX11_bargain_18 : decode cX11_bargain 18 = .ok (.iload_n 1, 1) := by decide +kernel
set_option maxRecDepth 100000 in
theorem dX11_bargain_19 : decode cX11_bargain 19 = .ok (.if_icmp .gt 67, 3) := by decide +kernel
set_option maxRecDepth 100000 in
theorem dX11_bargain_22 : decode cX11_bargain 22 = .ok (.iconst 0, 1) := by decide +kernel
set_option maxRecDepth 100000 in
theorem dX11_bargain_23 : decode cX11_bargain 23 = .ok (.istore 4, 2) := by decide +kernel
set_option maxRecDepth 100000 in
theorem dX11_bargain_25 : decode cX11_bargain 25 = .ok (.iload 4, 2) := by decide +kernel
set_option maxRecDepth 100000 in
theorem dX11_bargain_27 : decode cX11_bargain 27 = .ok (.iload_n 1, 1) := by decide +kernel
set_option maxRecDepth 100000 in
theorem dX11_bargain_28 : decode cX11_bargain 28 = .ok (.if_icmp .gt 52, 3) := by decide +kernel
set_option maxRecDepth 100000 in
theorem dX11_bargain_31 : decode cX11_bargain 31 = .ok (.iload_n 3, 1) := by decide +kernel
set_option maxRecDepth 100000 in
theorem dX11_bargain_32 : decode cX11_bargain 32 = .ok (.iload 4, 2) := by decide +kernel
set_option maxRecDepth 100000 in
theorem dX11_bargain_34 : decode cX11_bargain 34 = .ok (.iload_n 1, 1) := by decide +kernel
set_option maxRecDepth 100000 in
theorem dX11_bargain_35 : decode cX11_bargain 35 = .ok (.invokestatic 397, 3) := by decide +kernel
set_option maxRecDepth 100000 in
theorem dX11_bargain_38 : decode cX11_bargain 38 = .ok (.ifCond .eq 36, 3) := by decide +kernel
set_option maxRecDepth 100000 in
theorem dX11_bargain_41 : decode cX11_bargain 41 = .ok (.iload_n 2, 1) := by decide +kernel
set_option maxRecDepth 100000 in
theorem dX11_bargain_42 : decode cX11_bargain 42 = .ok (.ifCond .ne 29, 3) := by decide +kernel
set_option maxRecDepth 100000 in
theorem dX11_bargain_45 : decode cX11_bargain 45 = .ok (.aload_n 0, 1) := by decide +kernel
set_option maxRecDepth 100000 in
theorem dX11_bargain_46 : decode cX11_bargain 46 = .ok (.getfield 87, 3) := by decide +kernel
set_option maxRecDepth 100000 in
theorem dX11_bargain_49 : decode cX11_bargain 49 = .ok (.invokevirtual 239, 3) := by decide +kernel
set_option maxRecDepth 100000 in
theorem dX11_bargain_52 : decode cX11_bargain 52 = .ok (.aload_n 0, 1) := by decide +kernel
set_option maxRecDepth 100000 in
theorem dX11_bargain_53 : decode cX11_bargain 53 = .ok (.getfield 87, 3) := by decide +kernel
set_option maxRecDepth 100000 in
theorem dX11_bargain_56 : decode cX11_bargain 56 = .ok (.iload_n 3, 1) := by decide +kernel
set_option maxRecDepth 100000 in
theorem dX11_bargain_57 : decode cX11_bargain 57 = .ok (.i2l, 1) := by decide +kernel
set_option maxRecDepth 100000 in
theorem dX11_bargain_58 : decode cX11_bargain 58 = .ok (.invokevirtual 243, 3) := by decide +kernel
set_option maxRecDepth 100000 in
theorem dX11_bargain_61 : decode cX11_bargain 61 = .ok (.aload_n 0, 1) := by decide +kernel
set_option maxRecDepth 100000 in
theorem dX11_bargain_62 : decode cX11_bargain 62 = .ok (.getfield 87, 3) := by decide +kernel
set_option maxRecDepth 100000 in
theorem dX11_bargain_65 : decode cX11_bargain 65 = .ok (.iload 4, 2) := by decide +kernel
set_option maxRecDepth 100000 in
theorem dX11_bargain_67 : decode cX11_bargain 67 = .ok (.i2l, 1) := by decide +kernel
set_option maxRecDepth 100000 in
theorem dX11_bargain_68 : decode cX11_bargain 68 = .ok (.invokevirtual 243, 3) := by decide +kernel
set_option maxRecDepth 100000 in
theorem dX11_bargain_71 : decode cX11_bargain 71 = .ok (.iinc 2 1, 3) := by decide +kernel
set_option maxRecDepth 100000 in
theorem dX11_bargain_74 : decode cX11_bargain 74 = .ok (.iinc 4 1, 3) := by decide +kernel
set_option maxRecDepth 100000 in
theorem dX11_bargain_77 : decode cX11_bargain 77 = .ok (.goto (-52), 3) := by decide +kernel
set_option maxRecDepth 100000 in
theorem dX11_bargain_80 : decode cX11_bargain 80 = .ok (.iinc 3 1, 3) := by decide +kernel
set_option maxRecDepth 100000 in
theorem dX11_bargain_83 : decode cX11_bargain 83 = .ok (.goto (-66), 3) := by decide +kernel
set_option maxRecDepth 100000 in
theorem dX11_bargain_86 : decode cX11_bargain 86 = .ok (.iload_n 2, 1) := by decide +kernel
set_option maxRecDepth 100000 in
theorem dX11_bargain_87 : decode cX11_bargain 87 = .ok (.ireturn, 1) := by decide +kernel
set_option maxRecDepth 100000 in
theorem dX11_nights_0 : decode cX11_nights 0 = .ok (.iload_n 2, 1) := by decide +kernel
set_option maxRecDepth 100000 in
theorem dX11_nights_1 : decode cX11_nights 1 = .ok (.iconst 1, 1) := by decide +kernel
set_option maxRecDepth 100000 in
theorem dX11_nights_2 : decode cX11_nights 2 = .ok (.if_icmp .lt 9, 3) := by decide +kernel
set_option maxRecDepth 100000 in
theorem dX11_nights_5 : decode cX11_nights 5 = .ok (.iload_n 2, 1) := by decide +kernel
set_option maxRecDepth 100000 in
theorem dX11_nights_6 : decode cX11_nights 6 = .ok (.bipush 60, 2) := by decide +kernel
set_option maxRecDepth 100000 in
theorem dX11_nights_8 : decode cX11_nights 8 = .ok (.if_icmp .le 5, 3) := by decide +kernel
set_option maxRecDepth 100000 in
theorem dX11_nights_11 : decode cX11_nights 11 = .ok (.iconst (-1), 1) := by decide +kernel
set_option maxRecDepth 100000 in
theorem dX11_nights_12 : decode cX11_nights 12 = .ok (.ireturn, 1) := by decide +kernel
set_option maxRecDepth 100000 in
theorem dX11_nights_13 : decode cX11_nights 13 = .ok (.aload_n 0, 1) := by decide +kernel
set_option maxRecDepth 100000 in
theorem dX11_nights_14 : decode cX11_nights 14 = .ok (.getfield 43, 3) := by decide +kernel
set_option maxRecDepth 100000 in
theorem dX11_nights_17 : decode cX11_nights 17 = .ok (.aload_n 0, 1) := by decide +kernel
set_option maxRecDepth 100000 in
theorem dX11_nights_18 : decode cX11_nights 18 = .ok (.getfield 36, 3) := by decide +kernel
set_option maxRecDepth 100000 in
theorem dX11_nights_21 : decode cX11_nights 21 = .ok (.invokevirtual 231, 3) := by decide +kernel
set_option maxRecDepth 100000 in
theorem dX11_nights_24 : decode cX11_nights 24 = .ok (.aload_n 0, 1) := by decide +kernel
set_option maxRecDepth 100000 in
theorem dX11_nights_25 : decode cX11_nights 25 = .ok (.iload_n 1, 1) := by decide +kernel
set_option maxRecDepth 100000 in
theorem dX11_nights_26 : decode cX11_nights 26 = .ok (.putfield 401, 3) := by decide +kernel
set_option maxRecDepth 100000 in
theorem dX11_nights_29 : decode cX11_nights 29 = .ok (.iconst 0, 1) := by decide +kernel
set_option maxRecDepth 100000 in
theorem dX11_nights_30 : decode cX11_nights 30 = .ok (.istore_n 3, 1) := by decide +kernel
set_option maxRecDepth 100000 in
theorem dX11_nights_31 : decode cX11_nights 31 = .ok (.iload_n 3, 1) := by decide +kernel
set_option maxRecDepth 100000 in
theorem dX11_nights_32 : decode cX11_nights 32 = .ok (.iload_n 2, 1) := by decide +kernel
set_option maxRecDepth 100000 in
theorem dX11_nights_33 : decode cX11_nights 33 = .ok (.if_icmp .ge 71, 3) := by decide +kernel
set_option maxRecDepth 100000 in
theorem dX11_nights_36 : decode cX11_nights 36 = .ok (.aload_n 0, 1) := by decide +kernel
set_option maxRecDepth 100000 in
theorem dX11_nights_37 : decode cX11_nights 37 = .ok (.iconst 5, 1) := by decide +kernel
set_option maxRecDepth 100000 in
theorem dX11_nights_38 : decode cX11_nights 38 = .ok (.invokevirtual 404, 3) := by decide +kernel
set_option maxRecDepth 100000 in
theorem dX11_nights_41 : decode cX11_nights 41 = .ok (.istore 4, 2) := by decide +kernel
set_option maxRecDepth 100000 in
theorem dX11_nights_43 : decode cX11_nights 43 = .ok (.iload 4, 2) := by decide +kernel
set_option maxRecDepth 100000 in
theorem dX11_nights_45 : decode cX11_nights 45 = .ok (.iconst 3, 1) := by decide +kernel
set_option maxRecDepth 100000 in
theorem dX11_nights_46 : decode cX11_nights 46 = .ok (.if_icmp .ge 31, 3) := by decide +kernel
set_option maxRecDepth 100000 in
theorem dX11_nights_49 : decode cX11_nights 49 = .ok (.aload_n 0, 1) := by decide +kernel
set_option maxRecDepth 100000 in
theorem dX11_nights_50 : decode cX11_nights 50 = .ok (.getfield 59, 3) := by decide +kernel
set_option maxRecDepth 100000 in
theorem dX11_nights_53 : decode cX11_nights 53 = .ok (.aload_n 0, 1) := by decide +kernel
set_option maxRecDepth 100000 in
theorem dX11_nights_54 : decode cX11_nights 54 = .ok (.getfield 19, 3) := by decide +kernel
set_option maxRecDepth 100000 in
theorem dX11_nights_57 : decode cX11_nights 57 = .ok (.aload_n 0, 1) := by decide +kernel
set_option maxRecDepth 100000 in
theorem dX11_nights_58 : decode cX11_nights 58 = .ok (.getfield 43, 3) := by decide +kernel
set_option maxRecDepth 100000 in
theorem dX11_nights_61 : decode cX11_nights 61 = .ok (.aload_n 0, 1) := by decide +kernel
set_option maxRecDepth 100000 in
theorem dX11_nights_62 : decode cX11_nights 62 = .ok (.getfield 29, 3) := by decide +kernel
set_option maxRecDepth 100000 in
theorem dX11_nights_65 : decode cX11_nights 65 = .ok (.aload_n 0, 1) := by decide +kernel
set_option maxRecDepth 100000 in
theorem dX11_nights_66 : decode cX11_nights 66 = .ok (.getfield 49, 3) := by decide +kernel
set_option maxRecDepth 100000 in
theorem dX11_nights_69 : decode cX11_nights 69 = .ok (.iconst 0, 1) := by decide +kernel
set_option maxRecDepth 100000 in
theorem dX11_nights_70 : decode cX11_nights 70 = .ok (.invokevirtual 297, 3) := by decide +kernel
set_option maxRecDepth 100000 in
theorem dX11_nights_73 : decode cX11_nights 73 = .ok (.pop, 1) := by decide +kernel
set_option maxRecDepth 100000 in
theorem dX11_nights_74 : decode cX11_nights 74 = .ok (.goto 24, 3) := by decide +kernel
set_option maxRecDepth 100000 in
theorem dX11_nights_77 : decode cX11_nights 77 = .ok (.iload 4, 2) := by decide +kernel
set_option maxRecDepth 100000 in
theorem dX11_nights_79 : decode cX11_nights 79 = .ok (.iconst 3, 1) := by decide +kernel
set_option maxRecDepth 100000 in
theorem dX11_nights_80 : decode cX11_nights 80 = .ok (.if_icmp .ne 14, 3) := by decide +kernel
set_option maxRecDepth 100000 in
theorem dX11_nights_83 : decode cX11_nights 83 = .ok (.aload_n 0, 1) := by decide +kernel
set_option maxRecDepth 100000 in
theorem dX11_nights_84 : decode cX11_nights 84 = .ok (.getfield 43, 3) := by decide +kernel
set_option maxRecDepth 100000 in
theorem dX11_nights_87 : decode cX11_nights 87 = .ok (.invokevirtual 407, 3) := by decide +kernel
set_option maxRecDepth 100000 in
theorem dX11_nights_90 : decode cX11_nights 90 = .ok (.pop, 1) := by decide +kernel
set_option maxRecDepth 100000 in
theorem dX11_nights_91 : decode cX11_nights 91 = .ok (.goto 7, 3) := by decide +kernel
set_option maxRecDepth 100000 in
theorem dX11_nights_94 : decode cX11_nights 94 = .ok (.aload_n 0, 1) := by decide +kernel
set_option maxRecDepth 100000 in
theorem dX11_nights_95 : decode cX11_nights 95 = .ok (.invokevirtual 408, 3) := by decide +kernel
set_option maxRecDepth 100000 in
theorem dX11_nights_98 : decode cX11_nights 98 = .ok (.iinc 3 1, 3) := by decide +kernel
set_option maxRecDepth 100000 in
theorem dX11_nights_101 : decode cX11_nights 101 = .ok (.goto (-70), 3) := by decide +kernel
set_option maxRecDepth 100000 in
theorem dX11_nights_104 : decode cX11_nights 104 = .ok (.aload_n 0, 1) := by decide +kernel
set_option maxRecDepth 100000 in
theorem dX11_nights_105 : decode cX11_nights 105 = .ok (.getfield 87, 3) := by decide +kernel
set_option maxRecDepth 100000 in
theorem dX11_nights_108 : decode cX11_nights 108 = .ok (.invokevirtual 239, 3) := by decide +kernel
set_option maxRecDepth 100000 in
theorem dX11_nights_111 : decode cX11_nights 111 = .ok (.aload_n 0, 1) := by decide +kernel
set_option maxRecDepth 100000 in
theorem dX11_nights_112 : decode cX11_nights 112 = .ok (.getfield 87, 3) := by decide +kernel
set_option maxRecDepth 100000 in
theorem dX11_nights_115 : decode cX11_nights 115 = .ok (.aload_n 0, 1) := by decide +kernel
set_option maxRecDepth 100000 in
theorem dX11_nights_116 : decode cX11_nights 116 = .ok (.getfield 43, 3) := by decide +kernel
set_option maxRecDepth 100000 in
theorem dX11_nights_119 : decode cX11_nights 119 = .ok (.getfield 312, 3) := by decide +kernel
set_option maxRecDepth 100000 in
theorem dX11_nights_122 : decode cX11_nights 122 = .ok (.i2l, 1) := by decide +kernel
set_option maxRecDepth 100000 in
theorem dX11_nights_123 : decode cX11_nights 123 = .ok (.invokevirtual 243, 3) := by decide +kernel
set_option maxRecDepth 100000 in
theorem dX11_nights_126 : decode cX11_nights 126 = .ok (.aload_n 0, 1) := by decide +kernel
set_option maxRecDepth 100000 in
theorem dX11_nights_127 : decode cX11_nights 127 = .ok (.getfield 87, 3) := by decide +kernel
set_option maxRecDepth 100000 in
theorem dX11_nights_130 : decode cX11_nights 130 = .ok (.aload_n 0, 1) := by decide +kernel
set_option maxRecDepth 100000 in
theorem dX11_nights_131 : decode cX11_nights 131 = .ok (.getfield 43, 3) := by decide +kernel
set_option maxRecDepth 100000 in
theorem dX11_nights_134 : decode cX11_nights 134 = .ok (.getfield 171, 3) := by decide +kernel
set_option maxRecDepth 100000 in
theorem dX11_nights_137 : decode cX11_nights 137 = .ok (.i2l, 1) := by decide +kernel
set_option maxRecDepth 100000 in
theorem dX11_nights_138 : decode cX11_nights 138 = .ok (.invokevirtual 243, 3) := by decide +kernel
set_option maxRecDepth 100000 in
theorem dX11_nights_141 : decode cX11_nights 141 = .ok (.aload_n 0, 1) := by decide +kernel
set_option maxRecDepth 100000 in
theorem dX11_nights_142 : decode cX11_nights 142 = .ok (.aload_n 0, 1) := by decide +kernel
set_option maxRecDepth 100000 in
theorem dX11_nights_143 : decode cX11_nights 143 = .ok (.getfield 36, 3) := by decide +kernel
set_option maxRecDepth 100000 in
theorem dX11_nights_146 : decode cX11_nights 146 = .ok (.aload_n 0, 1) := by decide +kernel
set_option maxRecDepth 100000 in
theorem dX11_nights_147 : decode cX11_nights 147 = .ok (.getfield 43, 3) := by decide +kernel
set_option maxRecDepth 100000 in
theorem dX11_nights_150 : decode cX11_nights 150 = .ok (.invokevirtual 281, 3) := by decide +kernel
set_option maxRecDepth 100000 in
theorem dX11_nights_153 : decode cX11_nights 153 = .ok (.ireturn, 1) := by decide +kernel
set_option maxRecDepth 100000 in
theorem dX11_keep_0 : decode cX11_keep 0 = .ok (.iload_n 1, 1) := by decide +kernel
set_option maxRecDepth 100000 in
theorem dX11_keep_1 : decode cX11_keep 1 = .ok (.ifCond .lt 8, 3) := by decide +kernel
set_option maxRecDepth 100000 in
theorem dX11_keep_4 : decode cX11_keep 4 = .ok (.iload_n 1, 1) := by decide +kernel
set_option maxRecDepth 100000 in
theorem dX11_keep_5 : decode cX11_keep 5 = .ok (.iconst 3, 1) := by decide +kernel
set_option maxRecDepth 100000 in
theorem dX11_keep_6 : decode cX11_keep 6 = .ok (.if_icmp .lt 5, 3) := by decide +kernel
set_option maxRecDepth 100000 in
theorem dX11_keep_9 : decode cX11_keep 9 = .ok (.iconst 0, 1) := by decide +kernel
set_option maxRecDepth 100000 in
theorem dX11_keep_10 : decode cX11_keep 10 = .ok (.ireturn, 1) := by decide +kernel
set_option maxRecDepth 100000 in
theorem dX11_keep_11 : decode cX11_keep 11 = .ok (.aload_n 0, 1) := by decide +kernel
set_option maxRecDepth 100000 in
theorem dX11_keep_12 : decode cX11_keep 12 = .ok (.getfield 66, 3) := by decide +kernel
set_option maxRecDepth 100000 in
theorem dX11_keep_15 : decode cX11_keep 15 = .ok (.iload_n 1, 1) := by decide +kernel
set_option maxRecDepth 100000 in
theorem dX11_keep_16 : decode cX11_keep 16 = .ok (.aload_n 0, 1) := by decide +kernel
set_option maxRecDepth 100000 in
theorem dX11_keep_17 : decode cX11_keep 17 = .ok (.getfield 36, 3) := by decide +kernel
set_option maxRecDepth 100000 in
theorem dX11_keep_20 : decode cX11_keep 20 = .ok (.invokevirtual 411, 3) := by decide +kernel
set_option maxRecDepth 100000 in
theorem dX11_keep_23 : decode cX11_keep 23 = .ok (.iconst 1, 1) := by decide +kernel
set_option maxRecDepth 100000 in
theorem dX11_keep_24 : decode cX11_keep 24 = .ok (.ireturn, 1) := by decide +kernel
set_option maxRecDepth 100000 in
theorem dX11_again_0 : decode cX11_again 0 = .ok (.iload_n 1, 1) := by decide +kernel
set_option maxRecDepth 100000 in
theorem dX11_again_1 : decode cX11_again 1 = .ok (.ifCond .lt 20, 3) := by decide +kernel
set_option maxRecDepth 100000 in
theorem dX11_again_4 : decode cX11_again 4 = .ok (.iload_n 1, 1) := by decide +kernel
set_option maxRecDepth 100000 in
theorem dX11_again_5 : decode cX11_again 5 = .ok (.iconst 3, 1) := by decide +kernel
set_option maxRecDepth 100000 in
theorem dX11_again_6 : decode cX11_again 6 = .ok (.if_icmp .ge 15, 3) := by decide +kernel
set_option maxRecDepth 100000 in
theorem dX11_again_9 : decode cX11_again 9 = .ok (.aload_n 0, 1) := by decide +kernel
set_option maxRecDepth 100000 in
theorem dX11_again_10 : decode cX11_again 10 = .ok (.getfield 66, 3) := by decide +kernel
set_option maxRecDepth 100000 in
theorem dX11_again_13 : decode cX11_again 13 = .ok (.getfield 415, 3) := by decide +kernel
set_option maxRecDepth 100000 in
theorem dX11_again_16 : decode cX11_again 16 = .ok (.iload_n 1, 1) := by decide +kernel
set_option maxRecDepth 100000 in
theorem dX11_again_17 : decode cX11_again 17 = .ok (.baload, 1) := by decide +kernel
set_option maxRecDepth 100000 in
theorem dX11_again_18 : decode cX11_again 18 = .ok (.ifCond .ne 5, 3) := by decide +kernel
set_option maxRecDepth 100000 in
theorem dX11_again_21 : decode cX11_again 21 = .ok (.iconst 0, 1) := by decide +kernel
set_option maxRecDepth 100000 in
theorem dX11_again_22 : decode cX11_again 22 = .ok (.ireturn, 1) := by decide +kernel
set_option maxRecDepth 100000 in
theorem dX11_again_23 : decode cX11_again 23 = .ok (.aload_n 0, 1) := by decide +kernel
set_option maxRecDepth 100000 in
theorem dX11_again_24 : decode cX11_again 24 = .ok (.getfield 36, 3) := by decide +kernel
set_option maxRecDepth 100000 in
theorem dX11_again_27 : decode cX11_again 27 = .ok (.aload_n 0, 1) := by decide +kernel
set_option maxRecDepth 100000 in
theorem dX11_again_28 : decode cX11_again 28 = .ok (.getfield 66, 3) := by decide +kernel
set_option maxRecDepth 100000 in
theorem dX11_again_31 : decode cX11_again 31 = .ok (.getfield 419, 3) := by decide +kernel
set_option maxRecDepth 100000 in
theorem dX11_again_34 : decode cX11_again 34 = .ok (.iload_n 1, 1) := by decide +kernel
set_option maxRecDepth 100000 in
theorem dX11_again_35 : decode cX11_again 35 = .ok (.aaload, 1) := by decide +kernel
set_option maxRecDepth 100000 in
theorem dX11_again_36 : decode cX11_again 36 = .ok (.invokevirtual 231, 3) := by decide +kernel
set_option maxRecDepth 100000 in
theorem dX11_again_39 : decode cX11_again 39 = .ok (.aload_n 0, 1) := by decide +kernel
set_option maxRecDepth 100000 in
theorem dX11_again_40 : decode cX11_again 40 = .ok (.getfield 66, 3) := by decide +kernel
set_option maxRecDepth 100000 in
theorem dX11_again_43 : decode cX11_again 43 = .ok (.invokevirtual 423, 3) := by decide +kernel
set_option maxRecDepth 100000 in
theorem dX11_again_46 : decode cX11_again 46 = .ok (.iconst 1, 1) := by decide +kernel
set_option maxRecDepth 100000 in
theorem dX11_again_47 : decode cX11_again 47 = .ok (.ireturn, 1) := by decide +kernel
set_option maxRecDepth 100000 in
theorem dX11_count_0 : decode cX11_count 0 = .ok (.iload_n 1, 1) := by decide +kernel
set_option maxRecDepth 100000 in
theorem dX11_count_1 : decode cX11_count 1 = .ok (.tableswitch 166 0 11 #[63, 71, 79, 87, 95, 103, 111, 119, 134, 142, 150, 158], 63) := by decide +kernel
set_option maxRecDepth 100000 in
theorem dX11_count_64 : decode cX11_count 64 = .ok (.aload_n 0, 1) := by decide +kernel
set_option maxRecDepth 100000 in
theorem dX11_count_65 : decode cX11_count 65 = .ok (.getfield 19, 3) := by decide +kernel
set_option maxRecDepth 100000 in
theorem dX11_count_68 : decode cX11_count 68 = .ok (.getfield 129, 3) := by decide +kernel
set_option maxRecDepth 100000 in
theorem dX11_count_71 : decode cX11_count 71 = .ok (.ireturn, 1) := by decide +kernel
set_option maxRecDepth 100000 in
theorem dX11_count_72 : decode cX11_count 72 = .ok (.aload_n 0, 1) := by decide +kernel
set_option maxRecDepth 100000 in
theorem dX11_count_73 : decode cX11_count 73 = .ok (.getfield 36, 3) := by decide +kernel
set_option maxRecDepth 100000 in
theorem dX11_count_76 : decode cX11_count 76 = .ok (.getfield 349, 3) := by decide +kernel
set_option maxRecDepth 100000 in
theorem dX11_count_79 : decode cX11_count 79 = .ok (.ireturn, 1) := by decide +kernel
set_option maxRecDepth 100000 in
theorem dX11_count_80 : decode cX11_count 80 = .ok (.aload_n 0, 1) := by decide +kernel
set_option maxRecDepth 100000 in
theorem dX11_count_81 : decode cX11_count 81 = .ok (.getfield 29, 3) := by decide +kernel
set_option maxRecDepth 100000 in
theorem dX11_count_84 : decode cX11_count 84 = .ok (.getfield 116, 3) := by decide +kernel
set_option maxRecDepth 100000 in
theorem dX11_count_87 : decode cX11_count 87 = .ok (.ireturn, 1) := by decide +kernel
set_option maxRecDepth 100000 in
theorem dX11_count_88 : decode cX11_count 88 = .ok (.aload_n 0, 1) := by decide +kernel
set_option maxRecDepth 100000 in
theorem dX11_count_89 : decode cX11_count 89 = .ok (.getfield 36, 3) := by decide +kernel
set_option maxRecDepth 100000 in
theorem dX11_count_92 : decode cX11_count 92 = .ok (.getfield 312, 3) := by decide +kernel
set_option maxRecDepth 100000 in
theorem dX11_count_95 : decode cX11_count 95 = .ok (.ireturn, 1) := by decide +kernel
set_option maxRecDepth 100000 in
theorem dX11_count_96 : decode cX11_count 96 = .ok (.aload_n 0, 1) := by decide +kernel
set_option maxRecDepth 100000 in
theorem dX11_count_97 : decode cX11_count 97 = .ok (.getfield 36, 3) := by decide +kernel
set_option maxRecDepth 100000 in
theorem dX11_count_100 : decode cX11_count 100 = .ok (.getfield 171, 3) := by decide +kernel
set_option maxRecDepth 100000 in
theorem dX11_count_103 : decode cX11_count 103 = .ok (.ireturn, 1) := by decide +kernel
set_option maxRecDepth 100000 in
theorem dX11_count_104 : decode cX11_count 104 = .ok (.aload_n 0, 1) := by decide +kernel
set_option maxRecDepth 100000 in
theorem dX11_count_105 : decode cX11_count 105 = .ok (.getfield 36, 3) := by decide +kernel
set_option maxRecDepth 100000 in
theorem dX11_count_108 : decode cX11_count 108 = .ok (.invokevirtual 315, 3) := by decide +kernel
set_option maxRecDepth 100000 in
theorem dX11_count_111 : decode cX11_count 111 = .ok (.ireturn, 1) := by decide +kernel
set_option maxRecDepth 100000 in
theorem dX11_count_112 : decode cX11_count 112 = .ok (.aload_n 0, 1) := by decide +kernel
set_option maxRecDepth 100000 in
theorem dX11_count_113 : decode cX11_count 113 = .ok (.getfield 36, 3) := by decide +kernel
set_option maxRecDepth 100000 in
theorem dX11_count_116 : decode cX11_count 116 = .ok (.invokevirtual 426, 3) := by decide +kernel
set_option maxRecDepth 100000 in
theorem dX11_count_119 : decode cX11_count 119 = .ok (.ireturn, 1) := by decide +kernel
set_option maxRecDepth 100000 in
theorem dX11_count_120 : decode cX11_count 120 = .ok (.aload_n 0, 1) := by decide +kernel
set_option maxRecDepth 100000 in
theorem dX11_count_121 : decode cX11_count 121 = .ok (.getfield 36, 3) := by decide +kernel
set_option maxRecDepth 100000 in
theorem dX11_count_124 : decode cX11_count 124 = .ok (.aload_n 0, 1) := by decide +kernel
set_option maxRecDepth 100000 in
theorem dX11_count_125 : decode cX11_count 125 = .ok (.getfield 29, 3) := by decide +kernel
set_option maxRecDepth 100000 in
theorem dX11_count_128 : decode cX11_count 128 = .ok (.getfield 116, 3) := by decide +kernel
set_option maxRecDepth 100000 in
theorem dX11_count_131 : decode cX11_count 131 = .ok (.invokevirtual 254, 3) := by decide +kernel
set_option maxRecDepth 100000 in
theorem dX11_count_134 : decode cX11_count 134 = .ok (.ireturn, 1) := by decide +kernel
set_option maxRecDepth 100000 in
theorem dX11_count_135 : decode cX11_count 135 = .ok (.aload_n 0, 1) := by decide +kernel
set_option maxRecDepth 100000 in
theorem dX11_count_136 : decode cX11_count 136 = .ok (.getfield 73, 3) := by decide +kernel
set_option maxRecDepth 100000 in
theorem dX11_count_139 : decode cX11_count 139 = .ok (.getfield 369, 3) := by decide +kernel
set_option maxRecDepth 100000 in
theorem dX11_count_142 : decode cX11_count 142 = .ok (.ireturn, 1) := by decide +kernel
set_option maxRecDepth 100000 in
theorem dX11_count_143 : decode cX11_count 143 = .ok (.aload_n 0, 1) := by decide +kernel
set_option maxRecDepth 100000 in
theorem dX11_count_144 : decode cX11_count 144 = .ok (.getfield 66, 3) := by decide +kernel
set_option maxRecDepth 100000 in
theorem dX11_count_147 : decode cX11_count 147 = .ok (.getfield 285, 3) := by decide +kernel
set_option maxRecDepth 100000 in
theorem dX11_count_150 : decode cX11_count 150 = .ok (.ireturn, 1) := by decide +kernel
set_option maxRecDepth 100000 in
theorem dX11_count_151 : decode cX11_count 151 = .ok (.aload_n 0, 1) := by decide +kernel
set_option maxRecDepth 100000 in
theorem dX11_count_152 : decode cX11_count 152 = .ok (.getfield 87, 3) := by decide +kernel
set_option maxRecDepth 100000 in
theorem dX11_count_155 : decode cX11_count 155 = .ok (.getfield 429, 3) := by decide +kernel
set_option maxRecDepth 100000 in
theorem dX11_count_158 : decode cX11_count 158 = .ok (.ireturn, 1) := by decide +kernel
set_option maxRecDepth 100000 in
theorem dX11_count_159 : decode cX11_count 159 = .ok (.aload_n 0, 1) := by decide +kernel
set_option maxRecDepth 100000 in
theorem dX11_count_160 : decode cX11_count 160 = .ok (.getfield 10, 3) := by decide +kernel
set_option maxRecDepth 100000 in
theorem dX11_count_163 : decode cX11_count 163 = .ok (.getfield 91, 3) := by decide +kernel
set_option maxRecDepth 100000 in
theorem dX11_count_166 : decode cX11_count 166 = .ok (.ireturn, 1) := by decide +kernel
set_option maxRecDepth 100000 in
theorem dX11_count_167 : decode cX11_count 167 = .ok (.bipush (-100), 2) := by decide +kernel
set_option maxRecDepth 100000 in
theorem dX11_count_169 : decode cX11_count 169 = .ok (.ireturn, 1) := by decide +kernel
set_option maxRecDepth 100000 in
theorem dX11_row_0 : decode cX11_row 0 = .ok (.iload_n 1, 1) := by decide +kernel
set_option maxRecDepth 100000 in
theorem dX11_row_1 : decode cX11_row 1 = .ok (.ifCond .lt 14, 3) := by decide +kernel
set_option maxRecDepth 100000 in
theorem dX11_row_4 : decode cX11_row 4 = .ok (.iload_n 1, 1) := by decide +kernel
set_option maxRecDepth 100000 in
theorem dX11_row_5 : decode cX11_row 5 = .ok (.aload_n 0, 1) := by decide +kernel
set_option maxRecDepth 100000 in
theorem dX11_row_6 : decode cX11_row 6 = .ok (.getfield 87, 3) := by decide +kernel
set_option maxRecDepth 100000 in
theorem dX11_row_9 : decode cX11_row 9 = .ok (.getfield 429, 3) := by decide +kernel
set_option maxRecDepth 100000 in
theorem dX11_row_12 : decode cX11_row 12 = .ok (.if_icmp .lt 14, 3) := by decide +kernel
set_option maxRecDepth 100000 in
theorem dX11_row_15 : decode cX11_row 15 = .ok (.new 153, 3) := by decide +kernel
set_option maxRecDepth 100000 in
theorem dX11_row_18 : decode cX11_row 18 = .ok (.dup, 1) := by decide +kernel
set_option maxRecDepth 100000 in
theorem dX11_row_19 : decode cX11_row 19 = .ok (.ldc_w 430, 3) := by decide +kernel
set_option maxRecDepth 100000 in
theorem dX11_row_22 : decode cX11_row 22 = .ok (.invokespecial 157, 3) := by decide +kernel
set_option maxRecDepth 100000 in
theorem dX11_row_25 : decode cX11_row 25 = .ok (.athrow, 1) := by decide +kernel
set_option maxRecDepth 100000 in
theorem dX11_row_26 : decode cX11_row 26 = .ok (.aload_n 0, 1) := by decide +kernel
set_option maxRecDepth 100000 in
theorem dX11_row_27 : decode cX11_row 27 = .ok (.getfield 87, 3) := by decide +kernel
set_option maxRecDepth 100000 in
theorem dX11_row_30 : decode cX11_row 30 = .ok (.getfield 432, 3) := by decide +kernel
set_option maxRecDepth 100000 in
theorem dX11_row_33 : decode cX11_row 33 = .ok (.iload_n 1, 1) := by decide +kernel
set_option maxRecDepth 100000 in
theorem dX11_row_34 : decode cX11_row 34 = .ok (.laload, 1) := by decide +kernel
set_option maxRecDepth 100000 in
theorem dX11_row_35 : decode cX11_row 35 = .ok (.lreturn, 1) := by decide +kernel
set_option maxRecDepth 100000 in
theorem dX11_checkCoaches_0 : decode cX11_checkCoaches 0 = .ok (.aload_n 0, 1) := by decide +kernel
set_option maxRecDepth 100000 in
theorem dX11_checkCoaches_1 : decode cX11_checkCoaches 1 = .ok (.getfield 10, 3) := by decide +kernel
set_option maxRecDepth 100000 in
theorem dX11_checkCoaches_4 : decode cX11_checkCoaches 4 = .ok (.bipush 80, 2) := by decide +kernel
set_option maxRecDepth 100000 in
theorem dX11_checkCoaches_6 : decode cX11_checkCoaches 6 = .ok (.invokevirtual 99, 3) := by decide +kernel
set_option maxRecDepth 100000 in
theorem dX11_checkCoaches_9 : decode cX11_checkCoaches 9 = .ok (.iconst 0, 1) := by decide +kernel
set_option maxRecDepth 100000 in
theorem dX11_checkCoaches_10 : decode cX11_checkCoaches 10 = .ok (.istore_n 1, 1) := by decide +kernel
set_option maxRecDepth 100000 in
theorem dX11_checkCoaches_11 : decode cX11_checkCoaches 11 = .ok (.iload_n 1, 1) := by decide +kernel
set_option maxRecDepth 100000 in
theorem dX11_checkCoaches_12 : decode cX11_checkCoaches 12 = .ok (.aload_n 0, 1) := by decide +kernel
set_option maxRecDepth 100000 in
theorem dX11_checkCoaches_13 : decode cX11_checkCoaches 13 = .ok (.getfield 10, 3) := by decide +kernel
set_option maxRecDepth 100000 in
theorem dX11_checkCoaches_16 : decode cX11_checkCoaches 16 = .ok (.getfield 91, 3) := by decide +kernel
set_option maxRecDepth 100000 in
theorem dX11_checkCoaches_19 : decode cX11_checkCoaches 19 = .ok (.if_icmp .ge 71, 3) := by decide +kernel
set_option maxRecDepth 100000 in
theorem dX11_checkCoaches_22 : decode cX11_checkCoaches 22 = .ok (.aload_n 0, 1) := by decide +kernel
set_option maxRecDepth 100000 in
theorem dX11_checkCoaches_23 : decode cX11_checkCoaches 23 = .ok (.getfield 10, 3) := by decide +kernel
set_option maxRecDepth 100000 in
theorem dX11_checkCoaches_26 : decode cX11_checkCoaches 26 = .ok (.iload_n 1, 1) := by decide +kernel
set_option maxRecDepth 100000 in
theorem dX11_checkCoaches_27 : decode cX11_checkCoaches 27 = .ok (.invokevirtual 436, 3) := by decide +kernel
set_option maxRecDepth 100000 in
theorem dX11_checkCoaches_30 : decode cX11_checkCoaches 30 = .ok (.bipush 43, 2) := by decide +kernel
set_option maxRecDepth 100000 in
theorem dX11_checkCoaches_32 : decode cX11_checkCoaches 32 = .ok (.if_icmp .eq 24, 3) := by decide +kernel
set_option maxRecDepth 100000 in
theorem dX11_checkCoaches_35 : decode cX11_checkCoaches 35 = .ok (.aload_n 0, 1) := by decide +kernel
set_option maxRecDepth 100000 in
theorem dX11_checkCoaches_36 : decode cX11_checkCoaches 36 = .ok (.getfield 10, 3) := by decide +kernel
set_option maxRecDepth 100000 in
theorem dX11_checkCoaches_39 : decode cX11_checkCoaches 39 = .ok (.iload_n 1, 1) := by decide +kernel
set_option maxRecDepth 100000 in
theorem dX11_checkCoaches_40 : decode cX11_checkCoaches 40 = .ok (.bipush 97, 2) := by decide +kernel
set_option maxRecDepth 100000 in
theorem dX11_checkCoaches_42 : decode cX11_checkCoaches 42 = .ok (.aload_n 0, 1) := by decide +kernel
set_option maxRecDepth 100000 in
theorem dX11_checkCoaches_43 : decode cX11_checkCoaches 43 = .ok (.getfield 19, 3) := by decide +kernel
set_option maxRecDepth 100000 in
theorem dX11_checkCoaches_46 : decode cX11_checkCoaches 46 = .ok (.getfield 129, 3) := by decide +kernel
set_option maxRecDepth 100000 in
theorem dX11_checkCoaches_49 : decode cX11_checkCoaches 49 = .ok (.invokevirtual 132, 3) := by decide +kernel
set_option maxRecDepth 100000 in
theorem dX11_checkCoaches_52 : decode cX11_checkCoaches 52 = .ok (.iconst (-1), 1) := by decide +kernel
set_option maxRecDepth 100000 in
theorem dX11_checkCoaches_53 : decode cX11_checkCoaches 53 = .ok (.if_icmp .eq 7, 3) := by decide +kernel
set_option maxRecDepth 100000 in
theorem dX11_checkCoaches_56 : decode cX11_checkCoaches 56 = .ok (.iconst 1, 1) := by decide +kernel
set_option maxRecDepth 100000 in
theorem dX11_checkCoaches_57 : decode cX11_checkCoaches 57 = .ok (.goto 4, 3) := by decide +kernel
set_option maxRecDepth 100000 in
theorem dX11_checkCoaches_60 : decode cX11_checkCoaches 60 = .ok (.iconst 0, 1) := by decide +kernel
set_option maxRecDepth 100000 in
theorem dX11_checkCoaches_61 : decode cX11_checkCoaches 61 = .ok (.istore_n 2, 1) := by decide +kernel
set_option maxRecDepth 100000 in
theorem dX11_checkCoaches_62 : decode cX11_checkCoaches 62 = .ok (.iload_n 2, 1) := by decide +kernel
set_option maxRecDepth 100000 in
theorem dX11_checkCoaches_63 : decode cX11_checkCoaches 63 = .ok (.ifCond .eq 17, 3) := by decide +kernel
set_option maxRecDepth 100000 in
theorem dX11_checkCoaches_66 : decode cX11_checkCoaches 66 = .ok (.aload_n 0, 1) := by decide +kernel
set_option maxRecDepth 100000 in
theorem dX11_checkCoaches_67 : decode cX11_checkCoaches 67 = .ok (.getfield 36, 3) := by decide +kernel
set_option maxRecDepth 100000 in
theorem dX11_checkCoaches_70 : decode cX11_checkCoaches 70 = .ok (.getfield 349, 3) := by decide +kernel
set_option maxRecDepth 100000 in
theorem dX11_checkCoaches_73 : decode cX11_checkCoaches 73 = .ok (.iload_n 1, 1) := by decide +kernel
set_option maxRecDepth 100000 in
theorem dX11_checkCoaches_74 : decode cX11_checkCoaches 74 = .ok (.iadd, 1) := by decide +kernel
set_option maxRecDepth 100000 in
theorem dX11_checkCoaches_75 : decode cX11_checkCoaches 75 = .ok (.bipush 6, 2) := by decide +kernel
set_option maxRecDepth 100000 in
theorem dX11_checkCoaches_77 : decode cX11_checkCoaches 77 = .ok (.if_icmp .lt 7, 3) := by decide +kernel
set_option maxRecDepth 100000 in
theorem dX11_checkCoaches_80 : decode cX11_checkCoaches 80 = .ok (.iconst (-1), 1) := by decide +kernel
set_option maxRecDepth 100000 in
theorem dX11_checkCoaches_81 : decode cX11_checkCoaches 81 = .ok (.iload_n 1, 1) := by decide +kernel
set_option maxRecDepth 100000 in
theorem dX11_checkCoaches_82 : decode cX11_checkCoaches 82 = .ok (.isub, 1) := by decide +kernel
set_option maxRecDepth 100000 in
theorem dX11_checkCoaches_83 : decode cX11_checkCoaches 83 = .ok (.ireturn, 1) := by decide +kernel
set_option maxRecDepth 100000 in
theorem dX11_checkCoaches_84 : decode cX11_checkCoaches 84 = .ok (.iinc 1 1, 3) := by decide +kernel
set_option maxRecDepth 100000 in
theorem dX11_checkCoaches_87 : decode cX11_checkCoaches 87 = .ok (.goto (-76), 3) := by decide +kernel
set_option maxRecDepth 100000 in
theorem dX11_checkCoaches_90 : decode cX11_checkCoaches 90 = .ok (.aload_n 0, 1) := by decide +kernel
set_option maxRecDepth 100000 in
theorem dX11_checkCoaches_91 : decode cX11_checkCoaches 91 = .ok (.getfield 10, 3) := by decide +kernel
set_option maxRecDepth 100000 in
theorem dX11_checkCoaches_94 : decode cX11_checkCoaches 94 = .ok (.getfield 91, 3) := by decide +kernel
set_option maxRecDepth 100000 in
theorem dX11_checkCoaches_97 : decode cX11_checkCoaches 97 = .ok (.ireturn, 1) := by decide +kernel
set_option maxRecDepth 100000 in
theorem dX11_checkPassengers_0 : decode cX11_checkPassengers 0 = .ok (.iconst 0, 1) := by decide +kernel
set_option maxRecDepth 100000 in
theorem dX11_checkPassengers_1 : decode cX11_checkPassengers 1 = .ok (.istore_n 1, 1) := by decide +kernel
set_option maxRecDepth 100000 in
theorem dX11_checkPassengers_2 : decode cX11_checkPassengers 2 = .ok (.iconst 0, 1) := by decide +kernel
set_option maxRecDepth 100000 in
theorem dX11_checkPassengers_3 : decode cX11_checkPassengers 3 = .ok (.istore_n 2, 1) := by decide +kernel
set_option maxRecDepth 100000 in
theorem dX11_checkPassengers_4 : decode cX11_checkPassengers 4 = .ok (.aload_n 0, 1) := by decide +kernel
set_option maxRecDepth 100000 in
theorem dX11_checkPassengers_5 : decode cX11_checkPassengers 5 = .ok (.getfield 29, 3) := by decide +kernel
set_option maxRecDepth 100000 in
theorem dX11_checkPassengers_8 : decode cX11_checkPassengers 8 = .ok (.getfield 116, 3) := by decide +kernel
set_option maxRecDepth 100000 in
theorem dX11_checkPassengers_11 : decode cX11_checkPassengers 11 = .ok (.iload_n 2, 1) := by decide +kernel
set_option maxRecDepth 100000 in
theorem dX11_checkPassengers_12 : decode cX11_checkPassengers 12 = .ok (.iadd, 1) := by decide +kernel
set_option maxRecDepth 100000 in
theorem dX11_checkPassengers_13 : decode cX11_checkPassengers 13 = .ok (.bipush 12, 2) := by decide +kernel
set_option maxRecDepth 100000 in
theorem dX11_checkPassengers_15 : decode cX11_checkPassengers 15 = .ok (.if_icmp .ge 123, 3) := by decide +kernel
set_option maxRecDepth 100000 in
theorem dX11_checkPassengers_18 : decode cX11_checkPassengers 18 = .ok (.aload_n 0, 1) := by decide +kernel
set_option maxRecDepth 100000 in
theorem dX11_checkPassengers_19 : decode cX11_checkPassengers 19 = .ok (.getfield 10, 3) := by decide +kernel
set_option maxRecDepth 100000 in
theorem dX11_checkPassengers_22 : decode cX11_checkPassengers 22 = .ok (.iload_n 1, 1) := by decide +kernel
set_option maxRecDepth 100000 in
theorem dX11_checkPassengers_23 : decode cX11_checkPassengers 23 = .ok (.bipush 48, 2) := by decide +kernel
set_option maxRecDepth 100000 in
theorem dX11_checkPassengers_25 : decode cX11_checkPassengers 25 = .ok (.aload_n 0, 1) := by decide +kernel
set_option maxRecDepth 100000 in
theorem dX11_checkPassengers_26 : decode cX11_checkPassengers 26 = .ok (.getfield 36, 3) := by decide +kernel
set_option maxRecDepth 100000 in
theorem dX11_checkPassengers_29 : decode cX11_checkPassengers 29 = .ok (.getfield 349, 3) := by decide +kernel
set_option maxRecDepth 100000 in
theorem dX11_checkPassengers_32 : decode cX11_checkPassengers 32 = .ok (.invokevirtual 132, 3) := by decide +kernel
set_option maxRecDepth 100000 in
theorem dX11_checkPassengers_35 : decode cX11_checkPassengers 35 = .ok (.iconst (-1), 1) := by decide +kernel
set_option maxRecDepth 100000 in
theorem dX11_checkPassengers_36 : decode cX11_checkPassengers 36 = .ok (.if_icmp .ne 7, 3) := by decide +kernel
set_option maxRecDepth 100000 in
theorem dX11_checkPassengers_39 : decode cX11_checkPassengers 39 = .ok (.iconst (-1), 1) := by decide +kernel
set_option maxRecDepth 100000 in
theorem dX11_checkPassengers_40 : decode cX11_checkPassengers 40 = .ok (.iload_n 1, 1) := by decide +kernel
set_option maxRecDepth 100000 in
theorem dX11_checkPassengers_41 : decode cX11_checkPassengers 41 = .ok (.isub, 1) := by decide +kernel
set_option maxRecDepth 100000 in
theorem dX11_checkPassengers_42 : decode cX11_checkPassengers 42 = .ok (.ireturn, 1) := by decide +kernel
set_option maxRecDepth 100000 in
theorem dX11_checkPassengers_43 : decode cX11_checkPassengers 43 = .ok (.aload_n 0, 1) := by decide +kernel
set_option maxRecDepth 100000 in
theorem dX11_checkPassengers_44 : decode cX11_checkPassengers 44 = .ok (.getfield 10, 3) := by decide +kernel
set_option maxRecDepth 100000 in
theorem dX11_checkPassengers_47 : decode cX11_checkPassengers 47 = .ok (.iload_n 1, 1) := by decide +kernel
set_option maxRecDepth 100000 in
theorem dX11_checkPassengers_48 : decode cX11_checkPassengers 48 = .ok (.iconst 1, 1) := by decide +kernel
set_option maxRecDepth 100000 in
theorem dX11_checkPassengers_49 : decode cX11_checkPassengers 49 = .ok (.iadd, 1) := by decide +kernel
set_option maxRecDepth 100000 in
theorem dX11_checkPassengers_50 : decode cX11_checkPassengers 50 = .ok (.bipush 97, 2) := by decide +kernel
set_option maxRecDepth 100000 in
theorem dX11_checkPassengers_52 : decode cX11_checkPassengers 52 = .ok (.aload_n 0, 1) := by decide +kernel
set_option maxRecDepth 100000 in
theorem dX11_checkPassengers_53 : decode cX11_checkPassengers 53 = .ok (.getfield 19, 3) := by decide +kernel
set_option maxRecDepth 100000 in
theorem dX11_checkPassengers_56 : decode cX11_checkPassengers 56 = .ok (.getfield 129, 3) := by decide +kernel
set_option maxRecDepth 100000 in
theorem dX11_checkPassengers_59 : decode cX11_checkPassengers 59 = .ok (.invokevirtual 132, 3) := by decide +kernel
set_option maxRecDepth 100000 in
theorem dX11_checkPassengers_62 : decode cX11_checkPassengers 62 = .ok (.iconst (-1), 1) := by decide +kernel
set_option maxRecDepth 100000 in
theorem dX11_checkPassengers_63 : decode cX11_checkPassengers 63 = .ok (.if_icmp .ne 8, 3) := by decide +kernel
set_option maxRecDepth 100000 in
theorem dX11_checkPassengers_66 : decode cX11_checkPassengers 66 = .ok (.bipush (-2), 2) := by decide +kernel
set_option maxRecDepth 100000 in
theorem dX11_checkPassengers_68 : decode cX11_checkPassengers 68 = .ok (.iload_n 1, 1) := by decide +kernel
set_option maxRecDepth 100000 in
theorem dX11_checkPassengers_69 : decode cX11_checkPassengers 69 = .ok (.isub, 1) := by decide +kernel
set_option maxRecDepth 100000 in
theorem dX11_checkPassengers_70 : decode cX11_checkPassengers 70 = .ok (.ireturn, 1) := by decide +kernel
set_option maxRecDepth 100000 in
theorem dX11_checkPassengers_71 : decode cX11_checkPassengers 71 = .ok (.aload_n 0, 1) := by decide +kernel
set_option maxRecDepth 100000 in
theorem dX11_checkPassengers_72 : decode cX11_checkPassengers 72 = .ok (.getfield 10, 3) := by decide +kernel
set_option maxRecDepth 100000 in
theorem dX11_checkPassengers_75 : decode cX11_checkPassengers 75 = .ok (.iload_n 1, 1) := by decide +kernel
set_option maxRecDepth 100000 in
theorem dX11_checkPassengers_76 : decode cX11_checkPassengers 76 = .ok (.iconst 2, 1) := by decide +kernel
set_option maxRecDepth 100000 in
theorem dX11_checkPassengers_77 : decode cX11_checkPassengers 77 = .ok (.iadd, 1) := by decide +kernel
set_option maxRecDepth 100000 in
theorem dX11_checkPassengers_78 : decode cX11_checkPassengers 78 = .ok (.bipush 49, 2) := by decide +kernel
set_option maxRecDepth 100000 in
theorem dX11_checkPassengers_80 : decode cX11_checkPassengers 80 = .ok (.bipush 9, 2) := by decide +kernel
set_option maxRecDepth 100000 in
theorem dX11_checkPassengers_82 : decode cX11_checkPassengers 82 = .ok (.invokevirtual 132, 3) := by decide +kernel
set_option maxRecDepth 100000 in
theorem dX11_checkPassengers_85 : decode cX11_checkPassengers 85 = .ok (.iconst (-1), 1) := by decide +kernel
set_option maxRecDepth 100000 in
theorem dX11_checkPassengers_86 : decode cX11_checkPassengers 86 = .ok (.if_icmp .ne 8, 3) := by decide +kernel
set_option maxRecDepth 100000 in
theorem dX11_checkPassengers_89 : decode cX11_checkPassengers 89 = .ok (.bipush (-3), 2) := by decide +kernel
set_option maxRecDepth 100000 in
theorem dX11_checkPassengers_91 : decode cX11_checkPassengers 91 = .ok (.iload_n 1, 1) := by decide +kernel
set_option maxRecDepth 100000 in
theorem dX11_checkPassengers_92 : decode cX11_checkPassengers 92 = .ok (.isub, 1) := by decide +kernel
set_option maxRecDepth 100000 in
theorem dX11_checkPassengers_93 : decode cX11_checkPassengers 93 = .ok (.ireturn, 1) := by decide +kernel
set_option maxRecDepth 100000 in
theorem dX11_checkPassengers_94 : decode cX11_checkPassengers 94 = .ok (.iinc 1 3, 3) := by decide +kernel
set_option maxRecDepth 100000 in
theorem dX11_checkPassengers_97 : decode cX11_checkPassengers 97 = .ok (.aload_n 0, 1) := by decide +kernel
set_option maxRecDepth 100000 in
theorem dX11_checkPassengers_98 : decode cX11_checkPassengers 98 = .ok (.getfield 10, 3) := by decide +kernel
set_option maxRecDepth 100000 in
theorem dX11_checkPassengers_101 : decode cX11_checkPassengers 101 = .ok (.getfield 91, 3) := by decide +kernel
set_option maxRecDepth 100000 in
theorem dX11_checkPassengers_104 : decode cX11_checkPassengers 104 = .ok (.iload_n 1, 1) := by decide +kernel
set_option maxRecDepth 100000 in
theorem dX11_checkPassengers_105 : decode cX11_checkPassengers 105 = .ok (.if_icmp .ne 7, 3) := by decide +kernel
set_option maxRecDepth 100000 in
theorem dX11_checkPassengers_108 : decode cX11_checkPassengers 108 = .ok (.iload_n 2, 1) := by decide +kernel
set_option maxRecDepth 100000 in
theorem dX11_checkPassengers_109 : decode cX11_checkPassengers 109 = .ok (.iconst 1, 1) := by decide +kernel
set_option maxRecDepth 100000 in
theorem dX11_checkPassengers_110 : decode cX11_checkPassengers 110 = .ok (.iadd, 1) := by decide +kernel
set_option maxRecDepth 100000 in
theorem dX11_checkPassengers_111 : decode cX11_checkPassengers 111 = .ok (.ireturn, 1) := by decide +kernel
set_option maxRecDepth 100000 in
theorem dX11_checkPassengers_112 : decode cX11_checkPassengers 112 = .ok (.aload_n 0, 1) := by decide +kernel
set_option maxRecDepth 100000 in
theorem dX11_checkPassengers_113 : decode cX11_checkPassengers 113 = .ok (.getfield 10, 3) := by decide +kernel
set_option maxRecDepth 100000 in
theorem dX11_checkPassengers_116 : decode cX11_checkPassengers 116 = .ok (.iload_n 1, 1) := by decide +kernel
set_option maxRecDepth 100000 in
theorem dX11_checkPassengers_117 : decode cX11_checkPassengers 117 = .ok (.invokevirtual 436, 3) := by decide +kernel
set_option maxRecDepth 100000 in
theorem dX11_checkPassengers_120 : decode cX11_checkPassengers 120 = .ok (.bipush 59, 2) := by decide +kernel
set_option maxRecDepth 100000 in
theorem dX11_checkPassengers_122 : decode cX11_checkPassengers 122 = .ok (.if_icmp .eq 7, 3) := by decide +kernel
set_option maxRecDepth 100000 in
theorem dX11_checkPassengers_125 : decode cX11_checkPassengers 125 = .ok (.iconst (-1), 1) := by decide +kernel
set_option maxRecDepth 100000 in
theorem dX11_checkPassengers_126 : decode cX11_checkPassengers 126 = .ok (.iload_n 1, 1) := by decide +kernel
set_option maxRecDepth 100000 in
theorem dX11_checkPassengers_127 : decode cX11_checkPassengers 127 = .ok (.isub, 1) := by decide +kernel
set_option maxRecDepth 100000 in
theorem dX11_checkPassengers_128 : decode cX11_checkPassengers 128 = .ok (.ireturn, 1) := by decide +kernel
set_option maxRecDepth 100000 in
theorem dX11_checkPassengers_129 : decode cX11_checkPassengers 129 = .ok (.iinc 1 1, 3) := by decide +kernel
set_option maxRecDepth 100000 in
theorem dX11_checkPassengers_132 : decode cX11_checkPassengers 132 = .ok (.iinc 2 1, 3) := by decide +kernel
set_option maxRecDepth 100000 in
theorem dX11_checkPassengers_135 : decode cX11_checkPassengers 135 = .ok (.goto (-131), 3) := by decide +kernel
set_option maxRecDepth 100000 in
theorem dX11_checkPassengers_138 : decode cX11_checkPassengers 138 = .ok (.iconst (-1), 1) := by decide +kernel
set_option maxRecDepth 100000 in
theorem dX11_checkPassengers_139 : decode cX11_checkPassengers 139 = .ok (.iload_n 1, 1) := by decide +kernel
set_option maxRecDepth 100000 in
theorem dX11_checkPassengers_140 : decode cX11_checkPassengers 140 = .ok (.isub, 1) := by decide +kernel
set_option maxRecDepth 100000 in
theorem dX11_checkPassengers_141 : decode cX11_checkPassengers 141 = .ok (.ireturn, 1) := by decide +kernel
set_option maxRecDepth 100000 in
theorem dX11_addPassenger_0 : decode cX11_addPassenger 0 = .ok (.aload_n 0, 1) := by decide +kernel
set_option maxRecDepth 100000 in
theorem dX11_addPassenger_1 : decode cX11_addPassenger 1 = .ok (.getfield 10, 3) := by decide +kernel
set_option maxRecDepth 100000 in
theorem dX11_addPassenger_4 : decode cX11_addPassenger 4 = .ok (.iload_n 1, 1) := by decide +kernel
set_option maxRecDepth 100000 in
theorem dX11_addPassenger_5 : decode cX11_addPassenger 5 = .ok (.bipush 48, 2) := by decide +kernel
set_option maxRecDepth 100000 in
theorem dX11_addPassenger_7 : decode cX11_addPassenger 7 = .ok (.aload_n 0, 1) := by decide +kernel
set_option maxRecDepth 100000 in
theorem dX11_addPassenger_8 : decode cX11_addPassenger 8 = .ok (.getfield 36, 3) := by decide +kernel
set_option maxRecDepth 100000 in
theorem dX11_addPassenger_11 : decode cX11_addPassenger 11 = .ok (.getfield 349, 3) := by decide +kernel
set_option maxRecDepth 100000 in
theorem dX11_addPassenger_14 : decode cX11_addPassenger 14 = .ok (.invokevirtual 132, 3) := by decide +kernel
set_option maxRecDepth 100000 in
theorem dX11_addPassenger_17 : decode cX11_addPassenger 17 = .ok (.istore_n 2, 1) := by decide +kernel
set_option maxRecDepth 100000 in
theorem dX11_addPassenger_18 : decode cX11_addPassenger 18 = .ok (.aload_n 0, 1) := by decide +kernel
set_option maxRecDepth 100000 in
theorem dX11_addPassenger_19 : decode cX11_addPassenger 19 = .ok (.getfield 10, 3) := by decide +kernel
set_option maxRecDepth 100000 in
theorem dX11_addPassenger_22 : decode cX11_addPassenger 22 = .ok (.iload_n 1, 1) := by decide +kernel
set_option maxRecDepth 100000 in
theorem dX11_addPassenger_23 : decode cX11_addPassenger 23 = .ok (.iconst 1, 1) := by decide +kernel
set_option maxRecDepth 100000 in
theorem dX11_addPassenger_24 : decode cX11_addPassenger 24 = .ok (.iadd, 1) := by decide +kernel
set_option maxRecDepth 100000 in
theorem dX11_addPassenger_25 : decode cX11_addPassenger 25 = .ok (.bipush 97, 2) := by decide +kernel
set_option maxRecDepth 100000 in
theorem dX11_addPassenger_27 : decode cX11_addPassenger 27 = .ok (.aload_n 0, 1) := by decide +kernel
set_option maxRecDepth 100000 in
theorem dX11_addPassenger_28 : decode cX11_addPassenger 28 = .ok (.getfield 19, 3) := by decide +kernel
set_option maxRecDepth 100000 in
theorem dX11_addPassenger_31 : decode cX11_addPassenger 31 = .ok (.getfield 129, 3) := by decide +kernel
set_option maxRecDepth 100000 in
theorem dX11_addPassenger_34 : decode cX11_addPassenger 34 = .ok (.invokevirtual 132, 3) := by decide +kernel
set_option maxRecDepth 100000 in
theorem dX11_addPassenger_37 : decode cX11_addPassenger 37 = .ok (.istore_n 3, 1) := by decide +kernel
set_option maxRecDepth 100000 in
theorem dX11_addPassenger_38 : decode cX11_addPassenger 38 = .ok (.aload_n 0, 1) := by decide +kernel
set_option maxRecDepth 100000 in
theorem dX11_addPassenger_39 : decode cX11_addPassenger 39 = .ok (.getfield 10, 3) := by decide +kernel
set_option maxRecDepth 100000 in
theorem dX11_addPassenger_42 : decode cX11_addPassenger 42 = .ok (.iload_n 1, 1) := by decide +kernel
set_option maxRecDepth 100000 in
theorem dX11_addPassenger_43 : decode cX11_addPassenger 43 = .ok (.iconst 2, 1) := by decide +kernel
set_option maxRecDepth 100000 in
theorem dX11_addPassenger_44 : decode cX11_addPassenger 44 = .ok (.iadd, 1) := by decide +kernel
set_option maxRecDepth 100000 in
theorem dX11_addPassenger_45 : decode cX11_addPassenger 45 = .ok (.bipush 49, 2) := by decide +kernel
set_option maxRecDepth 100000 in
theorem dX11_addPassenger_47 : decode cX11_addPassenger 47 = .ok (.bipush 9, 2) := by decide +kernel
set_option maxRecDepth 100000 in
theorem dX11_addPassenger_49 : decode cX11_addPassenger 49 = .ok (.invokevirtual 132, 3) := by decide +kernel
set_option maxRecDepth 100000 in
theorem dX11_addPassenger_52 : decode cX11_addPassenger 52 = .ok (.iconst 1, 1) := by decide +kernel
set_option maxRecDepth 100000 in
theorem dX11_addPassenger_53 : decode cX11_addPassenger 53 = .ok (.iadd, 1) := by decide +kernel
set_option maxRecDepth 100000 in
theorem dX11_addPassenger_54 : decode cX11_addPassenger 54 = .ok (.istore 4, 2) := by decide +kernel
set_option maxRecDepth 100000 in
theorem dX11_addPassenger_56 : decode cX11_addPassenger 56 = .ok (.aload_n 0, 1) := by decide +kernel
set_option maxRecDepth 100000 in
theorem dX11_addPassenger_57 : decode cX11_addPassenger 57 = .ok (.getfield 29, 3) := by decide +kernel
set_option maxRecDepth 100000 in
theorem dX11_addPassenger_60 : decode cX11_addPassenger 60 = .ok (.getfield 116, 3) := by decide +kernel
set_option maxRecDepth 100000 in
theorem dX11_addPassenger_63 : decode cX11_addPassenger 63 = .ok (.bipush 12, 2) := by decide +kernel
set_option maxRecDepth 100000 in
theorem dX11_addPassenger_65 : decode cX11_addPassenger 65 = .ok (.if_icmp .ge 29, 3) := by decide +kernel
set_option maxRecDepth 100000 in
theorem dX11_addPassenger_68 : decode cX11_addPassenger 68 = .ok (.aload_n 0, 1) := by decide +kernel
set_option maxRecDepth 100000 in
theorem dX11_addPassenger_69 : decode cX11_addPassenger 69 = .ok (.getfield 36, 3) := by decide +kernel
set_option maxRecDepth 100000 in
theorem dX11_addPassenger_72 : decode cX11_addPassenger 72 = .ok (.getfield 205, 3) := by decide +kernel
set_option maxRecDepth 100000 in
theorem dX11_addPassenger_75 : decode cX11_addPassenger 75 = .ok (.aload_n 0, 1) := by decide +kernel
set_option maxRecDepth 100000 in
theorem dX11_addPassenger_76 : decode cX11_addPassenger 76 = .ok (.getfield 29, 3) := by decide +kernel
set_option maxRecDepth 100000 in
theorem dX11_addPassenger_79 : decode cX11_addPassenger 79 = .ok (.getfield 116, 3) := by decide +kernel
set_option maxRecDepth 100000 in
theorem dX11_addPassenger_82 : decode cX11_addPassenger 82 = .ok (.iload_n 2, 1) := by decide +kernel
set_option maxRecDepth 100000 in
theorem dX11_addPassenger_83 : decode cX11_addPassenger 83 = .ok (.iastore, 1) := by decide +kernel
set_option maxRecDepth 100000 in
theorem dX11_addPassenger_84 : decode cX11_addPassenger 84 = .ok (.aload_n 0, 1) := by decide +kernel
set_option maxRecDepth 100000 in
theorem dX11_addPassenger_85 : decode cX11_addPassenger 85 = .ok (.getfield 29, 3) := by decide +kernel
set_option maxRecDepth 100000 in
theorem dX11_addPassenger_88 : decode cX11_addPassenger 88 = .ok (.iload_n 3, 1) := by decide +kernel
set_option maxRecDepth 100000 in
theorem dX11_addPassenger_89 : decode cX11_addPassenger 89 = .ok (.iload 4, 2) := by decide +kernel
set_option maxRecDepth 100000 in
theorem dX11_addPassenger_91 : decode cX11_addPassenger 91 = .ok (.invokevirtual 439, 3) := by decide +kernel
set_option maxRecDepth 100000 in
theorem dX11_addPassenger_94 : decode cX11_addPassenger 94 = .ok (.return_, 1) := by decide +kernel
set_option maxRecDepth 100000 in
theorem dX11_checkNight_0 : decode cX11_checkNight 0 = .ok (.iconst 0, 1) := by decide +kernel
set_option maxRecDepth 100000 in
theorem dX11_checkNight_1 : decode cX11_checkNight 1 = .ok (.istore_n 1, 1) := by decide +kernel
set_option maxRecDepth 100000 in
theorem dX11_checkNight_2 : decode cX11_checkNight 2 = .ok (.iconst 0, 1) := by decide +kernel
set_option maxRecDepth 100000 in
theorem dX11_checkNight_3 : decode cX11_checkNight 3 = .ok (.istore_n 2, 1) := by decide +kernel
set_option maxRecDepth 100000 in
theorem dX11_checkNight_4 : decode cX11_checkNight 4 = .ok (.iload_n 2, 1) := by decide +kernel
set_option maxRecDepth 100000 in
theorem dX11_checkNight_5 : decode cX11_checkNight 5 = .ok (.bipush 60, 2) := by decide +kernel
set_option maxRecDepth 100000 in
theorem dX11_checkNight_7 : decode cX11_checkNight 7 = .ok (.if_icmp .ge 34, 3) := by decide +kernel
set_option maxRecDepth 100000 in
theorem dX11_checkNight_10 : decode cX11_checkNight 10 = .ok (.iload_n 1, 1) := by decide +kernel
set_option maxRecDepth 100000 in
theorem dX11_checkNight_11 : decode cX11_checkNight 11 = .ok (.aload_n 0, 1) := by decide +kernel
set_option maxRecDepth 100000 in
theorem dX11_checkNight_12 : decode cX11_checkNight 12 = .ok (.getfield 10, 3) := by decide +kernel
set_option maxRecDepth 100000 in
theorem dX11_checkNight_15 : decode cX11_checkNight 15 = .ok (.getfield 442, 3) := by decide +kernel
set_option maxRecDepth 100000 in
theorem dX11_checkNight_18 : decode cX11_checkNight 18 = .ok (.if_icmp .ge 23, 3) := by decide +kernel
set_option maxRecDepth 100000 in
theorem dX11_checkNight_21 : decode cX11_checkNight 21 = .ok (.aload_n 0, 1) := by decide +kernel
set_option maxRecDepth 100000 in
theorem dX11_checkNight_22 : decode cX11_checkNight 22 = .ok (.iload_n 1, 1) := by decide +kernel
set_option maxRecDepth 100000 in
theorem dX11_checkNight_23 : decode cX11_checkNight 23 = .ok (.invokevirtual 278, 3) := by decide +kernel
set_option maxRecDepth 100000 in
theorem dX11_checkNight_26 : decode cX11_checkNight 26 = .ok (.istore_n 3, 1) := by decide +kernel
set_option maxRecDepth 100000 in
theorem dX11_checkNight_27 : decode cX11_checkNight 27 = .ok (.iload_n 3, 1) := by decide +kernel
set_option maxRecDepth 100000 in
theorem dX11_checkNight_28 : decode cX11_checkNight 28 = .ok (.ifCond .ge 5, 3) := by decide +kernel
set_option maxRecDepth 100000 in
theorem dX11_checkNight_31 : decode cX11_checkNight 31 = .ok (.iload_n 3, 1) := by decide +kernel
set_option maxRecDepth 100000 in
theorem dX11_checkNight_32 : decode cX11_checkNight 32 = .ok (.ireturn, 1) := by decide +kernel
set_option maxRecDepth 100000 in
theorem dX11_checkNight_33 : decode cX11_checkNight 33 = .ok (.iload_n 3, 1) := by decide +kernel
set_option maxRecDepth 100000 in
theorem dX11_checkNight_34 : decode cX11_checkNight 34 = .ok (.istore_n 1, 1) := by decide +kernel
set_option maxRecDepth 100000 in
theorem dX11_checkNight_35 : decode cX11_checkNight 35 = .ok (.iinc 2 1, 3) := by decide +kernel
set_option maxRecDepth 100000 in
theorem dX11_checkNight_38 : decode cX11_checkNight 38 = .ok (.goto (-34), 3) := by decide +kernel
set_option maxRecDepth 100000 in
theorem dX11_checkNight_41 : decode cX11_checkNight 41 = .ok (.aload_n 0, 1) := by decide +kernel
set_option maxRecDepth 100000 in
theorem dX11_checkNight_42 : decode cX11_checkNight 42 = .ok (.getfield 10, 3) := by decide +kernel
set_option maxRecDepth 100000 in
theorem dX11_checkNight_45 : decode cX11_checkNight 45 = .ok (.getfield 91, 3) := by decide +kernel
set_option maxRecDepth 100000 in
theorem dX11_checkNight_48 : decode cX11_checkNight 48 = .ok (.iload_n 1, 1) := by decide +kernel
set_option maxRecDepth 100000 in
theorem dX11_checkNight_49 : decode cX11_checkNight 49 = .ok (.if_icmp .ne 7, 3) := by decide +kernel
set_option maxRecDepth 100000 in
theorem dX11_checkNight_52 : decode cX11_checkNight 52 = .ok (.iconst 0, 1) := by decide +kernel
set_option maxRecDepth 100000 in
theorem dX11_checkNight_53 : decode cX11_checkNight 53 = .ok (.goto 6, 3) := by decide +kernel
set_option maxRecDepth 100000 in
theorem dX11_checkNight_56 : decode cX11_checkNight 56 = .ok (.iconst (-1), 1) := by decide +kernel
set_option maxRecDepth 100000 in
theorem dX11_checkNight_57 : decode cX11_checkNight 57 = .ok (.iload_n 1, 1) := by decide +kernel
set_option maxRecDepth 100000 in
theorem dX11_checkNight_58 : decode cX11_checkNight 58 = .ok (.isub, 1) := by decide +kernel
set_option maxRecDepth 100000 in
theorem dX11_checkNight_59 : decode cX11_checkNight 59 = .ok (.ireturn, 1) := by decide +kernel
set_option maxRecDepth 100000 in
theorem dX11_actEnd_0 : decode cX11_actEnd 0 = .ok (.aload_n 0, 1) := by decide +kernel
set_option maxRecDepth 100000 in
theorem dX11_actEnd_1 : decode cX11_actEnd 1 = .ok (.getfield 10, 3) := by decide +kernel
set_option maxRecDepth 100000 in
theorem dX11_actEnd_4 : decode cX11_actEnd 4 = .ok (.iload_n 1, 1) := by decide +kernel
set_option maxRecDepth 100000 in
theorem dX11_actEnd_5 : decode cX11_actEnd 5 = .ok (.invokevirtual 436, 3) := by decide +kernel
set_option maxRecDepth 100000 in
theorem dX11_actEnd_8 : decode cX11_actEnd 8 = .ok (.lookupswitch 128 #[(99, 60), (103, 89), (114, 60), (115, 64), (119, 108), (120, 64)], 60) := by decide +kernel
set_option maxRecDepth 100000 in
theorem dX11_actEnd_68 : decode cX11_actEnd 68 = .ok (.iload_n 1, 1) := by decide +kernel
set_option maxRecDepth 100000 in
theorem dX11_actEnd_69 : decode cX11_actEnd 69 = .ok (.iconst 1, 1) := by decide +kernel
set_option maxRecDepth 100000 in
theorem dX11_actEnd_70 : decode cX11_actEnd 70 = .ok (.iadd, 1) := by decide +kernel
set_option maxRecDepth 100000 in
theorem dX11_actEnd_71 : decode cX11_actEnd 71 = .ok (.ireturn, 1) := by decide +kernel
set_option maxRecDepth 100000 in
theorem dX11_actEnd_72 : decode cX11_actEnd 72 = .ok (.aload_n 0, 1) := by decide +kernel
set_option maxRecDepth 100000 in
theorem dX11_actEnd_73 : decode cX11_actEnd 73 = .ok (.getfield 10, 3) := by decide +kernel
set_option maxRecDepth 100000 in
theorem dX11_actEnd_76 : decode cX11_actEnd 76 = .ok (.iload_n 1, 1) := by decide +kernel
set_option maxRecDepth 100000 in
theorem dX11_actEnd_77 : decode cX11_actEnd 77 = .ok (.iconst 1, 1) := by decide +kernel
set_option maxRecDepth 100000 in
theorem dX11_actEnd_78 : decode cX11_actEnd 78 = .ok (.iadd, 1) := by decide +kernel
set_option maxRecDepth 100000 in
theorem dX11_actEnd_79 : decode cX11_actEnd 79 = .ok (.invokevirtual 445, 3) := by decide +kernel
set_option maxRecDepth 100000 in
theorem dX11_actEnd_82 : decode cX11_actEnd 82 = .ok (.iconst (-1), 1) := by decide +kernel
set_option maxRecDepth 100000 in
theorem dX11_actEnd_83 : decode cX11_actEnd 83 = .ok (.if_icmp .ne 10, 3) := by decide +kernel
set_option maxRecDepth 100000 in
theorem dX11_actEnd_86 : decode cX11_actEnd 86 = .ok (.bipush (-2), 2) := by decide +kernel
set_option maxRecDepth 100000 in
theorem dX11_actEnd_88 : decode cX11_actEnd 88 = .ok (.iload_n 1, 1) := by decide +kernel
set_option maxRecDepth 100000 in
theorem dX11_actEnd_89 : decode cX11_actEnd 89 = .ok (.isub, 1) := by decide +kernel
set_option maxRecDepth 100000 in
theorem dX11_actEnd_90 : decode cX11_actEnd 90 = .ok (.goto 6, 3) := by decide +kernel
set_option maxRecDepth 100000 in
theorem dX11_actEnd_93 : decode cX11_actEnd 93 = .ok (.iload_n 1, 1) := by decide +kernel
set_option maxRecDepth 100000 in
theorem dX11_actEnd_94 : decode cX11_actEnd 94 = .ok (.iconst 2, 1) := by decide +kernel
set_option maxRecDepth 100000 in
theorem dX11_actEnd_95 : decode cX11_actEnd 95 = .ok (.iadd, 1) := by decide +kernel
set_option maxRecDepth 100000 in
theorem dX11_actEnd_96 : decode cX11_actEnd 96 = .ok (.ireturn, 1) := by decide +kernel
set_option maxRecDepth 100000 in
theorem dX11_actEnd_97 : decode cX11_actEnd 97 = .ok (.aload_n 0, 1) := by decide +kernel
set_option maxRecDepth 100000 in
theorem dX11_actEnd_98 : decode cX11_actEnd 98 = .ok (.iload_n 1, 1) := by decide +kernel
set_option maxRecDepth 100000 in
theorem dX11_actEnd_99 : decode cX11_actEnd 99 = .ok (.aload_n 0, 1) := by decide +kernel
set_option maxRecDepth 100000 in
theorem dX11_actEnd_100 : decode cX11_actEnd 100 = .ok (.getfield 10, 3) := by decide +kernel
set_option maxRecDepth 100000 in
theorem dX11_actEnd_103 : decode cX11_actEnd 103 = .ok (.iload_n 1, 1) := by decide +kernel
set_option maxRecDepth 100000 in
theorem dX11_actEnd_104 : decode cX11_actEnd 104 = .ok (.iconst 1, 1) := by decide +kernel
set_option maxRecDepth 100000 in
theorem dX11_actEnd_105 : decode cX11_actEnd 105 = .ok (.iadd, 1) := by decide +kernel
set_option maxRecDepth 100000 in
theorem dX11_actEnd_106 : decode cX11_actEnd 106 = .ok (.bipush 48, 2) := by decide +kernel
set_option maxRecDepth 100000 in
theorem dX11_actEnd_108 : decode cX11_actEnd 108 = .ok (.iconst 2, 1) := by decide +kernel
set_option maxRecDepth 100000 in
theorem dX11_actEnd_109 : decode cX11_actEnd 109 = .ok (.invokevirtual 132, 3) := by decide +kernel
set_option maxRecDepth 100000 in
theorem dX11_actEnd_112 : decode cX11_actEnd 112 = .ok (.invokevirtual 448, 3) := by decide +kernel
set_option maxRecDepth 100000 in
theorem dX11_actEnd_115 : decode cX11_actEnd 115 = .ok (.ireturn, 1) := by decide +kernel
set_option maxRecDepth 100000 in
theorem dX11_actEnd_116 : decode cX11_actEnd 116 = .ok (.aload_n 0, 1) := by decide +kernel
set_option maxRecDepth 100000 in
theorem dX11_actEnd_117 : decode cX11_actEnd 117 = .ok (.iload_n 1, 1) := by decide +kernel
set_option maxRecDepth 100000 in
theorem dX11_actEnd_118 : decode cX11_actEnd 118 = .ok (.aload_n 0, 1) := by decide +kernel
set_option maxRecDepth 100000 in
theorem dX11_actEnd_119 : decode cX11_actEnd 119 = .ok (.getfield 10, 3) := by decide +kernel
set_option maxRecDepth 100000 in
theorem dX11_actEnd_122 : decode cX11_actEnd 122 = .ok (.iload_n 1, 1) := by decide +kernel
set_option maxRecDepth 100000 in
theorem dX11_actEnd_123 : decode cX11_actEnd 123 = .ok (.iconst 1, 1) := by decide +kernel
set_option maxRecDepth 100000 in
theorem dX11_actEnd_124 : decode cX11_actEnd 124 = .ok (.iadd, 1) := by decide +kernel
set_option maxRecDepth 100000 in
theorem dX11_actEnd_125 : decode cX11_actEnd 125 = .ok (.bipush 97, 2) := by decide +kernel
set_option maxRecDepth 100000 in
theorem dX11_actEnd_127 : decode cX11_actEnd 127 = .ok (.bipush 12, 2) := by decide +kernel
set_option maxRecDepth 100000 in
theorem dX11_actEnd_129 : decode cX11_actEnd 129 = .ok (.invokevirtual 132, 3) := by decide +kernel
set_option maxRecDepth 100000 in
theorem dX11_actEnd_132 : decode cX11_actEnd 132 = .ok (.invokevirtual 448, 3) := by decide +kernel
set_option maxRecDepth 100000 in
theorem dX11_actEnd_135 : decode cX11_actEnd 135 = .ok (.ireturn, 1) := by decide +kernel
set_option maxRecDepth 100000 in
theorem dX11_actEnd_136 : decode cX11_actEnd 136 = .ok (.iconst (-1), 1) := by decide +kernel
set_option maxRecDepth 100000 in
theorem dX11_actEnd_137 : decode cX11_actEnd 137 = .ok (.iload_n 1, 1) := by decide +kernel
set_option maxRecDepth 100000 in
theorem dX11_actEnd_138 : decode cX11_actEnd 138 = .ok (.isub, 1) := by decide +kernel
set_option maxRecDepth 100000 in
theorem dX11_actEnd_139 : decode cX11_actEnd 139 = .ok (.ireturn, 1) := by decide +kernel
set_option maxRecDepth 100000 in
theorem dX11_actEndBehind_0 : decode cX11_actEndBehind 0 = .ok (.iload_n 2, 1) := by decide +kernel
set_option maxRecDepth 100000 in
theorem dX11_actEndBehind_1 : decode cX11_actEndBehind 1 = .ok (.iconst (-1), 1) := by decide +kernel
set_option maxRecDepth 100000 in
theorem dX11_actEndBehind_2 : decode cX11_actEndBehind 2 = .ok (.if_icmp .ne 8, 3) := by decide +kernel
set_option maxRecDepth 100000 in
theorem dX11_actEndBehind_5 : decode cX11_actEndBehind 5 = .ok (.bipush (-2), 2) := by decide +kernel
set_option maxRecDepth 100000 in
theorem dX11_actEndBehind_7 : decode cX11_actEndBehind 7 = .ok (.iload_n 1, 1) := by decide +kernel
set_option maxRecDepth 100000 in
theorem dX11_actEndBehind_8 : decode cX11_actEndBehind 8 = .ok (.isub, 1) := by decide +kernel
set_option maxRecDepth 100000 in
theorem dX11_actEndBehind_9 : decode cX11_actEndBehind 9 = .ok (.ireturn, 1) := by decide +kernel
set_option maxRecDepth 100000 in
theorem dX11_actEndBehind_10 : decode cX11_actEndBehind 10 = .ok (.aload_n 0, 1) := by decide +kernel
set_option maxRecDepth 100000 in
theorem dX11_actEndBehind_11 : decode cX11_actEndBehind 11 = .ok (.getfield 10, 3) := by decide +kernel
set_option maxRecDepth 100000 in
theorem dX11_actEndBehind_14 : decode cX11_actEndBehind 14 = .ok (.iload_n 1, 1) := by decide +kernel
set_option maxRecDepth 100000 in
theorem dX11_actEndBehind_15 : decode cX11_actEndBehind 15 = .ok (.iconst 2, 1) := by decide +kernel
set_option maxRecDepth 100000 in
theorem dX11_actEndBehind_16 : decode cX11_actEndBehind 16 = .ok (.iadd, 1) := by decide +kernel
set_option maxRecDepth 100000 in
theorem dX11_actEndBehind_17 : decode cX11_actEndBehind 17 = .ok (.invokevirtual 445, 3) := by decide +kernel
set_option maxRecDepth 100000 in
theorem dX11_actEndBehind_20 : decode cX11_actEndBehind 20 = .ok (.iconst (-1), 1) := by decide +kernel
set_option maxRecDepth 100000 in
theorem dX11_actEndBehind_21 : decode cX11_actEndBehind 21 = .ok (.if_icmp .ne 10, 3) := by decide +kernel
set_option maxRecDepth 100000 in
theorem dX11_actEndBehind_24 : decode cX11_actEndBehind 24 = .ok (.bipush (-3), 2) := by decide +kernel
set_option maxRecDepth 100000 in
theorem dX11_actEndBehind_26 : decode cX11_actEndBehind 26 = .ok (.iload_n 1, 1) := by decide +kernel
set_option maxRecDepth 100000 in
theorem dX11_actEndBehind_27 : decode cX11_actEndBehind 27 = .ok (.isub, 1) := by decide +kernel
set_option maxRecDepth 100000 in
theorem dX11_actEndBehind_28 : decode cX11_actEndBehind 28 = .ok (.goto 6, 3) := by decide +kernel
set_option maxRecDepth 100000 in
theorem dX11_actEndBehind_31 : decode cX11_actEndBehind 31 = .ok (.iload_n 1, 1) := by decide +kernel
set_option maxRecDepth 100000 in
theorem dX11_actEndBehind_32 : decode cX11_actEndBehind 32 = .ok (.iconst 3, 1) := by decide +kernel
set_option maxRecDepth 100000 in
theorem dX11_actEndBehind_33 : decode cX11_actEndBehind 33 = .ok (.iadd, 1) := by decide +kernel
set_option maxRecDepth 100000 in
theorem dX11_actEndBehind_34 : decode cX11_actEndBehind 34 = .ok (.ireturn, 1) := by decide +kernel
set_option maxRecDepth 100000 in
theorem dX11_doAct_0 : decode cX11_doAct 0 = .ok (.aload_n 0, 1) := by decide +kernel
set_option maxRecDepth 100000 in
theorem dX11_doAct_1 : decode cX11_doAct 1 = .ok (.getfield 10, 3) := by decide +kernel
set_option maxRecDepth 100000 in
theorem dX11_doAct_4 : decode cX11_doAct 4 = .ok (.iload_n 1, 1) := by decide +kernel
set_option maxRecDepth 100000 in
theorem dX11_doAct_5 : decode cX11_doAct 5 = .ok (.invokevirtual 436, 3) := by decide +kernel
set_option maxRecDepth 100000 in
theorem dX11_doAct_8 : decode cX11_doAct 8 = .ok (.lookupswitch 117 #[(99, 57), (103, 92), (114, 52), (115, 77), (120, 62)], 52) := by decide +kernel
set_option maxRecDepth 100000 in
theorem dX11_doAct_60 : decode cX11_doAct 60 = .ok (.aload_n 0, 1) := by decide +kernel
set_option maxRecDepth 100000 in
theorem dX11_doAct_61 : decode cX11_doAct 61 = .ok (.invokevirtual 234, 3) := by decide +kernel
set_option maxRecDepth 100000 in
theorem dX11_doAct_64 : decode cX11_doAct 64 = .ok (.ireturn, 1) := by decide +kernel
set_option maxRecDepth 100000 in
theorem dX11_doAct_65 : decode cX11_doAct 65 = .ok (.aload_n 0, 1) := by decide +kernel
set_option maxRecDepth 100000 in
theorem dX11_doAct_66 : decode cX11_doAct 66 = .ok (.invokevirtual 260, 3) := by decide +kernel
set_option maxRecDepth 100000 in
theorem dX11_doAct_69 : decode cX11_doAct 69 = .ok (.ireturn, 1) := by decide +kernel
set_option maxRecDepth 100000 in
theorem dX11_doAct_70 : decode cX11_doAct 70 = .ok (.aload_n 0, 1) := by decide +kernel
set_option maxRecDepth 100000 in
theorem dX11_doAct_71 : decode cX11_doAct 71 = .ok (.aload_n 0, 1) := by decide +kernel
set_option maxRecDepth 100000 in
theorem dX11_doAct_72 : decode cX11_doAct 72 = .ok (.getfield 10, 3) := by decide +kernel
set_option maxRecDepth 100000 in
theorem dX11_doAct_75 : decode cX11_doAct 75 = .ok (.iload_n 1, 1) := by decide +kernel
set_option maxRecDepth 100000 in
theorem dX11_doAct_76 : decode cX11_doAct 76 = .ok (.iconst 1, 1) := by decide +kernel
set_option maxRecDepth 100000 in
theorem dX11_doAct_77 : decode cX11_doAct 77 = .ok (.iadd, 1) := by decide +kernel
set_option maxRecDepth 100000 in
theorem dX11_doAct_78 : decode cX11_doAct 78 = .ok (.invokevirtual 445, 3) := by decide +kernel
set_option maxRecDepth 100000 in
theorem dX11_doAct_81 : decode cX11_doAct 81 = .ok (.invokevirtual 263, 3) := by decide +kernel
set_option maxRecDepth 100000 in
theorem dX11_doAct_84 : decode cX11_doAct 84 = .ok (.ireturn, 1) := by decide +kernel
set_option maxRecDepth 100000 in
theorem dX11_doAct_85 : decode cX11_doAct 85 = .ok (.aload_n 0, 1) := by decide +kernel
set_option maxRecDepth 100000 in
theorem dX11_doAct_86 : decode cX11_doAct 86 = .ok (.aload_n 0, 1) := by decide +kernel
set_option maxRecDepth 100000 in
theorem dX11_doAct_87 : decode cX11_doAct 87 = .ok (.getfield 10, 3) := by decide +kernel
set_option maxRecDepth 100000 in
theorem dX11_doAct_90 : decode cX11_doAct 90 = .ok (.iload_n 1, 1) := by decide +kernel
set_option maxRecDepth 100000 in
theorem dX11_doAct_91 : decode cX11_doAct 91 = .ok (.iconst 1, 1) := by decide +kernel
set_option maxRecDepth 100000 in
theorem dX11_doAct_92 : decode cX11_doAct 92 = .ok (.iadd, 1) := by decide +kernel
set_option maxRecDepth 100000 in
theorem dX11_doAct_93 : decode cX11_doAct 93 = .ok (.invokevirtual 445, 3) := by decide +kernel
set_option maxRecDepth 100000 in
theorem dX11_doAct_96 : decode cX11_doAct 96 = .ok (.invokevirtual 269, 3) := by decide +kernel
set_option maxRecDepth 100000 in
theorem dX11_doAct_99 : decode cX11_doAct 99 = .ok (.ireturn, 1) := by decide +kernel
set_option maxRecDepth 100000 in
theorem dX11_doAct_100 : decode cX11_doAct 100 = .ok (.aload_n 0, 1) := by decide +kernel
set_option maxRecDepth 100000 in
theorem dX11_doAct_101 : decode cX11_doAct 101 = .ok (.aload_n 0, 1) := by decide +kernel
set_option maxRecDepth 100000 in
theorem dX11_doAct_102 : decode cX11_doAct 102 = .ok (.getfield 10, 3) := by decide +kernel
set_option maxRecDepth 100000 in
theorem dX11_doAct_105 : decode cX11_doAct 105 = .ok (.iload_n 1, 1) := by decide +kernel
set_option maxRecDepth 100000 in
theorem dX11_doAct_106 : decode cX11_doAct 106 = .ok (.iconst 1, 1) := by decide +kernel
set_option maxRecDepth 100000 in
theorem dX11_doAct_107 : decode cX11_doAct 107 = .ok (.iadd, 1) := by decide +kernel
set_option maxRecDepth 100000 in
theorem dX11_doAct_108 : decode cX11_doAct 108 = .ok (.invokevirtual 445, 3) := by decide +kernel
set_option maxRecDepth 100000 in
theorem dX11_doAct_111 : decode cX11_doAct 111 = .ok (.aload_n 0, 1) := by decide +kernel
set_option maxRecDepth 100000 in
theorem dX11_doAct_112 : decode cX11_doAct 112 = .ok (.getfield 10, 3) := by decide +kernel
set_option maxRecDepth 100000 in
theorem dX11_doAct_115 : decode cX11_doAct 115 = .ok (.iload_n 1, 1) := by decide +kernel
set_option maxRecDepth 100000 in
theorem dX11_doAct_116 : decode cX11_doAct 116 = .ok (.iconst 2, 1) := by decide +kernel
set_option maxRecDepth 100000 in
theorem dX11_doAct_117 : decode cX11_doAct 117 = .ok (.iadd, 1) := by decide +kernel
set_option maxRecDepth 100000 in
theorem dX11_doAct_118 : decode cX11_doAct 118 = .ok (.invokevirtual 445, 3) := by decide +kernel
set_option maxRecDepth 100000 in
theorem dX11_doAct_121 : decode cX11_doAct 121 = .ok (.invokevirtual 251, 3) := by decide +kernel
set_option maxRecDepth 100000 in
theorem dX11_doAct_124 : decode cX11_doAct 124 = .ok (.ireturn, 1) := by decide +kernel
set_option maxRecDepth 100000 in
theorem dX11_doAct_125 : decode cX11_doAct 125 = .ok (.aload_n 0, 1) := by decide +kernel
set_option maxRecDepth 100000 in
theorem dX11_doAct_126 : decode cX11_doAct 126 = .ok (.aload_n 0, 1) := by decide +kernel
set_option maxRecDepth 100000 in
theorem dX11_doAct_127 : decode cX11_doAct 127 = .ok (.getfield 10, 3) := by decide +kernel
set_option maxRecDepth 100000 in
theorem dX11_doAct_130 : decode cX11_doAct 130 = .ok (.iload_n 1, 1) := by decide +kernel
set_option maxRecDepth 100000 in
theorem dX11_doAct_131 : decode cX11_doAct 131 = .ok (.iconst 1, 1) := by decide +kernel
set_option maxRecDepth 100000 in
theorem dX11_doAct_132 : decode cX11_doAct 132 = .ok (.iadd, 1) := by decide +kernel
set_option maxRecDepth 100000 in
theorem dX11_doAct_133 : decode cX11_doAct 133 = .ok (.bipush 97, 2) := by decide +kernel
set_option maxRecDepth 100000 in
theorem dX11_doAct_135 : decode cX11_doAct 135 = .ok (.bipush 12, 2) := by decide +kernel
set_option maxRecDepth 100000 in
theorem dX11_doAct_137 : decode cX11_doAct 137 = .ok (.invokevirtual 132, 3) := by decide +kernel
set_option maxRecDepth 100000 in
theorem dX11_doAct_140 : decode cX11_doAct 140 = .ok (.aload_n 0, 1) := by decide +kernel
set_option maxRecDepth 100000 in
theorem dX11_doAct_141 : decode cX11_doAct 141 = .ok (.getfield 10, 3) := by decide +kernel
set_option maxRecDepth 100000 in
theorem dX11_doAct_144 : decode cX11_doAct 144 = .ok (.iload_n 1, 1) := by decide +kernel
set_option maxRecDepth 100000 in
theorem dX11_doAct_145 : decode cX11_doAct 145 = .ok (.iconst 2, 1) := by decide +kernel
set_option maxRecDepth 100000 in
theorem dX11_doAct_146 : decode cX11_doAct 146 = .ok (.iadd, 1) := by decide +kernel
set_option maxRecDepth 100000 in
theorem dX11_doAct_147 : decode cX11_doAct 147 = .ok (.invokevirtual 445, 3) := by decide +kernel
set_option maxRecDepth 100000 in
theorem dX11_doAct_150 : decode cX11_doAct 150 = .ok (.invokevirtual 266, 3) := by decide +kernel
set_option maxRecDepth 100000 in
theorem dX11_doAct_153 : decode cX11_doAct 153 = .ok (.ireturn, 1) := by decide +kernel
set_option maxRecDepth 100000 in
theorem dX11_noted_0 : decode cX11_noted 0 = .ok (.iload_n 1, 1) := by decide +kernel
set_option maxRecDepth 100000 in
theorem dX11_noted_1 : decode cX11_noted 1 = .ok (.ifCond .lt 14, 3) := by decide +kernel
set_option maxRecDepth 100000 in
theorem dX11_noted_4 : decode cX11_noted 4 = .ok (.aload_n 0, 1) := by decide +kernel
set_option maxRecDepth 100000 in
theorem dX11_noted_5 : decode cX11_noted 5 = .ok (.getfield 66, 3) := by decide +kernel
set_option maxRecDepth 100000 in
theorem dX11_noted_8 : decode cX11_noted 8 = .ok (.aload_n 0, 1) := by decide +kernel
set_option maxRecDepth 100000 in
theorem dX11_noted_9 : decode cX11_noted 9 = .ok (.getfield 40, 3) := by decide +kernel
set_option maxRecDepth 100000 in
theorem dX11_noted_12 : decode cX11_noted 12 = .ok (.invokevirtual 237, 3) := by decide +kernel
set_option maxRecDepth 100000 in
theorem dX11_noted_15 : decode cX11_noted 15 = .ok (.iload_n 1, 1) := by decide +kernel
set_option maxRecDepth 100000 in
theorem dX11_noted_16 : decode cX11_noted 16 = .ok (.ireturn, 1) := by decide +kernel
set_option maxRecDepth 100000 in
theorem dX11_makeRun_0 : decode cX11_makeRun 0 = .ok (.aload_n 0, 1) := by decide +kernel
set_option maxRecDepth 100000 in
theorem dX11_makeRun_1 : decode cX11_makeRun 1 = .ok (.getfield 59, 3) := by decide +kernel
set_option maxRecDepth 100000 in
theorem dX11_makeRun_4 : decode cX11_makeRun 4 = .ok (.aload_n 0, 1) := by decide +kernel
set_option maxRecDepth 100000 in
theorem dX11_makeRun_5 : decode cX11_makeRun 5 = .ok (.getfield 19, 3) := by decide +kernel
set_option maxRecDepth 100000 in
theorem dX11_makeRun_8 : decode cX11_makeRun 8 = .ok (.aload_n 0, 1) := by decide +kernel
set_option maxRecDepth 100000 in
theorem dX11_makeRun_9 : decode cX11_makeRun 9 = .ok (.getfield 36, 3) := by decide +kernel
set_option maxRecDepth 100000 in
theorem dX11_makeRun_12 : decode cX11_makeRun 12 = .ok (.aload_n 0, 1) := by decide +kernel
set_option maxRecDepth 100000 in
theorem dX11_makeRun_13 : decode cX11_makeRun 13 = .ok (.getfield 29, 3) := by decide +kernel
set_option maxRecDepth 100000 in
theorem dX11_makeRun_16 : decode cX11_makeRun 16 = .ok (.aload_n 0, 1) := by decide +kernel
set_option maxRecDepth 100000 in
theorem dX11_makeRun_17 : decode cX11_makeRun 17 = .ok (.getfield 49, 3) := by decide +kernel
set_option maxRecDepth 100000 in
theorem dX11_makeRun_20 : decode cX11_makeRun 20 = .ok (.iconst 0, 1) := by decide +kernel
set_option maxRecDepth 100000 in
theorem dX11_makeRun_21 : decode cX11_makeRun 21 = .ok (.invokevirtual 297, 3) := by decide +kernel
set_option maxRecDepth 100000 in
theorem dX11_makeRun_24 : decode cX11_makeRun 24 = .ok (.ireturn, 1) := by decide +kernel
set_option maxRecDepth 100000 in
theorem dX11_drive_0 : decode cX11_drive 0 = .ok (.iload_n 1, 1) := by decide +kernel
set_option maxRecDepth 100000 in
theorem dX11_drive_1 : decode cX11_drive 1 = .ok (.ifCond .lt 23, 3) := by decide +kernel
set_option maxRecDepth 100000 in
theorem dX11_drive_4 : decode cX11_drive 4 = .ok (.iload_n 1, 1) := by decide +kernel
set_option maxRecDepth 100000 in
theorem dX11_drive_5 : decode cX11_drive 5 = .ok (.iconst 1, 1) := by decide +kernel
set_option maxRecDepth 100000 in
theorem dX11_drive_6 : decode cX11_drive 6 = .ok (.if_icmp .gt 18, 3) := by decide +kernel
set_option maxRecDepth 100000 in
theorem dX11_drive_9 : decode cX11_drive 9 = .ok (.iload_n 2, 1) := by decide +kernel
set_option maxRecDepth 100000 in
theorem dX11_drive_10 : decode cX11_drive 10 = .ok (.ifCond .lt 14, 3) := by decide +kernel
set_option maxRecDepth 100000 in
theorem dX11_drive_13 : decode cX11_drive 13 = .ok (.iload_n 2, 1) := by decide +kernel
set_option maxRecDepth 100000 in
theorem dX11_drive_14 : decode cX11_drive 14 = .ok (.aload_n 0, 1) := by decide +kernel
set_option maxRecDepth 100000 in
theorem dX11_drive_15 : decode cX11_drive 15 = .ok (.getfield 36, 3) := by decide +kernel
set_option maxRecDepth 100000 in
theorem dX11_drive_18 : decode cX11_drive 18 = .ok (.getfield 451, 3) := by decide +kernel
set_option maxRecDepth 100000 in
theorem dX11_drive_21 : decode cX11_drive 21 = .ok (.if_icmp .le 5, 3) := by decide +kernel
set_option maxRecDepth 100000 in
theorem dX11_drive_24 : decode cX11_drive 24 = .ok (.iconst (-1), 1) := by decide +kernel
set_option maxRecDepth 100000 in
theorem dX11_drive_25 : decode cX11_drive 25 = .ok (.ireturn, 1) := by decide +kernel
set_option maxRecDepth 100000 in
theorem dX11_drive_26 : decode cX11_drive 26 = .ok (.iconst 2, 1) := by decide +kernel
set_option maxRecDepth 100000 in
theorem dX11_drive_27 : decode cX11_drive 27 = .ok (.aload_n 0, 1) := by decide +kernel
set_option maxRecDepth 100000 in
theorem dX11_drive_28 : decode cX11_drive 28 = .ok (.getfield 36, 3) := by decide +kernel
set_option maxRecDepth 100000 in
theorem dX11_drive_31 : decode cX11_drive 31 = .ok (.getfield 171, 3) := by decide +kernel
set_option maxRecDepth 100000 in
theorem dX11_drive_34 : decode cX11_drive 34 = .ok (.imul, 1) := by decide +kernel
set_option maxRecDepth 100000 in
theorem dX11_drive_35 : decode cX11_drive 35 = .ok (.iload_n 1, 1) := by decide +kernel
set_option maxRecDepth 100000 in
theorem dX11_drive_36 : decode cX11_drive 36 = .ok (.iadd, 1) := by decide +kernel
set_option maxRecDepth 100000 in
theorem dX11_drive_37 : decode cX11_drive 37 = .ok (.istore_n 3, 1) := by decide +kernel
set_option maxRecDepth 100000 in
theorem dX11_drive_38 : decode cX11_drive 38 = .ok (.aload_n 0, 1) := by decide +kernel
set_option maxRecDepth 100000 in
theorem dX11_drive_39 : decode cX11_drive 39 = .ok (.getfield 19, 3) := by decide +kernel
set_option maxRecDepth 100000 in
theorem dX11_drive_42 : decode cX11_drive 42 = .ok (.getfield 160, 3) := by decide +kernel
set_option maxRecDepth 100000 in
theorem dX11_drive_45 : decode cX11_drive 45 = .ok (.iload_n 3, 1) := by decide +kernel
set_option maxRecDepth 100000 in
theorem dX11_drive_46 : decode cX11_drive 46 = .ok (.iaload, 1) := by decide +kernel
set_option maxRecDepth 100000 in
theorem dX11_drive_47 : decode cX11_drive 47 = .ok (.iconst (-1), 1) := by decide +kernel
set_option maxRecDepth 100000 in
theorem dX11_drive_48 : decode cX11_drive 48 = .ok (.if_icmp .ne 6, 3) := by decide +kernel
set_option maxRecDepth 100000 in
theorem dX11_drive_51 : decode cX11_drive 51 = .ok (.bipush (-2), 2) := by decide +kernel
set_option maxRecDepth 100000 in
theorem dX11_drive_53 : decode cX11_drive 53 = .ok (.ireturn, 1) := by decide +kernel
set_option maxRecDepth 100000 in
theorem dX11_drive_54 : decode cX11_drive 54 = .ok (.aload_n 0, 1) := by decide +kernel
set_option maxRecDepth 100000 in
theorem dX11_drive_55 : decode cX11_drive 55 = .ok (.getfield 36, 3) := by decide +kernel
set_option maxRecDepth 100000 in
theorem dX11_drive_58 : decode cX11_drive 58 = .ok (.iload_n 2, 1) := by decide +kernel
set_option maxRecDepth 100000 in
theorem dX11_drive_59 : decode cX11_drive 59 = .ok (.aload_n 0, 1) := by decide +kernel
set_option maxRecDepth 100000 in
theorem dX11_drive_60 : decode cX11_drive 60 = .ok (.getfield 19, 3) := by decide +kernel
set_option maxRecDepth 100000 in
theorem dX11_drive_63 : decode cX11_drive 63 = .ok (.getfield 160, 3) := by decide +kernel
set_option maxRecDepth 100000 in
theorem dX11_drive_66 : decode cX11_drive 66 = .ok (.iload_n 3, 1) := by decide +kernel
set_option maxRecDepth 100000 in
theorem dX11_drive_67 : decode cX11_drive 67 = .ok (.iaload, 1) := by decide +kernel
set_option maxRecDepth 100000 in
theorem dX11_drive_68 : decode cX11_drive 68 = .ok (.aload_n 0, 1) := by decide +kernel
set_option maxRecDepth 100000 in
theorem dX11_drive_69 : decode cX11_drive 69 = .ok (.getfield 19, 3) := by decide +kernel
set_option maxRecDepth 100000 in
theorem dX11_drive_72 : decode cX11_drive 72 = .ok (.getfield 164, 3) := by decide +kernel
set_option maxRecDepth 100000 in
theorem dX11_drive_75 : decode cX11_drive 75 = .ok (.iload_n 3, 1) := by decide +kernel
set_option maxRecDepth 100000 in
theorem dX11_drive_76 : decode cX11_drive 76 = .ok (.iaload, 1) := by decide +kernel
set_option maxRecDepth 100000 in
theorem dX11_drive_77 : decode cX11_drive 77 = .ok (.invokevirtual 452, 3) := by decide +kernel
set_option maxRecDepth 100000 in
theorem dX11_drive_80 : decode cX11_drive 80 = .ok (.pop, 1) := by decide +kernel
set_option maxRecDepth 100000 in
theorem dX11_drive_81 : decode cX11_drive 81 = .ok (.aload_n 0, 1) := by decide +kernel
set_option maxRecDepth 100000 in
theorem dX11_drive_82 : decode cX11_drive 82 = .ok (.getfield 36, 3) := by decide +kernel
set_option maxRecDepth 100000 in
theorem dX11_drive_85 : decode cX11_drive 85 = .ok (.aload_n 0, 1) := by decide +kernel
set_option maxRecDepth 100000 in
theorem dX11_drive_86 : decode cX11_drive 86 = .ok (.getfield 29, 3) := by decide +kernel
set_option maxRecDepth 100000 in
theorem dX11_drive_89 : decode cX11_drive 89 = .ok (.invokevirtual 145, 3) := by decide +kernel
set_option maxRecDepth 100000 in
theorem dX11_drive_92 : decode cX11_drive 92 = .ok (.pop, 1) := by decide +kernel
set_option maxRecDepth 100000 in
theorem dX11_drive_93 : decode cX11_drive 93 = .ok (.aload_n 0, 1) := by decide +kernel
set_option maxRecDepth 100000 in
theorem dX11_drive_94 : decode cX11_drive 94 = .ok (.getfield 19, 3) := by decide +kernel
set_option maxRecDepth 100000 in
theorem dX11_drive_97 : decode cX11_drive 97 = .ok (.getfield 164, 3) := by decide +kernel
set_option maxRecDepth 100000 in
theorem dX11_drive_100 : decode cX11_drive 100 = .ok (.iload_n 3, 1) := by decide +kernel
set_option maxRecDepth 100000 in
theorem dX11_drive_101 : decode cX11_drive 101 = .ok (.iaload, 1) := by decide +kernel
set_option maxRecDepth 100000 in
theorem dX11_drive_102 : decode cX11_drive 102 = .ok (.ireturn, 1) := by decide +kernel
set_option maxRecDepth 100000 in
theorem dX11_takeStanding_0 : decode cX11_takeStanding 0 = .ok (.aload_n 0, 1) := by decide +kernel
set_option maxRecDepth 100000 in
theorem dX11_takeStanding_1 : decode cX11_takeStanding 1 = .ok (.getfield 36, 3) := by decide +kernel
set_option maxRecDepth 100000 in
theorem dX11_takeStanding_4 : decode cX11_takeStanding 4 = .ok (.invokevirtual 407, 3) := by decide +kernel
set_option maxRecDepth 100000 in
theorem dX11_takeStanding_7 : decode cX11_takeStanding 7 = .ok (.istore_n 1, 1) := by decide +kernel
set_option maxRecDepth 100000 in
theorem dX11_takeStanding_8 : decode cX11_takeStanding 8 = .ok (.iload_n 1, 1) := by decide +kernel
set_option maxRecDepth 100000 in
theorem dX11_takeStanding_9 : decode cX11_takeStanding 9 = .ok (.ifCond .ne 8, 3) := by decide +kernel
set_option maxRecDepth 100000 in
theorem dX11_takeStanding_12 : decode cX11_takeStanding 12 = .ok (.bipush (-2), 2) := by decide +kernel
set_option maxRecDepth 100000 in
theorem dX11_takeStanding_14 : decode cX11_takeStanding 14 = .ok (.goto 4, 3) := by decide +kernel
set_option maxRecDepth 100000 in
theorem dX11_takeStanding_17 : decode cX11_takeStanding 17 = .ok (.iload_n 1, 1) := by decide +kernel
set_option maxRecDepth 100000 in
theorem dX11_takeStanding_18 : decode cX11_takeStanding 18 = .ok (.ireturn, 1) := by decide +kernel
set_option maxRecDepth 100000 in
theorem dX11_uncouple_0 : decode cX11_uncouple 0 = .ok (.iload_n 1, 1) := by decide +kernel
set_option maxRecDepth 100000 in
theorem dX11_uncouple_1 : decode cX11_uncouple 1 = .ok (.iconst 1, 1) := by decide +kernel
set_option maxRecDepth 100000 in
theorem dX11_uncouple_2 : decode cX11_uncouple 2 = .ok (.if_icmp .lt 14, 3) := by decide +kernel
set_option maxRecDepth 100000 in
theorem dX11_uncouple_5 : decode cX11_uncouple 5 = .ok (.iload_n 1, 1) := by decide +kernel
set_option maxRecDepth 100000 in
theorem dX11_uncouple_6 : decode cX11_uncouple 6 = .ok (.aload_n 0, 1) := by decide +kernel
set_option maxRecDepth 100000 in
theorem dX11_uncouple_7 : decode cX11_uncouple 7 = .ok (.getfield 36, 3) := by decide +kernel
set_option maxRecDepth 100000 in
theorem dX11_uncouple_10 : decode cX11_uncouple 10 = .ok (.getfield 451, 3) := by decide +kernel
set_option maxRecDepth 100000 in
theorem dX11_uncouple_13 : decode cX11_uncouple 13 = .ok (.if_icmp .le 5, 3) := by decide +kernel
set_option maxRecDepth 100000 in
theorem dX11_uncouple_16 : decode cX11_uncouple 16 = .ok (.iconst (-1), 1) := by decide +kernel
set_option maxRecDepth 100000 in
theorem dX11_uncouple_17 : decode cX11_uncouple 17 = .ok (.ireturn, 1) := by decide +kernel
set_option maxRecDepth 100000 in
theorem dX11_uncouple_18 : decode cX11_uncouple 18 = .ok (.aload_n 0, 1) := by decide +kernel
set_option maxRecDepth 100000 in
theorem dX11_uncouple_19 : decode cX11_uncouple 19 = .ok (.getfield 36, 3) := by decide +kernel
set_option maxRecDepth 100000 in
theorem dX11_uncouple_22 : decode cX11_uncouple 22 = .ok (.aload_n 0, 1) := by decide +kernel
set_option maxRecDepth 100000 in
theorem dX11_uncouple_23 : decode cX11_uncouple 23 = .ok (.getfield 36, 3) := by decide +kernel
set_option maxRecDepth 100000 in
theorem dX11_uncouple_26 : decode cX11_uncouple 26 = .ok (.getfield 451, 3) := by decide +kernel
set_option maxRecDepth 100000 in
theorem dX11_uncouple_29 : decode cX11_uncouple 29 = .ok (.iload_n 1, 1) := by decide +kernel
set_option maxRecDepth 100000 in
theorem dX11_uncouple_30 : decode cX11_uncouple 30 = .ok (.isub, 1) := by decide +kernel
set_option maxRecDepth 100000 in
theorem dX11_uncouple_31 : decode cX11_uncouple 31 = .ok (.invokevirtual 455, 3) := by decide +kernel
set_option maxRecDepth 100000 in
theorem dX11_uncouple_34 : decode cX11_uncouple 34 = .ok (.pop, 1) := by decide +kernel
set_option maxRecDepth 100000 in
theorem dX11_uncouple_35 : decode cX11_uncouple 35 = .ok (.aload_n 0, 1) := by decide +kernel
set_option maxRecDepth 100000 in
theorem dX11_uncouple_36 : decode cX11_uncouple 36 = .ok (.getfield 36, 3) := by decide +kernel
set_option maxRecDepth 100000 in
theorem dX11_uncouple_39 : decode cX11_uncouple 39 = .ok (.getfield 451, 3) := by decide +kernel
set_option maxRecDepth 100000 in
theorem dX11_uncouple_42 : decode cX11_uncouple 42 = .ok (.ireturn, 1) := by decide +kernel
set_option maxRecDepth 100000 in
theorem dX11_changeCoach_0 : decode cX11_changeCoach 0 = .ok (.aload_n 0, 1) := by decide +kernel
set_option maxRecDepth 100000 in
theorem dX11_changeCoach_1 : decode cX11_changeCoach 1 = .ok (.getfield 29, 3) := by decide +kernel
set_option maxRecDepth 100000 in
theorem dX11_changeCoach_4 : decode cX11_changeCoach 4 = .ok (.iload_n 1, 1) := by decide +kernel
set_option maxRecDepth 100000 in
theorem dX11_changeCoach_5 : decode cX11_changeCoach 5 = .ok (.invokevirtual 202, 3) := by decide +kernel
set_option maxRecDepth 100000 in
theorem dX11_changeCoach_8 : decode cX11_changeCoach 8 = .ok (.ifCond .eq 14, 3) := by decide +kernel
set_option maxRecDepth 100000 in
theorem dX11_changeCoach_11 : decode cX11_changeCoach 11 = .ok (.aload_n 0, 1) := by decide +kernel
set_option maxRecDepth 100000 in
theorem dX11_changeCoach_12 : decode cX11_changeCoach 12 = .ok (.getfield 36, 3) := by decide +kernel
set_option maxRecDepth 100000 in
theorem dX11_changeCoach_15 : decode cX11_changeCoach 15 = .ok (.iload_n 2, 1) := by decide +kernel
set_option maxRecDepth 100000 in
theorem dX11_changeCoach_16 : decode cX11_changeCoach 16 = .ok (.invokevirtual 174, 3) := by decide +kernel
set_option maxRecDepth 100000 in
theorem dX11_changeCoach_19 : decode cX11_changeCoach 19 = .ok (.ifCond .ne 5, 3) := by decide +kernel
set_option maxRecDepth 100000 in
theorem dX11_changeCoach_22 : decode cX11_changeCoach 22 = .ok (.iconst (-1), 1) := by decide +kernel
set_option maxRecDepth 100000 in
theorem dX11_changeCoach_23 : decode cX11_changeCoach 23 = .ok (.ireturn, 1) := by decide +kernel
set_option maxRecDepth 100000 in
theorem dX11_changeCoach_24 : decode cX11_changeCoach 24 = .ok (.aload_n 0, 1) := by decide +kernel
set_option maxRecDepth 100000 in
theorem dX11_changeCoach_25 : decode cX11_changeCoach 25 = .ok (.getfield 36, 3) := by decide +kernel
set_option maxRecDepth 100000 in
theorem dX11_changeCoach_28 : decode cX11_changeCoach 28 = .ok (.getfield 205, 3) := by decide +kernel
set_option maxRecDepth 100000 in
theorem dX11_changeCoach_31 : decode cX11_changeCoach 31 = .ok (.iload_n 1, 1) := by decide +kernel
set_option maxRecDepth 100000 in
theorem dX11_changeCoach_32 : decode cX11_changeCoach 32 = .ok (.iaload, 1) := by decide +kernel
set_option maxRecDepth 100000 in
theorem dX11_changeCoach_33 : decode cX11_changeCoach 33 = .ok (.istore_n 3, 1) := by decide +kernel
set_option maxRecDepth 100000 in
theorem dX11_changeCoach_34 : decode cX11_changeCoach 34 = .ok (.iload_n 3, 1) := by decide +kernel
set_option maxRecDepth 100000 in
theorem dX11_changeCoach_35 : decode cX11_changeCoach 35 = .ok (.iconst (-1), 1) := by decide +kernel
set_option maxRecDepth 100000 in
theorem dX11_changeCoach_36 : decode cX11_changeCoach 36 = .ok (.if_icmp .ne 6, 3) := by decide +kernel
set_option maxRecDepth 100000 in
theorem dX11_changeCoach_39 : decode cX11_changeCoach 39 = .ok (.bipush (-2), 2) := by decide +kernel
set_option maxRecDepth 100000 in
theorem dX11_changeCoach_41 : decode cX11_changeCoach 41 = .ok (.ireturn, 1) := by decide +kernel
set_option maxRecDepth 100000 in
theorem dX11_changeCoach_42 : decode cX11_changeCoach 42 = .ok (.aload_n 0, 1) := by decide +kernel
set_option maxRecDepth 100000 in
theorem dX11_changeCoach_43 : decode cX11_changeCoach 43 = .ok (.getfield 36, 3) := by decide +kernel
set_option maxRecDepth 100000 in
theorem dX11_changeCoach_46 : decode cX11_changeCoach 46 = .ok (.iload_n 3, 1) := by decide +kernel
set_option maxRecDepth 100000 in
theorem dX11_changeCoach_47 : decode cX11_changeCoach 47 = .ok (.iload_n 2, 1) := by decide +kernel
set_option maxRecDepth 100000 in
theorem dX11_changeCoach_48 : decode cX11_changeCoach 48 = .ok (.invokevirtual 458, 3) := by decide +kernel
set_option maxRecDepth 100000 in
theorem dX11_changeCoach_51 : decode cX11_changeCoach 51 = .ok (.ifCond .ne 6, 3) := by decide +kernel
set_option maxRecDepth 100000 in
theorem dX11_changeCoach_54 : decode cX11_changeCoach 54 = .ok (.bipush (-3), 2) := by decide +kernel
set_option maxRecDepth 100000 in
theorem dX11_changeCoach_56 : decode cX11_changeCoach 56 = .ok (.ireturn, 1) := by decide +kernel
set_option maxRecDepth 100000 in
theorem dX11_changeCoach_57 : decode cX11_changeCoach 57 = .ok (.aload_n 0, 1) := by decide +kernel
set_option maxRecDepth 100000 in
theorem dX11_changeCoach_58 : decode cX11_changeCoach 58 = .ok (.getfield 36, 3) := by decide +kernel
set_option maxRecDepth 100000 in
theorem dX11_changeCoach_61 : decode cX11_changeCoach 61 = .ok (.getfield 205, 3) := by decide +kernel
set_option maxRecDepth 100000 in
theorem dX11_changeCoach_64 : decode cX11_changeCoach 64 = .ok (.iload_n 1, 1) := by decide +kernel
set_option maxRecDepth 100000 in
theorem dX11_changeCoach_65 : decode cX11_changeCoach 65 = .ok (.iload_n 2, 1) := by decide +kernel
set_option maxRecDepth 100000 in
theorem dX11_changeCoach_66 : decode cX11_changeCoach 66 = .ok (.iastore, 1) := by decide +kernel
set_option maxRecDepth 100000 in
theorem dX11_changeCoach_67 : decode cX11_changeCoach 67 = .ok (.aload_n 0, 1) := by decide +kernel
set_option maxRecDepth 100000 in
theorem dX11_changeCoach_68 : decode cX11_changeCoach 68 = .ok (.getfield 36, 3) := by decide +kernel
set_option maxRecDepth 100000 in
theorem dX11_changeCoach_71 : decode cX11_changeCoach 71 = .ok (.dup, 1) := by decide +kernel
set_option maxRecDepth 100000 in
theorem dX11_changeCoach_72 : decode cX11_changeCoach 72 = .ok (.getfield 312, 3) := by decide +kernel
set_option maxRecDepth 100000 in
theorem dX11_changeCoach_75 : decode cX11_changeCoach 75 = .ok (.iconst 1, 1) := by decide +kernel
set_option maxRecDepth 100000 in
theorem dX11_changeCoach_76 : decode cX11_changeCoach 76 = .ok (.iadd, 1) := by decide +kernel
set_option maxRecDepth 100000 in
theorem dX11_changeCoach_77 : decode cX11_changeCoach 77 = .ok (.putfield 312, 3) := by decide +kernel
set_option maxRecDepth 100000 in
theorem dX11_changeCoach_80 : decode cX11_changeCoach 80 = .ok (.iload_n 3, 1) := by decide +kernel
set_option maxRecDepth 100000 in
theorem dX11_changeCoach_81 : decode cX11_changeCoach 81 = .ok (.ireturn, 1) := by decide +kernel
set_option maxRecDepth 100000 in
theorem dX11_letPass_0 : decode cX11_letPass 0 = .ok (.iload_n 1, 1) := by decide +kernel
set_option maxRecDepth 100000 in
theorem dX11_letPass_1 : decode cX11_letPass 1 = .ok (.ifCond .lt 9, 3) := by decide +kernel
set_option maxRecDepth 100000 in
theorem dX11_letPass_4 : decode cX11_letPass 4 = .ok (.iload_n 1, 1) := by decide +kernel
set_option maxRecDepth 100000 in
theorem dX11_letPass_5 : decode cX11_letPass 5 = .ok (.bipush 99, 2) := by decide +kernel
set_option maxRecDepth 100000 in
theorem dX11_letPass_7 : decode cX11_letPass 7 = .ok (.if_icmp .le 5, 3) := by decide +kernel
set_option maxRecDepth 100000 in
theorem dX11_letPass_10 : decode cX11_letPass 10 = .ok (.iconst (-1), 1) := by decide +kernel
set_option maxRecDepth 100000 in
theorem dX11_letPass_11 : decode cX11_letPass 11 = .ok (.ireturn, 1) := by decide +kernel
set_option maxRecDepth 100000 in
theorem dX11_letPass_12 : decode cX11_letPass 12 = .ok (.aload_n 0, 1) := by decide +kernel
set_option maxRecDepth 100000 in
theorem dX11_letPass_13 : decode cX11_letPass 13 = .ok (.getfield 36, 3) := by decide +kernel
set_option maxRecDepth 100000 in
theorem dX11_letPass_16 : decode cX11_letPass 16 = .ok (.dup, 1) := by decide +kernel
set_option maxRecDepth 100000 in
theorem dX11_letPass_17 : decode cX11_letPass 17 = .ok (.getfield 312, 3) := by decide +kernel
set_option maxRecDepth 100000 in
theorem dX11_letPass_20 : decode cX11_letPass 20 = .ok (.iload_n 1, 1) := by decide +kernel
set_option maxRecDepth 100000 in
theorem dX11_letPass_21 : decode cX11_letPass 21 = .ok (.iadd, 1) := by decide +kernel
set_option maxRecDepth 100000 in
theorem dX11_letPass_22 : decode cX11_letPass 22 = .ok (.putfield 312, 3) := by decide +kernel
set_option maxRecDepth 100000 in
theorem dX11_letPass_25 : decode cX11_letPass 25 = .ok (.aload_n 0, 1) := by decide +kernel
set_option maxRecDepth 100000 in
theorem dX11_letPass_26 : decode cX11_letPass 26 = .ok (.getfield 36, 3) := by decide +kernel
set_option maxRecDepth 100000 in
theorem dX11_letPass_29 : decode cX11_letPass 29 = .ok (.getfield 312, 3) := by decide +kernel
set_option maxRecDepth 100000 in
theorem dX11_letPass_32 : decode cX11_letPass 32 = .ok (.ireturn, 1) := by decide +kernel
set_option maxRecDepth 100000 in
theorem dX11_heldVote_0 : decode cX11_heldVote 0 = .ok (.aload_n 0, 1) := by decide +kernel
set_option maxRecDepth 100000 in
theorem dX11_heldVote_1 : decode cX11_heldVote 1 = .ok (.getfield 59, 3) := by decide +kernel
set_option maxRecDepth 100000 in
theorem dX11_heldVote_4 : decode cX11_heldVote 4 = .ok (.getfield 301, 3) := by decide +kernel
set_option maxRecDepth 100000 in
theorem dX11_heldVote_7 : decode cX11_heldVote 7 = .ok (.aload_n 0, 1) := by decide +kernel
set_option maxRecDepth 100000 in
theorem dX11_heldVote_8 : decode cX11_heldVote 8 = .ok (.getfield 19, 3) := by decide +kernel
set_option maxRecDepth 100000 in
theorem dX11_heldVote_11 : decode cX11_heldVote 11 = .ok (.aload_n 0, 1) := by decide +kernel
set_option maxRecDepth 100000 in
theorem dX11_heldVote_12 : decode cX11_heldVote 12 = .ok (.getfield 36, 3) := by decide +kernel
set_option maxRecDepth 100000 in
theorem dX11_heldVote_15 : decode cX11_heldVote 15 = .ok (.aload_n 0, 1) := by decide +kernel
set_option maxRecDepth 100000 in
theorem dX11_heldVote_16 : decode cX11_heldVote 16 = .ok (.getfield 29, 3) := by decide +kernel
set_option maxRecDepth 100000 in
theorem dX11_heldVote_19 : decode cX11_heldVote 19 = .ok (.aload_n 0, 1) := by decide +kernel
set_option maxRecDepth 100000 in
theorem dX11_heldVote_20 : decode cX11_heldVote 20 = .ok (.getfield 49, 3) := by decide +kernel
set_option maxRecDepth 100000 in
theorem dX11_heldVote_23 : decode cX11_heldVote 23 = .ok (.invokevirtual 461, 3) := by decide +kernel
set_option maxRecDepth 100000 in
theorem dX11_heldVote_26 : decode cX11_heldVote 26 = .ok (.aload_n 0, 1) := by decide +kernel
set_option maxRecDepth 100000 in
theorem dX11_heldVote_27 : decode cX11_heldVote 27 = .ok (.getfield 59, 3) := by decide +kernel
set_option maxRecDepth 100000 in
theorem dX11_heldVote_30 : decode cX11_heldVote 30 = .ok (.getfield 301, 3) := by decide +kernel
set_option maxRecDepth 100000 in
theorem dX11_heldVote_33 : decode cX11_heldVote 33 = .ok (.areturn, 1) := by decide +kernel
set_option maxRecDepth 100000 in
theorem dX11_outMoreThan_0 : decode cX11_outMoreThan 0 = .ok (.aload_n 2, 1) := by decide +kernel
set_option maxRecDepth 100000 in
theorem dX11_outMoreThan_1 : decode cX11_outMoreThan 1 = .ok (.aload_n 0, 1) := by decide +kernel
set_option maxRecDepth 100000 in
theorem dX11_outMoreThan_2 : decode cX11_outMoreThan 2 = .ok (.getfield 29, 3) := by decide +kernel
set_option maxRecDepth 100000 in
theorem dX11_outMoreThan_5 : decode cX11_outMoreThan 5 = .ok (.getfield 116, 3) := by decide +kernel
set_option maxRecDepth 100000 in
theorem dX11_outMoreThan_8 : decode cX11_outMoreThan 8 = .ok (.invokevirtual 254, 3) := by decide +kernel
set_option maxRecDepth 100000 in
theorem dX11_outMoreThan_11 : decode cX11_outMoreThan 11 = .ok (.invokestatic 325, 3) := by decide +kernel
set_option maxRecDepth 100000 in
theorem dX11_outMoreThan_14 : decode cX11_outMoreThan 14 = .ok (.aload_n 1, 1) := by decide +kernel
set_option maxRecDepth 100000 in
theorem dX11_outMoreThan_15 : decode cX11_outMoreThan 15 = .ok (.aload_n 0, 1) := by decide +kernel
set_option maxRecDepth 100000 in
theorem dX11_outMoreThan_16 : decode cX11_outMoreThan 16 = .ok (.getfield 29, 3) := by decide +kernel
set_option maxRecDepth 100000 in
theorem dX11_outMoreThan_19 : decode cX11_outMoreThan 19 = .ok (.getfield 116, 3) := by decide +kernel
set_option maxRecDepth 100000 in
theorem dX11_outMoreThan_22 : decode cX11_outMoreThan 22 = .ok (.invokevirtual 254, 3) := by decide +kernel
set_option maxRecDepth 100000 in
theorem dX11_outMoreThan_25 : decode cX11_outMoreThan 25 = .ok (.invokestatic 325, 3) := by decide +kernel
set_option maxRecDepth 100000 in
theorem dX11_outMoreThan_28 : decode cX11_outMoreThan 28 = .ok (.isub, 1) := by decide +kernel
set_option maxRecDepth 100000 in
theorem dX11_outMoreThan_29 : decode cX11_outMoreThan 29 = .ok (.ireturn, 1) := by decide +kernel
set_option maxRecDepth 100000 in
theorem dX11_outMoreIn_0 : decode cX11_outMoreIn 0 = .ok (.aload_n 0, 1) := by decide +kernel
set_option maxRecDepth 100000 in
theorem dX11_outMoreIn_1 : decode cX11_outMoreIn 1 = .ok (.getfield 59, 3) := by decide +kernel
set_option maxRecDepth 100000 in
theorem dX11_outMoreIn_4 : decode cX11_outMoreIn 4 = .ok (.iload_n 1, 1) := by decide +kernel
set_option maxRecDepth 100000 in
theorem dX11_outMoreIn_5 : decode cX11_outMoreIn 5 = .ok (.aload_n 2, 1) := by decide +kernel
set_option maxRecDepth 100000 in
theorem dX11_outMoreIn_6 : decode cX11_outMoreIn 6 = .ok (.aload_n 0, 1) := by decide +kernel
set_option maxRecDepth 100000 in
theorem dX11_outMoreIn_7 : decode cX11_outMoreIn 7 = .ok (.getfield 43, 3) := by decide +kernel
set_option maxRecDepth 100000 in
theorem dX11_outMoreIn_10 : decode cX11_outMoreIn 10 = .ok (.aload_n 0, 1) := by decide +kernel
set_option maxRecDepth 100000 in
theorem dX11_outMoreIn_11 : decode cX11_outMoreIn 11 = .ok (.getfield 29, 3) := by decide +kernel
set_option maxRecDepth 100000 in
theorem dX11_outMoreIn_14 : decode cX11_outMoreIn 14 = .ok (.aload_n 3, 1) := by decide +kernel
set_option maxRecDepth 100000 in
theorem dX11_outMoreIn_15 : decode cX11_outMoreIn 15 = .ok (.iload 4, 2) := by decide +kernel
set_option maxRecDepth 100000 in
theorem dX11_outMoreIn_17 : decode cX11_outMoreIn 17 = .ok (.invokevirtual 465, 3) := by decide +kernel
set_option maxRecDepth 100000 in
theorem dX11_outMoreIn_20 : decode cX11_outMoreIn 20 = .ok (.aload_n 0, 1) := by decide +kernel
set_option maxRecDepth 100000 in
theorem dX11_outMoreIn_21 : decode cX11_outMoreIn 21 = .ok (.aload_n 0, 1) := by decide +kernel
set_option maxRecDepth 100000 in
theorem dX11_outMoreIn_22 : decode cX11_outMoreIn 22 = .ok (.getfield 36, 3) := by decide +kernel
set_option maxRecDepth 100000 in
theorem dX11_outMoreIn_25 : decode cX11_outMoreIn 25 = .ok (.aload_n 0, 1) := by decide +kernel
set_option maxRecDepth 100000 in
theorem dX11_outMoreIn_26 : decode cX11_outMoreIn 26 = .ok (.getfield 43, 3) := by decide +kernel
set_option maxRecDepth 100000 in
theorem dX11_outMoreIn_29 : decode cX11_outMoreIn 29 = .ok (.invokevirtual 281, 3) := by decide +kernel
set_option maxRecDepth 100000 in
theorem dX11_outMoreIn_32 : decode cX11_outMoreIn 32 = .ok (.ireturn, 1) := by decide +kernel
set_option maxRecDepth 100000 in
theorem dX11_runsTillOut_0 : decode cX11_runsTillOut 0 = .ok (.iconst 0, 1) := by decide +kernel
set_option maxRecDepth 100000 in
theorem dX11_runsTillOut_1 : decode cX11_runsTillOut 1 = .ok (.istore_n 3, 1) := by decide +kernel
set_option maxRecDepth 100000 in
theorem dX11_runsTillOut_2 : decode cX11_runsTillOut 2 = .ok (.iconst 1, 1) := by decide +kernel
set_option maxRecDepth 100000 in
theorem dX11_runsTillOut_3 : decode cX11_runsTillOut 3 = .ok (.istore 4, 2) := by decide +kernel
set_option maxRecDepth 100000 in
theorem dX11_runsTillOut_5 : decode cX11_runsTillOut 5 = .ok (.iconst 0, 1) := by decide +kernel
set_option maxRecDepth 100000 in
theorem dX11_runsTillOut_6 : decode cX11_runsTillOut 6 = .ok (.istore 5, 2) := by decide +kernel
set_option maxRecDepth 100000 in
theorem dX11_runsTillOut_8 : decode cX11_runsTillOut 8 = .ok (.iload 5, 2) := by decide +kernel
set_option maxRecDepth 100000 in
theorem dX11_runsTillOut_10 : decode cX11_runsTillOut 10 = .ok (.iload_n 2, 1) := by decide +kernel
set_option maxRecDepth 100000 in
theorem dX11_runsTillOut_11 : decode cX11_runsTillOut 11 = .ok (.if_icmp .ge 79, 3) := by decide +kernel
set_option maxRecDepth 100000 in
theorem dX11_runsTillOut_14 : decode cX11_runsTillOut 14 = .ok (.iload 4, 2) := by decide +kernel
set_option maxRecDepth 100000 in
theorem dX11_runsTillOut_16 : decode cX11_runsTillOut 16 = .ok (.ifCond .eq 74, 3) := by decide +kernel
set_option maxRecDepth 100000 in
theorem dX11_runsTillOut_19 : decode cX11_runsTillOut 19 = .ok (.aload_n 0, 1) := by decide +kernel
set_option maxRecDepth 100000 in
theorem dX11_runsTillOut_20 : decode cX11_runsTillOut 20 = .ok (.getfield 43, 3) := by decide +kernel
set_option maxRecDepth 100000 in
theorem dX11_runsTillOut_23 : decode cX11_runsTillOut 23 = .ok (.getfield 205, 3) := by decide +kernel
set_option maxRecDepth 100000 in
theorem dX11_runsTillOut_26 : decode cX11_runsTillOut 26 = .ok (.iload_n 1, 1) := by decide +kernel
set_option maxRecDepth 100000 in
theorem dX11_runsTillOut_27 : decode cX11_runsTillOut 27 = .ok (.iaload, 1) := by decide +kernel
set_option maxRecDepth 100000 in
theorem dX11_runsTillOut_28 : decode cX11_runsTillOut 28 = .ok (.iconst (-1), 1) := by decide +kernel
set_option maxRecDepth 100000 in
theorem dX11_runsTillOut_29 : decode cX11_runsTillOut 29 = .ok (.if_icmp .eq 61, 3) := by decide +kernel
set_option maxRecDepth 100000 in
theorem dX11_runsTillOut_32 : decode cX11_runsTillOut 32 = .ok (.aload_n 0, 1) := by decide +kernel
set_option maxRecDepth 100000 in
theorem dX11_runsTillOut_33 : decode cX11_runsTillOut 33 = .ok (.getfield 59, 3) := by decide +kernel
set_option maxRecDepth 100000 in
theorem dX11_runsTillOut_36 : decode cX11_runsTillOut 36 = .ok (.aload_n 0, 1) := by decide +kernel
set_option maxRecDepth 100000 in
theorem dX11_runsTillOut_37 : decode cX11_runsTillOut 37 = .ok (.getfield 19, 3) := by decide +kernel
set_option maxRecDepth 100000 in
theorem dX11_runsTillOut_40 : decode cX11_runsTillOut 40 = .ok (.aload_n 0, 1) := by decide +kernel
set_option maxRecDepth 100000 in
theorem dX11_runsTillOut_41 : decode cX11_runsTillOut 41 = .ok (.getfield 43, 3) := by decide +kernel
set_option maxRecDepth 100000 in
theorem dX11_runsTillOut_44 : decode cX11_runsTillOut 44 = .ok (.aload_n 0, 1) := by decide +kernel
set_option maxRecDepth 100000 in
theorem dX11_runsTillOut_45 : decode cX11_runsTillOut 45 = .ok (.getfield 29, 3) := by decide +kernel
set_option maxRecDepth 100000 in
theorem dX11_runsTillOut_48 : decode cX11_runsTillOut 48 = .ok (.aload_n 0, 1) := by decide +kernel
set_option maxRecDepth 100000 in
theorem dX11_runsTillOut_49 : decode cX11_runsTillOut 49 = .ok (.getfield 49, 3) := by decide +kernel
set_option maxRecDepth 100000 in
theorem dX11_runsTillOut_52 : decode cX11_runsTillOut 52 = .ok (.iconst 0, 1) := by decide +kernel
set_option maxRecDepth 100000 in
theorem dX11_runsTillOut_53 : decode cX11_runsTillOut 53 = .ok (.invokevirtual 297, 3) := by decide +kernel
set_option maxRecDepth 100000 in
theorem dX11_runsTillOut_56 : decode cX11_runsTillOut 56 = .ok (.istore 6, 2) := by decide +kernel
set_option maxRecDepth 100000 in
theorem dX11_runsTillOut_58 : decode cX11_runsTillOut 58 = .ok (.iload 6, 2) := by decide +kernel
set_option maxRecDepth 100000 in
theorem dX11_runsTillOut_60 : decode cX11_runsTillOut 60 = .ok (.iconst 2, 1) := by decide +kernel
set_option maxRecDepth 100000 in
theorem dX11_runsTillOut_61 : decode cX11_runsTillOut 61 = .ok (.if_icmp .ne 13, 3) := by decide +kernel
set_option maxRecDepth 100000 in
theorem dX11_runsTillOut_64 : decode cX11_runsTillOut 64 = .ok (.aload_n 0, 1) := by decide +kernel
set_option maxRecDepth 100000 in
theorem dX11_runsTillOut_65 : decode cX11_runsTillOut 65 = .ok (.getfield 49, 3) := by decide +kernel
set_option maxRecDepth 100000 in
theorem dX11_runsTillOut_68 : decode cX11_runsTillOut 68 = .ok (.getfield 469, 3) := by decide +kernel
set_option maxRecDepth 100000 in
theorem dX11_runsTillOut_71 : decode cX11_runsTillOut 71 = .ok (.ifCond .eq 7, 3) := by decide +kernel
set_option maxRecDepth 100000 in
theorem dX11_runsTillOut_74 : decode cX11_runsTillOut 74 = .ok (.iconst 1, 1) := by decide +kernel
set_option maxRecDepth 100000 in
theorem dX11_runsTillOut_75 : decode cX11_runsTillOut 75 = .ok (.goto 4, 3) := by decide +kernel
set_option maxRecDepth 100000 in
theorem dX11_runsTillOut_78 : decode cX11_runsTillOut 78 = .ok (.iconst 0, 1) := by decide +kernel
set_option maxRecDepth 100000 in
theorem dX11_runsTillOut_79 : decode cX11_runsTillOut 79 = .ok (.istore 4, 2) := by decide +kernel
set_option maxRecDepth 100000 in
theorem dX11_runsTillOut_81 : decode cX11_runsTillOut 81 = .ok (.iinc 3 1, 3) := by decide +kernel
set_option maxRecDepth 100000 in
theorem dX11_runsTillOut_84 : decode cX11_runsTillOut 84 = .ok (.iinc 5 1, 3) := by decide +kernel
set_option maxRecDepth 100000 in
theorem dX11_runsTillOut_87 : decode cX11_runsTillOut 87 = .ok (.goto (-79), 3) := by decide +kernel
set_option maxRecDepth 100000 in
theorem dX11_runsTillOut_90 : decode cX11_runsTillOut 90 = .ok (.aload_n 0, 1) := by decide +kernel
set_option maxRecDepth 100000 in
theorem dX11_runsTillOut_91 : decode cX11_runsTillOut 91 = .ok (.getfield 43, 3) := by decide +kernel
set_option maxRecDepth 100000 in
theorem dX11_runsTillOut_94 : decode cX11_runsTillOut 94 = .ok (.getfield 205, 3) := by decide +kernel
set_option maxRecDepth 100000 in
theorem dX11_runsTillOut_97 : decode cX11_runsTillOut 97 = .ok (.iload_n 1, 1) := by decide +kernel
set_option maxRecDepth 100000 in
theorem dX11_runsTillOut_98 : decode cX11_runsTillOut 98 = .ok (.iaload, 1) := by decide +kernel
set_option maxRecDepth 100000 in
theorem dX11_runsTillOut_99 : decode cX11_runsTillOut 99 = .ok (.iconst (-1), 1) := by decide +kernel
set_option maxRecDepth 100000 in
theorem dX11_runsTillOut_100 : decode cX11_runsTillOut 100 = .ok (.if_icmp .ne 7, 3) := by decide +kernel
set_option maxRecDepth 100000 in
theorem dX11_runsTillOut_103 : decode cX11_runsTillOut 103 = .ok (.iload_n 3, 1) := by decide +kernel
set_option maxRecDepth 100000 in
theorem dX11_runsTillOut_104 : decode cX11_runsTillOut 104 = .ok (.goto 4, 3) := by decide +kernel
set_option maxRecDepth 100000 in
theorem dX11_runsTillOut_107 : decode cX11_runsTillOut 107 = .ok (.iconst (-1), 1) := by decide +kernel
set_option maxRecDepth 100000 in
theorem dX11_runsTillOut_108 : decode cX11_runsTillOut 108 = .ok (.ireturn, 1) := by decide +kernel
set_option maxRecDepth 100000 in
theorem dX11_canMove_0 : decode cX11_canMove 0 = .ok (.aload_n 0, 1) := by decide +kernel
set_option maxRecDepth 100000 in
theorem dX11_canMove_1 : decode cX11_canMove 1 = .ok (.getfield 36, 3) := by decide +kernel
set_option maxRecDepth 100000 in
theorem dX11_canMove_4 : decode cX11_canMove 4 = .ok (.iload_n 1, 1) := by decide +kernel
set_option maxRecDepth 100000 in
theorem dX11_canMove_5 : decode cX11_canMove 5 = .ok (.invokevirtual 330, 3) := by decide +kernel
set_option maxRecDepth 100000 in
theorem dX11_canMove_8 : decode cX11_canMove 8 = .ok (.ifCond .eq 33, 3) := by decide +kernel
set_option maxRecDepth 100000 in
theorem dX11_canMove_11 : decode cX11_canMove 11 = .ok (.aload_n 0, 1) := by decide +kernel
set_option maxRecDepth 100000 in
theorem dX11_canMove_12 : decode cX11_canMove 12 = .ok (.getfield 36, 3) := by decide +kernel
set_option maxRecDepth 100000 in
theorem dX11_canMove_15 : decode cX11_canMove 15 = .ok (.getfield 183, 3) := by decide +kernel
set_option maxRecDepth 100000 in
theorem dX11_canMove_18 : decode cX11_canMove 18 = .ok (.iload_n 2, 1) := by decide +kernel
set_option maxRecDepth 100000 in
theorem dX11_canMove_19 : decode cX11_canMove 19 = .ok (.iaload, 1) := by decide +kernel
set_option maxRecDepth 100000 in
theorem dX11_canMove_20 : decode cX11_canMove 20 = .ok (.iconst (-1), 1) := by decide +kernel
set_option maxRecDepth 100000 in
theorem dX11_canMove_21 : decode cX11_canMove 21 = .ok (.if_icmp .eq 20, 3) := by decide +kernel
set_option maxRecDepth 100000 in
theorem dX11_canMove_24 : decode cX11_canMove 24 = .ok (.aload_n 0, 1) := by decide +kernel
set_option maxRecDepth 100000 in
theorem dX11_canMove_25 : decode cX11_canMove 25 = .ok (.getfield 36, 3) := by decide +kernel
set_option maxRecDepth 100000 in
theorem dX11_canMove_28 : decode cX11_canMove 28 = .ok (.getfield 205, 3) := by decide +kernel
set_option maxRecDepth 100000 in
theorem dX11_canMove_31 : decode cX11_canMove 31 = .ok (.iload_n 1, 1) := by decide +kernel
set_option maxRecDepth 100000 in
theorem dX11_canMove_32 : decode cX11_canMove 32 = .ok (.iaload, 1) := by decide +kernel
set_option maxRecDepth 100000 in
theorem dX11_canMove_33 : decode cX11_canMove 33 = .ok (.iload_n 2, 1) := by decide +kernel
set_option maxRecDepth 100000 in
theorem dX11_canMove_34 : decode cX11_canMove 34 = .ok (.if_icmp .eq 7, 3) := by decide +kernel
set_option maxRecDepth 100000 in
theorem dX11_canMove_37 : decode cX11_canMove 37 = .ok (.iconst 1, 1) := by decide +kernel
set_option maxRecDepth 100000 in
theorem dX11_canMove_38 : decode cX11_canMove 38 = .ok (.goto 4, 3) := by decide +kernel
set_option maxRecDepth 100000 in
theorem dX11_canMove_41 : decode cX11_canMove 41 = .ok (.iconst 0, 1) := by decide +kernel
set_option maxRecDepth 100000 in
theorem dX11_canMove_42 : decode cX11_canMove 42 = .ok (.ireturn, 1) := by decide +kernel
set_option maxRecDepth 100000 in
theorem dX11_draw_0 : decode cX11_draw 0 = .ok (.aload_n 0, 1) := by decide +kernel
set_option maxRecDepth 100000 in
theorem dX11_draw_1 : decode cX11_draw 1 = .ok (.aload_n 0, 1) := by decide +kernel
set_option maxRecDepth 100000 in
theorem dX11_draw_2 : decode cX11_draw 2 = .ok (.getfield 401, 3) := by decide +kernel
set_option maxRecDepth 100000 in
theorem dX11_draw_5 : decode cX11_draw 5 = .ok (.ldc_w 473, 3) := by decide +kernel
set_option maxRecDepth 100000 in
theorem dX11_draw_8 : decode cX11_draw 8 = .ok (.imul, 1) := by decide +kernel
set_option maxRecDepth 100000 in
theorem dX11_draw_9 : decode cX11_draw 9 = .ok (.sipush 12345, 3) := by decide +kernel
set_option maxRecDepth 100000 in
theorem dX11_draw_12 : decode cX11_draw 12 = .ok (.iadd, 1) := by decide +kernel
set_option maxRecDepth 100000 in
theorem dX11_draw_13 : decode cX11_draw 13 = .ok (.putfield 401, 3) := by decide +kernel
set_option maxRecDepth 100000 in
theorem dX11_draw_16 : decode cX11_draw 16 = .ok (.iload_n 1, 1) := by decide +kernel
set_option maxRecDepth 100000 in
theorem dX11_draw_17 : decode cX11_draw 17 = .ok (.iconst 1, 1) := by decide +kernel
set_option maxRecDepth 100000 in
theorem dX11_draw_18 : decode cX11_draw 18 = .ok (.if_icmp .ge 7, 3) := by decide +kernel
set_option maxRecDepth 100000 in
theorem dX11_draw_21 : decode cX11_draw 21 = .ok (.iconst 0, 1) := by decide +kernel
set_option maxRecDepth 100000 in
theorem dX11_draw_22 : decode cX11_draw 22 = .ok (.goto 12, 3) := by decide +kernel
set_option maxRecDepth 100000 in
theorem dX11_draw_25 : decode cX11_draw 25 = .ok (.aload_n 0, 1) := by decide +kernel
set_option maxRecDepth 100000 in
theorem dX11_draw_26 : decode cX11_draw 26 = .ok (.getfield 401, 3) := by decide +kernel
set_option maxRecDepth 100000 in
theorem dX11_draw_29 : decode cX11_draw 29 = .ok (.bipush 16, 2) := by decide +kernel
set_option maxRecDepth 100000 in
theorem dX11_draw_31 : decode cX11_draw 31 = .ok (.iushr, 1) := by decide +kernel
set_option maxRecDepth 100000 in
theorem dX11_draw_32 : decode cX11_draw 32 = .ok (.iload_n 1, 1) := by decide +kernel
set_option maxRecDepth 100000 in
theorem dX11_draw_33 : decode cX11_draw 33 = .ok (.irem, 1) := by decide +kernel
set_option maxRecDepth 100000 in
theorem dX11_draw_34 : decode cX11_draw 34 = .ok (.ireturn, 1) := by decide +kernel
set_option maxRecDepth 100000 in
theorem dX11_drawMove_0 : decode cX11_drawMove 0 = .ok (.aload_n 0, 1) := by decide +kernel
set_option maxRecDepth 100000 in
theorem dX11_drawMove_1 : decode cX11_drawMove 1 = .ok (.getfield 29, 3) := by decide +kernel
set_option maxRecDepth 100000 in
theorem dX11_drawMove_4 : decode cX11_drawMove 4 = .ok (.getfield 116, 3) := by decide +kernel
set_option maxRecDepth 100000 in
theorem dX11_drawMove_7 : decode cX11_drawMove 7 = .ok (.ifCond .ne 4, 3) := by decide +kernel
set_option maxRecDepth 100000 in
theorem dX11_drawMove_10 : decode cX11_drawMove 10 = .ok (.return_, 1) := by decide +kernel
set_option maxRecDepth 100000 in
theorem dX11_drawMove_11 : decode cX11_drawMove 11 = .ok (.aload_n 0, 1) := by decide +kernel
set_option maxRecDepth 100000 in
theorem dX11_drawMove_12 : decode cX11_drawMove 12 = .ok (.aload_n 0, 1) := by decide +kernel
set_option maxRecDepth 100000 in
theorem dX11_drawMove_13 : decode cX11_drawMove 13 = .ok (.getfield 29, 3) := by decide +kernel
set_option maxRecDepth 100000 in
theorem dX11_drawMove_16 : decode cX11_drawMove 16 = .ok (.getfield 116, 3) := by decide +kernel
set_option maxRecDepth 100000 in
theorem dX11_drawMove_19 : decode cX11_drawMove 19 = .ok (.invokevirtual 404, 3) := by decide +kernel
set_option maxRecDepth 100000 in
theorem dX11_drawMove_22 : decode cX11_drawMove 22 = .ok (.istore_n 1, 1) := by decide +kernel
set_option maxRecDepth 100000 in
theorem dX11_drawMove_23 : decode cX11_drawMove 23 = .ok (.aload_n 0, 1) := by decide +kernel
set_option maxRecDepth 100000 in
theorem dX11_drawMove_24 : decode cX11_drawMove 24 = .ok (.aload_n 0, 1) := by decide +kernel
set_option maxRecDepth 100000 in
theorem dX11_drawMove_25 : decode cX11_drawMove 25 = .ok (.getfield 36, 3) := by decide +kernel
set_option maxRecDepth 100000 in
theorem dX11_drawMove_28 : decode cX11_drawMove 28 = .ok (.getfield 349, 3) := by decide +kernel
set_option maxRecDepth 100000 in
theorem dX11_drawMove_31 : decode cX11_drawMove 31 = .ok (.invokevirtual 404, 3) := by decide +kernel
set_option maxRecDepth 100000 in
theorem dX11_drawMove_34 : decode cX11_drawMove 34 = .ok (.istore_n 2, 1) := by decide +kernel
set_option maxRecDepth 100000 in
theorem dX11_drawMove_35 : decode cX11_drawMove 35 = .ok (.aload_n 0, 1) := by decide +kernel
set_option maxRecDepth 100000 in
theorem dX11_drawMove_36 : decode cX11_drawMove 36 = .ok (.getfield 43, 3) := by decide +kernel
set_option maxRecDepth 100000 in
theorem dX11_drawMove_39 : decode cX11_drawMove 39 = .ok (.iload_n 1, 1) := by decide +kernel
set_option maxRecDepth 100000 in
theorem dX11_drawMove_40 : decode cX11_drawMove 40 = .ok (.invokevirtual 330, 3) := by decide +kernel
set_option maxRecDepth 100000 in
theorem dX11_drawMove_43 : decode cX11_drawMove 43 = .ok (.ifCond .eq 26, 3) := by decide +kernel
set_option maxRecDepth 100000 in
theorem dX11_drawMove_46 : decode cX11_drawMove 46 = .ok (.aload_n 0, 1) := by decide +kernel
set_option maxRecDepth 100000 in
theorem dX11_drawMove_47 : decode cX11_drawMove 47 = .ok (.getfield 43, 3) := by decide +kernel
set_option maxRecDepth 100000 in
theorem dX11_drawMove_50 : decode cX11_drawMove 50 = .ok (.getfield 183, 3) := by decide +kernel
set_option maxRecDepth 100000 in
theorem dX11_drawMove_53 : decode cX11_drawMove 53 = .ok (.iload_n 2, 1) := by decide +kernel
set_option maxRecDepth 100000 in
theorem dX11_drawMove_54 : decode cX11_drawMove 54 = .ok (.iaload, 1) := by decide +kernel
set_option maxRecDepth 100000 in
theorem dX11_drawMove_55 : decode cX11_drawMove 55 = .ok (.iconst (-1), 1) := by decide +kernel
set_option maxRecDepth 100000 in
theorem dX11_drawMove_56 : decode cX11_drawMove 56 = .ok (.if_icmp .eq 13, 3) := by decide +kernel
set_option maxRecDepth 100000 in
theorem dX11_drawMove_59 : decode cX11_drawMove 59 = .ok (.aload_n 0, 1) := by decide +kernel
set_option maxRecDepth 100000 in
theorem dX11_drawMove_60 : decode cX11_drawMove 60 = .ok (.getfield 43, 3) := by decide +kernel
set_option maxRecDepth 100000 in
theorem dX11_drawMove_63 : decode cX11_drawMove 63 = .ok (.getfield 205, 3) := by decide +kernel
set_option maxRecDepth 100000 in
theorem dX11_drawMove_66 : decode cX11_drawMove 66 = .ok (.iload_n 1, 1) := by decide +kernel
set_option maxRecDepth 100000 in
theorem dX11_drawMove_67 : decode cX11_drawMove 67 = .ok (.iload_n 2, 1) := by decide +kernel
set_option maxRecDepth 100000 in
theorem dX11_drawMove_68 : decode cX11_drawMove 68 = .ok (.iastore, 1) := by decide +kernel
set_option maxRecDepth 100000 in
theorem dX11_drawMove_69 : decode cX11_drawMove 69 = .ok (.return_, 1) := by decide +kernel
set_option maxRecDepth 100000 in
theorem dX11_entryOf_0 : decode cX11_entryOf 0 = .ok (.iload_n 0, 1) := by decide +kernel
set_option maxRecDepth 100000 in
theorem dX11_entryOf_1 : decode cX11_entryOf 1 = .ok (.ifCond .ne 6, 3) := by decide +kernel
set_option maxRecDepth 100000 in
theorem dX11_entryOf_4 : decode cX11_entryOf 4 = .ok (.iload_n 1, 1) := by decide +kernel
set_option maxRecDepth 100000 in
theorem dX11_entryOf_5 : decode cX11_entryOf 5 = .ok (.i2b, 1) := by decide +kernel
set_option maxRecDepth 100000 in
theorem dX11_entryOf_6 : decode cX11_entryOf 6 = .ok (.ireturn, 1) := by decide +kernel
set_option maxRecDepth 100000 in
theorem dX11_entryOf_7 : decode cX11_entryOf 7 = .ok (.iload_n 0, 1) := by decide +kernel
set_option maxRecDepth 100000 in
theorem dX11_entryOf_8 : decode cX11_entryOf 8 = .ok (.iconst 1, 1) := by decide +kernel
set_option maxRecDepth 100000 in
theorem dX11_entryOf_9 : decode cX11_entryOf 9 = .ok (.if_icmp .ne 8, 3) := by decide +kernel
set_option maxRecDepth 100000 in
theorem dX11_entryOf_12 : decode cX11_entryOf 12 = .ok (.iload_n 1, 1) := by decide +kernel
set_option maxRecDepth 100000 in
theorem dX11_entryOf_13 : decode cX11_entryOf 13 = .ok (.i2s, 1) := by decide +kernel
set_option maxRecDepth 100000 in
theorem dX11_entryOf_14 : decode cX11_entryOf 14 = .ok (.goto 4, 3) := by decide +kernel
set_option maxRecDepth 100000 in
theorem dX11_entryOf_17 : decode cX11_entryOf 17 = .ok (.iload_n 1, 1) := by decide +kernel
set_option maxRecDepth 100000 in
theorem dX11_entryOf_18 : decode cX11_entryOf 18 = .ok (.ireturn, 1) := by decide +kernel
set_option maxRecDepth 100000 in
theorem dX11_raised_0 : decode cX11_raised 0 = .ok (.lconst 1, 1) := by decide +kernel
set_option maxRecDepth 100000 in
theorem dX11_raised_1 : decode cX11_raised 1 = .ok (.lstore_n 2, 1) := by decide +kernel
set_option maxRecDepth 100000 in
theorem dX11_raised_2 : decode cX11_raised 2 = .ok (.iconst 0, 1) := by decide +kernel
set_option maxRecDepth 100000 in
theorem dX11_raised_3 : decode cX11_raised 3 = .ok (.istore 4, 2) := by decide +kernel
set_option maxRecDepth 100000 in
theorem dX11_raised_5 : decode cX11_raised 5 = .ok (.iload 4, 2) := by decide +kernel
set_option maxRecDepth 100000 in
theorem dX11_raised_7 : decode cX11_raised 7 = .ok (.iload_n 1, 1) := by decide +kernel
set_option maxRecDepth 100000 in
theorem dX11_raised_8 : decode cX11_raised 8 = .ok (.if_icmp .ge 14, 3) := by decide +kernel
set_option maxRecDepth 100000 in
theorem dX11_raised_11 : decode cX11_raised 11 = .ok (.lload_n 2, 1) := by decide +kernel
set_option maxRecDepth 100000 in
theorem dX11_raised_12 : decode cX11_raised 12 = .ok (.iload_n 0, 1) := by decide +kernel
set_option maxRecDepth 100000 in
theorem dX11_raised_13 : decode cX11_raised 13 = .ok (.i2l, 1) := by decide +kernel
set_option maxRecDepth 100000 in
theorem dX11_raised_14 : decode cX11_raised 14 = .ok (.lmul, 1) := by decide +kernel
set_option maxRecDepth 100000 in
theorem dX11_raised_15 : decode cX11_raised 15 = .ok (.lstore_n 2, 1) := by decide +kernel
set_option maxRecDepth 100000 in
theorem dX11_raised_16 : decode cX11_raised 16 = .ok (.iinc 4 1, 3) := by decide +kernel
set_option maxRecDepth 100000 in
theorem dX11_raised_19 : decode cX11_raised 19 = .ok (.goto (-14), 3) := by decide +kernel
set_option maxRecDepth 100000 in
theorem dX11_raised_22 : decode cX11_raised 22 = .ok (.lload_n 2, 1) := by decide +kernel
set_option maxRecDepth 100000 in
theorem dX11_raised_23 : decode cX11_raised 23 = .ok (.lreturn, 1) := by decide +kernel
set_option maxRecDepth 100000 in
theorem dX11_isAtRest_0 : decode cX11_isAtRest 0 = .ok (.iload_n 0, 1) := by decide +kernel
set_option maxRecDepth 100000 in
theorem dX11_isAtRest_1 : decode cX11_isAtRest 1 = .ok (.iload_n 1, 1) := by decide +kernel
set_option maxRecDepth 100000 in
theorem dX11_isAtRest_2 : decode cX11_isAtRest 2 = .ok (.iadd, 1) := by decide +kernel
set_option maxRecDepth 100000 in
theorem dX11_isAtRest_3 : decode cX11_isAtRest 3 = .ok (.iload_n 2, 1) := by decide +kernel
set_option maxRecDepth 100000 in
theorem dX11_isAtRest_4 : decode cX11_isAtRest 4 = .ok (.if_icmp .gt 7, 3) := by decide +kernel
set_option maxRecDepth 100000 in
theorem dX11_isAtRest_7 : decode cX11_isAtRest 7 = .ok (.iconst 1, 1) := by decide +kernel
set_option maxRecDepth 100000 in
theorem dX11_isAtRest_8 : decode cX11_isAtRest 8 = .ok (.goto 4, 3) := by decide +kernel
set_option maxRecDepth 100000 in
theorem dX11_isAtRest_11 : decode cX11_isAtRest 11 = .ok (.iconst 0, 1) := by decide +kernel
set_option maxRecDepth 100000 in
theorem dX11_isAtRest_12 : decode cX11_isAtRest 12 = .ok (.istore_n 3, 1) := by decide +kernel
set_option maxRecDepth 100000 in
theorem dX11_isAtRest_13 : decode cX11_isAtRest 13 = .ok (.iload_n 3, 1) := by decide +kernel
set_option maxRecDepth 100000 in
theorem dX11_isAtRest_14 : decode cX11_isAtRest 14 = .ok (.ifCond .eq 7, 3) := by decide +kernel
set_option maxRecDepth 100000 in
theorem dX11_isAtRest_17 : decode cX11_isAtRest 17 = .ok (.iload_n 0, 1) := by decide +kernel
set_option maxRecDepth 100000 in
theorem dX11_isAtRest_18 : decode cX11_isAtRest 18 = .ok (.goto 4, 3) := by decide +kernel
set_option maxRecDepth 100000 in
theorem dX11_isAtRest_21 : decode cX11_isAtRest 21 = .ok (.iconst 0, 1) := by decide +kernel
set_option maxRecDepth 100000 in
theorem dX11_isAtRest_22 : decode cX11_isAtRest 22 = .ok (.iload_n 2, 1) := by decide +kernel
set_option maxRecDepth 100000 in
theorem dX11_isAtRest_23 : decode cX11_isAtRest 23 = .ok (.iload_n 1, 1) := by decide +kernel
set_option maxRecDepth 100000 in
theorem dX11_isAtRest_24 : decode cX11_isAtRest 24 = .ok (.isub, 1) := by decide +kernel
set_option maxRecDepth 100000 in
theorem dX11_isAtRest_25 : decode cX11_isAtRest 25 = .ok (.if_icmp .ne 22, 3) := by decide +kernel
set_option maxRecDepth 100000 in
theorem dX11_isAtRest_28 : decode cX11_isAtRest 28 = .ok (.iload_n 3, 1) := by decide +kernel
set_option maxRecDepth 100000 in
theorem dX11_isAtRest_29 : decode cX11_isAtRest 29 = .ok (.ifCond .eq 7, 3) := by decide +kernel
set_option maxRecDepth 100000 in
theorem dX11_isAtRest_32 : decode cX11_isAtRest 32 = .ok (.iload_n 1, 1) := by decide +kernel
set_option maxRecDepth 100000 in
theorem dX11_isAtRest_33 : decode cX11_isAtRest 33 = .ok (.goto 4, 3) := by decide +kernel
set_option maxRecDepth 100000 in
theorem dX11_isAtRest_36 : decode cX11_isAtRest 36 = .ok (.iconst 0, 1) := by decide +kernel
set_option maxRecDepth 100000 in
theorem dX11_isAtRest_37 : decode cX11_isAtRest 37 = .ok (.iload_n 2, 1) := by decide +kernel
set_option maxRecDepth 100000 in
theorem dX11_isAtRest_38 : decode cX11_isAtRest 38 = .ok (.iload_n 0, 1) := by decide +kernel
set_option maxRecDepth 100000 in
theorem dX11_isAtRest_39 : decode cX11_isAtRest 39 = .ok (.isub, 1) := by decide +kernel
set_option maxRecDepth 100000 in
theorem dX11_isAtRest_40 : decode cX11_isAtRest 40 = .ok (.if_icmp .ne 7, 3) := by decide +kernel
set_option maxRecDepth 100000 in
theorem dX11_isAtRest_43 : decode cX11_isAtRest 43 = .ok (.iconst 1, 1) := by decide +kernel
set_option maxRecDepth 100000 in
theorem dX11_isAtRest_44 : decode cX11_isAtRest 44 = .ok (.goto 4, 3) := by decide +kernel
set_option maxRecDepth 100000 in
theorem dX11_isAtRest_47 : decode cX11_isAtRest 47 = .ok (.iconst 0, 1) := by decide +kernel
set_option maxRecDepth 100000 in
theorem dX11_isAtRest_48 : decode cX11_isAtRest 48 = .ok (.ireturn, 1) := by decide +kernel
set_option maxRecDepth 100000 in
theorem dX11_tellFraction_0 : decode cX11_tellFraction 0 = .ok (.lload_n 1, 1) := by decide +kernel
set_option maxRecDepth 100000 in
theorem dX11_tellFraction_1 : decode cX11_tellFraction 1 = .ok (.lstore 5, 2) := by decide +kernel
set_option maxRecDepth 100000 in
theorem dX11_tellFraction_3 : decode cX11_tellFraction 3 = .ok (.lload_n 3, 1) := by decide +kernel
set_option maxRecDepth 100000 in
theorem dX11_tellFraction_4 : decode cX11_tellFraction 4 = .ok (.lstore 7, 2) := by decide +kernel
set_option maxRecDepth 100000 in
theorem dX11_tellFraction_6 : decode cX11_tellFraction 6 = .ok (.iconst 0, 1) := by decide +kernel
set_option maxRecDepth 100000 in
theorem dX11_tellFraction_7 : decode cX11_tellFraction 7 = .ok (.istore 9, 2) := by decide +kernel
set_option maxRecDepth 100000 in
theorem dX11_tellFraction_9 : decode cX11_tellFraction 9 = .ok (.iload 9, 2) := by decide +kernel
set_option maxRecDepth 100000 in
theorem dX11_tellFraction_11 : decode cX11_tellFraction 11 = .ok (.bipush 100, 2) := by decide +kernel
set_option maxRecDepth 100000 in
theorem dX11_tellFraction_13 : decode cX11_tellFraction 13 = .ok (.if_icmp .ge 31, 3) := by decide +kernel
set_option maxRecDepth 100000 in
theorem dX11_tellFraction_16 : decode cX11_tellFraction 16 = .ok (.lload 7, 2) := by decide +kernel
set_option maxRecDepth 100000 in
theorem dX11_tellFraction_18 : decode cX11_tellFraction 18 = .ok (.lconst 0, 1) := by decide +kernel
set_option maxRecDepth 100000 in
theorem dX11_tellFraction_19 : decode cX11_tellFraction 19 = .ok (.lcmp, 1) := by decide +kernel
set_option maxRecDepth 100000 in
theorem dX11_tellFraction_20 : decode cX11_tellFraction 20 = .ok (.ifCond .eq 24, 3) := by decide +kernel
set_option maxRecDepth 100000 in
theorem dX11_tellFraction_23 : decode cX11_tellFraction 23 = .ok (.lload 5, 2) := by decide +kernel
set_option maxRecDepth 100000 in
theorem dX11_tellFraction_25 : decode cX11_tellFraction 25 = .ok (.lload 7, 2) := by decide +kernel
set_option maxRecDepth 100000 in
theorem dX11_tellFraction_27 : decode cX11_tellFraction 27 = .ok (.lrem, 1) := by decide +kernel
set_option maxRecDepth 100000 in
theorem dX11_tellFraction_28 : decode cX11_tellFraction 28 = .ok (.lstore 10, 2) := by decide +kernel
set_option maxRecDepth 100000 in
theorem dX11_tellFraction_30 : decode cX11_tellFraction 30 = .ok (.lload 7, 2) := by decide +kernel
set_option maxRecDepth 100000 in
theorem dX11_tellFraction_32 : decode cX11_tellFraction 32 = .ok (.lstore 5, 2) := by decide +kernel
set_option maxRecDepth 100000 in
theorem dX11_tellFraction_34 : decode cX11_tellFraction 34 = .ok (.lload 10, 2) := by decide +kernel
set_option maxRecDepth 100000 in
theorem dX11_tellFraction_36 : decode cX11_tellFraction 36 = .ok (.lstore 7, 2) := by decide +kernel
set_option maxRecDepth 100000 in
theorem dX11_tellFraction_38 : decode cX11_tellFraction 38 = .ok (.iinc 9 1, 3) := by decide +kernel
set_option maxRecDepth 100000 in
theorem dX11_tellFraction_41 : decode cX11_tellFraction 41 = .ok (.goto (-32), 3) := by decide +kernel
set_option maxRecDepth 100000 in
theorem dX11_tellFraction_44 : decode cX11_tellFraction 44 = .ok (.lload 5, 2) := by decide +kernel
set_option maxRecDepth 100000 in
theorem dX11_tellFraction_46 : decode cX11_tellFraction 46 = .ok (.lconst 1, 1) := by decide +kernel
set_option maxRecDepth 100000 in
theorem dX11_tellFraction_47 : decode cX11_tellFraction 47 = .ok (.lcmp, 1) := by decide +kernel
set_option maxRecDepth 100000 in
theorem dX11_tellFraction_48 : decode cX11_tellFraction 48 = .ok (.ifCond .ge 7, 3) := by decide +kernel
set_option maxRecDepth 100000 in
theorem dX11_tellFraction_51 : decode cX11_tellFraction 51 = .ok (.lconst 1, 1) := by decide +kernel
set_option maxRecDepth 100000 in
theorem dX11_tellFraction_52 : decode cX11_tellFraction 52 = .ok (.goto 5, 3) := by decide +kernel
set_option maxRecDepth 100000 in
theorem dX11_tellFraction_55 : decode cX11_tellFraction 55 = .ok (.lload 5, 2) := by decide +kernel
set_option maxRecDepth 100000 in
theorem dX11_tellFraction_57 : decode cX11_tellFraction 57 = .ok (.lstore 9, 2) := by decide +kernel
set_option maxRecDepth 100000 in
theorem dX11_tellFraction_59 : decode cX11_tellFraction 59 = .ok (.aload_n 0, 1) := by decide +kernel
set_option maxRecDepth 100000 in
theorem dX11_tellFraction_60 : decode cX11_tellFraction 60 = .ok (.getfield 87, 3) := by decide +kernel
set_option maxRecDepth 100000 in
theorem dX11_tellFraction_63 : decode cX11_tellFraction 63 = .ok (.invokevirtual 239, 3) := by decide +kernel
set_option maxRecDepth 100000 in
theorem dX11_tellFraction_66 : decode cX11_tellFraction 66 = .ok (.aload_n 0, 1) := by decide +kernel
set_option maxRecDepth 100000 in
theorem dX11_tellFraction_67 : decode cX11_tellFraction 67 = .ok (.getfield 87, 3) := by decide +kernel
set_option maxRecDepth 100000 in
theorem dX11_tellFraction_70 : decode cX11_tellFraction 70 = .ok (.lload_n 1, 1) := by decide +kernel
set_option maxRecDepth 100000 in
theorem dX11_tellFraction_71 : decode cX11_tellFraction 71 = .ok (.lload 9, 2) := by decide +kernel
set_option maxRecDepth 100000 in
theorem dX11_tellFraction_73 : decode cX11_tellFraction 73 = .ok (.ldiv, 1) := by decide +kernel
set_option maxRecDepth 100000 in
theorem dX11_tellFraction_74 : decode cX11_tellFraction 74 = .ok (.invokevirtual 243, 3) := by decide +kernel
set_option maxRecDepth 100000 in
theorem dX11_tellFraction_77 : decode cX11_tellFraction 77 = .ok (.aload_n 0, 1) := by decide +kernel
set_option maxRecDepth 100000 in
theorem dX11_tellFraction_78 : decode cX11_tellFraction 78 = .ok (.getfield 87, 3) := by decide +kernel
set_option maxRecDepth 100000 in
theorem dX11_tellFraction_81 : decode cX11_tellFraction 81 = .ok (.lload_n 3, 1) := by decide +kernel
set_option maxRecDepth 100000 in
theorem dX11_tellFraction_82 : decode cX11_tellFraction 82 = .ok (.lload 9, 2) := by decide +kernel
set_option maxRecDepth 100000 in
theorem dX11_tellFraction_84 : decode cX11_tellFraction 84 = .ok (.ldiv, 1) := by decide +kernel
set_option maxRecDepth 100000 in
theorem dX11_tellFraction_85 : decode cX11_tellFraction 85 = .ok (.invokevirtual 243, 3) := by decide +kernel
set_option maxRecDepth 100000 in
theorem dX11_tellFraction_88 : decode cX11_tellFraction 88 = .ok (.return_, 1) := by decide +kernel

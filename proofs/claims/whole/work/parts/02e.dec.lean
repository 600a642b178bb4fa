set_option maxRecDepth 100000 in
theorem dX12_counts_0 : decode cX12_counts 0 = .ok (.iload_n 1, 1) := by decide +kernel
set_option maxRecDepth 100000 in
theorem dX12_counts_1 : decode cX12_counts 1 = .ok (.ifCond .ge 7, 3) := by decide +kernel
set_option maxRecDepth 100000 in
theorem dX12_counts_4 : decode cX12_counts 4 = .ok (.iload_n 1, 1) := by decide +kernel
set_option maxRecDepth 100000 in
theorem dX12_counts_5 : decode cX12_counts 5 = .ok (.goto 8, 3) := by decide +kernel
set_option maxRecDepth 100000 in
theorem dX12_counts_8 : decode cX12_counts 8 = .ok (.aload_n 0, 1) := by decide +kernel
set_option maxRecDepth 100000 in
theorem dX12_counts_9 : decode cX12_counts 9 = .ok (.iload_n 1, 1) := by decide +kernel
set_option maxRecDepth 100000 in
theorem dX12_counts_10 : decode cX12_counts 10 = .ok (.invokevirtual 332, 3) := by decide +kernel
set_option maxRecDepth 100000 in
theorem dX12_counts_13 : decode cX12_counts 13 = .ok (.ireturn, 1) := by decide +kernel
set_option maxRecDepth 100000 in
theorem dX12_undo_0 : decode cX12_undo 0 = .ok (.aload_n 0, 1) := by decide +kernel
set_option maxRecDepth 100000 in
theorem dX12_undo_1 : decode cX12_undo 1 = .ok (.iconst 0, 1) := by decide +kernel
set_option maxRecDepth 100000 in
theorem dX12_undo_2 : decode cX12_undo 2 = .ok (.putfield 106, 3) := by decide +kernel
set_option maxRecDepth 100000 in
theorem dX12_undo_5 : decode cX12_undo 5 = .ok (.aload_n 0, 1) := by decide +kernel
set_option maxRecDepth 100000 in
theorem dX12_undo_6 : decode cX12_undo 6 = .ok (.getfield 208, 3) := by decide +kernel
set_option maxRecDepth 100000 in
theorem dX12_undo_9 : decode cX12_undo 9 = .ok (.ifCond .ne 5, 3) := by decide +kernel
set_option maxRecDepth 100000 in
theorem dX12_undo_12 : decode cX12_undo 12 = .ok (.iconst (-1), 1) := by decide +kernel
set_option maxRecDepth 100000 in
theorem dX12_undo_13 : decode cX12_undo 13 = .ok (.ireturn, 1) := by decide +kernel
set_option maxRecDepth 100000 in
theorem dX12_undo_14 : decode cX12_undo 14 = .ok (.aload_n 0, 1) := by decide +kernel
set_option maxRecDepth 100000 in
theorem dX12_undo_15 : decode cX12_undo 15 = .ok (.dup, 1) := by decide +kernel
set_option maxRecDepth 100000 in
theorem dX12_undo_16 : decode cX12_undo 16 = .ok (.getfield 208, 3) := by decide +kernel
set_option maxRecDepth 100000 in
theorem dX12_undo_19 : decode cX12_undo 19 = .ok (.iconst 1, 1) := by decide +kernel
set_option maxRecDepth 100000 in
theorem dX12_undo_20 : decode cX12_undo 20 = .ok (.isub, 1) := by decide +kernel
set_option maxRecDepth 100000 in
theorem dX12_undo_21 : decode cX12_undo 21 = .ok (.putfield 208, 3) := by decide +kernel
set_option maxRecDepth 100000 in
theorem dX12_undo_24 : decode cX12_undo 24 = .ok (.iconst 0, 1) := by decide +kernel
set_option maxRecDepth 100000 in
theorem dX12_undo_25 : decode cX12_undo 25 = .ok (.istore_n 1, 1) := by decide +kernel
set_option maxRecDepth 100000 in
theorem dX12_undo_26 : decode cX12_undo 26 = .ok (.iload_n 1, 1) := by decide +kernel
set_option maxRecDepth 100000 in
theorem dX12_undo_27 : decode cX12_undo 27 = .ok (.bipush 26, 2) := by decide +kernel
set_option maxRecDepth 100000 in
theorem dX12_undo_29 : decode cX12_undo 29 = .ok (.if_icmp .ge 29, 3) := by decide +kernel
set_option maxRecDepth 100000 in
theorem dX12_undo_32 : decode cX12_undo 32 = .ok (.aload_n 0, 1) := by decide +kernel
set_option maxRecDepth 100000 in
theorem dX12_undo_33 : decode cX12_undo 33 = .ok (.getfield 33, 3) := by decide +kernel
set_option maxRecDepth 100000 in
theorem dX12_undo_36 : decode cX12_undo 36 = .ok (.iload_n 1, 1) := by decide +kernel
set_option maxRecDepth 100000 in
theorem dX12_undo_37 : decode cX12_undo 37 = .ok (.aload_n 0, 1) := by decide +kernel
set_option maxRecDepth 100000 in
theorem dX12_undo_38 : decode cX12_undo 38 = .ok (.getfield 60, 3) := by decide +kernel
set_option maxRecDepth 100000 in
theorem dX12_undo_41 : decode cX12_undo 41 = .ok (.bipush 26, 2) := by decide +kernel
set_option maxRecDepth 100000 in
theorem dX12_undo_43 : decode cX12_undo 43 = .ok (.aload_n 0, 1) := by decide +kernel
set_option maxRecDepth 100000 in
theorem dX12_undo_44 : decode cX12_undo 44 = .ok (.getfield 208, 3) := by decide +kernel
set_option maxRecDepth 100000 in
theorem dX12_undo_47 : decode cX12_undo 47 = .ok (.imul, 1) := by decide +kernel
set_option maxRecDepth 100000 in
theorem dX12_undo_48 : decode cX12_undo 48 = .ok (.iload_n 1, 1) := by decide +kernel
set_option maxRecDepth 100000 in
theorem dX12_undo_49 : decode cX12_undo 49 = .ok (.iadd, 1) := by decide +kernel
set_option maxRecDepth 100000 in
theorem dX12_undo_50 : decode cX12_undo 50 = .ok (.iaload, 1) := by decide +kernel
set_option maxRecDepth 100000 in
theorem dX12_undo_51 : decode cX12_undo 51 = .ok (.iastore, 1) := by decide +kernel
set_option maxRecDepth 100000 in
theorem dX12_undo_52 : decode cX12_undo 52 = .ok (.iinc 1 1, 3) := by decide +kernel
set_option maxRecDepth 100000 in
theorem dX12_undo_55 : decode cX12_undo 55 = .ok (.goto (-29), 3) := by decide +kernel
set_option maxRecDepth 100000 in
theorem dX12_undo_58 : decode cX12_undo 58 = .ok (.aload_n 0, 1) := by decide +kernel
set_option maxRecDepth 100000 in
theorem dX12_undo_59 : decode cX12_undo 59 = .ok (.getfield 208, 3) := by decide +kernel
set_option maxRecDepth 100000 in
theorem dX12_undo_62 : decode cX12_undo 62 = .ok (.ireturn, 1) := by decide +kernel
set_option maxRecDepth 100000 in
theorem dX12_leavesFrom_0 : decode cX12_leavesFrom 0 = .ok (.iconst 0, 1) := by decide +kernel
set_option maxRecDepth 100000 in
theorem dX12_leavesFrom_1 : decode cX12_leavesFrom 1 = .ok (.istore_n 3, 1) := by decide +kernel
set_option maxRecDepth 100000 in
theorem dX12_leavesFrom_2 : decode cX12_leavesFrom 2 = .ok (.iload_n 3, 1) := by decide +kernel
set_option maxRecDepth 100000 in
theorem dX12_leavesFrom_3 : decode cX12_leavesFrom 3 = .ok (.aload_n 0, 1) := by decide +kernel
set_option maxRecDepth 100000 in
theorem dX12_leavesFrom_4 : decode cX12_leavesFrom 4 = .ok (.getfield 124, 3) := by decide +kernel
set_option maxRecDepth 100000 in
theorem dX12_leavesFrom_7 : decode cX12_leavesFrom 7 = .ok (.if_icmp .ge 52, 3) := by decide +kernel
set_option maxRecDepth 100000 in
theorem dX12_leavesFrom_10 : decode cX12_leavesFrom 10 = .ok (.aload_n 1, 1) := by decide +kernel
set_option maxRecDepth 100000 in
theorem dX12_leavesFrom_11 : decode cX12_leavesFrom 11 = .ok (.iload_n 3, 1) := by decide +kernel
set_option maxRecDepth 100000 in
theorem dX12_leavesFrom_12 : decode cX12_leavesFrom 12 = .ok (.invokestatic 130, 3) := by decide +kernel
set_option maxRecDepth 100000 in
theorem dX12_leavesFrom_15 : decode cX12_leavesFrom 15 = .ok (.iload_n 2, 1) := by decide +kernel
set_option maxRecDepth 100000 in
theorem dX12_leavesFrom_16 : decode cX12_leavesFrom 16 = .ok (.if_icmp .lt 37, 3) := by decide +kernel
set_option maxRecDepth 100000 in
theorem dX12_leavesFrom_19 : decode cX12_leavesFrom 19 = .ok (.aload_n 0, 1) := by decide +kernel
set_option maxRecDepth 100000 in
theorem dX12_leavesFrom_20 : decode cX12_leavesFrom 20 = .ok (.dup, 1) := by decide +kernel
set_option maxRecDepth 100000 in
theorem dX12_leavesFrom_21 : decode cX12_leavesFrom 21 = .ok (.getfield 335, 3) := by decide +kernel
set_option maxRecDepth 100000 in
theorem dX12_leavesFrom_24 : decode cX12_leavesFrom 24 = .ok (.iconst 1, 1) := by decide +kernel
set_option maxRecDepth 100000 in
theorem dX12_leavesFrom_25 : decode cX12_leavesFrom 25 = .ok (.iload_n 3, 1) := by decide +kernel
set_option maxRecDepth 100000 in
theorem dX12_leavesFrom_26 : decode cX12_leavesFrom 26 = .ok (.ishl, 1) := by decide +kernel
set_option maxRecDepth 100000 in
theorem dX12_leavesFrom_27 : decode cX12_leavesFrom 27 = .ok (.ior, 1) := by decide +kernel
set_option maxRecDepth 100000 in
theorem dX12_leavesFrom_28 : decode cX12_leavesFrom 28 = .ok (.putfield 335, 3) := by decide +kernel
set_option maxRecDepth 100000 in
theorem dX12_leavesFrom_31 : decode cX12_leavesFrom 31 = .ok (.aload_n 1, 1) := by decide +kernel
set_option maxRecDepth 100000 in
theorem dX12_leavesFrom_32 : decode cX12_leavesFrom 32 = .ok (.iconst 2, 1) := by decide +kernel
set_option maxRecDepth 100000 in
theorem dX12_leavesFrom_33 : decode cX12_leavesFrom 33 = .ok (.iconst 2, 1) := by decide +kernel
set_option maxRecDepth 100000 in
theorem dX12_leavesFrom_34 : decode cX12_leavesFrom 34 = .ok (.iload_n 3, 1) := by decide +kernel
set_option maxRecDepth 100000 in
theorem dX12_leavesFrom_35 : decode cX12_leavesFrom 35 = .ok (.imul, 1) := by decide +kernel
set_option maxRecDepth 100000 in
theorem dX12_leavesFrom_36 : decode cX12_leavesFrom 36 = .ok (.iadd, 1) := by decide +kernel
set_option maxRecDepth 100000 in
theorem dX12_leavesFrom_37 : decode cX12_leavesFrom 37 = .ok (.iconst 0, 1) := by decide +kernel
set_option maxRecDepth 100000 in
theorem dX12_leavesFrom_38 : decode cX12_leavesFrom 38 = .ok (.iadd, 1) := by decide +kernel
set_option maxRecDepth 100000 in
theorem dX12_leavesFrom_39 : decode cX12_leavesFrom 39 = .ok (.aload_n 1, 1) := by decide +kernel
set_option maxRecDepth 100000 in
theorem dX12_leavesFrom_40 : decode cX12_leavesFrom 40 = .ok (.iconst 0, 1) := by decide +kernel
set_option maxRecDepth 100000 in
theorem dX12_leavesFrom_41 : decode cX12_leavesFrom 41 = .ok (.iaload, 1) := by decide +kernel
set_option maxRecDepth 100000 in
theorem dX12_leavesFrom_42 : decode cX12_leavesFrom 42 = .ok (.iastore, 1) := by decide +kernel
set_option maxRecDepth 100000 in
theorem dX12_leavesFrom_43 : decode cX12_leavesFrom 43 = .ok (.aload_n 1, 1) := by decide +kernel
set_option maxRecDepth 100000 in
theorem dX12_leavesFrom_44 : decode cX12_leavesFrom 44 = .ok (.iconst 2, 1) := by decide +kernel
set_option maxRecDepth 100000 in
theorem dX12_leavesFrom_45 : decode cX12_leavesFrom 45 = .ok (.iconst 2, 1) := by decide +kernel
set_option maxRecDepth 100000 in
theorem dX12_leavesFrom_46 : decode cX12_leavesFrom 46 = .ok (.iload_n 3, 1) := by decide +kernel
set_option maxRecDepth 100000 in
theorem dX12_leavesFrom_47 : decode cX12_leavesFrom 47 = .ok (.imul, 1) := by decide +kernel
set_option maxRecDepth 100000 in
theorem dX12_leavesFrom_48 : decode cX12_leavesFrom 48 = .ok (.iadd, 1) := by decide +kernel
set_option maxRecDepth 100000 in
theorem dX12_leavesFrom_49 : decode cX12_leavesFrom 49 = .ok (.iconst 1, 1) := by decide +kernel
set_option maxRecDepth 100000 in
theorem dX12_leavesFrom_50 : decode cX12_leavesFrom 50 = .ok (.iadd, 1) := by decide +kernel
set_option maxRecDepth 100000 in
theorem dX12_leavesFrom_51 : decode cX12_leavesFrom 51 = .ok (.iconst (-1), 1) := by decide +kernel
set_option maxRecDepth 100000 in
theorem dX12_leavesFrom_52 : decode cX12_leavesFrom 52 = .ok (.iastore, 1) := by decide +kernel
set_option maxRecDepth 100000 in
theorem dX12_leavesFrom_53 : decode cX12_leavesFrom 53 = .ok (.iinc 3 1, 3) := by decide +kernel
set_option maxRecDepth 100000 in
theorem dX12_leavesFrom_56 : decode cX12_leavesFrom 56 = .ok (.goto (-54), 3) := by decide +kernel
set_option maxRecDepth 100000 in
theorem dX12_leavesFrom_59 : decode cX12_leavesFrom 59 = .ok (.return_, 1) := by decide +kernel
set_option maxRecDepth 100000 in
theorem dX12_getOut_0 : decode cX12_getOut 0 = .ok (.iconst 0, 1) := by decide +kernel
set_option maxRecDepth 100000 in
theorem dX12_getOut_1 : decode cX12_getOut 1 = .ok (.istore_n 2, 1) := by decide +kernel
set_option maxRecDepth 100000 in
theorem dX12_getOut_2 : decode cX12_getOut 2 = .ok (.iload_n 2, 1) := by decide +kernel
set_option maxRecDepth 100000 in
theorem dX12_getOut_3 : decode cX12_getOut 3 = .ok (.aload_n 0, 1) := by decide +kernel
set_option maxRecDepth 100000 in
theorem dX12_getOut_4 : decode cX12_getOut 4 = .ok (.getfield 127, 3) := by decide +kernel
set_option maxRecDepth 100000 in
theorem dX12_getOut_7 : decode cX12_getOut 7 = .ok (.if_icmp .ge 63, 3) := by decide +kernel
set_option maxRecDepth 100000 in
theorem dX12_getOut_10 : decode cX12_getOut 10 = .ok (.aload_n 1, 1) := by decide +kernel
set_option maxRecDepth 100000 in
theorem dX12_getOut_11 : decode cX12_getOut 11 = .ok (.bipush 14, 2) := by decide +kernel
set_option maxRecDepth 100000 in
theorem dX12_getOut_13 : decode cX12_getOut 13 = .ok (.iload_n 2, 1) := by decide +kernel
set_option maxRecDepth 100000 in
theorem dX12_getOut_14 : decode cX12_getOut 14 = .ok (.iadd, 1) := by decide +kernel
set_option maxRecDepth 100000 in
theorem dX12_getOut_15 : decode cX12_getOut 15 = .ok (.iaload, 1) := by decide +kernel
set_option maxRecDepth 100000 in
theorem dX12_getOut_16 : decode cX12_getOut 16 = .ok (.ifCond .lt 26, 3) := by decide +kernel
set_option maxRecDepth 100000 in
theorem dX12_getOut_19 : decode cX12_getOut 19 = .ok (.aload_n 1, 1) := by decide +kernel
set_option maxRecDepth 100000 in
theorem dX12_getOut_20 : decode cX12_getOut 20 = .ok (.aload_n 1, 1) := by decide +kernel
set_option maxRecDepth 100000 in
theorem dX12_getOut_21 : decode cX12_getOut 21 = .ok (.bipush 14, 2) := by decide +kernel
set_option maxRecDepth 100000 in
theorem dX12_getOut_23 : decode cX12_getOut 23 = .ok (.iload_n 2, 1) := by decide +kernel
set_option maxRecDepth 100000 in
theorem dX12_getOut_24 : decode cX12_getOut 24 = .ok (.iadd, 1) := by decide +kernel
set_option maxRecDepth 100000 in
theorem dX12_getOut_25 : decode cX12_getOut 25 = .ok (.iaload, 1) := by decide +kernel
set_option maxRecDepth 100000 in
theorem dX12_getOut_26 : decode cX12_getOut 26 = .ok (.invokestatic 227, 3) := by decide +kernel
set_option maxRecDepth 100000 in
theorem dX12_getOut_29 : decode cX12_getOut 29 = .ok (.aload_n 0, 1) := by decide +kernel
set_option maxRecDepth 100000 in
theorem dX12_getOut_30 : decode cX12_getOut 30 = .ok (.getfield 27, 3) := by decide +kernel
set_option maxRecDepth 100000 in
theorem dX12_getOut_33 : decode cX12_getOut 33 = .ok (.iload_n 2, 1) := by decide +kernel
set_option maxRecDepth 100000 in
theorem dX12_getOut_34 : decode cX12_getOut 34 = .ok (.iaload, 1) := by decide +kernel
set_option maxRecDepth 100000 in
theorem dX12_getOut_35 : decode cX12_getOut 35 = .ok (.if_icmp .ne 7, 3) := by decide +kernel
set_option maxRecDepth 100000 in
theorem dX12_getOut_38 : decode cX12_getOut 38 = .ok (.iconst 1, 1) := by decide +kernel
set_option maxRecDepth 100000 in
theorem dX12_getOut_39 : decode cX12_getOut 39 = .ok (.goto 4, 3) := by decide +kernel
set_option maxRecDepth 100000 in
theorem dX12_getOut_42 : decode cX12_getOut 42 = .ok (.iconst 0, 1) := by decide +kernel
set_option maxRecDepth 100000 in
theorem dX12_getOut_43 : decode cX12_getOut 43 = .ok (.istore_n 3, 1) := by decide +kernel
set_option maxRecDepth 100000 in
theorem dX12_getOut_44 : decode cX12_getOut 44 = .ok (.aload_n 1, 1) := by decide +kernel
set_option maxRecDepth 100000 in
theorem dX12_getOut_45 : decode cX12_getOut 45 = .ok (.bipush 14, 2) := by decide +kernel
set_option maxRecDepth 100000 in
theorem dX12_getOut_47 : decode cX12_getOut 47 = .ok (.iload_n 2, 1) := by decide +kernel
set_option maxRecDepth 100000 in
theorem dX12_getOut_48 : decode cX12_getOut 48 = .ok (.iadd, 1) := by decide +kernel
set_option maxRecDepth 100000 in
theorem dX12_getOut_49 : decode cX12_getOut 49 = .ok (.iload_n 3, 1) := by decide +kernel
set_option maxRecDepth 100000 in
theorem dX12_getOut_50 : decode cX12_getOut 50 = .ok (.ifCond .eq 7, 3) := by decide +kernel
set_option maxRecDepth 100000 in
theorem dX12_getOut_53 : decode cX12_getOut 53 = .ok (.iconst (-1), 1) := by decide +kernel
set_option maxRecDepth 100000 in
theorem dX12_getOut_54 : decode cX12_getOut 54 = .ok (.goto 9, 3) := by decide +kernel
set_option maxRecDepth 100000 in
theorem dX12_getOut_57 : decode cX12_getOut 57 = .ok (.aload_n 1, 1) := by decide +kernel
set_option maxRecDepth 100000 in
theorem dX12_getOut_58 : decode cX12_getOut 58 = .ok (.bipush 14, 2) := by decide +kernel
set_option maxRecDepth 100000 in
theorem dX12_getOut_60 : decode cX12_getOut 60 = .ok (.iload_n 2, 1) := by decide +kernel
set_option maxRecDepth 100000 in
theorem dX12_getOut_61 : decode cX12_getOut 61 = .ok (.iadd, 1) := by decide +kernel
set_option maxRecDepth 100000 in
theorem dX12_getOut_62 : decode cX12_getOut 62 = .ok (.iaload, 1) := by decide +kernel
set_option maxRecDepth 100000 in
theorem dX12_getOut_63 : decode cX12_getOut 63 = .ok (.iastore, 1) := by decide +kernel
set_option maxRecDepth 100000 in
theorem dX12_getOut_64 : decode cX12_getOut 64 = .ok (.iinc 2 1, 3) := by decide +kernel
set_option maxRecDepth 100000 in
theorem dX12_getOut_67 : decode cX12_getOut 67 = .ok (.goto (-65), 3) := by decide +kernel
set_option maxRecDepth 100000 in
theorem dX12_getOut_70 : decode cX12_getOut 70 = .ok (.return_, 1) := by decide +kernel
set_option maxRecDepth 100000 in
theorem dX12_goesBy_0 : decode cX12_goesBy 0 = .ok (.iconst 2, 1) := by decide +kernel
set_option maxRecDepth 100000 in
theorem dX12_goesBy_1 : decode cX12_goesBy 1 = .ok (.aload_n 1, 1) := by decide +kernel
set_option maxRecDepth 100000 in
theorem dX12_goesBy_2 : decode cX12_goesBy 2 = .ok (.iconst 0, 1) := by decide +kernel
set_option maxRecDepth 100000 in
theorem dX12_goesBy_3 : decode cX12_goesBy 3 = .ok (.iaload, 1) := by decide +kernel
set_option maxRecDepth 100000 in
theorem dX12_goesBy_4 : decode cX12_goesBy 4 = .ok (.imul, 1) := by decide +kernel
set_option maxRecDepth 100000 in
theorem dX12_goesBy_5 : decode cX12_goesBy 5 = .ok (.iload_n 2, 1) := by decide +kernel
set_option maxRecDepth 100000 in
theorem dX12_goesBy_6 : decode cX12_goesBy 6 = .ok (.iadd, 1) := by decide +kernel
set_option maxRecDepth 100000 in
theorem dX12_goesBy_7 : decode cX12_goesBy 7 = .ok (.istore_n 3, 1) := by decide +kernel
set_option maxRecDepth 100000 in
theorem dX12_goesBy_8 : decode cX12_goesBy 8 = .ok (.aload_n 1, 1) := by decide +kernel
set_option maxRecDepth 100000 in
theorem dX12_goesBy_9 : decode cX12_goesBy 9 = .ok (.iconst 1, 1) := by decide +kernel
set_option maxRecDepth 100000 in
theorem dX12_goesBy_10 : decode cX12_goesBy 10 = .ok (.dup2, 1) := by decide +kernel
set_option maxRecDepth 100000 in
theorem dX12_goesBy_11 : decode cX12_goesBy 11 = .ok (.iaload, 1) := by decide +kernel
set_option maxRecDepth 100000 in
theorem dX12_goesBy_12 : decode cX12_goesBy 12 = .ok (.aload_n 0, 1) := by decide +kernel
set_option maxRecDepth 100000 in
theorem dX12_goesBy_13 : decode cX12_goesBy 13 = .ok (.getfield 21, 3) := by decide +kernel
set_option maxRecDepth 100000 in
theorem dX12_goesBy_16 : decode cX12_goesBy 16 = .ok (.iload_n 3, 1) := by decide +kernel
set_option maxRecDepth 100000 in
theorem dX12_goesBy_17 : decode cX12_goesBy 17 = .ok (.iaload, 1) := by decide +kernel
set_option maxRecDepth 100000 in
theorem dX12_goesBy_18 : decode cX12_goesBy 18 = .ok (.iadd, 1) := by decide +kernel
set_option maxRecDepth 100000 in
theorem dX12_goesBy_19 : decode cX12_goesBy 19 = .ok (.iastore, 1) := by decide +kernel
set_option maxRecDepth 100000 in
theorem dX12_goesBy_20 : decode cX12_goesBy 20 = .ok (.aload_n 1, 1) := by decide +kernel
set_option maxRecDepth 100000 in
theorem dX12_goesBy_21 : decode cX12_goesBy 21 = .ok (.iconst 0, 1) := by decide +kernel
set_option maxRecDepth 100000 in
theorem dX12_goesBy_22 : decode cX12_goesBy 22 = .ok (.aload_n 0, 1) := by decide +kernel
set_option maxRecDepth 100000 in
theorem dX12_goesBy_23 : decode cX12_goesBy 23 = .ok (.getfield 17, 3) := by decide +kernel
set_option maxRecDepth 100000 in
theorem dX12_goesBy_26 : decode cX12_goesBy 26 = .ok (.iload_n 3, 1) := by decide +kernel
set_option maxRecDepth 100000 in
theorem dX12_goesBy_27 : decode cX12_goesBy 27 = .ok (.iaload, 1) := by decide +kernel
set_option maxRecDepth 100000 in
theorem dX12_goesBy_28 : decode cX12_goesBy 28 = .ok (.iastore, 1) := by decide +kernel
set_option maxRecDepth 100000 in
theorem dX12_goesBy_29 : decode cX12_goesBy 29 = .ok (.aload_n 0, 1) := by decide +kernel
set_option maxRecDepth 100000 in
theorem dX12_goesBy_30 : decode cX12_goesBy 30 = .ok (.aload_n 1, 1) := by decide +kernel
set_option maxRecDepth 100000 in
theorem dX12_goesBy_31 : decode cX12_goesBy 31 = .ok (.invokevirtual 338, 3) := by decide +kernel
set_option maxRecDepth 100000 in
theorem dX12_goesBy_34 : decode cX12_goesBy 34 = .ok (.return_, 1) := by decide +kernel
set_option maxRecDepth 100000 in
theorem dX12_isCourse_0 : decode cX12_isCourse 0 = .ok (.iload_n 0, 1) := by decide +kernel
set_option maxRecDepth 100000 in
theorem dX12_isCourse_1 : decode cX12_isCourse 1 = .ok (.iconst 2, 1) := by decide +kernel
set_option maxRecDepth 100000 in
theorem dX12_isCourse_2 : decode cX12_isCourse 2 = .ok (.if_icmp .eq 17, 3) := by decide +kernel
set_option maxRecDepth 100000 in
theorem dX12_isCourse_5 : decode cX12_isCourse 5 = .ok (.aload_n 1, 1) := by decide +kernel
set_option maxRecDepth 100000 in
theorem dX12_isCourse_6 : decode cX12_isCourse 6 = .ok (.iconst 2, 1) := by decide +kernel
set_option maxRecDepth 100000 in
theorem dX12_isCourse_7 : decode cX12_isCourse 7 = .ok (.iload_n 2, 1) := by decide +kernel
set_option maxRecDepth 100000 in
theorem dX12_isCourse_8 : decode cX12_isCourse 8 = .ok (.imul, 1) := by decide +kernel
set_option maxRecDepth 100000 in
theorem dX12_isCourse_9 : decode cX12_isCourse 9 = .ok (.iload_n 0, 1) := by decide +kernel
set_option maxRecDepth 100000 in
theorem dX12_isCourse_10 : decode cX12_isCourse 10 = .ok (.iadd, 1) := by decide +kernel
set_option maxRecDepth 100000 in
theorem dX12_isCourse_11 : decode cX12_isCourse 11 = .ok (.iaload, 1) := by decide +kernel
set_option maxRecDepth 100000 in
theorem dX12_isCourse_12 : decode cX12_isCourse 12 = .ok (.ifCond .lt 7, 3) := by decide +kernel
set_option maxRecDepth 100000 in
theorem dX12_isCourse_15 : decode cX12_isCourse 15 = .ok (.iconst 1, 1) := by decide +kernel
set_option maxRecDepth 100000 in
theorem dX12_isCourse_16 : decode cX12_isCourse 16 = .ok (.goto 4, 3) := by decide +kernel
set_option maxRecDepth 100000 in
theorem dX12_isCourse_19 : decode cX12_isCourse 19 = .ok (.iconst 0, 1) := by decide +kernel
set_option maxRecDepth 100000 in
theorem dX12_isCourse_20 : decode cX12_isCourse 20 = .ok (.ireturn, 1) := by decide +kernel
set_option maxRecDepth 100000 in
theorem dX12_goingAlong_0 : decode cX12_goingAlong 0 = .ok (.iconst 0, 1) := by decide +kernel
set_option maxRecDepth 100000 in
theorem dX12_goingAlong_1 : decode cX12_goingAlong 1 = .ok (.istore_n 3, 1) := by decide +kernel
set_option maxRecDepth 100000 in
theorem dX12_goingAlong_2 : decode cX12_goingAlong 2 = .ok (.iload_n 3, 1) := by decide +kernel
set_option maxRecDepth 100000 in
theorem dX12_goingAlong_3 : decode cX12_goingAlong 3 = .ok (.aload_n 0, 1) := by decide +kernel
set_option maxRecDepth 100000 in
theorem dX12_goingAlong_4 : decode cX12_goingAlong 4 = .ok (.aload_n 1, 1) := by decide +kernel
set_option maxRecDepth 100000 in
theorem dX12_goingAlong_5 : decode cX12_goingAlong 5 = .ok (.invokevirtual 217, 3) := by decide +kernel
set_option maxRecDepth 100000 in
theorem dX12_goingAlong_8 : decode cX12_goingAlong 8 = .ok (.if_icmp .ge 24, 3) := by decide +kernel
set_option maxRecDepth 100000 in
theorem dX12_goingAlong_11 : decode cX12_goingAlong 11 = .ok (.aload_n 0, 1) := by decide +kernel
set_option maxRecDepth 100000 in
theorem dX12_goingAlong_12 : decode cX12_goingAlong 12 = .ok (.aload_n 1, 1) := by decide +kernel
set_option maxRecDepth 100000 in
theorem dX12_goingAlong_13 : decode cX12_goingAlong 13 = .ok (.aload_n 0, 1) := by decide +kernel
set_option maxRecDepth 100000 in
theorem dX12_goingAlong_14 : decode cX12_goingAlong 14 = .ok (.aload_n 1, 1) := by decide +kernel
set_option maxRecDepth 100000 in
theorem dX12_goingAlong_15 : decode cX12_goingAlong 15 = .ok (.iload_n 3, 1) := by decide +kernel
set_option maxRecDepth 100000 in
theorem dX12_goingAlong_16 : decode cX12_goingAlong 16 = .ok (.invokevirtual 342, 3) := by decide +kernel
set_option maxRecDepth 100000 in
theorem dX12_goingAlong_19 : decode cX12_goingAlong 19 = .ok (.invokevirtual 322, 3) := by decide +kernel
set_option maxRecDepth 100000 in
theorem dX12_goingAlong_22 : decode cX12_goingAlong 22 = .ok (.iload_n 2, 1) := by decide +kernel
set_option maxRecDepth 100000 in
theorem dX12_goingAlong_23 : decode cX12_goingAlong 23 = .ok (.if_icmp .ne 9, 3) := by decide +kernel
set_option maxRecDepth 100000 in
theorem dX12_goingAlong_26 : decode cX12_goingAlong 26 = .ok (.iinc 3 1, 3) := by decide +kernel
set_option maxRecDepth 100000 in
theorem dX12_goingAlong_29 : decode cX12_goingAlong 29 = .ok (.goto (-27), 3) := by decide +kernel
set_option maxRecDepth 100000 in
theorem dX12_goingAlong_32 : decode cX12_goingAlong 32 = .ok (.iload_n 3, 1) := by decide +kernel
set_option maxRecDepth 100000 in
theorem dX12_goingAlong_33 : decode cX12_goingAlong 33 = .ok (.ireturn, 1) := by decide +kernel
set_option maxRecDepth 100000 in
theorem dX12_runsBy_0 : decode cX12_runsBy 0 = .ok (.aload_n 0, 1) := by decide +kernel
set_option maxRecDepth 100000 in
theorem dX12_runsBy_1 : decode cX12_runsBy 1 = .ok (.iconst 0, 1) := by decide +kernel
set_option maxRecDepth 100000 in
theorem dX12_runsBy_2 : decode cX12_runsBy 2 = .ok (.putfield 335, 3) := by decide +kernel
set_option maxRecDepth 100000 in
theorem dX12_runsBy_5 : decode cX12_runsBy 5 = .ok (.iload_n 2, 1) := by decide +kernel
set_option maxRecDepth 100000 in
theorem dX12_runsBy_6 : decode cX12_runsBy 6 = .ok (.aload_n 0, 1) := by decide +kernel
set_option maxRecDepth 100000 in
theorem dX12_runsBy_7 : decode cX12_runsBy 7 = .ok (.getfield 17, 3) := by decide +kernel
set_option maxRecDepth 100000 in
theorem dX12_runsBy_10 : decode cX12_runsBy 10 = .ok (.aload_n 1, 1) := by decide +kernel
set_option maxRecDepth 100000 in
theorem dX12_runsBy_11 : decode cX12_runsBy 11 = .ok (.iconst 0, 1) := by decide +kernel
set_option maxRecDepth 100000 in
theorem dX12_runsBy_12 : decode cX12_runsBy 12 = .ok (.iaload, 1) := by decide +kernel
set_option maxRecDepth 100000 in
theorem dX12_runsBy_13 : decode cX12_runsBy 13 = .ok (.invokestatic 345, 3) := by decide +kernel
set_option maxRecDepth 100000 in
theorem dX12_runsBy_16 : decode cX12_runsBy 16 = .ok (.ifCond .ne 12, 3) := by decide +kernel
set_option maxRecDepth 100000 in
theorem dX12_runsBy_19 : decode cX12_runsBy 19 = .ok (.aload_n 1, 1) := by decide +kernel
set_option maxRecDepth 100000 in
theorem dX12_runsBy_20 : decode cX12_runsBy 20 = .ok (.iconst 1, 1) := by decide +kernel
set_option maxRecDepth 100000 in
theorem dX12_runsBy_21 : decode cX12_runsBy 21 = .ok (.dup2, 1) := by decide +kernel
set_option maxRecDepth 100000 in
theorem dX12_runsBy_22 : decode cX12_runsBy 22 = .ok (.iaload, 1) := by decide +kernel
set_option maxRecDepth 100000 in
theorem dX12_runsBy_23 : decode cX12_runsBy 23 = .ok (.iconst 1, 1) := by decide +kernel
set_option maxRecDepth 100000 in
theorem dX12_runsBy_24 : decode cX12_runsBy 24 = .ok (.iadd, 1) := by decide +kernel
set_option maxRecDepth 100000 in
theorem dX12_runsBy_25 : decode cX12_runsBy 25 = .ok (.iastore, 1) := by decide +kernel
set_option maxRecDepth 100000 in
theorem dX12_runsBy_26 : decode cX12_runsBy 26 = .ok (.iconst 2, 1) := by decide +kernel
set_option maxRecDepth 100000 in
theorem dX12_runsBy_27 : decode cX12_runsBy 27 = .ok (.ireturn, 1) := by decide +kernel
set_option maxRecDepth 100000 in
theorem dX12_runsBy_28 : decode cX12_runsBy 28 = .ok (.aload_n 0, 1) := by decide +kernel
set_option maxRecDepth 100000 in
theorem dX12_runsBy_29 : decode cX12_runsBy 29 = .ok (.aload_n 1, 1) := by decide +kernel
set_option maxRecDepth 100000 in
theorem dX12_runsBy_30 : decode cX12_runsBy 30 = .ok (.aload_n 0, 1) := by decide +kernel
set_option maxRecDepth 100000 in
theorem dX12_runsBy_31 : decode cX12_runsBy 31 = .ok (.aload_n 1, 1) := by decide +kernel
set_option maxRecDepth 100000 in
theorem dX12_runsBy_32 : decode cX12_runsBy 32 = .ok (.iload_n 2, 1) := by decide +kernel
set_option maxRecDepth 100000 in
theorem dX12_runsBy_33 : decode cX12_runsBy 33 = .ok (.invokevirtual 349, 3) := by decide +kernel
set_option maxRecDepth 100000 in
theorem dX12_runsBy_36 : decode cX12_runsBy 36 = .ok (.invokevirtual 352, 3) := by decide +kernel
set_option maxRecDepth 100000 in
theorem dX12_runsBy_39 : decode cX12_runsBy 39 = .ok (.aload_n 0, 1) := by decide +kernel
set_option maxRecDepth 100000 in
theorem dX12_runsBy_40 : decode cX12_runsBy 40 = .ok (.aload_n 1, 1) := by decide +kernel
set_option maxRecDepth 100000 in
theorem dX12_runsBy_41 : decode cX12_runsBy 41 = .ok (.iload_n 2, 1) := by decide +kernel
set_option maxRecDepth 100000 in
theorem dX12_runsBy_42 : decode cX12_runsBy 42 = .ok (.invokevirtual 355, 3) := by decide +kernel
set_option maxRecDepth 100000 in
theorem dX12_runsBy_45 : decode cX12_runsBy 45 = .ok (.iload_n 2, 1) := by decide +kernel
set_option maxRecDepth 100000 in
theorem dX12_runsBy_46 : decode cX12_runsBy 46 = .ok (.ireturn, 1) := by decide +kernel
set_option maxRecDepth 100000 in
theorem dX12_runs_0 : decode cX12_runs 0 = .ok (.aload_n 0, 1) := by decide +kernel
set_option maxRecDepth 100000 in
theorem dX12_runs_1 : decode cX12_runs 1 = .ok (.aload_n 1, 1) := by decide +kernel
set_option maxRecDepth 100000 in
theorem dX12_runs_2 : decode cX12_runs 2 = .ok (.aload_n 0, 1) := by decide +kernel
set_option maxRecDepth 100000 in
theorem dX12_runs_3 : decode cX12_runs 3 = .ok (.aload_n 1, 1) := by decide +kernel
set_option maxRecDepth 100000 in
theorem dX12_runs_4 : decode cX12_runs 4 = .ok (.invokevirtual 358, 3) := by decide +kernel
set_option maxRecDepth 100000 in
theorem dX12_runs_7 : decode cX12_runs 7 = .ok (.invokevirtual 361, 3) := by decide +kernel
set_option maxRecDepth 100000 in
theorem dX12_runs_10 : decode cX12_runs 10 = .ok (.ireturn, 1) := by decide +kernel
set_option maxRecDepth 100000 in
theorem dX12_goes_0 : decode cX12_goes 0 = .ok (.iload_n 2, 1) := by decide +kernel
set_option maxRecDepth 100000 in
theorem dX12_goes_1 : decode cX12_goes 1 = .ok (.i2l, 1) := by decide +kernel
set_option maxRecDepth 100000 in
theorem dX12_goes_2 : decode cX12_goes 2 = .ok (.lconst 0, 1) := by decide +kernel
set_option maxRecDepth 100000 in
theorem dX12_goes_3 : decode cX12_goes 3 = .ok (.lconst 1, 1) := by decide +kernel
set_option maxRecDepth 100000 in
theorem dX12_goes_4 : decode cX12_goes 4 = .ok (.invokestatic 120, 3) := by decide +kernel
set_option maxRecDepth 100000 in
theorem dX12_goes_7 : decode cX12_goes 7 = .ok (.ifCond .eq 18, 3) := by decide +kernel
set_option maxRecDepth 100000 in
theorem dX12_goes_10 : decode cX12_goes 10 = .ok (.iload_n 3, 1) := by decide +kernel
set_option maxRecDepth 100000 in
theorem dX12_goes_11 : decode cX12_goes 11 = .ok (.i2l, 1) := by decide +kernel
set_option maxRecDepth 100000 in
theorem dX12_goes_12 : decode cX12_goes 12 = .ok (.lconst 0, 1) := by decide +kernel
set_option maxRecDepth 100000 in
theorem dX12_goes_13 : decode cX12_goes 13 = .ok (.aload_n 0, 1) := by decide +kernel
set_option maxRecDepth 100000 in
theorem dX12_goes_14 : decode cX12_goes 14 = .ok (.aload_n 1, 1) := by decide +kernel
set_option maxRecDepth 100000 in
theorem dX12_goes_15 : decode cX12_goes 15 = .ok (.invokevirtual 217, 3) := by decide +kernel
set_option maxRecDepth 100000 in
theorem dX12_goes_18 : decode cX12_goes 18 = .ok (.i2l, 1) := by decide +kernel
set_option maxRecDepth 100000 in
theorem dX12_goes_19 : decode cX12_goes 19 = .ok (.invokestatic 120, 3) := by decide +kernel
set_option maxRecDepth 100000 in
theorem dX12_goes_22 : decode cX12_goes 22 = .ok (.ifCond .ne 5, 3) := by decide +kernel
set_option maxRecDepth 100000 in
theorem dX12_goes_25 : decode cX12_goes 25 = .ok (.iconst (-1), 1) := by decide +kernel
set_option maxRecDepth 100000 in
theorem dX12_goes_26 : decode cX12_goes 26 = .ok (.ireturn, 1) := by decide +kernel
set_option maxRecDepth 100000 in
theorem dX12_goes_27 : decode cX12_goes 27 = .ok (.iload_n 2, 1) := by decide +kernel
set_option maxRecDepth 100000 in
theorem dX12_goes_28 : decode cX12_goes 28 = .ok (.aload_n 0, 1) := by decide +kernel
set_option maxRecDepth 100000 in
theorem dX12_goes_29 : decode cX12_goes 29 = .ok (.getfield 17, 3) := by decide +kernel
set_option maxRecDepth 100000 in
theorem dX12_goes_32 : decode cX12_goes 32 = .ok (.aload_n 1, 1) := by decide +kernel
set_option maxRecDepth 100000 in
theorem dX12_goes_33 : decode cX12_goes 33 = .ok (.iconst 0, 1) := by decide +kernel
set_option maxRecDepth 100000 in
theorem dX12_goes_34 : decode cX12_goes 34 = .ok (.iaload, 1) := by decide +kernel
set_option maxRecDepth 100000 in
theorem dX12_goes_35 : decode cX12_goes 35 = .ok (.invokestatic 345, 3) := by decide +kernel
set_option maxRecDepth 100000 in
theorem dX12_goes_38 : decode cX12_goes 38 = .ok (.ifCond .ne 6, 3) := by decide +kernel
set_option maxRecDepth 100000 in
theorem dX12_goes_41 : decode cX12_goes 41 = .ok (.bipush (-2), 2) := by decide +kernel
set_option maxRecDepth 100000 in
theorem dX12_goes_43 : decode cX12_goes 43 = .ok (.ireturn, 1) := by decide +kernel
set_option maxRecDepth 100000 in
theorem dX12_goes_44 : decode cX12_goes 44 = .ok (.aload_n 1, 1) := by decide +kernel
set_option maxRecDepth 100000 in
theorem dX12_goes_45 : decode cX12_goes 45 = .ok (.iconst 1, 1) := by decide +kernel
set_option maxRecDepth 100000 in
theorem dX12_goes_46 : decode cX12_goes 46 = .ok (.iaload, 1) := by decide +kernel
set_option maxRecDepth 100000 in
theorem dX12_goes_47 : decode cX12_goes 47 = .ok (.istore 4, 2) := by decide +kernel
set_option maxRecDepth 100000 in
theorem dX12_goes_49 : decode cX12_goes 49 = .ok (.aload_n 0, 1) := by decide +kernel
set_option maxRecDepth 100000 in
theorem dX12_goes_50 : decode cX12_goes 50 = .ok (.aload_n 1, 1) := by decide +kernel
set_option maxRecDepth 100000 in
theorem dX12_goes_51 : decode cX12_goes 51 = .ok (.iload_n 3, 1) := by decide +kernel
set_option maxRecDepth 100000 in
theorem dX12_goes_52 : decode cX12_goes 52 = .ok (.invokevirtual 352, 3) := by decide +kernel
set_option maxRecDepth 100000 in
theorem dX12_goes_55 : decode cX12_goes 55 = .ok (.aload_n 0, 1) := by decide +kernel
set_option maxRecDepth 100000 in
theorem dX12_goes_56 : decode cX12_goes 56 = .ok (.aload_n 1, 1) := by decide +kernel
set_option maxRecDepth 100000 in
theorem dX12_goes_57 : decode cX12_goes 57 = .ok (.iload_n 2, 1) := by decide +kernel
set_option maxRecDepth 100000 in
theorem dX12_goes_58 : decode cX12_goes 58 = .ok (.invokevirtual 355, 3) := by decide +kernel
set_option maxRecDepth 100000 in
theorem dX12_goes_61 : decode cX12_goes 61 = .ok (.aload_n 1, 1) := by decide +kernel
set_option maxRecDepth 100000 in
theorem dX12_goes_62 : decode cX12_goes 62 = .ok (.iconst 1, 1) := by decide +kernel
set_option maxRecDepth 100000 in
theorem dX12_goes_63 : decode cX12_goes 63 = .ok (.iaload, 1) := by decide +kernel
set_option maxRecDepth 100000 in
theorem dX12_goes_64 : decode cX12_goes 64 = .ok (.iload 4, 2) := by decide +kernel
set_option maxRecDepth 100000 in
theorem dX12_goes_66 : decode cX12_goes 66 = .ok (.isub, 1) := by decide +kernel
set_option maxRecDepth 100000 in
theorem dX12_goes_67 : decode cX12_goes 67 = .ok (.ireturn, 1) := by decide +kernel
set_option maxRecDepth 100000 in
theorem dX12_couples_0 : decode cX12_couples 0 = .ok (.aload_n 0, 1) := by decide +kernel
set_option maxRecDepth 100000 in
theorem dX12_couples_1 : decode cX12_couples 1 = .ok (.aload_n 1, 1) := by decide +kernel
set_option maxRecDepth 100000 in
theorem dX12_couples_2 : decode cX12_couples 2 = .ok (.aload_n 1, 1) := by decide +kernel
set_option maxRecDepth 100000 in
theorem dX12_couples_3 : decode cX12_couples 3 = .ok (.iconst 0, 1) := by decide +kernel
set_option maxRecDepth 100000 in
theorem dX12_couples_4 : decode cX12_couples 4 = .ok (.iaload, 1) := by decide +kernel
set_option maxRecDepth 100000 in
theorem dX12_couples_5 : decode cX12_couples 5 = .ok (.invokevirtual 314, 3) := by decide +kernel
set_option maxRecDepth 100000 in
theorem dX12_couples_8 : decode cX12_couples 8 = .ok (.istore_n 2, 1) := by decide +kernel
set_option maxRecDepth 100000 in
theorem dX12_couples_9 : decode cX12_couples 9 = .ok (.iconst 0, 1) := by decide +kernel
set_option maxRecDepth 100000 in
theorem dX12_couples_10 : decode cX12_couples 10 = .ok (.istore_n 3, 1) := by decide +kernel
set_option maxRecDepth 100000 in
theorem dX12_couples_11 : decode cX12_couples 11 = .ok (.iload_n 3, 1) := by decide +kernel
set_option maxRecDepth 100000 in
theorem dX12_couples_12 : decode cX12_couples 12 = .ok (.aload_n 0, 1) := by decide +kernel
set_option maxRecDepth 100000 in
theorem dX12_couples_13 : decode cX12_couples 13 = .ok (.getfield 124, 3) := by decide +kernel
set_option maxRecDepth 100000 in
theorem dX12_couples_16 : decode cX12_couples 16 = .ok (.if_icmp .ge 31, 3) := by decide +kernel
set_option maxRecDepth 100000 in
theorem dX12_couples_19 : decode cX12_couples 19 = .ok (.iload_n 2, 1) := by decide +kernel
set_option maxRecDepth 100000 in
theorem dX12_couples_20 : decode cX12_couples 20 = .ok (.iload_n 3, 1) := by decide +kernel
set_option maxRecDepth 100000 in
theorem dX12_couples_21 : decode cX12_couples 21 = .ok (.invokestatic 288, 3) := by decide +kernel
set_option maxRecDepth 100000 in
theorem dX12_couples_24 : decode cX12_couples 24 = .ok (.ifCond .eq 17, 3) := by decide +kernel
set_option maxRecDepth 100000 in
theorem dX12_couples_27 : decode cX12_couples 27 = .ok (.aload_n 1, 1) := by decide +kernel
set_option maxRecDepth 100000 in
theorem dX12_couples_28 : decode cX12_couples 28 = .ok (.iconst 2, 1) := by decide +kernel
set_option maxRecDepth 100000 in
theorem dX12_couples_29 : decode cX12_couples 29 = .ok (.iconst 2, 1) := by decide +kernel
set_option maxRecDepth 100000 in
theorem dX12_couples_30 : decode cX12_couples 30 = .ok (.iload_n 3, 1) := by decide +kernel
set_option maxRecDepth 100000 in
theorem dX12_couples_31 : decode cX12_couples 31 = .ok (.imul, 1) := by decide +kernel
set_option maxRecDepth 100000 in
theorem dX12_couples_32 : decode cX12_couples 32 = .ok (.iadd, 1) := by decide +kernel
set_option maxRecDepth 100000 in
theorem dX12_couples_33 : decode cX12_couples 33 = .ok (.iconst 1, 1) := by decide +kernel
set_option maxRecDepth 100000 in
theorem dX12_couples_34 : decode cX12_couples 34 = .ok (.iadd, 1) := by decide +kernel
set_option maxRecDepth 100000 in
theorem dX12_couples_35 : decode cX12_couples 35 = .ok (.aload_n 0, 1) := by decide +kernel
set_option maxRecDepth 100000 in
theorem dX12_couples_36 : decode cX12_couples 36 = .ok (.aload_n 1, 1) := by decide +kernel
set_option maxRecDepth 100000 in
theorem dX12_couples_37 : decode cX12_couples 37 = .ok (.invokevirtual 217, 3) := by decide +kernel
set_option maxRecDepth 100000 in
theorem dX12_couples_40 : decode cX12_couples 40 = .ok (.iastore, 1) := by decide +kernel
set_option maxRecDepth 100000 in
theorem dX12_couples_41 : decode cX12_couples 41 = .ok (.iinc 3 1, 3) := by decide +kernel
set_option maxRecDepth 100000 in
theorem dX12_couples_44 : decode cX12_couples 44 = .ok (.goto (-33), 3) := by decide +kernel
set_option maxRecDepth 100000 in
theorem dX12_couples_47 : decode cX12_couples 47 = .ok (.iload_n 2, 1) := by decide +kernel
set_option maxRecDepth 100000 in
theorem dX12_couples_48 : decode cX12_couples 48 = .ok (.ifCond .ne 8, 3) := by decide +kernel
set_option maxRecDepth 100000 in
theorem dX12_couples_51 : decode cX12_couples 51 = .ok (.bipush (-2), 2) := by decide +kernel
set_option maxRecDepth 100000 in
theorem dX12_couples_53 : decode cX12_couples 53 = .ok (.goto 7, 3) := by decide +kernel
set_option maxRecDepth 100000 in
theorem dX12_couples_56 : decode cX12_couples 56 = .ok (.iload_n 2, 1) := by decide +kernel
set_option maxRecDepth 100000 in
theorem dX12_couples_57 : decode cX12_couples 57 = .ok (.invokestatic 273, 3) := by decide +kernel
set_option maxRecDepth 100000 in
theorem dX12_couples_60 : decode cX12_couples 60 = .ok (.ireturn, 1) := by decide +kernel
set_option maxRecDepth 100000 in
theorem dX12_cuts_0 : decode cX12_cuts 0 = .ok (.iload_n 2, 1) := by decide +kernel
set_option maxRecDepth 100000 in
theorem dX12_cuts_1 : decode cX12_cuts 1 = .ok (.i2l, 1) := by decide +kernel
set_option maxRecDepth 100000 in
theorem dX12_cuts_2 : decode cX12_cuts 2 = .ok (.lconst 1, 1) := by decide +kernel
set_option maxRecDepth 100000 in
theorem dX12_cuts_3 : decode cX12_cuts 3 = .ok (.aload_n 0, 1) := by decide +kernel
set_option maxRecDepth 100000 in
theorem dX12_cuts_4 : decode cX12_cuts 4 = .ok (.aload_n 1, 1) := by decide +kernel
set_option maxRecDepth 100000 in
theorem dX12_cuts_5 : decode cX12_cuts 5 = .ok (.invokevirtual 217, 3) := by decide +kernel
set_option maxRecDepth 100000 in
theorem dX12_cuts_8 : decode cX12_cuts 8 = .ok (.i2l, 1) := by decide +kernel
set_option maxRecDepth 100000 in
theorem dX12_cuts_9 : decode cX12_cuts 9 = .ok (.invokestatic 120, 3) := by decide +kernel
set_option maxRecDepth 100000 in
theorem dX12_cuts_12 : decode cX12_cuts 12 = .ok (.ifCond .ne 5, 3) := by decide +kernel
set_option maxRecDepth 100000 in
theorem dX12_cuts_15 : decode cX12_cuts 15 = .ok (.iconst (-1), 1) := by decide +kernel
set_option maxRecDepth 100000 in
theorem dX12_cuts_16 : decode cX12_cuts 16 = .ok (.ireturn, 1) := by decide +kernel
set_option maxRecDepth 100000 in
theorem dX12_cuts_17 : decode cX12_cuts 17 = .ok (.aload_n 0, 1) := by decide +kernel
set_option maxRecDepth 100000 in
theorem dX12_cuts_18 : decode cX12_cuts 18 = .ok (.aload_n 1, 1) := by decide +kernel
set_option maxRecDepth 100000 in
theorem dX12_cuts_19 : decode cX12_cuts 19 = .ok (.aload_n 0, 1) := by decide +kernel
set_option maxRecDepth 100000 in
theorem dX12_cuts_20 : decode cX12_cuts 20 = .ok (.aload_n 1, 1) := by decide +kernel
set_option maxRecDepth 100000 in
theorem dX12_cuts_21 : decode cX12_cuts 21 = .ok (.invokevirtual 217, 3) := by decide +kernel
set_option maxRecDepth 100000 in
theorem dX12_cuts_24 : decode cX12_cuts 24 = .ok (.iload_n 2, 1) := by decide +kernel
set_option maxRecDepth 100000 in
theorem dX12_cuts_25 : decode cX12_cuts 25 = .ok (.isub, 1) := by decide +kernel
set_option maxRecDepth 100000 in
theorem dX12_cuts_26 : decode cX12_cuts 26 = .ok (.invokevirtual 352, 3) := by decide +kernel
set_option maxRecDepth 100000 in
theorem dX12_cuts_29 : decode cX12_cuts 29 = .ok (.aload_n 0, 1) := by decide +kernel
set_option maxRecDepth 100000 in
theorem dX12_cuts_30 : decode cX12_cuts 30 = .ok (.aload_n 1, 1) := by decide +kernel
set_option maxRecDepth 100000 in
theorem dX12_cuts_31 : decode cX12_cuts 31 = .ok (.invokevirtual 217, 3) := by decide +kernel
set_option maxRecDepth 100000 in
theorem dX12_cuts_34 : decode cX12_cuts 34 = .ok (.ireturn, 1) := by decide +kernel
set_option maxRecDepth 100000 in
theorem dX12_walks_0 : decode cX12_walks 0 = .ok (.aload_n 0, 1) := by decide +kernel
set_option maxRecDepth 100000 in
theorem dX12_walks_1 : decode cX12_walks 1 = .ok (.iload_n 2, 1) := by decide +kernel
set_option maxRecDepth 100000 in
theorem dX12_walks_2 : decode cX12_walks 2 = .ok (.invokevirtual 325, 3) := by decide +kernel
set_option maxRecDepth 100000 in
theorem dX12_walks_5 : decode cX12_walks 5 = .ok (.ifCond .eq 11, 3) := by decide +kernel
set_option maxRecDepth 100000 in
theorem dX12_walks_8 : decode cX12_walks 8 = .ok (.aload_n 0, 1) := by decide +kernel
set_option maxRecDepth 100000 in
theorem dX12_walks_9 : decode cX12_walks 9 = .ok (.iload_n 3, 1) := by decide +kernel
set_option maxRecDepth 100000 in
theorem dX12_walks_10 : decode cX12_walks 10 = .ok (.invokevirtual 317, 3) := by decide +kernel
set_option maxRecDepth 100000 in
theorem dX12_walks_13 : decode cX12_walks 13 = .ok (.ifCond .ne 5, 3) := by decide +kernel
set_option maxRecDepth 100000 in
theorem dX12_walks_16 : decode cX12_walks 16 = .ok (.iconst (-1), 1) := by decide +kernel
set_option maxRecDepth 100000 in
theorem dX12_walks_17 : decode cX12_walks 17 = .ok (.ireturn, 1) := by decide +kernel
set_option maxRecDepth 100000 in
theorem dX12_walks_18 : decode cX12_walks 18 = .ok (.aload_n 1, 1) := by decide +kernel
set_option maxRecDepth 100000 in
theorem dX12_walks_19 : decode cX12_walks 19 = .ok (.bipush 14, 2) := by decide +kernel
set_option maxRecDepth 100000 in
theorem dX12_walks_21 : decode cX12_walks 21 = .ok (.iload_n 2, 1) := by decide +kernel
set_option maxRecDepth 100000 in
theorem dX12_walks_22 : decode cX12_walks 22 = .ok (.iadd, 1) := by decide +kernel
set_option maxRecDepth 100000 in
theorem dX12_walks_23 : decode cX12_walks 23 = .ok (.iaload, 1) := by decide +kernel
set_option maxRecDepth 100000 in
theorem dX12_walks_24 : decode cX12_walks 24 = .ok (.istore 4, 2) := by decide +kernel
set_option maxRecDepth 100000 in
theorem dX12_walks_26 : decode cX12_walks 26 = .ok (.iload 4, 2) := by decide +kernel
set_option maxRecDepth 100000 in
theorem dX12_walks_28 : decode cX12_walks 28 = .ok (.ifCond .ge 6, 3) := by decide +kernel
set_option maxRecDepth 100000 in
theorem dX12_walks_31 : decode cX12_walks 31 = .ok (.bipush (-2), 2) := by decide +kernel
set_option maxRecDepth 100000 in
theorem dX12_walks_33 : decode cX12_walks 33 = .ok (.ireturn, 1) := by decide +kernel
set_option maxRecDepth 100000 in
theorem dX12_walks_34 : decode cX12_walks 34 = .ok (.aload_n 1, 1) := by decide +kernel
set_option maxRecDepth 100000 in
theorem dX12_walks_35 : decode cX12_walks 35 = .ok (.iload 4, 2) := by decide +kernel
set_option maxRecDepth 100000 in
theorem dX12_walks_37 : decode cX12_walks 37 = .ok (.invokestatic 130, 3) := by decide +kernel
set_option maxRecDepth 100000 in
theorem dX12_walks_40 : decode cX12_walks 40 = .ok (.ifCond .lt 15, 3) := by decide +kernel
set_option maxRecDepth 100000 in
theorem dX12_walks_43 : decode cX12_walks 43 = .ok (.aload_n 1, 1) := by decide +kernel
set_option maxRecDepth 100000 in
theorem dX12_walks_44 : decode cX12_walks 44 = .ok (.iload_n 3, 1) := by decide +kernel
set_option maxRecDepth 100000 in
theorem dX12_walks_45 : decode cX12_walks 45 = .ok (.invokestatic 130, 3) := by decide +kernel
set_option maxRecDepth 100000 in
theorem dX12_walks_48 : decode cX12_walks 48 = .ok (.ifCond .lt 7, 3) := by decide +kernel
set_option maxRecDepth 100000 in
theorem dX12_walks_51 : decode cX12_walks 51 = .ok (.iconst 1, 1) := by decide +kernel
set_option maxRecDepth 100000 in
theorem dX12_walks_52 : decode cX12_walks 52 = .ok (.goto 4, 3) := by decide +kernel
set_option maxRecDepth 100000 in
theorem dX12_walks_55 : decode cX12_walks 55 = .ok (.iconst 0, 1) := by decide +kernel
set_option maxRecDepth 100000 in
theorem dX12_walks_56 : decode cX12_walks 56 = .ok (.istore 5, 2) := by decide +kernel
set_option maxRecDepth 100000 in
theorem dX12_walks_58 : decode cX12_walks 58 = .ok (.iload 5, 2) := by decide +kernel
set_option maxRecDepth 100000 in
theorem dX12_walks_60 : decode cX12_walks 60 = .ok (.ifCond .eq 22, 3) := by decide +kernel
set_option maxRecDepth 100000 in
theorem dX12_walks_63 : decode cX12_walks 63 = .ok (.aload_n 1, 1) := by decide +kernel
set_option maxRecDepth 100000 in
theorem dX12_walks_64 : decode cX12_walks 64 = .ok (.iload 4, 2) := by decide +kernel
set_option maxRecDepth 100000 in
theorem dX12_walks_66 : decode cX12_walks 66 = .ok (.invokestatic 130, 3) := by decide +kernel
set_option maxRecDepth 100000 in
theorem dX12_walks_69 : decode cX12_walks 69 = .ok (.aload_n 1, 1) := by decide +kernel
set_option maxRecDepth 100000 in
theorem dX12_walks_70 : decode cX12_walks 70 = .ok (.iload_n 3, 1) := by decide +kernel
set_option maxRecDepth 100000 in
theorem dX12_walks_71 : decode cX12_walks 71 = .ok (.invokestatic 130, 3) := by decide +kernel
set_option maxRecDepth 100000 in
theorem dX12_walks_74 : decode cX12_walks 74 = .ok (.isub, 1) := by decide +kernel
set_option maxRecDepth 100000 in
theorem dX12_walks_75 : decode cX12_walks 75 = .ok (.invokestatic 364, 3) := by decide +kernel
set_option maxRecDepth 100000 in
theorem dX12_walks_78 : decode cX12_walks 78 = .ok (.iconst 1, 1) := by decide +kernel
set_option maxRecDepth 100000 in
theorem dX12_walks_79 : decode cX12_walks 79 = .ok (.if_icmp .eq 6, 3) := by decide +kernel
set_option maxRecDepth 100000 in
theorem dX12_walks_82 : decode cX12_walks 82 = .ok (.bipush (-3), 2) := by decide +kernel
set_option maxRecDepth 100000 in
theorem dX12_walks_84 : decode cX12_walks 84 = .ok (.ireturn, 1) := by decide +kernel
set_option maxRecDepth 100000 in
theorem dX12_walks_85 : decode cX12_walks 85 = .ok (.aload_n 1, 1) := by decide +kernel
set_option maxRecDepth 100000 in
theorem dX12_walks_86 : decode cX12_walks 86 = .ok (.bipush 14, 2) := by decide +kernel
set_option maxRecDepth 100000 in
theorem dX12_walks_88 : decode cX12_walks 88 = .ok (.iload_n 2, 1) := by decide +kernel
set_option maxRecDepth 100000 in
theorem dX12_walks_89 : decode cX12_walks 89 = .ok (.iadd, 1) := by decide +kernel
set_option maxRecDepth 100000 in
theorem dX12_walks_90 : decode cX12_walks 90 = .ok (.iload_n 3, 1) := by decide +kernel
set_option maxRecDepth 100000 in
theorem dX12_walks_91 : decode cX12_walks 91 = .ok (.iastore, 1) := by decide +kernel
set_option maxRecDepth 100000 in
theorem dX12_walks_92 : decode cX12_walks 92 = .ok (.aload_n 1, 1) := by decide +kernel
set_option maxRecDepth 100000 in
theorem dX12_walks_93 : decode cX12_walks 93 = .ok (.iconst 1, 1) := by decide +kernel
set_option maxRecDepth 100000 in
theorem dX12_walks_94 : decode cX12_walks 94 = .ok (.dup2, 1) := by decide +kernel
set_option maxRecDepth 100000 in
theorem dX12_walks_95 : decode cX12_walks 95 = .ok (.iaload, 1) := by decide +kernel
set_option maxRecDepth 100000 in
theorem dX12_walks_96 : decode cX12_walks 96 = .ok (.iconst 1, 1) := by decide +kernel
set_option maxRecDepth 100000 in
theorem dX12_walks_97 : decode cX12_walks 97 = .ok (.iadd, 1) := by decide +kernel
set_option maxRecDepth 100000 in
theorem dX12_walks_98 : decode cX12_walks 98 = .ok (.iastore, 1) := by decide +kernel
set_option maxRecDepth 100000 in
theorem dX12_walks_99 : decode cX12_walks 99 = .ok (.iload 4, 2) := by decide +kernel
set_option maxRecDepth 100000 in
theorem dX12_walks_101 : decode cX12_walks 101 = .ok (.ireturn, 1) := by decide +kernel
set_option maxRecDepth 100000 in
theorem dX12_run_0 : decode cX12_run 0 = .ok (.aload_n 0, 1) := by decide +kernel
set_option maxRecDepth 100000 in
theorem dX12_run_1 : decode cX12_run 1 = .ok (.iconst 0, 1) := by decide +kernel
set_option maxRecDepth 100000 in
theorem dX12_run_2 : decode cX12_run 2 = .ok (.putfield 106, 3) := by decide +kernel
set_option maxRecDepth 100000 in
theorem dX12_run_5 : decode cX12_run 5 = .ok (.aload_n 0, 1) := by decide +kernel
set_option maxRecDepth 100000 in
theorem dX12_run_6 : decode cX12_run 6 = .ok (.invokevirtual 367, 3) := by decide +kernel
set_option maxRecDepth 100000 in
theorem dX12_run_9 : decode cX12_run 9 = .ok (.aload_n 0, 1) := by decide +kernel
set_option maxRecDepth 100000 in
theorem dX12_run_10 : decode cX12_run 10 = .ok (.aload_n 0, 1) := by decide +kernel
set_option maxRecDepth 100000 in
theorem dX12_run_11 : decode cX12_run 11 = .ok (.getfield 33, 3) := by decide +kernel
set_option maxRecDepth 100000 in
theorem dX12_run_14 : decode cX12_run 14 = .ok (.invokevirtual 370, 3) := by decide +kernel
set_option maxRecDepth 100000 in
theorem dX12_run_17 : decode cX12_run 17 = .ok (.istore_n 1, 1) := by decide +kernel
set_option maxRecDepth 100000 in
theorem dX12_run_18 : decode cX12_run 18 = .ok (.aload_n 0, 1) := by decide +kernel
set_option maxRecDepth 100000 in
theorem dX12_run_19 : decode cX12_run 19 = .ok (.getfield 33, 3) := by decide +kernel
set_option maxRecDepth 100000 in
theorem dX12_run_22 : decode cX12_run 22 = .ok (.iconst 1, 1) := by decide +kernel
set_option maxRecDepth 100000 in
theorem dX12_run_23 : decode cX12_run 23 = .ok (.iaload, 1) := by decide +kernel
set_option maxRecDepth 100000 in
theorem dX12_run_24 : decode cX12_run 24 = .ok (.istore_n 2, 1) := by decide +kernel
set_option maxRecDepth 100000 in
theorem dX12_run_25 : decode cX12_run 25 = .ok (.aload_n 0, 1) := by decide +kernel
set_option maxRecDepth 100000 in
theorem dX12_run_26 : decode cX12_run 26 = .ok (.aload_n 0, 1) := by decide +kernel
set_option maxRecDepth 100000 in
theorem dX12_run_27 : decode cX12_run 27 = .ok (.getfield 33, 3) := by decide +kernel
set_option maxRecDepth 100000 in
theorem dX12_run_30 : decode cX12_run 30 = .ok (.invokevirtual 373, 3) := by decide +kernel
set_option maxRecDepth 100000 in
theorem dX12_run_33 : decode cX12_run 33 = .ok (.istore_n 3, 1) := by decide +kernel
set_option maxRecDepth 100000 in
theorem dX12_run_34 : decode cX12_run 34 = .ok (.aload_n 0, 1) := by decide +kernel
set_option maxRecDepth 100000 in
theorem dX12_run_35 : decode cX12_run 35 = .ok (.iconst 0, 1) := by decide +kernel
set_option maxRecDepth 100000 in
theorem dX12_run_36 : decode cX12_run 36 = .ok (.putfield 113, 3) := by decide +kernel
set_option maxRecDepth 100000 in
theorem dX12_run_39 : decode cX12_run 39 = .ok (.aload_n 0, 1) := by decide +kernel
set_option maxRecDepth 100000 in
theorem dX12_run_40 : decode cX12_run 40 = .ok (.aload_n 0, 1) := by decide +kernel
set_option maxRecDepth 100000 in
theorem dX12_run_41 : decode cX12_run 41 = .ok (.getfield 335, 3) := by decide +kernel
set_option maxRecDepth 100000 in
theorem dX12_run_44 : decode cX12_run 44 = .ok (.i2l, 1) := by decide +kernel
set_option maxRecDepth 100000 in
theorem dX12_run_45 : decode cX12_run 45 = .ok (.invokevirtual 116, 3) := by decide +kernel
set_option maxRecDepth 100000 in
theorem dX12_run_48 : decode cX12_run 48 = .ok (.aload_n 0, 1) := by decide +kernel
set_option maxRecDepth 100000 in
theorem dX12_run_49 : decode cX12_run 49 = .ok (.aload_n 0, 1) := by decide +kernel
set_option maxRecDepth 100000 in
theorem dX12_run_50 : decode cX12_run 50 = .ok (.aload_n 0, 1) := by decide +kernel
set_option maxRecDepth 100000 in
theorem dX12_run_51 : decode cX12_run 51 = .ok (.getfield 33, 3) := by decide +kernel
set_option maxRecDepth 100000 in
theorem dX12_run_54 : decode cX12_run 54 = .ok (.invokevirtual 370, 3) := by decide +kernel
set_option maxRecDepth 100000 in
theorem dX12_run_57 : decode cX12_run 57 = .ok (.iload_n 1, 1) := by decide +kernel
set_option maxRecDepth 100000 in
theorem dX12_run_58 : decode cX12_run 58 = .ok (.iconst (-1), 1) := by decide +kernel
set_option maxRecDepth 100000 in
theorem dX12_run_59 : decode cX12_run 59 = .ok (.ixor, 1) := by decide +kernel
set_option maxRecDepth 100000 in
theorem dX12_run_60 : decode cX12_run 60 = .ok (.iand, 1) := by decide +kernel
set_option maxRecDepth 100000 in
theorem dX12_run_61 : decode cX12_run 61 = .ok (.i2l, 1) := by decide +kernel
set_option maxRecDepth 100000 in
theorem dX12_run_62 : decode cX12_run 62 = .ok (.invokevirtual 116, 3) := by decide +kernel
set_option maxRecDepth 100000 in
theorem dX12_run_65 : decode cX12_run 65 = .ok (.aload_n 0, 1) := by decide +kernel
set_option maxRecDepth 100000 in
theorem dX12_run_66 : decode cX12_run 66 = .ok (.aload_n 0, 1) := by decide +kernel
set_option maxRecDepth 100000 in
theorem dX12_run_67 : decode cX12_run 67 = .ok (.getfield 33, 3) := by decide +kernel
set_option maxRecDepth 100000 in
theorem dX12_run_70 : decode cX12_run 70 = .ok (.iconst 1, 1) := by decide +kernel
set_option maxRecDepth 100000 in
theorem dX12_run_71 : decode cX12_run 71 = .ok (.iaload, 1) := by decide +kernel
set_option maxRecDepth 100000 in
theorem dX12_run_72 : decode cX12_run 72 = .ok (.iload_n 2, 1) := by decide +kernel
set_option maxRecDepth 100000 in
theorem dX12_run_73 : decode cX12_run 73 = .ok (.isub, 1) := by decide +kernel
set_option maxRecDepth 100000 in
theorem dX12_run_74 : decode cX12_run 74 = .ok (.i2l, 1) := by decide +kernel
set_option maxRecDepth 100000 in
theorem dX12_run_75 : decode cX12_run 75 = .ok (.invokevirtual 116, 3) := by decide +kernel
set_option maxRecDepth 100000 in
theorem dX12_run_78 : decode cX12_run 78 = .ok (.aload_n 0, 1) := by decide +kernel
set_option maxRecDepth 100000 in
theorem dX12_run_79 : decode cX12_run 79 = .ok (.iload_n 3, 1) := by decide +kernel
set_option maxRecDepth 100000 in
theorem dX12_run_80 : decode cX12_run 80 = .ok (.invokevirtual 332, 3) := by decide +kernel
set_option maxRecDepth 100000 in
theorem dX12_run_83 : decode cX12_run 83 = .ok (.ireturn, 1) := by decide +kernel
set_option maxRecDepth 100000 in
theorem dX12_go_0 : decode cX12_go 0 = .ok (.aload_n 0, 1) := by decide +kernel
set_option maxRecDepth 100000 in
theorem dX12_go_1 : decode cX12_go 1 = .ok (.iconst 0, 1) := by decide +kernel
set_option maxRecDepth 100000 in
theorem dX12_go_2 : decode cX12_go 2 = .ok (.putfield 106, 3) := by decide +kernel
set_option maxRecDepth 100000 in
theorem dX12_go_5 : decode cX12_go 5 = .ok (.aload_n 0, 1) := by decide +kernel
set_option maxRecDepth 100000 in
theorem dX12_go_6 : decode cX12_go 6 = .ok (.invokevirtual 367, 3) := by decide +kernel
set_option maxRecDepth 100000 in
theorem dX12_go_9 : decode cX12_go 9 = .ok (.aload_n 0, 1) := by decide +kernel
set_option maxRecDepth 100000 in
theorem dX12_go_10 : decode cX12_go 10 = .ok (.aload_n 0, 1) := by decide +kernel
set_option maxRecDepth 100000 in
theorem dX12_go_11 : decode cX12_go 11 = .ok (.getfield 33, 3) := by decide +kernel
set_option maxRecDepth 100000 in
theorem dX12_go_14 : decode cX12_go 14 = .ok (.invokevirtual 370, 3) := by decide +kernel
set_option maxRecDepth 100000 in
theorem dX12_go_17 : decode cX12_go 17 = .ok (.istore_n 3, 1) := by decide +kernel
set_option maxRecDepth 100000 in
theorem dX12_go_18 : decode cX12_go 18 = .ok (.aload_n 0, 1) := by decide +kernel
set_option maxRecDepth 100000 in
theorem dX12_go_19 : decode cX12_go 19 = .ok (.aload_n 0, 1) := by decide +kernel
set_option maxRecDepth 100000 in
theorem dX12_go_20 : decode cX12_go 20 = .ok (.getfield 33, 3) := by decide +kernel
set_option maxRecDepth 100000 in
theorem dX12_go_23 : decode cX12_go 23 = .ok (.iload_n 1, 1) := by decide +kernel
set_option maxRecDepth 100000 in
theorem dX12_go_24 : decode cX12_go 24 = .ok (.iload_n 2, 1) := by decide +kernel
set_option maxRecDepth 100000 in
theorem dX12_go_25 : decode cX12_go 25 = .ok (.invokevirtual 376, 3) := by decide +kernel
set_option maxRecDepth 100000 in
theorem dX12_go_28 : decode cX12_go 28 = .ok (.istore 4, 2) := by decide +kernel
set_option maxRecDepth 100000 in
theorem dX12_go_30 : decode cX12_go 30 = .ok (.iload 4, 2) := by decide +kernel
set_option maxRecDepth 100000 in
theorem dX12_go_32 : decode cX12_go 32 = .ok (.ifCond .ge 6, 3) := by decide +kernel
set_option maxRecDepth 100000 in
theorem dX12_go_35 : decode cX12_go 35 = .ok (.iload 4, 2) := by decide +kernel
set_option maxRecDepth 100000 in
theorem dX12_go_37 : decode cX12_go 37 = .ok (.ireturn, 1) := by decide +kernel
set_option maxRecDepth 100000 in
theorem dX12_go_38 : decode cX12_go 38 = .ok (.aload_n 0, 1) := by decide +kernel
set_option maxRecDepth 100000 in
theorem dX12_go_39 : decode cX12_go 39 = .ok (.iconst 0, 1) := by decide +kernel
set_option maxRecDepth 100000 in
theorem dX12_go_40 : decode cX12_go 40 = .ok (.putfield 113, 3) := by decide +kernel
set_option maxRecDepth 100000 in
theorem dX12_go_43 : decode cX12_go 43 = .ok (.aload_n 0, 1) := by decide +kernel
set_option maxRecDepth 100000 in
theorem dX12_go_44 : decode cX12_go 44 = .ok (.aload_n 0, 1) := by decide +kernel
set_option maxRecDepth 100000 in
theorem dX12_go_45 : decode cX12_go 45 = .ok (.aload_n 0, 1) := by decide +kernel
set_option maxRecDepth 100000 in
theorem dX12_go_46 : decode cX12_go 46 = .ok (.getfield 33, 3) := by decide +kernel
set_option maxRecDepth 100000 in
theorem dX12_go_49 : decode cX12_go 49 = .ok (.invokevirtual 370, 3) := by decide +kernel
set_option maxRecDepth 100000 in
theorem dX12_go_52 : decode cX12_go 52 = .ok (.iload_n 3, 1) := by decide +kernel
set_option maxRecDepth 100000 in
theorem dX12_go_53 : decode cX12_go 53 = .ok (.iconst (-1), 1) := by decide +kernel
set_option maxRecDepth 100000 in
theorem dX12_go_54 : decode cX12_go 54 = .ok (.ixor, 1) := by decide +kernel
set_option maxRecDepth 100000 in
theorem dX12_go_55 : decode cX12_go 55 = .ok (.iand, 1) := by decide +kernel
set_option maxRecDepth 100000 in
theorem dX12_go_56 : decode cX12_go 56 = .ok (.i2l, 1) := by decide +kernel
set_option maxRecDepth 100000 in
theorem dX12_go_57 : decode cX12_go 57 = .ok (.invokevirtual 116, 3) := by decide +kernel
set_option maxRecDepth 100000 in
theorem dX12_go_60 : decode cX12_go 60 = .ok (.aload_n 0, 1) := by decide +kernel
set_option maxRecDepth 100000 in
theorem dX12_go_61 : decode cX12_go 61 = .ok (.iload 4, 2) := by decide +kernel
set_option maxRecDepth 100000 in
theorem dX12_go_63 : decode cX12_go 63 = .ok (.invokevirtual 332, 3) := by decide +kernel
set_option maxRecDepth 100000 in
theorem dX12_go_66 : decode cX12_go 66 = .ok (.ireturn, 1) := by decide +kernel
set_option maxRecDepth 100000 in
theorem dX12_couple_0 : decode cX12_couple 0 = .ok (.aload_n 0, 1) := by decide +kernel
set_option maxRecDepth 100000 in
theorem dX12_couple_1 : decode cX12_couple 1 = .ok (.iconst 0, 1) := by decide +kernel
set_option maxRecDepth 100000 in
theorem dX12_couple_2 : decode cX12_couple 2 = .ok (.putfield 106, 3) := by decide +kernel
set_option maxRecDepth 100000 in
theorem dX12_couple_5 : decode cX12_couple 5 = .ok (.aload_n 0, 1) := by decide +kernel
set_option maxRecDepth 100000 in
theorem dX12_couple_6 : decode cX12_couple 6 = .ok (.invokevirtual 367, 3) := by decide +kernel
set_option maxRecDepth 100000 in
theorem dX12_couple_9 : decode cX12_couple 9 = .ok (.aload_n 0, 1) := by decide +kernel
set_option maxRecDepth 100000 in
theorem dX12_couple_10 : decode cX12_couple 10 = .ok (.aload_n 0, 1) := by decide +kernel
set_option maxRecDepth 100000 in
theorem dX12_couple_11 : decode cX12_couple 11 = .ok (.aload_n 0, 1) := by decide +kernel
set_option maxRecDepth 100000 in
theorem dX12_couple_12 : decode cX12_couple 12 = .ok (.getfield 33, 3) := by decide +kernel
set_option maxRecDepth 100000 in
theorem dX12_couple_15 : decode cX12_couple 15 = .ok (.invokevirtual 380, 3) := by decide +kernel
set_option maxRecDepth 100000 in
theorem dX12_couple_18 : decode cX12_couple 18 = .ok (.invokevirtual 383, 3) := by decide +kernel
set_option maxRecDepth 100000 in
theorem dX12_couple_21 : decode cX12_couple 21 = .ok (.ireturn, 1) := by decide +kernel
set_option maxRecDepth 100000 in
theorem dX12_cut_0 : decode cX12_cut 0 = .ok (.aload_n 0, 1) := by decide +kernel
set_option maxRecDepth 100000 in
theorem dX12_cut_1 : decode cX12_cut 1 = .ok (.iconst 0, 1) := by decide +kernel
set_option maxRecDepth 100000 in
theorem dX12_cut_2 : decode cX12_cut 2 = .ok (.putfield 106, 3) := by decide +kernel
set_option maxRecDepth 100000 in
theorem dX12_cut_5 : decode cX12_cut 5 = .ok (.aload_n 0, 1) := by decide +kernel
set_option maxRecDepth 100000 in
theorem dX12_cut_6 : decode cX12_cut 6 = .ok (.invokevirtual 367, 3) := by decide +kernel
set_option maxRecDepth 100000 in
theorem dX12_cut_9 : decode cX12_cut 9 = .ok (.aload_n 0, 1) := by decide +kernel
set_option maxRecDepth 100000 in
theorem dX12_cut_10 : decode cX12_cut 10 = .ok (.aload_n 0, 1) := by decide +kernel
set_option maxRecDepth 100000 in
theorem dX12_cut_11 : decode cX12_cut 11 = .ok (.aload_n 0, 1) := by decide +kernel
set_option maxRecDepth 100000 in
theorem dX12_cut_12 : decode cX12_cut 12 = .ok (.getfield 33, 3) := by decide +kernel
set_option maxRecDepth 100000 in
theorem dX12_cut_15 : decode cX12_cut 15 = .ok (.iload_n 1, 1) := by decide +kernel
set_option maxRecDepth 100000 in
theorem dX12_cut_16 : decode cX12_cut 16 = .ok (.invokevirtual 386, 3) := by decide +kernel
set_option maxRecDepth 100000 in
theorem dX12_cut_19 : decode cX12_cut 19 = .ok (.invokevirtual 383, 3) := by decide +kernel
set_option maxRecDepth 100000 in
theorem dX12_cut_22 : decode cX12_cut 22 = .ok (.ireturn, 1) := by decide +kernel
set_option maxRecDepth 100000 in
theorem dX12_walk_0 : decode cX12_walk 0 = .ok (.aload_n 0, 1) := by decide +kernel
set_option maxRecDepth 100000 in
theorem dX12_walk_1 : decode cX12_walk 1 = .ok (.iconst 0, 1) := by decide +kernel
set_option maxRecDepth 100000 in
theorem dX12_walk_2 : decode cX12_walk 2 = .ok (.putfield 106, 3) := by decide +kernel
set_option maxRecDepth 100000 in
theorem dX12_walk_5 : decode cX12_walk 5 = .ok (.aload_n 0, 1) := by decide +kernel
set_option maxRecDepth 100000 in
theorem dX12_walk_6 : decode cX12_walk 6 = .ok (.invokevirtual 367, 3) := by decide +kernel
set_option maxRecDepth 100000 in
theorem dX12_walk_9 : decode cX12_walk 9 = .ok (.aload_n 0, 1) := by decide +kernel
set_option maxRecDepth 100000 in
theorem dX12_walk_10 : decode cX12_walk 10 = .ok (.aload_n 0, 1) := by decide +kernel
set_option maxRecDepth 100000 in
theorem dX12_walk_11 : decode cX12_walk 11 = .ok (.aload_n 0, 1) := by decide +kernel
set_option maxRecDepth 100000 in
theorem dX12_walk_12 : decode cX12_walk 12 = .ok (.getfield 33, 3) := by decide +kernel
set_option maxRecDepth 100000 in
theorem dX12_walk_15 : decode cX12_walk 15 = .ok (.iload_n 1, 1) := by decide +kernel
set_option maxRecDepth 100000 in
theorem dX12_walk_16 : decode cX12_walk 16 = .ok (.iload_n 2, 1) := by decide +kernel
set_option maxRecDepth 100000 in
theorem dX12_walk_17 : decode cX12_walk 17 = .ok (.invokevirtual 389, 3) := by decide +kernel
set_option maxRecDepth 100000 in
theorem dX12_walk_20 : decode cX12_walk 20 = .ok (.invokevirtual 383, 3) := by decide +kernel
set_option maxRecDepth 100000 in
theorem dX12_walk_23 : decode cX12_walk 23 = .ok (.ireturn, 1) := by decide +kernel
set_option maxRecDepth 100000 in
theorem dX12_stand_0 : decode cX12_stand 0 = .ok (.aload_n 0, 1) := by decide +kernel
set_option maxRecDepth 100000 in
theorem dX12_stand_1 : decode cX12_stand 1 = .ok (.iconst 0, 1) := by decide +kernel
set_option maxRecDepth 100000 in
theorem dX12_stand_2 : decode cX12_stand 2 = .ok (.putfield 106, 3) := by decide +kernel
set_option maxRecDepth 100000 in
theorem dX12_stand_5 : decode cX12_stand 5 = .ok (.iload_n 1, 1) := by decide +kernel
set_option maxRecDepth 100000 in
theorem dX12_stand_6 : decode cX12_stand 6 = .ok (.i2l, 1) := by decide +kernel
set_option maxRecDepth 100000 in
theorem dX12_stand_7 : decode cX12_stand 7 = .ok (.lconst 0, 1) := by decide +kernel
set_option maxRecDepth 100000 in
theorem dX12_stand_8 : decode cX12_stand 8 = .ok (.ldc2_w 392, 3) := by decide +kernel
set_option maxRecDepth 100000 in
theorem dX12_stand_11 : decode cX12_stand 11 = .ok (.invokestatic 120, 3) := by decide +kernel
set_option maxRecDepth 100000 in
theorem dX12_stand_14 : decode cX12_stand 14 = .ok (.ifCond .ne 5, 3) := by decide +kernel
set_option maxRecDepth 100000 in
theorem dX12_stand_17 : decode cX12_stand 17 = .ok (.iconst (-1), 1) := by decide +kernel
set_option maxRecDepth 100000 in
theorem dX12_stand_18 : decode cX12_stand 18 = .ok (.ireturn, 1) := by decide +kernel
set_option maxRecDepth 100000 in
theorem dX12_stand_19 : decode cX12_stand 19 = .ok (.aload_n 0, 1) := by decide +kernel
set_option maxRecDepth 100000 in
theorem dX12_stand_20 : decode cX12_stand 20 = .ok (.invokevirtual 367, 3) := by decide +kernel
set_option maxRecDepth 100000 in
theorem dX12_stand_23 : decode cX12_stand 23 = .ok (.aload_n 0, 1) := by decide +kernel
set_option maxRecDepth 100000 in
theorem dX12_stand_24 : decode cX12_stand 24 = .ok (.getfield 33, 3) := by decide +kernel
set_option maxRecDepth 100000 in
theorem dX12_stand_27 : decode cX12_stand 27 = .ok (.iconst 1, 1) := by decide +kernel
set_option maxRecDepth 100000 in
theorem dX12_stand_28 : decode cX12_stand 28 = .ok (.dup2, 1) := by decide +kernel
set_option maxRecDepth 100000 in
theorem dX12_stand_29 : decode cX12_stand 29 = .ok (.iaload, 1) := by decide +kernel
set_option maxRecDepth 100000 in
theorem dX12_stand_30 : decode cX12_stand 30 = .ok (.iload_n 1, 1) := by decide +kernel
set_option maxRecDepth 100000 in
theorem dX12_stand_31 : decode cX12_stand 31 = .ok (.iadd, 1) := by decide +kernel
set_option maxRecDepth 100000 in
theorem dX12_stand_32 : decode cX12_stand 32 = .ok (.iastore, 1) := by decide +kernel
set_option maxRecDepth 100000 in
theorem dX12_stand_33 : decode cX12_stand 33 = .ok (.aload_n 0, 1) := by decide +kernel
set_option maxRecDepth 100000 in
theorem dX12_stand_34 : decode cX12_stand 34 = .ok (.aload_n 0, 1) := by decide +kernel
set_option maxRecDepth 100000 in
theorem dX12_stand_35 : decode cX12_stand 35 = .ok (.getfield 33, 3) := by decide +kernel
set_option maxRecDepth 100000 in
theorem dX12_stand_38 : decode cX12_stand 38 = .ok (.iconst 1, 1) := by decide +kernel
set_option maxRecDepth 100000 in
theorem dX12_stand_39 : decode cX12_stand 39 = .ok (.iaload, 1) := by decide +kernel
set_option maxRecDepth 100000 in
theorem dX12_stand_40 : decode cX12_stand 40 = .ok (.invokevirtual 332, 3) := by decide +kernel
set_option maxRecDepth 100000 in
theorem dX12_stand_43 : decode cX12_stand 43 = .ok (.ireturn, 1) := by decide +kernel
set_option maxRecDepth 100000 in
theorem dX12_readsAct_0 : decode cX12_readsAct 0 = .ok (.aload_n 0, 1) := by decide +kernel
set_option maxRecDepth 100000 in
theorem dX12_readsAct_1 : decode cX12_readsAct 1 = .ok (.getfield 394, 3) := by decide +kernel
set_option maxRecDepth 100000 in
theorem dX12_readsAct_4 : decode cX12_readsAct 4 = .ok (.istore_n 1, 1) := by decide +kernel
set_option maxRecDepth 100000 in
theorem dX12_readsAct_5 : decode cX12_readsAct 5 = .ok (.aload_n 0, 1) := by decide +kernel
set_option maxRecDepth 100000 in
theorem dX12_readsAct_6 : decode cX12_readsAct 6 = .ok (.getfield 63, 3) := by decide +kernel
set_option maxRecDepth 100000 in
theorem dX12_readsAct_9 : decode cX12_readsAct 9 = .ok (.iload_n 1, 1) := by decide +kernel
set_option maxRecDepth 100000 in
theorem dX12_readsAct_10 : decode cX12_readsAct 10 = .ok (.aload_n 0, 1) := by decide +kernel
set_option maxRecDepth 100000 in
theorem dX12_readsAct_11 : decode cX12_readsAct 11 = .ok (.ldc_w 397, 3) := by decide +kernel
set_option maxRecDepth 100000 in
theorem dX12_readsAct_14 : decode cX12_readsAct 14 = .ok (.invokevirtual 245, 3) := by decide +kernel
set_option maxRecDepth 100000 in
theorem dX12_readsAct_17 : decode cX12_readsAct 17 = .ok (.iastore, 1) := by decide +kernel
set_option maxRecDepth 100000 in
theorem dX12_readsAct_18 : decode cX12_readsAct 18 = .ok (.aload_n 0, 1) := by decide +kernel
set_option maxRecDepth 100000 in
theorem dX12_readsAct_19 : decode cX12_readsAct 19 = .ok (.dup, 1) := by decide +kernel
set_option maxRecDepth 100000 in
theorem dX12_readsAct_20 : decode cX12_readsAct 20 = .ok (.getfield 394, 3) := by decide +kernel
set_option maxRecDepth 100000 in
theorem dX12_readsAct_23 : decode cX12_readsAct 23 = .ok (.iconst 1, 1) := by decide +kernel
set_option maxRecDepth 100000 in
theorem dX12_readsAct_24 : decode cX12_readsAct 24 = .ok (.iadd, 1) := by decide +kernel
set_option maxRecDepth 100000 in
theorem dX12_readsAct_25 : decode cX12_readsAct 25 = .ok (.putfield 394, 3) := by decide +kernel
set_option maxRecDepth 100000 in
theorem dX12_readsAct_28 : decode cX12_readsAct 28 = .ok (.aload_n 0, 1) := by decide +kernel
set_option maxRecDepth 100000 in
theorem dX12_readsAct_29 : decode cX12_readsAct 29 = .ok (.getfield 63, 3) := by decide +kernel
set_option maxRecDepth 100000 in
theorem dX12_readsAct_32 : decode cX12_readsAct 32 = .ok (.iload_n 1, 1) := by decide +kernel
set_option maxRecDepth 100000 in
theorem dX12_readsAct_33 : decode cX12_readsAct 33 = .ok (.iaload, 1) := by decide +kernel
set_option maxRecDepth 100000 in
theorem dX12_readsAct_34 : decode cX12_readsAct 34 = .ok (.iconst 2, 1) := by decide +kernel
set_option maxRecDepth 100000 in
theorem dX12_readsAct_35 : decode cX12_readsAct 35 = .ok (.if_icmp .ge 18, 3) := by decide +kernel
set_option maxRecDepth 100000 in
theorem dX12_readsAct_38 : decode cX12_readsAct 38 = .ok (.aload_n 0, 1) := by decide +kernel
set_option maxRecDepth 100000 in
theorem dX12_readsAct_39 : decode cX12_readsAct 39 = .ok (.getfield 63, 3) := by decide +kernel
set_option maxRecDepth 100000 in
theorem dX12_readsAct_42 : decode cX12_readsAct 42 = .ok (.iload_n 1, 1) := by decide +kernel
set_option maxRecDepth 100000 in
theorem dX12_readsAct_43 : decode cX12_readsAct 43 = .ok (.iaload, 1) := by decide +kernel
set_option maxRecDepth 100000 in
theorem dX12_readsAct_44 : decode cX12_readsAct 44 = .ok (.ifCond .lt 7, 3) := by decide +kernel
set_option maxRecDepth 100000 in
theorem dX12_readsAct_47 : decode cX12_readsAct 47 = .ok (.iconst 1, 1) := by decide +kernel
set_option maxRecDepth 100000 in
theorem dX12_readsAct_48 : decode cX12_readsAct 48 = .ok (.goto 4, 3) := by decide +kernel
set_option maxRecDepth 100000 in
theorem dX12_readsAct_51 : decode cX12_readsAct 51 = .ok (.iconst 0, 1) := by decide +kernel
set_option maxRecDepth 100000 in
theorem dX12_readsAct_52 : decode cX12_readsAct 52 = .ok (.ireturn, 1) := by decide +kernel
set_option maxRecDepth 100000 in
theorem dX12_readsAct_53 : decode cX12_readsAct 53 = .ok (.aload_n 0, 1) := by decide +kernel
set_option maxRecDepth 100000 in
theorem dX12_readsAct_54 : decode cX12_readsAct 54 = .ok (.getfield 66, 3) := by decide +kernel
set_option maxRecDepth 100000 in
theorem dX12_readsAct_57 : decode cX12_readsAct 57 = .ok (.iload_n 1, 1) := by decide +kernel
set_option maxRecDepth 100000 in
theorem dX12_readsAct_58 : decode cX12_readsAct 58 = .ok (.aload_n 0, 1) := by decide +kernel
set_option maxRecDepth 100000 in
theorem dX12_readsAct_59 : decode cX12_readsAct 59 = .ok (.getfield 63, 3) := by decide +kernel
set_option maxRecDepth 100000 in
theorem dX12_readsAct_62 : decode cX12_readsAct 62 = .ok (.iload_n 1, 1) := by decide +kernel
set_option maxRecDepth 100000 in
theorem dX12_readsAct_63 : decode cX12_readsAct 63 = .ok (.iaload, 1) := by decide +kernel
set_option maxRecDepth 100000 in
theorem dX12_readsAct_64 : decode cX12_readsAct 64 = .ok (.iconst 3, 1) := by decide +kernel
set_option maxRecDepth 100000 in
theorem dX12_readsAct_65 : decode cX12_readsAct 65 = .ok (.if_icmp .ne 14, 3) := by decide +kernel
set_option maxRecDepth 100000 in
theorem dX12_readsAct_68 : decode cX12_readsAct 68 = .ok (.aload_n 0, 1) := by decide +kernel
set_option maxRecDepth 100000 in
theorem dX12_readsAct_69 : decode cX12_readsAct 69 = .ok (.bipush 48, 2) := by decide +kernel
set_option maxRecDepth 100000 in
theorem dX12_readsAct_71 : decode cX12_readsAct 71 = .ok (.iconst 0, 1) := by decide +kernel
set_option maxRecDepth 100000 in
theorem dX12_readsAct_72 : decode cX12_readsAct 72 = .ok (.iconst 1, 1) := by decide +kernel
set_option maxRecDepth 100000 in
theorem dX12_readsAct_73 : decode cX12_readsAct 73 = .ok (.invokevirtual 186, 3) := by decide +kernel
set_option maxRecDepth 100000 in
theorem dX12_readsAct_76 : decode cX12_readsAct 76 = .ok (.goto 28, 3) := by decide +kernel
set_option maxRecDepth 100000 in
theorem dX12_readsAct_79 : decode cX12_readsAct 79 = .ok (.aload_n 0, 1) := by decide +kernel
set_option maxRecDepth 100000 in
theorem dX12_readsAct_80 : decode cX12_readsAct 80 = .ok (.getfield 63, 3) := by decide +kernel
set_option maxRecDepth 100000 in
theorem dX12_readsAct_83 : decode cX12_readsAct 83 = .ok (.iload_n 1, 1) := by decide +kernel
set_option maxRecDepth 100000 in
theorem dX12_readsAct_84 : decode cX12_readsAct 84 = .ok (.iaload, 1) := by decide +kernel
set_option maxRecDepth 100000 in
theorem dX12_readsAct_85 : decode cX12_readsAct 85 = .ok (.iconst 4, 1) := by decide +kernel
set_option maxRecDepth 100000 in
theorem dX12_readsAct_86 : decode cX12_readsAct 86 = .ok (.if_icmp .ne 13, 3) := by decide +kernel
set_option maxRecDepth 100000 in
theorem dX12_readsAct_89 : decode cX12_readsAct 89 = .ok (.aload_n 0, 1) := by decide +kernel
set_option maxRecDepth 100000 in
theorem dX12_readsAct_90 : decode cX12_readsAct 90 = .ok (.ldc_w 399, 3) := by decide +kernel
set_option maxRecDepth 100000 in
theorem dX12_readsAct_93 : decode cX12_readsAct 93 = .ok (.invokevirtual 245, 3) := by decide +kernel
set_option maxRecDepth 100000 in
theorem dX12_readsAct_96 : decode cX12_readsAct 96 = .ok (.goto 8, 3) := by decide +kernel
set_option maxRecDepth 100000 in
theorem dX12_readsAct_99 : decode cX12_readsAct 99 = .ok (.aload_n 0, 1) := by decide +kernel
set_option maxRecDepth 100000 in
theorem dX12_readsAct_100 : decode cX12_readsAct 100 = .ok (.iconst 1, 1) := by decide +kernel
set_option maxRecDepth 100000 in
theorem dX12_readsAct_101 : decode cX12_readsAct 101 = .ok (.invokevirtual 240, 3) := by decide +kernel
set_option maxRecDepth 100000 in
theorem dX12_readsAct_104 : decode cX12_readsAct 104 = .ok (.iastore, 1) := by decide +kernel
set_option maxRecDepth 100000 in
theorem dX12_readsAct_105 : decode cX12_readsAct 105 = .ok (.aload_n 0, 1) := by decide +kernel
set_option maxRecDepth 100000 in
theorem dX12_readsAct_106 : decode cX12_readsAct 106 = .ok (.getfield 66, 3) := by decide +kernel
set_option maxRecDepth 100000 in
theorem dX12_readsAct_109 : decode cX12_readsAct 109 = .ok (.iload_n 1, 1) := by decide +kernel
set_option maxRecDepth 100000 in
theorem dX12_readsAct_110 : decode cX12_readsAct 110 = .ok (.iaload, 1) := by decide +kernel
set_option maxRecDepth 100000 in
theorem dX12_readsAct_111 : decode cX12_readsAct 111 = .ok (.ifCond .lt 23, 3) := by decide +kernel
set_option maxRecDepth 100000 in
theorem dX12_readsAct_114 : decode cX12_readsAct 114 = .ok (.aload_n 0, 1) := by decide +kernel
set_option maxRecDepth 100000 in
theorem dX12_readsAct_115 : decode cX12_readsAct 115 = .ok (.getfield 63, 3) := by decide +kernel
set_option maxRecDepth 100000 in
theorem dX12_readsAct_118 : decode cX12_readsAct 118 = .ok (.iload_n 1, 1) := by decide +kernel
set_option maxRecDepth 100000 in
theorem dX12_readsAct_119 : decode cX12_readsAct 119 = .ok (.iaload, 1) := by decide +kernel
set_option maxRecDepth 100000 in
theorem dX12_readsAct_120 : decode cX12_readsAct 120 = .ok (.iconst 2, 1) := by decide +kernel
set_option maxRecDepth 100000 in
theorem dX12_readsAct_121 : decode cX12_readsAct 121 = .ok (.if_icmp .eq 13, 3) := by decide +kernel
set_option maxRecDepth 100000 in
theorem dX12_readsAct_124 : decode cX12_readsAct 124 = .ok (.aload_n 0, 1) := by decide +kernel
set_option maxRecDepth 100000 in
theorem dX12_readsAct_125 : decode cX12_readsAct 125 = .ok (.getfield 63, 3) := by decide +kernel
set_option maxRecDepth 100000 in
theorem dX12_readsAct_128 : decode cX12_readsAct 128 = .ok (.iload_n 1, 1) := by decide +kernel
set_option maxRecDepth 100000 in
theorem dX12_readsAct_129 : decode cX12_readsAct 129 = .ok (.iaload, 1) := by decide +kernel
set_option maxRecDepth 100000 in
theorem dX12_readsAct_130 : decode cX12_readsAct 130 = .ok (.iconst 5, 1) := by decide +kernel
set_option maxRecDepth 100000 in
theorem dX12_readsAct_131 : decode cX12_readsAct 131 = .ok (.if_icmp .ne 18, 3) := by decide +kernel
set_option maxRecDepth 100000 in
theorem dX12_readsAct_134 : decode cX12_readsAct 134 = .ok (.aload_n 0, 1) := by decide +kernel
set_option maxRecDepth 100000 in
theorem dX12_readsAct_135 : decode cX12_readsAct 135 = .ok (.getfield 66, 3) := by decide +kernel
set_option maxRecDepth 100000 in
theorem dX12_readsAct_138 : decode cX12_readsAct 138 = .ok (.iload_n 1, 1) := by decide +kernel
set_option maxRecDepth 100000 in
theorem dX12_readsAct_139 : decode cX12_readsAct 139 = .ok (.iaload, 1) := by decide +kernel
set_option maxRecDepth 100000 in
theorem dX12_readsAct_140 : decode cX12_readsAct 140 = .ok (.ifCond .lt 7, 3) := by decide +kernel
set_option maxRecDepth 100000 in
theorem dX12_readsAct_143 : decode cX12_readsAct 143 = .ok (.iconst 1, 1) := by decide +kernel
set_option maxRecDepth 100000 in
theorem dX12_readsAct_144 : decode cX12_readsAct 144 = .ok (.goto 4, 3) := by decide +kernel
set_option maxRecDepth 100000 in
theorem dX12_readsAct_147 : decode cX12_readsAct 147 = .ok (.iconst 0, 1) := by decide +kernel
set_option maxRecDepth 100000 in
theorem dX12_readsAct_148 : decode cX12_readsAct 148 = .ok (.ireturn, 1) := by decide +kernel
set_option maxRecDepth 100000 in
theorem dX12_readsAct_149 : decode cX12_readsAct 149 = .ok (.aload_n 0, 1) := by decide +kernel
set_option maxRecDepth 100000 in
theorem dX12_readsAct_150 : decode cX12_readsAct 150 = .ok (.getfield 69, 3) := by decide +kernel
set_option maxRecDepth 100000 in
theorem dX12_readsAct_153 : decode cX12_readsAct 153 = .ok (.iload_n 1, 1) := by decide +kernel
set_option maxRecDepth 100000 in
theorem dX12_readsAct_154 : decode cX12_readsAct 154 = .ok (.aload_n 0, 1) := by decide +kernel
set_option maxRecDepth 100000 in
theorem dX12_readsAct_155 : decode cX12_readsAct 155 = .ok (.iconst 1, 1) := by decide +kernel
set_option maxRecDepth 100000 in
theorem dX12_readsAct_156 : decode cX12_readsAct 156 = .ok (.invokevirtual 240, 3) := by decide +kernel
set_option maxRecDepth 100000 in
theorem dX12_readsAct_159 : decode cX12_readsAct 159 = .ok (.iastore, 1) := by decide +kernel
set_option maxRecDepth 100000 in
theorem dX12_readsAct_160 : decode cX12_readsAct 160 = .ok (.aload_n 0, 1) := by decide +kernel
set_option maxRecDepth 100000 in
theorem dX12_readsAct_161 : decode cX12_readsAct 161 = .ok (.getfield 69, 3) := by decide +kernel
set_option maxRecDepth 100000 in
theorem dX12_readsAct_164 : decode cX12_readsAct 164 = .ok (.iload_n 1, 1) := by decide +kernel
set_option maxRecDepth 100000 in
theorem dX12_readsAct_165 : decode cX12_readsAct 165 = .ok (.iaload, 1) := by decide +kernel
set_option maxRecDepth 100000 in
theorem dX12_readsAct_166 : decode cX12_readsAct 166 = .ok (.ifCond .lt 7, 3) := by decide +kernel
set_option maxRecDepth 100000 in
theorem dX12_readsAct_169 : decode cX12_readsAct 169 = .ok (.iconst 1, 1) := by decide +kernel
set_option maxRecDepth 100000 in
theorem dX12_readsAct_170 : decode cX12_readsAct 170 = .ok (.goto 4, 3) := by decide +kernel
set_option maxRecDepth 100000 in
theorem dX12_readsAct_173 : decode cX12_readsAct 173 = .ok (.iconst 0, 1) := by decide +kernel
set_option maxRecDepth 100000 in
theorem dX12_readsAct_174 : decode cX12_readsAct 174 = .ok (.ireturn, 1) := by decide +kernel
set_option maxRecDepth 100000 in
theorem dX12_does_0 : decode cX12_does 0 = .ok (.aload_n 0, 1) := by decide +kernel
set_option maxRecDepth 100000 in
theorem dX12_does_1 : decode cX12_does 1 = .ok (.getfield 63, 3) := by decide +kernel
set_option maxRecDepth 100000 in
theorem dX12_does_4 : decode cX12_does 4 = .ok (.iload_n 1, 1) := by decide +kernel
set_option maxRecDepth 100000 in
theorem dX12_does_5 : decode cX12_does 5 = .ok (.iaload, 1) := by decide +kernel
set_option maxRecDepth 100000 in
theorem dX12_does_6 : decode cX12_does 6 = .ok (.tableswitch 143 0 4 #[34, 45, 62, 85, 114], 34) := by decide +kernel
set_option maxRecDepth 100000 in
theorem dX12_does_40 : decode cX12_does 40 = .ok (.aload_n 0, 1) := by decide +kernel
set_option maxRecDepth 100000 in
theorem dX12_does_41 : decode cX12_does 41 = .ok (.aload_n 0, 1) := by decide +kernel
set_option maxRecDepth 100000 in
theorem dX12_does_42 : decode cX12_does 42 = .ok (.getfield 33, 3) := by decide +kernel
set_option maxRecDepth 100000 in
theorem dX12_does_45 : decode cX12_does 45 = .ok (.invokevirtual 373, 3) := by decide +kernel
set_option maxRecDepth 100000 in
theorem dX12_does_48 : decode cX12_does 48 = .ok (.pop, 1) := by decide +kernel
set_option maxRecDepth 100000 in
theorem dX12_does_49 : decode cX12_does 49 = .ok (.iconst 1, 1) := by decide +kernel
set_option maxRecDepth 100000 in
theorem dX12_does_50 : decode cX12_does 50 = .ok (.ireturn, 1) := by decide +kernel
set_option maxRecDepth 100000 in
theorem dX12_does_51 : decode cX12_does 51 = .ok (.aload_n 0, 1) := by decide +kernel
set_option maxRecDepth 100000 in
theorem dX12_does_52 : decode cX12_does 52 = .ok (.aload_n 0, 1) := by decide +kernel
set_option maxRecDepth 100000 in
theorem dX12_does_53 : decode cX12_does 53 = .ok (.getfield 33, 3) := by decide +kernel
set_option maxRecDepth 100000 in
theorem dX12_does_56 : decode cX12_does 56 = .ok (.invokevirtual 380, 3) := by decide +kernel
set_option maxRecDepth 100000 in
theorem dX12_does_59 : decode cX12_does 59 = .ok (.ifCond .lt 7, 3) := by decide +kernel
set_option maxRecDepth 100000 in
theorem dX12_does_62 : decode cX12_does 62 = .ok (.iconst 1, 1) := by decide +kernel
set_option maxRecDepth 100000 in
theorem dX12_does_63 : decode cX12_does 63 = .ok (.goto 4, 3) := by decide +kernel
set_option maxRecDepth 100000 in
theorem dX12_does_66 : decode cX12_does 66 = .ok (.iconst 0, 1) := by decide +kernel
set_option maxRecDepth 100000 in
theorem dX12_does_67 : decode cX12_does 67 = .ok (.ireturn, 1) := by decide +kernel
set_option maxRecDepth 100000 in
theorem dX12_does_68 : decode cX12_does 68 = .ok (.aload_n 0, 1) := by decide +kernel
set_option maxRecDepth 100000 in
theorem dX12_does_69 : decode cX12_does 69 = .ok (.aload_n 0, 1) := by decide +kernel
set_option maxRecDepth 100000 in
theorem dX12_does_70 : decode cX12_does 70 = .ok (.getfield 33, 3) := by decide +kernel
set_option maxRecDepth 100000 in
theorem dX12_does_73 : decode cX12_does 73 = .ok (.aload_n 0, 1) := by decide +kernel
set_option maxRecDepth 100000 in
theorem dX12_does_74 : decode cX12_does 74 = .ok (.getfield 66, 3) := by decide +kernel
set_option maxRecDepth 100000 in
theorem dX12_does_77 : decode cX12_does 77 = .ok (.iload_n 1, 1) := by decide +kernel
set_option maxRecDepth 100000 in
theorem dX12_does_78 : decode cX12_does 78 = .ok (.iaload, 1) := by decide +kernel
set_option maxRecDepth 100000 in
theorem dX12_does_79 : decode cX12_does 79 = .ok (.invokevirtual 386, 3) := by decide +kernel
set_option maxRecDepth 100000 in
theorem dX12_does_82 : decode cX12_does 82 = .ok (.ifCond .lt 7, 3) := by decide +kernel
set_option maxRecDepth 100000 in
theorem dX12_does_85 : decode cX12_does 85 = .ok (.iconst 1, 1) := by decide +kernel
set_option maxRecDepth 100000 in
theorem dX12_does_86 : decode cX12_does 86 = .ok (.goto 4, 3) := by decide +kernel
set_option maxRecDepth 100000 in
theorem dX12_does_89 : decode cX12_does 89 = .ok (.iconst 0, 1) := by decide +kernel
set_option maxRecDepth 100000 in
theorem dX12_does_90 : decode cX12_does 90 = .ok (.ireturn, 1) := by decide +kernel
set_option maxRecDepth 100000 in
theorem dX12_does_91 : decode cX12_does 91 = .ok (.aload_n 0, 1) := by decide +kernel
set_option maxRecDepth 100000 in
theorem dX12_does_92 : decode cX12_does 92 = .ok (.aload_n 0, 1) := by decide +kernel
set_option maxRecDepth 100000 in
theorem dX12_does_93 : decode cX12_does 93 = .ok (.getfield 33, 3) := by decide +kernel
set_option maxRecDepth 100000 in
theorem dX12_does_96 : decode cX12_does 96 = .ok (.aload_n 0, 1) := by decide +kernel
set_option maxRecDepth 100000 in
theorem dX12_does_97 : decode cX12_does 97 = .ok (.getfield 66, 3) := by decide +kernel
set_option maxRecDepth 100000 in
theorem dX12_does_100 : decode cX12_does 100 = .ok (.iload_n 1, 1) := by decide +kernel
set_option maxRecDepth 100000 in
theorem dX12_does_101 : decode cX12_does 101 = .ok (.iaload, 1) := by decide +kernel
set_option maxRecDepth 100000 in
theorem dX12_does_102 : decode cX12_does 102 = .ok (.aload_n 0, 1) := by decide +kernel
set_option maxRecDepth 100000 in
theorem dX12_does_103 : decode cX12_does 103 = .ok (.getfield 69, 3) := by decide +kernel
set_option maxRecDepth 100000 in
theorem dX12_does_106 : decode cX12_does 106 = .ok (.iload_n 1, 1) := by decide +kernel
set_option maxRecDepth 100000 in
theorem dX12_does_107 : decode cX12_does 107 = .ok (.iaload, 1) := by decide +kernel
set_option maxRecDepth 100000 in
theorem dX12_does_108 : decode cX12_does 108 = .ok (.invokevirtual 376, 3) := by decide +kernel
set_option maxRecDepth 100000 in
theorem dX12_does_111 : decode cX12_does 111 = .ok (.ifCond .lt 7, 3) := by decide +kernel
set_option maxRecDepth 100000 in
theorem dX12_does_114 : decode cX12_does 114 = .ok (.iconst 1, 1) := by decide +kernel
set_option maxRecDepth 100000 in
theorem dX12_does_115 : decode cX12_does 115 = .ok (.goto 4, 3) := by decide +kernel
set_option maxRecDepth 100000 in
theorem dX12_does_118 : decode cX12_does 118 = .ok (.iconst 0, 1) := by decide +kernel
set_option maxRecDepth 100000 in
theorem dX12_does_119 : decode cX12_does 119 = .ok (.ireturn, 1) := by decide +kernel
set_option maxRecDepth 100000 in
theorem dX12_does_120 : decode cX12_does 120 = .ok (.aload_n 0, 1) := by decide +kernel
set_option maxRecDepth 100000 in
theorem dX12_does_121 : decode cX12_does 121 = .ok (.aload_n 0, 1) := by decide +kernel
set_option maxRecDepth 100000 in
theorem dX12_does_122 : decode cX12_does 122 = .ok (.getfield 33, 3) := by decide +kernel
set_option maxRecDepth 100000 in
theorem dX12_does_125 : decode cX12_does 125 = .ok (.aload_n 0, 1) := by decide +kernel
set_option maxRecDepth 100000 in
theorem dX12_does_126 : decode cX12_does 126 = .ok (.getfield 66, 3) := by decide +kernel
set_option maxRecDepth 100000 in
theorem dX12_does_129 : decode cX12_does 129 = .ok (.iload_n 1, 1) := by decide +kernel
set_option maxRecDepth 100000 in
theorem dX12_does_130 : decode cX12_does 130 = .ok (.iaload, 1) := by decide +kernel
set_option maxRecDepth 100000 in
theorem dX12_does_131 : decode cX12_does 131 = .ok (.aload_n 0, 1) := by decide +kernel
set_option maxRecDepth 100000 in
theorem dX12_does_132 : decode cX12_does 132 = .ok (.getfield 69, 3) := by decide +kernel
set_option maxRecDepth 100000 in
theorem dX12_does_135 : decode cX12_does 135 = .ok (.iload_n 1, 1) := by decide +kernel
set_option maxRecDepth 100000 in
theorem dX12_does_136 : decode cX12_does 136 = .ok (.iaload, 1) := by decide +kernel
set_option maxRecDepth 100000 in
theorem dX12_does_137 : decode cX12_does 137 = .ok (.invokevirtual 389, 3) := by decide +kernel
set_option maxRecDepth 100000 in
theorem dX12_does_140 : decode cX12_does 140 = .ok (.ifCond .lt 7, 3) := by decide +kernel
set_option maxRecDepth 100000 in
theorem dX12_does_143 : decode cX12_does 143 = .ok (.iconst 1, 1) := by decide +kernel
set_option maxRecDepth 100000 in
theorem dX12_does_144 : decode cX12_does 144 = .ok (.goto 4, 3) := by decide +kernel
set_option maxRecDepth 100000 in
theorem dX12_does_147 : decode cX12_does 147 = .ok (.iconst 0, 1) := by decide +kernel
set_option maxRecDepth 100000 in
theorem dX12_does_148 : decode cX12_does 148 = .ok (.ireturn, 1) := by decide +kernel
set_option maxRecDepth 100000 in
theorem dX12_does_149 : decode cX12_does 149 = .ok (.aload_n 0, 1) := by decide +kernel
set_option maxRecDepth 100000 in
theorem dX12_does_150 : decode cX12_does 150 = .ok (.getfield 33, 3) := by decide +kernel
set_option maxRecDepth 100000 in
theorem dX12_does_153 : decode cX12_does 153 = .ok (.iconst 1, 1) := by decide +kernel
set_option maxRecDepth 100000 in
theorem dX12_does_154 : decode cX12_does 154 = .ok (.dup2, 1) := by decide +kernel
set_option maxRecDepth 100000 in
theorem dX12_does_155 : decode cX12_does 155 = .ok (.iaload, 1) := by decide +kernel
set_option maxRecDepth 100000 in
theorem dX12_does_156 : decode cX12_does 156 = .ok (.aload_n 0, 1) := by decide +kernel
set_option maxRecDepth 100000 in
theorem dX12_does_157 : decode cX12_does 157 = .ok (.getfield 66, 3) := by decide +kernel
set_option maxRecDepth 100000 in
theorem dX12_does_160 : decode cX12_does 160 = .ok (.iload_n 1, 1) := by decide +kernel
set_option maxRecDepth 100000 in
theorem dX12_does_161 : decode cX12_does 161 = .ok (.iaload, 1) := by decide +kernel
set_option maxRecDepth 100000 in
theorem dX12_does_162 : decode cX12_does 162 = .ok (.iadd, 1) := by decide +kernel
set_option maxRecDepth 100000 in
theorem dX12_does_163 : decode cX12_does 163 = .ok (.iastore, 1) := by decide +kernel
set_option maxRecDepth 100000 in
theorem dX12_does_164 : decode cX12_does 164 = .ok (.iconst 1, 1) := by decide +kernel
set_option maxRecDepth 100000 in
theorem dX12_does_165 : decode cX12_does 165 = .ok (.ireturn, 1) := by decide +kernel
set_option maxRecDepth 100000 in
theorem dX12_night_0 : decode cX12_night 0 = .ok (.aload_n 0, 1) := by decide +kernel
set_option maxRecDepth 100000 in
theorem dX12_night_1 : decode cX12_night 1 = .ok (.iconst 0, 1) := by decide +kernel
set_option maxRecDepth 100000 in
theorem dX12_night_2 : decode cX12_night 2 = .ok (.putfield 106, 3) := by decide +kernel
set_option maxRecDepth 100000 in
theorem dX12_night_5 : decode cX12_night 5 = .ok (.aload_n 0, 1) := by decide +kernel
set_option maxRecDepth 100000 in
theorem dX12_night_6 : decode cX12_night 6 = .ok (.bipush 60, 2) := by decide +kernel
set_option maxRecDepth 100000 in
theorem dX12_night_8 : decode cX12_night 8 = .ok (.invokevirtual 190, 3) := by decide +kernel
set_option maxRecDepth 100000 in
theorem dX12_night_11 : decode cX12_night 11 = .ok (.istore_n 1, 1) := by decide +kernel
set_option maxRecDepth 100000 in
theorem dX12_night_12 : decode cX12_night 12 = .ok (.aload_n 0, 1) := by decide +kernel
set_option maxRecDepth 100000 in
theorem dX12_night_13 : decode cX12_night 13 = .ok (.iconst 0, 1) := by decide +kernel
set_option maxRecDepth 100000 in
theorem dX12_night_14 : decode cX12_night 14 = .ok (.putfield 394, 3) := by decide +kernel
set_option maxRecDepth 100000 in
theorem dX12_night_17 : decode cX12_night 17 = .ok (.iconst 1, 1) := by decide +kernel
set_option maxRecDepth 100000 in
theorem dX12_night_18 : decode cX12_night 18 = .ok (.istore_n 2, 1) := by decide +kernel
set_option maxRecDepth 100000 in
theorem dX12_night_19 : decode cX12_night 19 = .ok (.iload_n 2, 1) := by decide +kernel
set_option maxRecDepth 100000 in
theorem dX12_night_20 : decode cX12_night 20 = .ok (.ifCond .eq 22, 3) := by decide +kernel
set_option maxRecDepth 100000 in
theorem dX12_night_23 : decode cX12_night 23 = .ok (.aload_n 0, 1) := by decide +kernel
set_option maxRecDepth 100000 in
theorem dX12_night_24 : decode cX12_night 24 = .ok (.getfield 151, 3) := by decide +kernel
set_option maxRecDepth 100000 in
theorem dX12_night_27 : decode cX12_night 27 = .ok (.aload_n 0, 1) := by decide +kernel
set_option maxRecDepth 100000 in
theorem dX12_night_28 : decode cX12_night 28 = .ok (.getfield 157, 3) := by decide +kernel
set_option maxRecDepth 100000 in
theorem dX12_night_31 : decode cX12_night 31 = .ok (.if_icmp .ge 11, 3) := by decide +kernel
set_option maxRecDepth 100000 in
theorem dX12_night_34 : decode cX12_night 34 = .ok (.aload_n 0, 1) := by decide +kernel
set_option maxRecDepth 100000 in
theorem dX12_night_35 : decode cX12_night 35 = .ok (.invokevirtual 401, 3) := by decide +kernel
set_option maxRecDepth 100000 in
theorem dX12_night_38 : decode cX12_night 38 = .ok (.istore_n 2, 1) := by decide +kernel
set_option maxRecDepth 100000 in
theorem dX12_night_39 : decode cX12_night 39 = .ok (.goto (-20), 3) := by decide +kernel
set_option maxRecDepth 100000 in
theorem dX12_night_42 : decode cX12_night 42 = .ok (.aload_n 0, 1) := by decide +kernel
set_option maxRecDepth 100000 in
theorem dX12_night_43 : decode cX12_night 43 = .ok (.iload_n 1, 1) := by decide +kernel
set_option maxRecDepth 100000 in
theorem dX12_night_44 : decode cX12_night 44 = .ok (.bipush 60, 2) := by decide +kernel
set_option maxRecDepth 100000 in
theorem dX12_night_46 : decode cX12_night 46 = .ok (.iload_n 2, 1) := by decide +kernel
set_option maxRecDepth 100000 in
theorem dX12_night_47 : decode cX12_night 47 = .ok (.invokevirtual 198, 3) := by decide +kernel
set_option maxRecDepth 100000 in
theorem dX12_night_50 : decode cX12_night 50 = .ok (.istore_n 3, 1) := by decide +kernel
set_option maxRecDepth 100000 in
theorem dX12_night_51 : decode cX12_night 51 = .ok (.iload_n 3, 1) := by decide +kernel
set_option maxRecDepth 100000 in
theorem dX12_night_52 : decode cX12_night 52 = .ok (.ifCond .ge 5, 3) := by decide +kernel
set_option maxRecDepth 100000 in
theorem dX12_night_55 : decode cX12_night 55 = .ok (.iload_n 3, 1) := by decide +kernel
set_option maxRecDepth 100000 in
theorem dX12_night_56 : decode cX12_night 56 = .ok (.ireturn, 1) := by decide +kernel
set_option maxRecDepth 100000 in
theorem dX12_night_57 : decode cX12_night 57 = .ok (.aload_n 0, 1) := by decide +kernel
set_option maxRecDepth 100000 in
theorem dX12_night_58 : decode cX12_night 58 = .ok (.invokevirtual 367, 3) := by decide +kernel
set_option maxRecDepth 100000 in
theorem dX12_night_61 : decode cX12_night 61 = .ok (.aload_n 0, 1) := by decide +kernel
set_option maxRecDepth 100000 in
theorem dX12_night_62 : decode cX12_night 62 = .ok (.aload_n 0, 1) := by decide +kernel
set_option maxRecDepth 100000 in
theorem dX12_night_63 : decode cX12_night 63 = .ok (.getfield 33, 3) := by decide +kernel
set_option maxRecDepth 100000 in
theorem dX12_night_66 : decode cX12_night 66 = .ok (.invokevirtual 370, 3) := by decide +kernel
set_option maxRecDepth 100000 in
theorem dX12_night_69 : decode cX12_night 69 = .ok (.istore 4, 2) := by decide +kernel
set_option maxRecDepth 100000 in
theorem dX12_night_71 : decode cX12_night 71 = .ok (.iconst 0, 1) := by decide +kernel
set_option maxRecDepth 100000 in
theorem dX12_night_72 : decode cX12_night 72 = .ok (.istore 5, 2) := by decide +kernel
set_option maxRecDepth 100000 in
theorem dX12_night_74 : decode cX12_night 74 = .ok (.iload 5, 2) := by decide +kernel
set_option maxRecDepth 100000 in
theorem dX12_night_76 : decode cX12_night 76 = .ok (.aload_n 0, 1) := by decide +kernel
set_option maxRecDepth 100000 in
theorem dX12_night_77 : decode cX12_night 77 = .ok (.getfield 394, 3) := by decide +kernel
set_option maxRecDepth 100000 in
theorem dX12_night_80 : decode cX12_night 80 = .ok (.if_icmp .ge 18, 3) := by decide +kernel
set_option maxRecDepth 100000 in
theorem dX12_night_83 : decode cX12_night 83 = .ok (.aload_n 0, 1) := by decide +kernel
set_option maxRecDepth 100000 in
theorem dX12_night_84 : decode cX12_night 84 = .ok (.iload 5, 2) := by decide +kernel
set_option maxRecDepth 100000 in
theorem dX12_night_86 : decode cX12_night 86 = .ok (.invokevirtual 404, 3) := by decide +kernel
set_option maxRecDepth 100000 in
theorem dX12_night_89 : decode cX12_night 89 = .ok (.ifCond .eq 9, 3) := by decide +kernel
set_option maxRecDepth 100000 in
theorem dX12_night_92 : decode cX12_night 92 = .ok (.iinc 5 1, 3) := by decide +kernel
set_option maxRecDepth 100000 in
theorem dX12_night_95 : decode cX12_night 95 = .ok (.goto (-21), 3) := by decide +kernel
set_option maxRecDepth 100000 in
theorem dX12_night_98 : decode cX12_night 98 = .ok (.aload_n 0, 1) := by decide +kernel
set_option maxRecDepth 100000 in
theorem dX12_night_99 : decode cX12_night 99 = .ok (.iconst 0, 1) := by decide +kernel
set_option maxRecDepth 100000 in
theorem dX12_night_100 : decode cX12_night 100 = .ok (.putfield 113, 3) := by decide +kernel
set_option maxRecDepth 100000 in
theorem dX12_night_103 : decode cX12_night 103 = .ok (.aload_n 0, 1) := by decide +kernel
set_option maxRecDepth 100000 in
theorem dX12_night_104 : decode cX12_night 104 = .ok (.iload 5, 2) := by decide +kernel
set_option maxRecDepth 100000 in
theorem dX12_night_106 : decode cX12_night 106 = .ok (.aload_n 0, 1) := by decide +kernel
set_option maxRecDepth 100000 in
theorem dX12_night_107 : decode cX12_night 107 = .ok (.getfield 394, 3) := by decide +kernel
set_option maxRecDepth 100000 in
theorem dX12_night_110 : decode cX12_night 110 = .ok (.if_icmp .ge 7, 3) := by decide +kernel
set_option maxRecDepth 100000 in
theorem dX12_night_113 : decode cX12_night 113 = .ok (.iconst 1, 1) := by decide +kernel
set_option maxRecDepth 100000 in
theorem dX12_night_114 : decode cX12_night 114 = .ok (.goto 4, 3) := by decide +kernel
set_option maxRecDepth 100000 in
theorem dX12_night_117 : decode cX12_night 117 = .ok (.iconst 0, 1) := by decide +kernel
set_option maxRecDepth 100000 in
theorem dX12_night_118 : decode cX12_night 118 = .ok (.invokestatic 134, 3) := by decide +kernel
set_option maxRecDepth 100000 in
theorem dX12_night_121 : decode cX12_night 121 = .ok (.i2l, 1) := by decide +kernel
set_option maxRecDepth 100000 in
theorem dX12_night_122 : decode cX12_night 122 = .ok (.invokevirtual 116, 3) := by decide +kernel
set_option maxRecDepth 100000 in
theorem dX12_night_125 : decode cX12_night 125 = .ok (.aload_n 0, 1) := by decide +kernel
set_option maxRecDepth 100000 in
theorem dX12_night_126 : decode cX12_night 126 = .ok (.aload_n 0, 1) := by decide +kernel
set_option maxRecDepth 100000 in
theorem dX12_night_127 : decode cX12_night 127 = .ok (.aload_n 0, 1) := by decide +kernel
set_option maxRecDepth 100000 in
theorem dX12_night_128 : decode cX12_night 128 = .ok (.getfield 33, 3) := by decide +kernel
set_option maxRecDepth 100000 in
theorem dX12_night_131 : decode cX12_night 131 = .ok (.invokevirtual 370, 3) := by decide +kernel
set_option maxRecDepth 100000 in
theorem dX12_night_134 : decode cX12_night 134 = .ok (.iload 4, 2) := by decide +kernel
set_option maxRecDepth 100000 in
theorem dX12_night_136 : decode cX12_night 136 = .ok (.iconst (-1), 1) := by decide +kernel
set_option maxRecDepth 100000 in
theorem dX12_night_137 : decode cX12_night 137 = .ok (.ixor, 1) := by decide +kernel
set_option maxRecDepth 100000 in
theorem dX12_night_138 : decode cX12_night 138 = .ok (.iand, 1) := by decide +kernel
set_option maxRecDepth 100000 in
theorem dX12_night_139 : decode cX12_night 139 = .ok (.invokestatic 273, 3) := by decide +kernel
set_option maxRecDepth 100000 in
theorem dX12_night_142 : decode cX12_night 142 = .ok (.i2l, 1) := by decide +kernel
set_option maxRecDepth 100000 in
theorem dX12_night_143 : decode cX12_night 143 = .ok (.invokevirtual 116, 3) := by decide +kernel
set_option maxRecDepth 100000 in
theorem dX12_night_146 : decode cX12_night 146 = .ok (.iload 5, 2) := by decide +kernel
set_option maxRecDepth 100000 in
theorem dX12_night_148 : decode cX12_night 148 = .ok (.ifCond .le 12, 3) := by decide +kernel
set_option maxRecDepth 100000 in
theorem dX12_night_151 : decode cX12_night 151 = .ok (.aload_n 0, 1) := by decide +kernel
set_option maxRecDepth 100000 in
theorem dX12_night_152 : decode cX12_night 152 = .ok (.iload 5, 2) := by decide +kernel
set_option maxRecDepth 100000 in
theorem dX12_night_154 : decode cX12_night 154 = .ok (.invokevirtual 332, 3) := by decide +kernel
set_option maxRecDepth 100000 in
theorem dX12_night_157 : decode cX12_night 157 = .ok (.goto 4, 3) := by decide +kernel
set_option maxRecDepth 100000 in
theorem dX12_night_160 : decode cX12_night 160 = .ok (.iconst 0, 1) := by decide +kernel
set_option maxRecDepth 100000 in
theorem dX12_night_161 : decode cX12_night 161 = .ok (.ireturn, 1) := by decide +kernel
set_option maxRecDepth 100000 in
theorem dX12_puts_0 : decode cX12_puts 0 = .ok (.iconst 0, 1) := by decide +kernel
set_option maxRecDepth 100000 in
theorem dX12_puts_1 : decode cX12_puts 1 = .ok (.istore_n 1, 1) := by decide +kernel
set_option maxRecDepth 100000 in
theorem dX12_puts_2 : decode cX12_puts 2 = .ok (.iload_n 1, 1) := by decide +kernel
set_option maxRecDepth 100000 in
theorem dX12_puts_3 : decode cX12_puts 3 = .ok (.bipush 26, 2) := by decide +kernel
set_option maxRecDepth 100000 in
theorem dX12_puts_5 : decode cX12_puts 5 = .ok (.if_icmp .ge 21, 3) := by decide +kernel
set_option maxRecDepth 100000 in
theorem dX12_puts_8 : decode cX12_puts 8 = .ok (.aload_n 0, 1) := by decide +kernel
set_option maxRecDepth 100000 in
theorem dX12_puts_9 : decode cX12_puts 9 = .ok (.getfield 36, 3) := by decide +kernel
set_option maxRecDepth 100000 in
theorem dX12_puts_12 : decode cX12_puts 12 = .ok (.iload_n 1, 1) := by decide +kernel
set_option maxRecDepth 100000 in
theorem dX12_puts_13 : decode cX12_puts 13 = .ok (.aload_n 0, 1) := by decide +kernel
set_option maxRecDepth 100000 in
theorem dX12_puts_14 : decode cX12_puts 14 = .ok (.getfield 33, 3) := by decide +kernel
set_option maxRecDepth 100000 in
theorem dX12_puts_17 : decode cX12_puts 17 = .ok (.iload_n 1, 1) := by decide +kernel
set_option maxRecDepth 100000 in
theorem dX12_puts_18 : decode cX12_puts 18 = .ok (.iaload, 1) := by decide +kernel
set_option maxRecDepth 100000 in
theorem dX12_puts_19 : decode cX12_puts 19 = .ok (.iastore, 1) := by decide +kernel
set_option maxRecDepth 100000 in
theorem dX12_puts_20 : decode cX12_puts 20 = .ok (.iinc 1 1, 3) := by decide +kernel
set_option maxRecDepth 100000 in
theorem dX12_puts_23 : decode cX12_puts 23 = .ok (.goto (-21), 3) := by decide +kernel
set_option maxRecDepth 100000 in
theorem dX12_puts_26 : decode cX12_puts 26 = .ok (.return_, 1) := by decide +kernel
set_option maxRecDepth 100000 in
theorem dX12_way_0 : decode cX12_way 0 = .ok (.aload_n 0, 1) := by decide +kernel
set_option maxRecDepth 100000 in
theorem dX12_way_1 : decode cX12_way 1 = .ok (.iconst 0, 1) := by decide +kernel
set_option maxRecDepth 100000 in
theorem dX12_way_2 : decode cX12_way 2 = .ok (.putfield 106, 3) := by decide +kernel
set_option maxRecDepth 100000 in
theorem dX12_way_5 : decode cX12_way 5 = .ok (.aload_n 0, 1) := by decide +kernel
set_option maxRecDepth 100000 in
theorem dX12_way_6 : decode cX12_way 6 = .ok (.iload_n 1, 1) := by decide +kernel
set_option maxRecDepth 100000 in
theorem dX12_way_7 : decode cX12_way 7 = .ok (.invokevirtual 306, 3) := by decide +kernel
set_option maxRecDepth 100000 in
theorem dX12_way_10 : decode cX12_way 10 = .ok (.ifCond .eq 11, 3) := by decide +kernel
set_option maxRecDepth 100000 in
theorem dX12_way_13 : decode cX12_way 13 = .ok (.aload_n 0, 1) := by decide +kernel
set_option maxRecDepth 100000 in
theorem dX12_way_14 : decode cX12_way 14 = .ok (.iload_n 2, 1) := by decide +kernel
set_option maxRecDepth 100000 in
theorem dX12_way_15 : decode cX12_way 15 = .ok (.invokevirtual 306, 3) := by decide +kernel
set_option maxRecDepth 100000 in
theorem dX12_way_18 : decode cX12_way 18 = .ok (.ifCond .ne 5, 3) := by decide +kernel
set_option maxRecDepth 100000 in
theorem dX12_way_21 : decode cX12_way 21 = .ok (.iconst (-1), 1) := by decide +kernel
set_option maxRecDepth 100000 in
theorem dX12_way_22 : decode cX12_way 22 = .ok (.ireturn, 1) := by decide +kernel
set_option maxRecDepth 100000 in
theorem dX12_way_23 : decode cX12_way 23 = .ok (.aload_n 0, 1) := by decide +kernel
set_option maxRecDepth 100000 in
theorem dX12_way_24 : decode cX12_way 24 = .ok (.iload_n 1, 1) := by decide +kernel
set_option maxRecDepth 100000 in
theorem dX12_way_25 : decode cX12_way 25 = .ok (.iload_n 2, 1) := by decide +kernel
set_option maxRecDepth 100000 in
theorem dX12_way_26 : decode cX12_way 26 = .ok (.invokevirtual 145, 3) := by decide +kernel
set_option maxRecDepth 100000 in
theorem dX12_way_29 : decode cX12_way 29 = .ok (.ldc 138, 2) := by decide +kernel
set_option maxRecDepth 100000 in
theorem dX12_way_31 : decode cX12_way 31 = .ok (.if_icmp .lt 6, 3) := by decide +kernel
set_option maxRecDepth 100000 in
theorem dX12_way_34 : decode cX12_way 34 = .ok (.bipush (-2), 2) := by decide +kernel
set_option maxRecDepth 100000 in
theorem dX12_way_36 : decode cX12_way 36 = .ok (.ireturn, 1) := by decide +kernel
set_option maxRecDepth 100000 in
theorem dX12_way_37 : decode cX12_way 37 = .ok (.aload_n 0, 1) := by decide +kernel
set_option maxRecDepth 100000 in
theorem dX12_way_38 : decode cX12_way 38 = .ok (.iconst 0, 1) := by decide +kernel
set_option maxRecDepth 100000 in
theorem dX12_way_39 : decode cX12_way 39 = .ok (.putfield 113, 3) := by decide +kernel
set_option maxRecDepth 100000 in
theorem dX12_way_42 : decode cX12_way 42 = .ok (.iload_n 1, 1) := by decide +kernel
set_option maxRecDepth 100000 in
theorem dX12_way_43 : decode cX12_way 43 = .ok (.istore_n 3, 1) := by decide +kernel
set_option maxRecDepth 100000 in
theorem dX12_way_44 : decode cX12_way 44 = .ok (.aload_n 0, 1) := by decide +kernel
set_option maxRecDepth 100000 in
theorem dX12_way_45 : decode cX12_way 45 = .ok (.iload_n 3, 1) := by decide +kernel
set_option maxRecDepth 100000 in
theorem dX12_way_46 : decode cX12_way 46 = .ok (.i2l, 1) := by decide +kernel
set_option maxRecDepth 100000 in
theorem dX12_way_47 : decode cX12_way 47 = .ok (.invokevirtual 116, 3) := by decide +kernel
set_option maxRecDepth 100000 in
theorem dX12_way_50 : decode cX12_way 50 = .ok (.iload_n 3, 1) := by decide +kernel
set_option maxRecDepth 100000 in
theorem dX12_way_51 : decode cX12_way 51 = .ok (.iload_n 2, 1) := by decide +kernel
set_option maxRecDepth 100000 in
theorem dX12_way_52 : decode cX12_way 52 = .ok (.if_icmp .eq 68, 3) := by decide +kernel
set_option maxRecDepth 100000 in
theorem dX12_way_55 : decode cX12_way 55 = .ok (.bipush 9, 2) := by decide +kernel
set_option maxRecDepth 100000 in
theorem dX12_way_57 : decode cX12_way 57 = .ok (.istore 4, 2) := by decide +kernel
set_option maxRecDepth 100000 in
theorem dX12_way_59 : decode cX12_way 59 = .ok (.iconst 0, 1) := by decide +kernel
set_option maxRecDepth 100000 in
theorem dX12_way_60 : decode cX12_way 60 = .ok (.istore 5, 2) := by decide +kernel
set_option maxRecDepth 100000 in
theorem dX12_way_62 : decode cX12_way 62 = .ok (.iload 5, 2) := by decide +kernel
set_option maxRecDepth 100000 in
theorem dX12_way_64 : decode cX12_way 64 = .ok (.iconst 2, 1) := by decide +kernel
set_option maxRecDepth 100000 in
theorem dX12_way_65 : decode cX12_way 65 = .ok (.if_icmp .ge 43, 3) := by decide +kernel
set_option maxRecDepth 100000 in
theorem dX12_way_68 : decode cX12_way 68 = .ok (.aload_n 0, 1) := by decide +kernel
set_option maxRecDepth 100000 in
theorem dX12_way_69 : decode cX12_way 69 = .ok (.iload_n 3, 1) := by decide +kernel
set_option maxRecDepth 100000 in
theorem dX12_way_70 : decode cX12_way 70 = .ok (.iload_n 2, 1) := by decide +kernel
set_option maxRecDepth 100000 in
theorem dX12_way_71 : decode cX12_way 71 = .ok (.iload 5, 2) := by decide +kernel
set_option maxRecDepth 100000 in
theorem dX12_way_73 : decode cX12_way 73 = .ok (.invokevirtual 284, 3) := by decide +kernel
set_option maxRecDepth 100000 in
theorem dX12_way_76 : decode cX12_way 76 = .ok (.ifCond .eq 22, 3) := by decide +kernel
set_option maxRecDepth 100000 in
theorem dX12_way_79 : decode cX12_way 79 = .ok (.iload 4, 2) := by decide +kernel
set_option maxRecDepth 100000 in
theorem dX12_way_81 : decode cX12_way 81 = .ok (.aload_n 0, 1) := by decide +kernel
set_option maxRecDepth 100000 in
theorem dX12_way_82 : decode cX12_way 82 = .ok (.getfield 17, 3) := by decide +kernel
set_option maxRecDepth 100000 in
theorem dX12_way_85 : decode cX12_way 85 = .ok (.iconst 2, 1) := by decide +kernel
set_option maxRecDepth 100000 in
theorem dX12_way_86 : decode cX12_way 86 = .ok (.iload_n 3, 1) := by decide +kernel
set_option maxRecDepth 100000 in
theorem dX12_way_87 : decode cX12_way 87 = .ok (.imul, 1) := by decide +kernel
set_option maxRecDepth 100000 in
theorem dX12_way_88 : decode cX12_way 88 = .ok (.iload 5, 2) := by decide +kernel
set_option maxRecDepth 100000 in
theorem dX12_way_90 : decode cX12_way 90 = .ok (.iadd, 1) := by decide +kernel
set_option maxRecDepth 100000 in
theorem dX12_way_91 : decode cX12_way 91 = .ok (.iaload, 1) := by decide +kernel
set_option maxRecDepth 100000 in
theorem dX12_way_92 : decode cX12_way 92 = .ok (.invokestatic 139, 3) := by decide +kernel
set_option maxRecDepth 100000 in
theorem dX12_way_95 : decode cX12_way 95 = .ok (.goto 5, 3) := by decide +kernel
set_option maxRecDepth 100000 in
theorem dX12_way_98 : decode cX12_way 98 = .ok (.iload 4, 2) := by decide +kernel
set_option maxRecDepth 100000 in
theorem dX12_way_100 : decode cX12_way 100 = .ok (.istore 4, 2) := by decide +kernel
set_option maxRecDepth 100000 in
theorem dX12_way_102 : decode cX12_way 102 = .ok (.iinc 5 1, 3) := by decide +kernel
set_option maxRecDepth 100000 in
theorem dX12_way_105 : decode cX12_way 105 = .ok (.goto (-43), 3) := by decide +kernel
set_option maxRecDepth 100000 in
theorem dX12_way_108 : decode cX12_way 108 = .ok (.iload 4, 2) := by decide +kernel
set_option maxRecDepth 100000 in
theorem dX12_way_110 : decode cX12_way 110 = .ok (.istore_n 3, 1) := by decide +kernel
set_option maxRecDepth 100000 in
theorem dX12_way_111 : decode cX12_way 111 = .ok (.aload_n 0, 1) := by decide +kernel
set_option maxRecDepth 100000 in
theorem dX12_way_112 : decode cX12_way 112 = .ok (.iload_n 3, 1) := by decide +kernel
set_option maxRecDepth 100000 in
theorem dX12_way_113 : decode cX12_way 113 = .ok (.i2l, 1) := by decide +kernel
set_option maxRecDepth 100000 in
theorem dX12_way_114 : decode cX12_way 114 = .ok (.invokevirtual 116, 3) := by decide +kernel
set_option maxRecDepth 100000 in
theorem dX12_way_117 : decode cX12_way 117 = .ok (.goto (-67), 3) := by decide +kernel
set_option maxRecDepth 100000 in
theorem dX12_way_120 : decode cX12_way 120 = .ok (.aload_n 0, 1) := by decide +kernel
set_option maxRecDepth 100000 in
theorem dX12_way_121 : decode cX12_way 121 = .ok (.iload_n 1, 1) := by decide +kernel
set_option maxRecDepth 100000 in
theorem dX12_way_122 : decode cX12_way 122 = .ok (.iload_n 2, 1) := by decide +kernel
set_option maxRecDepth 100000 in
theorem dX12_way_123 : decode cX12_way 123 = .ok (.invokevirtual 145, 3) := by decide +kernel
set_option maxRecDepth 100000 in
theorem dX12_way_126 : decode cX12_way 126 = .ok (.ireturn, 1) := by decide +kernel
set_option maxRecDepth 100000 in
theorem dX12_course_0 : decode cX12_course 0 = .ok (.aload_n 0, 1) := by decide +kernel
set_option maxRecDepth 100000 in
theorem dX12_course_1 : decode cX12_course 1 = .ok (.iconst 0, 1) := by decide +kernel
set_option maxRecDepth 100000 in
theorem dX12_course_2 : decode cX12_course 2 = .ok (.putfield 106, 3) := by decide +kernel
set_option maxRecDepth 100000 in
theorem dX12_course_5 : decode cX12_course 5 = .ok (.aload_n 0, 1) := by decide +kernel
set_option maxRecDepth 100000 in
theorem dX12_course_6 : decode cX12_course 6 = .ok (.invokevirtual 407, 3) := by decide +kernel
set_option maxRecDepth 100000 in
theorem dX12_course_9 : decode cX12_course 9 = .ok (.aload_n 0, 1) := by decide +kernel
set_option maxRecDepth 100000 in
theorem dX12_course_10 : decode cX12_course 10 = .ok (.aload_n 0, 1) := by decide +kernel
set_option maxRecDepth 100000 in
theorem dX12_course_11 : decode cX12_course 11 = .ok (.getfield 36, 3) := by decide +kernel
set_option maxRecDepth 100000 in
theorem dX12_course_14 : decode cX12_course 14 = .ok (.invokevirtual 373, 3) := by decide +kernel
set_option maxRecDepth 100000 in
theorem dX12_course_17 : decode cX12_course 17 = .ok (.istore_n 1, 1) := by decide +kernel
set_option maxRecDepth 100000 in
theorem dX12_course_18 : decode cX12_course 18 = .ok (.aload_n 0, 1) := by decide +kernel
set_option maxRecDepth 100000 in
theorem dX12_course_19 : decode cX12_course 19 = .ok (.aload_n 0, 1) := by decide +kernel
set_option maxRecDepth 100000 in
theorem dX12_course_20 : decode cX12_course 20 = .ok (.getfield 33, 3) := by decide +kernel
set_option maxRecDepth 100000 in
theorem dX12_course_23 : decode cX12_course 23 = .ok (.aload_n 0, 1) := by decide +kernel
set_option maxRecDepth 100000 in
theorem dX12_course_24 : decode cX12_course 24 = .ok (.aload_n 0, 1) := by decide +kernel
set_option maxRecDepth 100000 in
theorem dX12_course_25 : decode cX12_course 25 = .ok (.getfield 33, 3) := by decide +kernel
set_option maxRecDepth 100000 in
theorem dX12_course_28 : decode cX12_course 28 = .ok (.invokevirtual 303, 3) := by decide +kernel
set_option maxRecDepth 100000 in
theorem dX12_course_31 : decode cX12_course 31 = .ok (.invokevirtual 297, 3) := by decide +kernel
set_option maxRecDepth 100000 in
theorem dX12_course_34 : decode cX12_course 34 = .ok (.aload_n 0, 1) := by decide +kernel
set_option maxRecDepth 100000 in
theorem dX12_course_35 : decode cX12_course 35 = .ok (.iconst 0, 1) := by decide +kernel
set_option maxRecDepth 100000 in
theorem dX12_course_36 : decode cX12_course 36 = .ok (.putfield 113, 3) := by decide +kernel
set_option maxRecDepth 100000 in
theorem dX12_course_39 : decode cX12_course 39 = .ok (.aload_n 0, 1) := by decide +kernel
set_option maxRecDepth 100000 in
theorem dX12_course_40 : decode cX12_course 40 = .ok (.aload_n 0, 1) := by decide +kernel
set_option maxRecDepth 100000 in
theorem dX12_course_41 : decode cX12_course 41 = .ok (.getfield 335, 3) := by decide +kernel
set_option maxRecDepth 100000 in
theorem dX12_course_44 : decode cX12_course 44 = .ok (.i2l, 1) := by decide +kernel
set_option maxRecDepth 100000 in
theorem dX12_course_45 : decode cX12_course 45 = .ok (.invokevirtual 116, 3) := by decide +kernel
set_option maxRecDepth 100000 in
theorem dX12_course_48 : decode cX12_course 48 = .ok (.aload_n 0, 1) := by decide +kernel
set_option maxRecDepth 100000 in
theorem dX12_course_49 : decode cX12_course 49 = .ok (.aload_n 0, 1) := by decide +kernel
set_option maxRecDepth 100000 in
theorem dX12_course_50 : decode cX12_course 50 = .ok (.getfield 57, 3) := by decide +kernel
set_option maxRecDepth 100000 in
theorem dX12_course_53 : decode cX12_course 53 = .ok (.iconst 0, 1) := by decide +kernel
set_option maxRecDepth 100000 in
theorem dX12_course_54 : decode cX12_course 54 = .ok (.iaload, 1) := by decide +kernel
set_option maxRecDepth 100000 in
theorem dX12_course_55 : decode cX12_course 55 = .ok (.i2l, 1) := by decide +kernel
set_option maxRecDepth 100000 in
theorem dX12_course_56 : decode cX12_course 56 = .ok (.invokevirtual 116, 3) := by decide +kernel
set_option maxRecDepth 100000 in
theorem dX12_course_59 : decode cX12_course 59 = .ok (.aload_n 0, 1) := by decide +kernel
set_option maxRecDepth 100000 in
theorem dX12_course_60 : decode cX12_course 60 = .ok (.aload_n 0, 1) := by decide +kernel
set_option maxRecDepth 100000 in
theorem dX12_course_61 : decode cX12_course 61 = .ok (.getfield 57, 3) := by decide +kernel
set_option maxRecDepth 100000 in
theorem dX12_course_64 : decode cX12_course 64 = .ok (.iconst 1, 1) := by decide +kernel
set_option maxRecDepth 100000 in
theorem dX12_course_65 : decode cX12_course 65 = .ok (.iaload, 1) := by decide +kernel
set_option maxRecDepth 100000 in
theorem dX12_course_66 : decode cX12_course 66 = .ok (.i2l, 1) := by decide +kernel
set_option maxRecDepth 100000 in
theorem dX12_course_67 : decode cX12_course 67 = .ok (.invokevirtual 116, 3) := by decide +kernel
set_option maxRecDepth 100000 in
theorem dX12_course_70 : decode cX12_course 70 = .ok (.aload_n 0, 1) := by decide +kernel
set_option maxRecDepth 100000 in
theorem dX12_course_71 : decode cX12_course 71 = .ok (.aload_n 0, 1) := by decide +kernel
set_option maxRecDepth 100000 in
theorem dX12_course_72 : decode cX12_course 72 = .ok (.getfield 57, 3) := by decide +kernel
set_option maxRecDepth 100000 in
theorem dX12_course_75 : decode cX12_course 75 = .ok (.iconst 2, 1) := by decide +kernel
set_option maxRecDepth 100000 in
theorem dX12_course_76 : decode cX12_course 76 = .ok (.iaload, 1) := by decide +kernel
set_option maxRecDepth 100000 in
theorem dX12_course_77 : decode cX12_course 77 = .ok (.i2l, 1) := by decide +kernel
set_option maxRecDepth 100000 in
theorem dX12_course_78 : decode cX12_course 78 = .ok (.invokevirtual 116, 3) := by decide +kernel
set_option maxRecDepth 100000 in
theorem dX12_course_81 : decode cX12_course 81 = .ok (.iload_n 1, 1) := by decide +kernel
set_option maxRecDepth 100000 in
theorem dX12_course_82 : decode cX12_course 82 = .ok (.ireturn, 1) := by decide +kernel
set_option maxRecDepth 100000 in
theorem dX12_outMany_0 : decode cX12_outMany 0 = .ok (.aload_n 0, 1) := by decide +kernel
set_option maxRecDepth 100000 in
theorem dX12_outMany_1 : decode cX12_outMany 1 = .ok (.aload_n 1, 1) := by decide +kernel
set_option maxRecDepth 100000 in
theorem dX12_outMany_2 : decode cX12_outMany 2 = .ok (.invokevirtual 370, 3) := by decide +kernel
set_option maxRecDepth 100000 in
theorem dX12_outMany_5 : decode cX12_outMany 5 = .ok (.invokestatic 273, 3) := by decide +kernel
set_option maxRecDepth 100000 in
theorem dX12_outMany_8 : decode cX12_outMany 8 = .ok (.ireturn, 1) := by decide +kernel
set_option maxRecDepth 100000 in
theorem dX12_outIn_0 : decode cX12_outIn 0 = .ok (.iconst 0, 1) := by decide +kernel
set_option maxRecDepth 100000 in
theorem dX12_outIn_1 : decode cX12_outIn 1 = .ok (.istore_n 2, 1) := by decide +kernel
set_option maxRecDepth 100000 in
theorem dX12_outIn_2 : decode cX12_outIn 2 = .ok (.iload_n 2, 1) := by decide +kernel
set_option maxRecDepth 100000 in
theorem dX12_outIn_3 : decode cX12_outIn 3 = .ok (.iload_n 1, 1) := by decide +kernel
set_option maxRecDepth 100000 in
theorem dX12_outIn_4 : decode cX12_outIn 4 = .ok (.if_icmp .ge 18, 3) := by decide +kernel
set_option maxRecDepth 100000 in
theorem dX12_outIn_7 : decode cX12_outIn 7 = .ok (.aload_n 0, 1) := by decide +kernel
set_option maxRecDepth 100000 in
theorem dX12_outIn_8 : decode cX12_outIn 8 = .ok (.aload_n 0, 1) := by decide +kernel
set_option maxRecDepth 100000 in
theorem dX12_outIn_9 : decode cX12_outIn 9 = .ok (.getfield 36, 3) := by decide +kernel
set_option maxRecDepth 100000 in
theorem dX12_outIn_12 : decode cX12_outIn 12 = .ok (.invokevirtual 373, 3) := by decide +kernel
set_option maxRecDepth 100000 in
theorem dX12_outIn_15 : decode cX12_outIn 15 = .ok (.pop, 1) := by decide +kernel
set_option maxRecDepth 100000 in
theorem dX12_outIn_16 : decode cX12_outIn 16 = .ok (.iinc 2 1, 3) := by decide +kernel
set_option maxRecDepth 100000 in
theorem dX12_outIn_19 : decode cX12_outIn 19 = .ok (.goto (-17), 3) := by decide +kernel
set_option maxRecDepth 100000 in
theorem dX12_outIn_22 : decode cX12_outIn 22 = .ok (.aload_n 0, 1) := by decide +kernel
set_option maxRecDepth 100000 in
theorem dX12_outIn_23 : decode cX12_outIn 23 = .ok (.aload_n 0, 1) := by decide +kernel
set_option maxRecDepth 100000 in
theorem dX12_outIn_24 : decode cX12_outIn 24 = .ok (.getfield 36, 3) := by decide +kernel
set_option maxRecDepth 100000 in
theorem dX12_outIn_27 : decode cX12_outIn 27 = .ok (.invokevirtual 410, 3) := by decide +kernel
set_option maxRecDepth 100000 in
theorem dX12_outIn_30 : decode cX12_outIn 30 = .ok (.aload_n 0, 1) := by decide +kernel
set_option maxRecDepth 100000 in
theorem dX12_outIn_31 : decode cX12_outIn 31 = .ok (.aload_n 0, 1) := by decide +kernel
set_option maxRecDepth 100000 in
theorem dX12_outIn_32 : decode cX12_outIn 32 = .ok (.getfield 33, 3) := by decide +kernel
set_option maxRecDepth 100000 in
theorem dX12_outIn_35 : decode cX12_outIn 35 = .ok (.invokevirtual 410, 3) := by decide +kernel
set_option maxRecDepth 100000 in
theorem dX12_outIn_38 : decode cX12_outIn 38 = .ok (.isub, 1) := by decide +kernel
set_option maxRecDepth 100000 in
theorem dX12_outIn_39 : decode cX12_outIn 39 = .ok (.ireturn, 1) := by decide +kernel
set_option maxRecDepth 100000 in
theorem dX12_ahead_0 : decode cX12_ahead 0 = .ok (.aload_n 0, 1) := by decide +kernel
set_option maxRecDepth 100000 in
theorem dX12_ahead_1 : decode cX12_ahead 1 = .ok (.iconst 0, 1) := by decide +kernel
set_option maxRecDepth 100000 in
theorem dX12_ahead_2 : decode cX12_ahead 2 = .ok (.putfield 106, 3) := by decide +kernel
set_option maxRecDepth 100000 in
theorem dX12_ahead_5 : decode cX12_ahead 5 = .ok (.iload_n 1, 1) := by decide +kernel
set_option maxRecDepth 100000 in
theorem dX12_ahead_6 : decode cX12_ahead 6 = .ok (.i2l, 1) := by decide +kernel
set_option maxRecDepth 100000 in
theorem dX12_ahead_7 : decode cX12_ahead 7 = .ok (.lconst 0, 1) := by decide +kernel
set_option maxRecDepth 100000 in
theorem dX12_ahead_8 : decode cX12_ahead 8 = .ok (.ldc2_w 413, 3) := by decide +kernel
set_option maxRecDepth 100000 in
theorem dX12_ahead_11 : decode cX12_ahead 11 = .ok (.invokestatic 120, 3) := by decide +kernel
set_option maxRecDepth 100000 in
theorem dX12_ahead_14 : decode cX12_ahead 14 = .ok (.ifCond .ne 5, 3) := by decide +kernel
set_option maxRecDepth 100000 in
theorem dX12_ahead_17 : decode cX12_ahead 17 = .ok (.iconst (-1), 1) := by decide +kernel
set_option maxRecDepth 100000 in
theorem dX12_ahead_18 : decode cX12_ahead 18 = .ok (.ireturn, 1) := by decide +kernel
set_option maxRecDepth 100000 in
theorem dX12_ahead_19 : decode cX12_ahead 19 = .ok (.aload_n 0, 1) := by decide +kernel
set_option maxRecDepth 100000 in
theorem dX12_ahead_20 : decode cX12_ahead 20 = .ok (.invokevirtual 407, 3) := by decide +kernel
set_option maxRecDepth 100000 in
theorem dX12_ahead_23 : decode cX12_ahead 23 = .ok (.aload_n 0, 1) := by decide +kernel
set_option maxRecDepth 100000 in
theorem dX12_ahead_24 : decode cX12_ahead 24 = .ok (.iload_n 1, 1) := by decide +kernel
set_option maxRecDepth 100000 in
theorem dX12_ahead_25 : decode cX12_ahead 25 = .ok (.invokevirtual 415, 3) := by decide +kernel
set_option maxRecDepth 100000 in
theorem dX12_ahead_28 : decode cX12_ahead 28 = .ok (.istore_n 2, 1) := by decide +kernel
set_option maxRecDepth 100000 in
theorem dX12_ahead_29 : decode cX12_ahead 29 = .ok (.aload_n 0, 1) := by decide +kernel
set_option maxRecDepth 100000 in
theorem dX12_ahead_30 : decode cX12_ahead 30 = .ok (.iconst 0, 1) := by decide +kernel
set_option maxRecDepth 100000 in
theorem dX12_ahead_31 : decode cX12_ahead 31 = .ok (.putfield 113, 3) := by decide +kernel
set_option maxRecDepth 100000 in
theorem dX12_ahead_34 : decode cX12_ahead 34 = .ok (.aload_n 0, 1) := by decide +kernel
set_option maxRecDepth 100000 in
theorem dX12_ahead_35 : decode cX12_ahead 35 = .ok (.aload_n 0, 1) := by decide +kernel
set_option maxRecDepth 100000 in
theorem dX12_ahead_36 : decode cX12_ahead 36 = .ok (.getfield 36, 3) := by decide +kernel
set_option maxRecDepth 100000 in
theorem dX12_ahead_39 : decode cX12_ahead 39 = .ok (.iconst 0, 1) := by decide +kernel
set_option maxRecDepth 100000 in
theorem dX12_ahead_40 : decode cX12_ahead 40 = .ok (.iaload, 1) := by decide +kernel
set_option maxRecDepth 100000 in
theorem dX12_ahead_41 : decode cX12_ahead 41 = .ok (.i2l, 1) := by decide +kernel
set_option maxRecDepth 100000 in
theorem dX12_ahead_42 : decode cX12_ahead 42 = .ok (.invokevirtual 116, 3) := by decide +kernel
set_option maxRecDepth 100000 in
theorem dX12_ahead_45 : decode cX12_ahead 45 = .ok (.aload_n 0, 1) := by decide +kernel
set_option maxRecDepth 100000 in
theorem dX12_ahead_46 : decode cX12_ahead 46 = .ok (.aload_n 0, 1) := by decide +kernel
set_option maxRecDepth 100000 in
theorem dX12_ahead_47 : decode cX12_ahead 47 = .ok (.getfield 36, 3) := by decide +kernel
set_option maxRecDepth 100000 in
theorem dX12_ahead_50 : decode cX12_ahead 50 = .ok (.iconst 1, 1) := by decide +kernel
set_option maxRecDepth 100000 in
theorem dX12_ahead_51 : decode cX12_ahead 51 = .ok (.iaload, 1) := by decide +kernel
set_option maxRecDepth 100000 in
theorem dX12_ahead_52 : decode cX12_ahead 52 = .ok (.i2l, 1) := by decide +kernel
set_option maxRecDepth 100000 in
theorem dX12_ahead_53 : decode cX12_ahead 53 = .ok (.invokevirtual 116, 3) := by decide +kernel
set_option maxRecDepth 100000 in
theorem dX12_ahead_56 : decode cX12_ahead 56 = .ok (.aload_n 0, 1) := by decide +kernel
set_option maxRecDepth 100000 in
theorem dX12_ahead_57 : decode cX12_ahead 57 = .ok (.aload_n 0, 1) := by decide +kernel
set_option maxRecDepth 100000 in
theorem dX12_ahead_58 : decode cX12_ahead 58 = .ok (.aload_n 0, 1) := by decide +kernel
set_option maxRecDepth 100000 in
theorem dX12_ahead_59 : decode cX12_ahead 59 = .ok (.getfield 36, 3) := by decide +kernel
set_option maxRecDepth 100000 in
theorem dX12_ahead_62 : decode cX12_ahead 62 = .ok (.invokevirtual 418, 3) := by decide +kernel
set_option maxRecDepth 100000 in
theorem dX12_ahead_65 : decode cX12_ahead 65 = .ok (.i2l, 1) := by decide +kernel
set_option maxRecDepth 100000 in
theorem dX12_ahead_66 : decode cX12_ahead 66 = .ok (.invokevirtual 116, 3) := by decide +kernel
set_option maxRecDepth 100000 in
theorem dX12_ahead_69 : decode cX12_ahead 69 = .ok (.iload_n 2, 1) := by decide +kernel
set_option maxRecDepth 100000 in
theorem dX12_ahead_70 : decode cX12_ahead 70 = .ok (.ireturn, 1) := by decide +kernel
set_option maxRecDepth 100000 in
theorem dX12_outAfter_0 : decode cX12_outAfter 0 = .ok (.iconst 0, 1) := by decide +kernel
set_option maxRecDepth 100000 in
theorem dX12_outAfter_1 : decode cX12_outAfter 1 = .ok (.istore_n 2, 1) := by decide +kernel
set_option maxRecDepth 100000 in
theorem dX12_outAfter_2 : decode cX12_outAfter 2 = .ok (.iload_n 2, 1) := by decide +kernel
set_option maxRecDepth 100000 in
theorem dX12_outAfter_3 : decode cX12_outAfter 3 = .ok (.bipush 30, 2) := by decide +kernel
set_option maxRecDepth 100000 in
theorem dX12_outAfter_5 : decode cX12_outAfter 5 = .ok (.if_icmp .gt 32, 3) := by decide +kernel
set_option maxRecDepth 100000 in
theorem dX12_outAfter_8 : decode cX12_outAfter 8 = .ok (.aload_n 0, 1) := by decide +kernel
set_option maxRecDepth 100000 in
theorem dX12_outAfter_9 : decode cX12_outAfter 9 = .ok (.getfield 36, 3) := by decide +kernel
set_option maxRecDepth 100000 in
theorem dX12_outAfter_12 : decode cX12_outAfter 12 = .ok (.bipush 14, 2) := by decide +kernel
set_option maxRecDepth 100000 in
theorem dX12_outAfter_14 : decode cX12_outAfter 14 = .ok (.iload_n 1, 1) := by decide +kernel
set_option maxRecDepth 100000 in
theorem dX12_outAfter_15 : decode cX12_outAfter 15 = .ok (.iadd, 1) := by decide +kernel
set_option maxRecDepth 100000 in
theorem dX12_outAfter_16 : decode cX12_outAfter 16 = .ok (.iaload, 1) := by decide +kernel
set_option maxRecDepth 100000 in
theorem dX12_outAfter_17 : decode cX12_outAfter 17 = .ok (.ifCond .ge 5, 3) := by decide +kernel
set_option maxRecDepth 100000 in
theorem dX12_outAfter_20 : decode cX12_outAfter 20 = .ok (.iload_n 2, 1) := by decide +kernel
set_option maxRecDepth 100000 in
theorem dX12_outAfter_21 : decode cX12_outAfter 21 = .ok (.ireturn, 1) := by decide +kernel
set_option maxRecDepth 100000 in
theorem dX12_outAfter_22 : decode cX12_outAfter 22 = .ok (.aload_n 0, 1) := by decide +kernel
set_option maxRecDepth 100000 in
theorem dX12_outAfter_23 : decode cX12_outAfter 23 = .ok (.aload_n 0, 1) := by decide +kernel
set_option maxRecDepth 100000 in
theorem dX12_outAfter_24 : decode cX12_outAfter 24 = .ok (.getfield 36, 3) := by decide +kernel
set_option maxRecDepth 100000 in
theorem dX12_outAfter_27 : decode cX12_outAfter 27 = .ok (.invokevirtual 373, 3) := by decide +kernel
set_option maxRecDepth 100000 in
theorem dX12_outAfter_30 : decode cX12_outAfter 30 = .ok (.pop, 1) := by decide +kernel
set_option maxRecDepth 100000 in
theorem dX12_outAfter_31 : decode cX12_outAfter 31 = .ok (.iinc 2 1, 3) := by decide +kernel
set_option maxRecDepth 100000 in
theorem dX12_outAfter_34 : decode cX12_outAfter 34 = .ok (.goto (-32), 3) := by decide +kernel
set_option maxRecDepth 100000 in
theorem dX12_outAfter_37 : decode cX12_outAfter 37 = .ok (.bipush 31, 2) := by decide +kernel
set_option maxRecDepth 100000 in
theorem dX12_outAfter_39 : decode cX12_outAfter 39 = .ok (.ireturn, 1) := by decide +kernel
set_option maxRecDepth 100000 in
theorem dX12_arrives_0 : decode cX12_arrives 0 = .ok (.aload_n 0, 1) := by decide +kernel
set_option maxRecDepth 100000 in
theorem dX12_arrives_1 : decode cX12_arrives 1 = .ok (.iconst 0, 1) := by decide +kernel
set_option maxRecDepth 100000 in
theorem dX12_arrives_2 : decode cX12_arrives 2 = .ok (.putfield 106, 3) := by decide +kernel
set_option maxRecDepth 100000 in
theorem dX12_arrives_5 : decode cX12_arrives 5 = .ok (.aload_n 0, 1) := by decide +kernel
set_option maxRecDepth 100000 in
theorem dX12_arrives_6 : decode cX12_arrives 6 = .ok (.iload_n 1, 1) := by decide +kernel
set_option maxRecDepth 100000 in
theorem dX12_arrives_7 : decode cX12_arrives 7 = .ok (.invokevirtual 325, 3) := by decide +kernel
set_option maxRecDepth 100000 in
theorem dX12_arrives_10 : decode cX12_arrives 10 = .ok (.ifCond .ne 5, 3) := by decide +kernel
set_option maxRecDepth 100000 in
theorem dX12_arrives_13 : decode cX12_arrives 13 = .ok (.iconst (-1), 1) := by decide +kernel
set_option maxRecDepth 100000 in
theorem dX12_arrives_14 : decode cX12_arrives 14 = .ok (.ireturn, 1) := by decide +kernel
set_option maxRecDepth 100000 in
theorem dX12_arrives_15 : decode cX12_arrives 15 = .ok (.aload_n 0, 1) := by decide +kernel
set_option maxRecDepth 100000 in
theorem dX12_arrives_16 : decode cX12_arrives 16 = .ok (.invokevirtual 407, 3) := by decide +kernel
set_option maxRecDepth 100000 in
theorem dX12_arrives_19 : decode cX12_arrives 19 = .ok (.aload_n 0, 1) := by decide +kernel
set_option maxRecDepth 100000 in
theorem dX12_arrives_20 : decode cX12_arrives 20 = .ok (.iload_n 1, 1) := by decide +kernel
set_option maxRecDepth 100000 in
theorem dX12_arrives_21 : decode cX12_arrives 21 = .ok (.invokevirtual 421, 3) := by decide +kernel
set_option maxRecDepth 100000 in
theorem dX12_arrives_24 : decode cX12_arrives 24 = .ok (.istore_n 2, 1) := by decide +kernel
set_option maxRecDepth 100000 in
theorem dX12_arrives_25 : decode cX12_arrives 25 = .ok (.iload_n 2, 1) := by decide +kernel
set_option maxRecDepth 100000 in
theorem dX12_arrives_26 : decode cX12_arrives 26 = .ok (.bipush 30, 2) := by decide +kernel
set_option maxRecDepth 100000 in
theorem dX12_arrives_28 : decode cX12_arrives 28 = .ok (.if_icmp .le 6, 3) := by decide +kernel
set_option maxRecDepth 100000 in
theorem dX12_arrives_31 : decode cX12_arrives 31 = .ok (.bipush (-2), 2) := by decide +kernel
set_option maxRecDepth 100000 in
theorem dX12_arrives_33 : decode cX12_arrives 33 = .ok (.ireturn, 1) := by decide +kernel
set_option maxRecDepth 100000 in
theorem dX12_arrives_34 : decode cX12_arrives 34 = .ok (.aload_n 0, 1) := by decide +kernel
set_option maxRecDepth 100000 in
theorem dX12_arrives_35 : decode cX12_arrives 35 = .ok (.iconst 0, 1) := by decide +kernel
set_option maxRecDepth 100000 in
theorem dX12_arrives_36 : decode cX12_arrives 36 = .ok (.putfield 113, 3) := by decide +kernel
set_option maxRecDepth 100000 in
theorem dX12_arrives_39 : decode cX12_arrives 39 = .ok (.aload_n 0, 1) := by decide +kernel
set_option maxRecDepth 100000 in
theorem dX12_arrives_40 : decode cX12_arrives 40 = .ok (.aload_n 0, 1) := by decide +kernel
set_option maxRecDepth 100000 in
theorem dX12_arrives_41 : decode cX12_arrives 41 = .ok (.getfield 36, 3) := by decide +kernel
set_option maxRecDepth 100000 in
theorem dX12_arrives_44 : decode cX12_arrives 44 = .ok (.iconst 1, 1) := by decide +kernel
set_option maxRecDepth 100000 in
theorem dX12_arrives_45 : decode cX12_arrives 45 = .ok (.iaload, 1) := by decide +kernel
set_option maxRecDepth 100000 in
theorem dX12_arrives_46 : decode cX12_arrives 46 = .ok (.i2l, 1) := by decide +kernel
set_option maxRecDepth 100000 in
theorem dX12_arrives_47 : decode cX12_arrives 47 = .ok (.invokevirtual 116, 3) := by decide +kernel
set_option maxRecDepth 100000 in
theorem dX12_arrives_50 : decode cX12_arrives 50 = .ok (.iload_n 2, 1) := by decide +kernel
set_option maxRecDepth 100000 in
theorem dX12_arrives_51 : decode cX12_arrives 51 = .ok (.ireturn, 1) := by decide +kernel
set_option maxRecDepth 100000 in
theorem dX12_tips_0 : decode cX12_tips 0 = .ok (.aload_n 0, 1) := by decide +kernel
set_option maxRecDepth 100000 in
theorem dX12_tips_1 : decode cX12_tips 1 = .ok (.iconst 0, 1) := by decide +kernel
set_option maxRecDepth 100000 in
theorem dX12_tips_2 : decode cX12_tips 2 = .ok (.putfield 106, 3) := by decide +kernel
set_option maxRecDepth 100000 in
theorem dX12_tips_5 : decode cX12_tips 5 = .ok (.aload_n 0, 1) := by decide +kernel
set_option maxRecDepth 100000 in
theorem dX12_tips_6 : decode cX12_tips 6 = .ok (.iload_n 1, 1) := by decide +kernel
set_option maxRecDepth 100000 in
theorem dX12_tips_7 : decode cX12_tips 7 = .ok (.invokevirtual 317, 3) := by decide +kernel
set_option maxRecDepth 100000 in
theorem dX12_tips_10 : decode cX12_tips 10 = .ok (.ifCond .ne 5, 3) := by decide +kernel
set_option maxRecDepth 100000 in
theorem dX12_tips_13 : decode cX12_tips 13 = .ok (.iconst (-1), 1) := by decide +kernel
set_option maxRecDepth 100000 in
theorem dX12_tips_14 : decode cX12_tips 14 = .ok (.ireturn, 1) := by decide +kernel
set_option maxRecDepth 100000 in
theorem dX12_tips_15 : decode cX12_tips 15 = .ok (.aload_n 0, 1) := by decide +kernel
set_option maxRecDepth 100000 in
theorem dX12_tips_16 : decode cX12_tips 16 = .ok (.aload_n 0, 1) := by decide +kernel
set_option maxRecDepth 100000 in
theorem dX12_tips_17 : decode cX12_tips 17 = .ok (.getfield 33, 3) := by decide +kernel
set_option maxRecDepth 100000 in
theorem dX12_tips_20 : decode cX12_tips 20 = .ok (.iload_n 1, 1) := by decide +kernel
set_option maxRecDepth 100000 in
theorem dX12_tips_21 : decode cX12_tips 21 = .ok (.invokevirtual 322, 3) := by decide +kernel
set_option maxRecDepth 100000 in
theorem dX12_tips_24 : decode cX12_tips 24 = .ok (.istore_n 2, 1) := by decide +kernel
set_option maxRecDepth 100000 in
theorem dX12_tips_25 : decode cX12_tips 25 = .ok (.iconst 0, 1) := by decide +kernel
set_option maxRecDepth 100000 in
theorem dX12_tips_26 : decode cX12_tips 26 = .ok (.istore_n 3, 1) := by decide +kernel
set_option maxRecDepth 100000 in
theorem dX12_tips_27 : decode cX12_tips 27 = .ok (.iconst 0, 1) := by decide +kernel
set_option maxRecDepth 100000 in
theorem dX12_tips_28 : decode cX12_tips 28 = .ok (.istore 4, 2) := by decide +kernel
set_option maxRecDepth 100000 in
theorem dX12_tips_30 : decode cX12_tips 30 = .ok (.iload 4, 2) := by decide +kernel
set_option maxRecDepth 100000 in
theorem dX12_tips_32 : decode cX12_tips 32 = .ok (.aload_n 0, 1) := by decide +kernel
set_option maxRecDepth 100000 in
theorem dX12_tips_33 : decode cX12_tips 33 = .ok (.getfield 127, 3) := by decide +kernel
set_option maxRecDepth 100000 in
theorem dX12_tips_36 : decode cX12_tips 36 = .ok (.if_icmp .ge 129, 3) := by decide +kernel
set_option maxRecDepth 100000 in
theorem dX12_tips_39 : decode cX12_tips 39 = .ok (.aload_n 0, 1) := by decide +kernel
set_option maxRecDepth 100000 in
theorem dX12_tips_40 : decode cX12_tips 40 = .ok (.getfield 33, 3) := by decide +kernel
set_option maxRecDepth 100000 in
theorem dX12_tips_43 : decode cX12_tips 43 = .ok (.bipush 14, 2) := by decide +kernel
set_option maxRecDepth 100000 in
theorem dX12_tips_45 : decode cX12_tips 45 = .ok (.iload 4, 2) := by decide +kernel
set_option maxRecDepth 100000 in
theorem dX12_tips_47 : decode cX12_tips 47 = .ok (.iadd, 1) := by decide +kernel
set_option maxRecDepth 100000 in
theorem dX12_tips_48 : decode cX12_tips 48 = .ok (.iaload, 1) := by decide +kernel
set_option maxRecDepth 100000 in
theorem dX12_tips_49 : decode cX12_tips 49 = .ok (.iload_n 1, 1) := by decide +kernel
set_option maxRecDepth 100000 in
theorem dX12_tips_50 : decode cX12_tips 50 = .ok (.if_icmp .ne 109, 3) := by decide +kernel
set_option maxRecDepth 100000 in
theorem dX12_tips_53 : decode cX12_tips 53 = .ok (.aload_n 0, 1) := by decide +kernel
set_option maxRecDepth 100000 in
theorem dX12_tips_54 : decode cX12_tips 54 = .ok (.aload_n 0, 1) := by decide +kernel
set_option maxRecDepth 100000 in
theorem dX12_tips_55 : decode cX12_tips 55 = .ok (.getfield 33, 3) := by decide +kernel
set_option maxRecDepth 100000 in
theorem dX12_tips_58 : decode cX12_tips 58 = .ok (.iload 4, 2) := by decide +kernel
set_option maxRecDepth 100000 in
theorem dX12_tips_60 : decode cX12_tips 60 = .ok (.invokevirtual 291, 3) := by decide +kernel
set_option maxRecDepth 100000 in
theorem dX12_tips_63 : decode cX12_tips 63 = .ok (.istore 5, 2) := by decide +kernel
set_option maxRecDepth 100000 in
theorem dX12_tips_65 : decode cX12_tips 65 = .ok (.aload_n 0, 1) := by decide +kernel
set_option maxRecDepth 100000 in
theorem dX12_tips_66 : decode cX12_tips 66 = .ok (.aload_n 0, 1) := by decide +kernel
set_option maxRecDepth 100000 in
theorem dX12_tips_67 : decode cX12_tips 67 = .ok (.getfield 33, 3) := by decide +kernel
set_option maxRecDepth 100000 in
theorem dX12_tips_70 : decode cX12_tips 70 = .ok (.iload 4, 2) := by decide +kernel
set_option maxRecDepth 100000 in
theorem dX12_tips_72 : decode cX12_tips 72 = .ok (.invokevirtual 294, 3) := by decide +kernel
set_option maxRecDepth 100000 in
theorem dX12_tips_75 : decode cX12_tips 75 = .ok (.istore 6, 2) := by decide +kernel
set_option maxRecDepth 100000 in
theorem dX12_tips_77 : decode cX12_tips 77 = .ok (.aload_n 0, 1) := by decide +kernel
set_option maxRecDepth 100000 in
theorem dX12_tips_78 : decode cX12_tips 78 = .ok (.getfield 57, 3) := by decide +kernel
set_option maxRecDepth 100000 in
theorem dX12_tips_81 : decode cX12_tips 81 = .ok (.iload 5, 2) := by decide +kernel
set_option maxRecDepth 100000 in
theorem dX12_tips_83 : decode cX12_tips 83 = .ok (.dup2, 1) := by decide +kernel
set_option maxRecDepth 100000 in
theorem dX12_tips_84 : decode cX12_tips 84 = .ok (.iaload, 1) := by decide +kernel
set_option maxRecDepth 100000 in
theorem dX12_tips_85 : decode cX12_tips 85 = .ok (.iload 6, 2) := by decide +kernel
set_option maxRecDepth 100000 in
theorem dX12_tips_87 : decode cX12_tips 87 = .ok (.isub, 1) := by decide +kernel
set_option maxRecDepth 100000 in
theorem dX12_tips_88 : decode cX12_tips 88 = .ok (.iastore, 1) := by decide +kernel
set_option maxRecDepth 100000 in
theorem dX12_tips_89 : decode cX12_tips 89 = .ok (.iconst 0, 1) := by decide +kernel
set_option maxRecDepth 100000 in
theorem dX12_tips_90 : decode cX12_tips 90 = .ok (.istore 7, 2) := by decide +kernel
set_option maxRecDepth 100000 in
theorem dX12_tips_92 : decode cX12_tips 92 = .ok (.iload 7, 2) := by decide +kernel
set_option maxRecDepth 100000 in
theorem dX12_tips_94 : decode cX12_tips 94 = .ok (.iconst 3, 1) := by decide +kernel
set_option maxRecDepth 100000 in
theorem dX12_tips_95 : decode cX12_tips 95 = .ok (.if_icmp .ge 52, 3) := by decide +kernel
set_option maxRecDepth 100000 in
theorem dX12_tips_98 : decode cX12_tips 98 = .ok (.aload_n 0, 1) := by decide +kernel
set_option maxRecDepth 100000 in
theorem dX12_tips_99 : decode cX12_tips 99 = .ok (.getfield 57, 3) := by decide +kernel
set_option maxRecDepth 100000 in
theorem dX12_tips_102 : decode cX12_tips 102 = .ok (.iload 7, 2) := by decide +kernel
set_option maxRecDepth 100000 in
theorem dX12_tips_104 : decode cX12_tips 104 = .ok (.dup2, 1) := by decide +kernel
set_option maxRecDepth 100000 in
theorem dX12_tips_105 : decode cX12_tips 105 = .ok (.iaload, 1) := by decide +kernel
set_option maxRecDepth 100000 in
theorem dX12_tips_106 : decode cX12_tips 106 = .ok (.iload 6, 2) := by decide +kernel
set_option maxRecDepth 100000 in
theorem dX12_tips_108 : decode cX12_tips 108 = .ok (.iadd, 1) := by decide +kernel
set_option maxRecDepth 100000 in
theorem dX12_tips_109 : decode cX12_tips 109 = .ok (.iastore, 1) := by decide +kernel
set_option maxRecDepth 100000 in
theorem dX12_tips_110 : decode cX12_tips 110 = .ok (.iload_n 3, 1) := by decide +kernel
set_option maxRecDepth 100000 in
theorem dX12_tips_111 : decode cX12_tips 111 = .ok (.aload_n 0, 1) := by decide +kernel
set_option maxRecDepth 100000 in
theorem dX12_tips_112 : decode cX12_tips 112 = .ok (.invokevirtual 300, 3) := by decide +kernel
set_option maxRecDepth 100000 in
theorem dX12_tips_115 : decode cX12_tips 115 = .ok (.iload_n 2, 1) := by decide +kernel
set_option maxRecDepth 100000 in
theorem dX12_tips_116 : decode cX12_tips 116 = .ok (.if_icmp .eq 10, 3) := by decide +kernel
set_option maxRecDepth 100000 in
theorem dX12_tips_119 : decode cX12_tips 119 = .ok (.iconst 1, 1) := by decide +kernel
set_option maxRecDepth 100000 in
theorem dX12_tips_120 : decode cX12_tips 120 = .ok (.iload 4, 2) := by decide +kernel
set_option maxRecDepth 100000 in
theorem dX12_tips_122 : decode cX12_tips 122 = .ok (.ishl, 1) := by decide +kernel
set_option maxRecDepth 100000 in
theorem dX12_tips_123 : decode cX12_tips 123 = .ok (.goto 4, 3) := by decide +kernel
set_option maxRecDepth 100000 in
theorem dX12_tips_126 : decode cX12_tips 126 = .ok (.iconst 0, 1) := by decide +kernel
set_option maxRecDepth 100000 in
theorem dX12_tips_127 : decode cX12_tips 127 = .ok (.ior, 1) := by decide +kernel
set_option maxRecDepth 100000 in
theorem dX12_tips_128 : decode cX12_tips 128 = .ok (.istore_n 3, 1) := by decide +kernel
set_option maxRecDepth 100000 in
theorem dX12_tips_129 : decode cX12_tips 129 = .ok (.aload_n 0, 1) := by decide +kernel
set_option maxRecDepth 100000 in
theorem dX12_tips_130 : decode cX12_tips 130 = .ok (.getfield 57, 3) := by decide +kernel
set_option maxRecDepth 100000 in
theorem dX12_tips_133 : decode cX12_tips 133 = .ok (.iload 7, 2) := by decide +kernel
set_option maxRecDepth 100000 in
theorem dX12_tips_135 : decode cX12_tips 135 = .ok (.dup2, 1) := by decide +kernel
set_option maxRecDepth 100000 in
theorem dX12_tips_136 : decode cX12_tips 136 = .ok (.iaload, 1) := by decide +kernel
set_option maxRecDepth 100000 in
theorem dX12_tips_137 : decode cX12_tips 137 = .ok (.iload 6, 2) := by decide +kernel
set_option maxRecDepth 100000 in
theorem dX12_tips_139 : decode cX12_tips 139 = .ok (.isub, 1) := by decide +kernel
set_option maxRecDepth 100000 in
theorem dX12_tips_140 : decode cX12_tips 140 = .ok (.iastore, 1) := by decide +kernel
set_option maxRecDepth 100000 in
theorem dX12_tips_141 : decode cX12_tips 141 = .ok (.iinc 7 1, 3) := by decide +kernel
set_option maxRecDepth 100000 in
theorem dX12_tips_144 : decode cX12_tips 144 = .ok (.goto (-52), 3) := by decide +kernel
set_option maxRecDepth 100000 in
theorem dX12_tips_147 : decode cX12_tips 147 = .ok (.aload_n 0, 1) := by decide +kernel
set_option maxRecDepth 100000 in
theorem dX12_tips_148 : decode cX12_tips 148 = .ok (.getfield 57, 3) := by decide +kernel
set_option maxRecDepth 100000 in
theorem dX12_tips_151 : decode cX12_tips 151 = .ok (.iload 5, 2) := by decide +kernel
set_option maxRecDepth 100000 in
theorem dX12_tips_153 : decode cX12_tips 153 = .ok (.dup2, 1) := by decide +kernel
set_option maxRecDepth 100000 in
theorem dX12_tips_154 : decode cX12_tips 154 = .ok (.iaload, 1) := by decide +kernel
set_option maxRecDepth 100000 in
theorem dX12_tips_155 : decode cX12_tips 155 = .ok (.iload 6, 2) := by decide +kernel
set_option maxRecDepth 100000 in
theorem dX12_tips_157 : decode cX12_tips 157 = .ok (.iadd, 1) := by decide +kernel
set_option maxRecDepth 100000 in
theorem dX12_tips_158 : decode cX12_tips 158 = .ok (.iastore, 1) := by decide +kernel
set_option maxRecDepth 100000 in
theorem dX12_tips_159 : decode cX12_tips 159 = .ok (.iinc 4 1, 3) := by decide +kernel
set_option maxRecDepth 100000 in
theorem dX12_tips_162 : decode cX12_tips 162 = .ok (.goto (-132), 3) := by decide +kernel
set_option maxRecDepth 100000 in
theorem dX12_tips_165 : decode cX12_tips 165 = .ok (.aload_n 0, 1) := by decide +kernel
set_option maxRecDepth 100000 in
theorem dX12_tips_166 : decode cX12_tips 166 = .ok (.iconst 0, 1) := by decide +kernel
set_option maxRecDepth 100000 in
theorem dX12_tips_167 : decode cX12_tips 167 = .ok (.putfield 113, 3) := by decide +kernel
set_option maxRecDepth 100000 in
theorem dX12_tips_170 : decode cX12_tips 170 = .ok (.aload_n 0, 1) := by decide +kernel
set_option maxRecDepth 100000 in
theorem dX12_tips_171 : decode cX12_tips 171 = .ok (.iload_n 3, 1) := by decide +kernel
set_option maxRecDepth 100000 in
theorem dX12_tips_172 : decode cX12_tips 172 = .ok (.invokestatic 273, 3) := by decide +kernel
set_option maxRecDepth 100000 in
theorem dX12_tips_175 : decode cX12_tips 175 = .ok (.i2l, 1) := by decide +kernel
set_option maxRecDepth 100000 in
theorem dX12_tips_176 : decode cX12_tips 176 = .ok (.invokevirtual 116, 3) := by decide +kernel
set_option maxRecDepth 100000 in
theorem dX12_tips_179 : decode cX12_tips 179 = .ok (.iload_n 3, 1) := by decide +kernel
set_option maxRecDepth 100000 in
theorem dX12_tips_180 : decode cX12_tips 180 = .ok (.ireturn, 1) := by decide +kernel
set_option maxRecDepth 100000 in
theorem dX12_power_0 : decode cX12_power 0 = .ok (.aload_n 0, 1) := by decide +kernel
set_option maxRecDepth 100000 in
theorem dX12_power_1 : decode cX12_power 1 = .ok (.iconst 0, 1) := by decide +kernel
set_option maxRecDepth 100000 in
theorem dX12_power_2 : decode cX12_power 2 = .ok (.putfield 106, 3) := by decide +kernel
set_option maxRecDepth 100000 in
theorem dX12_power_5 : decode cX12_power 5 = .ok (.aload_n 0, 1) := by decide +kernel
set_option maxRecDepth 100000 in
theorem dX12_power_6 : decode cX12_power 6 = .ok (.iload_n 1, 1) := by decide +kernel
set_option maxRecDepth 100000 in
theorem dX12_power_7 : decode cX12_power 7 = .ok (.invokevirtual 325, 3) := by decide +kernel
set_option maxRecDepth 100000 in
theorem dX12_power_10 : decode cX12_power 10 = .ok (.ifCond .ne 5, 3) := by decide +kernel
set_option maxRecDepth 100000 in
theorem dX12_power_13 : decode cX12_power 13 = .ok (.iconst (-1), 1) := by decide +kernel
set_option maxRecDepth 100000 in
theorem dX12_power_14 : decode cX12_power 14 = .ok (.ireturn, 1) := by decide +kernel
set_option maxRecDepth 100000 in
theorem dX12_power_15 : decode cX12_power 15 = .ok (.aload_n 0, 1) := by decide +kernel
set_option maxRecDepth 100000 in
theorem dX12_power_16 : decode cX12_power 16 = .ok (.aload_n 0, 1) := by decide +kernel
set_option maxRecDepth 100000 in
theorem dX12_power_17 : decode cX12_power 17 = .ok (.getfield 33, 3) := by decide +kernel
set_option maxRecDepth 100000 in
theorem dX12_power_20 : decode cX12_power 20 = .ok (.invokevirtual 303, 3) := by decide +kernel
set_option maxRecDepth 100000 in
theorem dX12_power_23 : decode cX12_power 23 = .ok (.istore_n 2, 1) := by decide +kernel
set_option maxRecDepth 100000 in
theorem dX12_power_24 : decode cX12_power 24 = .ok (.iload_n 2, 1) := by decide +kernel
set_option maxRecDepth 100000 in
theorem dX12_power_25 : decode cX12_power 25 = .ok (.iload_n 1, 1) := by decide +kernel
set_option maxRecDepth 100000 in
theorem dX12_power_26 : decode cX12_power 26 = .ok (.invokestatic 288, 3) := by decide +kernel
set_option maxRecDepth 100000 in
theorem dX12_power_29 : decode cX12_power 29 = .ok (.ifCond .ne 6, 3) := by decide +kernel
set_option maxRecDepth 100000 in
theorem dX12_power_32 : decode cX12_power 32 = .ok (.bipush (-2), 2) := by decide +kernel
set_option maxRecDepth 100000 in
theorem dX12_power_34 : decode cX12_power 34 = .ok (.ireturn, 1) := by decide +kernel
set_option maxRecDepth 100000 in
theorem dX12_power_35 : decode cX12_power 35 = .ok (.aload_n 0, 1) := by decide +kernel
set_option maxRecDepth 100000 in
theorem dX12_power_36 : decode cX12_power 36 = .ok (.aload_n 0, 1) := by decide +kernel
set_option maxRecDepth 100000 in
theorem dX12_power_37 : decode cX12_power 37 = .ok (.getfield 33, 3) := by decide +kernel
set_option maxRecDepth 100000 in
theorem dX12_power_40 : decode cX12_power 40 = .ok (.iload_n 2, 1) := by decide +kernel
set_option maxRecDepth 100000 in
theorem dX12_power_41 : decode cX12_power 41 = .ok (.invokevirtual 297, 3) := by decide +kernel
set_option maxRecDepth 100000 in
theorem dX12_power_44 : decode cX12_power 44 = .ok (.aload_n 0, 1) := by decide +kernel
set_option maxRecDepth 100000 in
theorem dX12_power_45 : decode cX12_power 45 = .ok (.getfield 57, 3) := by decide +kernel
set_option maxRecDepth 100000 in
theorem dX12_power_48 : decode cX12_power 48 = .ok (.iconst 0, 1) := by decide +kernel
set_option maxRecDepth 100000 in
theorem dX12_power_49 : decode cX12_power 49 = .ok (.iaload, 1) := by decide +kernel
set_option maxRecDepth 100000 in
theorem dX12_power_50 : decode cX12_power 50 = .ok (.aload_n 0, 1) := by decide +kernel
set_option maxRecDepth 100000 in
theorem dX12_power_51 : decode cX12_power 51 = .ok (.getfield 57, 3) := by decide +kernel
set_option maxRecDepth 100000 in
theorem dX12_power_54 : decode cX12_power 54 = .ok (.iconst 1, 1) := by decide +kernel
set_option maxRecDepth 100000 in
theorem dX12_power_55 : decode cX12_power 55 = .ok (.iaload, 1) := by decide +kernel
set_option maxRecDepth 100000 in
theorem dX12_power_56 : decode cX12_power 56 = .ok (.iadd, 1) := by decide +kernel
set_option maxRecDepth 100000 in
theorem dX12_power_57 : decode cX12_power 57 = .ok (.aload_n 0, 1) := by decide +kernel
set_option maxRecDepth 100000 in
theorem dX12_power_58 : decode cX12_power 58 = .ok (.getfield 57, 3) := by decide +kernel
set_option maxRecDepth 100000 in
theorem dX12_power_61 : decode cX12_power 61 = .ok (.iconst 2, 1) := by decide +kernel
set_option maxRecDepth 100000 in
theorem dX12_power_62 : decode cX12_power 62 = .ok (.iaload, 1) := by decide +kernel
set_option maxRecDepth 100000 in
theorem dX12_power_63 : decode cX12_power 63 = .ok (.iadd, 1) := by decide +kernel
set_option maxRecDepth 100000 in
theorem dX12_power_64 : decode cX12_power 64 = .ok (.istore_n 3, 1) := by decide +kernel
set_option maxRecDepth 100000 in
theorem dX12_power_65 : decode cX12_power 65 = .ok (.aload_n 0, 1) := by decide +kernel
set_option maxRecDepth 100000 in
theorem dX12_power_66 : decode cX12_power 66 = .ok (.aload_n 0, 1) := by decide +kernel
set_option maxRecDepth 100000 in
theorem dX12_power_67 : decode cX12_power 67 = .ok (.getfield 33, 3) := by decide +kernel
set_option maxRecDepth 100000 in
theorem dX12_power_70 : decode cX12_power 70 = .ok (.iload_n 1, 1) := by decide +kernel
set_option maxRecDepth 100000 in
theorem dX12_power_71 : decode cX12_power 71 = .ok (.invokevirtual 294, 3) := by decide +kernel
set_option maxRecDepth 100000 in
theorem dX12_power_74 : decode cX12_power 74 = .ok (.istore 4, 2) := by decide +kernel
set_option maxRecDepth 100000 in
theorem dX12_power_76 : decode cX12_power 76 = .ok (.iconst 0, 1) := by decide +kernel
set_option maxRecDepth 100000 in
theorem dX12_power_77 : decode cX12_power 77 = .ok (.istore 5, 2) := by decide +kernel
set_option maxRecDepth 100000 in
theorem dX12_power_79 : decode cX12_power 79 = .ok (.iconst 0, 1) := by decide +kernel
set_option maxRecDepth 100000 in
theorem dX12_power_80 : decode cX12_power 80 = .ok (.istore 6, 2) := by decide +kernel
set_option maxRecDepth 100000 in
theorem dX12_power_82 : decode cX12_power 82 = .ok (.iload 6, 2) := by decide +kernel
set_option maxRecDepth 100000 in
theorem dX12_power_84 : decode cX12_power 84 = .ok (.iload_n 2, 1) := by decide +kernel
set_option maxRecDepth 100000 in
theorem dX12_power_85 : decode cX12_power 85 = .ok (.if_icmp .gt 109, 3) := by decide +kernel
set_option maxRecDepth 100000 in
theorem dX12_power_88 : decode cX12_power 88 = .ok (.iload 6, 2) := by decide +kernel
set_option maxRecDepth 100000 in
theorem dX12_power_90 : decode cX12_power 90 = .ok (.iload_n 2, 1) := by decide +kernel
set_option maxRecDepth 100000 in
theorem dX12_power_91 : decode cX12_power 91 = .ok (.iconst (-1), 1) := by decide +kernel
set_option maxRecDepth 100000 in
theorem dX12_power_92 : decode cX12_power 92 = .ok (.ixor, 1) := by decide +kernel
set_option maxRecDepth 100000 in
theorem dX12_power_93 : decode cX12_power 93 = .ok (.iand, 1) := by decide +kernel
set_option maxRecDepth 100000 in
theorem dX12_power_94 : decode cX12_power 94 = .ok (.ifCond .ne 94, 3) := by decide +kernel
set_option maxRecDepth 100000 in
theorem dX12_power_97 : decode cX12_power 97 = .ok (.iload 6, 2) := by decide +kernel
set_option maxRecDepth 100000 in
theorem dX12_power_99 : decode cX12_power 99 = .ok (.iload_n 1, 1) := by decide +kernel
set_option maxRecDepth 100000 in
theorem dX12_power_100 : decode cX12_power 100 = .ok (.invokestatic 288, 3) := by decide +kernel
set_option maxRecDepth 100000 in
theorem dX12_power_103 : decode cX12_power 103 = .ok (.ifCond .eq 85, 3) := by decide +kernel
set_option maxRecDepth 100000 in
theorem dX12_power_106 : decode cX12_power 106 = .ok (.iconst 0, 1) := by decide +kernel
set_option maxRecDepth 100000 in
theorem dX12_power_107 : decode cX12_power 107 = .ok (.istore 7, 2) := by decide +kernel
set_option maxRecDepth 100000 in
theorem dX12_power_109 : decode cX12_power 109 = .ok (.iconst 0, 1) := by decide +kernel
set_option maxRecDepth 100000 in
theorem dX12_power_110 : decode cX12_power 110 = .ok (.istore 8, 2) := by decide +kernel
set_option maxRecDepth 100000 in
theorem dX12_power_112 : decode cX12_power 112 = .ok (.iload 8, 2) := by decide +kernel
set_option maxRecDepth 100000 in
theorem dX12_power_114 : decode cX12_power 114 = .ok (.aload_n 0, 1) := by decide +kernel
set_option maxRecDepth 100000 in
theorem dX12_power_115 : decode cX12_power 115 = .ok (.getfield 127, 3) := by decide +kernel
set_option maxRecDepth 100000 in
theorem dX12_power_118 : decode cX12_power 118 = .ok (.if_icmp .ge 38, 3) := by decide +kernel
set_option maxRecDepth 100000 in
theorem dX12_power_121 : decode cX12_power 121 = .ok (.iload 7, 2) := by decide +kernel
set_option maxRecDepth 100000 in
theorem dX12_power_123 : decode cX12_power 123 = .ok (.iload 6, 2) := by decide +kernel
set_option maxRecDepth 100000 in
theorem dX12_power_125 : decode cX12_power 125 = .ok (.iload 8, 2) := by decide +kernel
set_option maxRecDepth 100000 in
theorem dX12_power_127 : decode cX12_power 127 = .ok (.invokestatic 288, 3) := by decide +kernel
set_option maxRecDepth 100000 in
theorem dX12_power_130 : decode cX12_power 130 = .ok (.ifCond .eq 16, 3) := by decide +kernel
set_option maxRecDepth 100000 in
theorem dX12_power_133 : decode cX12_power 133 = .ok (.aload_n 0, 1) := by decide +kernel
set_option maxRecDepth 100000 in
theorem dX12_power_134 : decode cX12_power 134 = .ok (.aload_n 0, 1) := by decide +kernel
set_option maxRecDepth 100000 in
theorem dX12_power_135 : decode cX12_power 135 = .ok (.getfield 33, 3) := by decide +kernel
set_option maxRecDepth 100000 in
theorem dX12_power_138 : decode cX12_power 138 = .ok (.iload 8, 2) := by decide +kernel
set_option maxRecDepth 100000 in
theorem dX12_power_140 : decode cX12_power 140 = .ok (.invokevirtual 294, 3) := by decide +kernel
set_option maxRecDepth 100000 in
theorem dX12_power_143 : decode cX12_power 143 = .ok (.goto 4, 3) := by decide +kernel
set_option maxRecDepth 100000 in
theorem dX12_power_146 : decode cX12_power 146 = .ok (.iconst 0, 1) := by decide +kernel
set_option maxRecDepth 100000 in
theorem dX12_power_147 : decode cX12_power 147 = .ok (.iadd, 1) := by decide +kernel
set_option maxRecDepth 100000 in
theorem dX12_power_148 : decode cX12_power 148 = .ok (.istore 7, 2) := by decide +kernel
set_option maxRecDepth 100000 in
theorem dX12_power_150 : decode cX12_power 150 = .ok (.iinc 8 1, 3) := by decide +kernel
set_option maxRecDepth 100000 in
theorem dX12_power_153 : decode cX12_power 153 = .ok (.goto (-41), 3) := by decide +kernel
set_option maxRecDepth 100000 in
theorem dX12_power_156 : decode cX12_power 156 = .ok (.iload 5, 2) := by decide +kernel
set_option maxRecDepth 100000 in
theorem dX12_power_158 : decode cX12_power 158 = .ok (.iconst 2, 1) := by decide +kernel
set_option maxRecDepth 100000 in
theorem dX12_power_159 : decode cX12_power 159 = .ok (.iload 7, 2) := by decide +kernel
set_option maxRecDepth 100000 in
theorem dX12_power_161 : decode cX12_power 161 = .ok (.imul, 1) := by decide +kernel
set_option maxRecDepth 100000 in
theorem dX12_power_162 : decode cX12_power 162 = .ok (.iload_n 3, 1) := by decide +kernel
set_option maxRecDepth 100000 in
theorem dX12_power_163 : decode cX12_power 163 = .ok (.if_icmp .lt 18, 3) := by decide +kernel
set_option maxRecDepth 100000 in
theorem dX12_power_166 : decode cX12_power 166 = .ok (.iconst 2, 1) := by decide +kernel
set_option maxRecDepth 100000 in
theorem dX12_power_167 : decode cX12_power 167 = .ok (.iload 7, 2) := by decide +kernel
set_option maxRecDepth 100000 in
theorem dX12_power_169 : decode cX12_power 169 = .ok (.iload 4, 2) := by decide +kernel
set_option maxRecDepth 100000 in
theorem dX12_power_171 : decode cX12_power 171 = .ok (.isub, 1) := by decide +kernel
set_option maxRecDepth 100000 in
theorem dX12_power_172 : decode cX12_power 172 = .ok (.imul, 1) := by decide +kernel
set_option maxRecDepth 100000 in
theorem dX12_power_173 : decode cX12_power 173 = .ok (.iload_n 3, 1) := by decide +kernel
set_option maxRecDepth 100000 in
theorem dX12_power_174 : decode cX12_power 174 = .ok (.if_icmp .ge 7, 3) := by decide +kernel
set_option maxRecDepth 100000 in
theorem dX12_power_177 : decode cX12_power 177 = .ok (.iconst 1, 1) := by decide +kernel
set_option maxRecDepth 100000 in
theorem dX12_power_178 : decode cX12_power 178 = .ok (.goto 4, 3) := by decide +kernel
set_option maxRecDepth 100000 in
theorem dX12_power_181 : decode cX12_power 181 = .ok (.iconst 0, 1) := by decide +kernel
set_option maxRecDepth 100000 in
theorem dX12_power_182 : decode cX12_power 182 = .ok (.invokestatic 134, 3) := by decide +kernel
set_option maxRecDepth 100000 in
theorem dX12_power_185 : decode cX12_power 185 = .ok (.iadd, 1) := by decide +kernel
set_option maxRecDepth 100000 in
theorem dX12_power_186 : decode cX12_power 186 = .ok (.istore 5, 2) := by decide +kernel
set_option maxRecDepth 100000 in
theorem dX12_power_188 : decode cX12_power 188 = .ok (.iinc 6 1, 3) := by decide +kernel
set_option maxRecDepth 100000 in
theorem dX12_power_191 : decode cX12_power 191 = .ok (.goto (-109), 3) := by decide +kernel
set_option maxRecDepth 100000 in
theorem dX12_power_194 : decode cX12_power 194 = .ok (.aload_n 0, 1) := by decide +kernel
set_option maxRecDepth 100000 in
theorem dX12_power_195 : decode cX12_power 195 = .ok (.iload 5, 2) := by decide +kernel
set_option maxRecDepth 100000 in
theorem dX12_power_197 : decode cX12_power 197 = .ok (.i2l, 1) := by decide +kernel
set_option maxRecDepth 100000 in
theorem dX12_power_198 : decode cX12_power 198 = .ok (.lconst 1, 1) := by decide +kernel
set_option maxRecDepth 100000 in
theorem dX12_power_199 : decode cX12_power 199 = .ok (.iload_n 2, 1) := by decide +kernel
set_option maxRecDepth 100000 in
theorem dX12_power_200 : decode cX12_power 200 = .ok (.invokestatic 273, 3) := by decide +kernel
set_option maxRecDepth 100000 in
theorem dX12_power_203 : decode cX12_power 203 = .ok (.iconst 1, 1) := by decide +kernel
set_option maxRecDepth 100000 in
theorem dX12_power_204 : decode cX12_power 204 = .ok (.isub, 1) := by decide +kernel
set_option maxRecDepth 100000 in
theorem dX12_power_205 : decode cX12_power 205 = .ok (.lshl, 1) := by decide +kernel
set_option maxRecDepth 100000 in
theorem dX12_power_206 : decode cX12_power 206 = .ok (.invokevirtual 424, 3) := by decide +kernel
set_option maxRecDepth 100000 in
theorem dX12_power_209 : decode cX12_power 209 = .ok (.iload 5, 2) := by decide +kernel
set_option maxRecDepth 100000 in
theorem dX12_power_211 : decode cX12_power 211 = .ok (.ireturn, 1) := by decide +kernel
set_option maxRecDepth 100000 in
theorem dX12_lobby_0 : decode cX12_lobby 0 = .ok (.aload_n 0, 1) := by decide +kernel
set_option maxRecDepth 100000 in
theorem dX12_lobby_1 : decode cX12_lobby 1 = .ok (.iconst 0, 1) := by decide +kernel
set_option maxRecDepth 100000 in
theorem dX12_lobby_2 : decode cX12_lobby 2 = .ok (.putfield 106, 3) := by decide +kernel
set_option maxRecDepth 100000 in
theorem dX12_lobby_5 : decode cX12_lobby 5 = .ok (.aload_n 0, 1) := by decide +kernel
set_option maxRecDepth 100000 in
theorem dX12_lobby_6 : decode cX12_lobby 6 = .ok (.iload_n 1, 1) := by decide +kernel
set_option maxRecDepth 100000 in
theorem dX12_lobby_7 : decode cX12_lobby 7 = .ok (.invokevirtual 317, 3) := by decide +kernel
set_option maxRecDepth 100000 in
theorem dX12_lobby_10 : decode cX12_lobby 10 = .ok (.ifCond .eq 15, 3) := by decide +kernel
set_option maxRecDepth 100000 in
theorem dX12_lobby_13 : decode cX12_lobby 13 = .ok (.iload_n 2, 1) := by decide +kernel
set_option maxRecDepth 100000 in
theorem dX12_lobby_14 : decode cX12_lobby 14 = .ok (.i2l, 1) := by decide +kernel
set_option maxRecDepth 100000 in
theorem dX12_lobby_15 : decode cX12_lobby 15 = .ok (.lconst 0, 1) := by decide +kernel
set_option maxRecDepth 100000 in
theorem dX12_lobby_16 : decode cX12_lobby 16 = .ok (.ldc2_w 428, 3) := by decide +kernel
set_option maxRecDepth 100000 in
theorem dX12_lobby_19 : decode cX12_lobby 19 = .ok (.invokestatic 120, 3) := by decide +kernel
set_option maxRecDepth 100000 in
theorem dX12_lobby_22 : decode cX12_lobby 22 = .ok (.ifCond .ne 5, 3) := by decide +kernel
set_option maxRecDepth 100000 in
theorem dX12_lobby_25 : decode cX12_lobby 25 = .ok (.iconst (-1), 1) := by decide +kernel
set_option maxRecDepth 100000 in
theorem dX12_lobby_26 : decode cX12_lobby 26 = .ok (.ireturn, 1) := by decide +kernel
set_option maxRecDepth 100000 in
theorem dX12_lobby_27 : decode cX12_lobby 27 = .ok (.aload_n 0, 1) := by decide +kernel
set_option maxRecDepth 100000 in
theorem dX12_lobby_28 : decode cX12_lobby 28 = .ok (.aload_n 0, 1) := by decide +kernel
set_option maxRecDepth 100000 in
theorem dX12_lobby_29 : decode cX12_lobby 29 = .ok (.getfield 33, 3) := by decide +kernel
set_option maxRecDepth 100000 in
theorem dX12_lobby_32 : decode cX12_lobby 32 = .ok (.iload_n 1, 1) := by decide +kernel
set_option maxRecDepth 100000 in
theorem dX12_lobby_33 : decode cX12_lobby 33 = .ok (.invokevirtual 270, 3) := by decide +kernel
set_option maxRecDepth 100000 in
theorem dX12_lobby_36 : decode cX12_lobby 36 = .ok (.istore_n 3, 1) := by decide +kernel
set_option maxRecDepth 100000 in
theorem dX12_lobby_37 : decode cX12_lobby 37 = .ok (.iconst (-1), 1) := by decide +kernel
set_option maxRecDepth 100000 in
theorem dX12_lobby_38 : decode cX12_lobby 38 = .ok (.istore 4, 2) := by decide +kernel
set_option maxRecDepth 100000 in
theorem dX12_lobby_40 : decode cX12_lobby 40 = .ok (.iconst 0, 1) := by decide +kernel
set_option maxRecDepth 100000 in
theorem dX12_lobby_41 : decode cX12_lobby 41 = .ok (.istore 5, 2) := by decide +kernel
set_option maxRecDepth 100000 in
theorem dX12_lobby_43 : decode cX12_lobby 43 = .ok (.iload 5, 2) := by decide +kernel
set_option maxRecDepth 100000 in
theorem dX12_lobby_45 : decode cX12_lobby 45 = .ok (.iload_n 3, 1) := by decide +kernel
set_option maxRecDepth 100000 in
theorem dX12_lobby_46 : decode cX12_lobby 46 = .ok (.if_icmp .gt 118, 3) := by decide +kernel
set_option maxRecDepth 100000 in
theorem dX12_lobby_49 : decode cX12_lobby 49 = .ok (.iload 5, 2) := by decide +kernel
set_option maxRecDepth 100000 in
theorem dX12_lobby_51 : decode cX12_lobby 51 = .ok (.iload_n 3, 1) := by decide +kernel
set_option maxRecDepth 100000 in
theorem dX12_lobby_52 : decode cX12_lobby 52 = .ok (.iconst (-1), 1) := by decide +kernel
set_option maxRecDepth 100000 in
theorem dX12_lobby_53 : decode cX12_lobby 53 = .ok (.ixor, 1) := by decide +kernel
set_option maxRecDepth 100000 in
theorem dX12_lobby_54 : decode cX12_lobby 54 = .ok (.iand, 1) := by decide +kernel
set_option maxRecDepth 100000 in
theorem dX12_lobby_55 : decode cX12_lobby 55 = .ok (.ifCond .ne 103, 3) := by decide +kernel
set_option maxRecDepth 100000 in
theorem dX12_lobby_58 : decode cX12_lobby 58 = .ok (.iload 4, 2) := by decide +kernel
set_option maxRecDepth 100000 in
theorem dX12_lobby_60 : decode cX12_lobby 60 = .ok (.ifCond .lt 16, 3) := by decide +kernel
set_option maxRecDepth 100000 in
theorem dX12_lobby_63 : decode cX12_lobby 63 = .ok (.iload 5, 2) := by decide +kernel
set_option maxRecDepth 100000 in
theorem dX12_lobby_65 : decode cX12_lobby 65 = .ok (.invokestatic 273, 3) := by decide +kernel
set_option maxRecDepth 100000 in
theorem dX12_lobby_68 : decode cX12_lobby 68 = .ok (.iload 4, 2) := by decide +kernel
set_option maxRecDepth 100000 in
theorem dX12_lobby_70 : decode cX12_lobby 70 = .ok (.invokestatic 273, 3) := by decide +kernel
set_option maxRecDepth 100000 in
theorem dX12_lobby_73 : decode cX12_lobby 73 = .ok (.if_icmp .ge 85, 3) := by decide +kernel
set_option maxRecDepth 100000 in
theorem dX12_lobby_76 : decode cX12_lobby 76 = .ok (.aload_n 0, 1) := by decide +kernel
set_option maxRecDepth 100000 in
theorem dX12_lobby_77 : decode cX12_lobby 77 = .ok (.aload_n 0, 1) := by decide +kernel
set_option maxRecDepth 100000 in
theorem dX12_lobby_78 : decode cX12_lobby 78 = .ok (.getfield 33, 3) := by decide +kernel
set_option maxRecDepth 100000 in
theorem dX12_lobby_81 : decode cX12_lobby 81 = .ok (.iload_n 3, 1) := by decide +kernel
set_option maxRecDepth 100000 in
theorem dX12_lobby_82 : decode cX12_lobby 82 = .ok (.iload 5, 2) := by decide +kernel
set_option maxRecDepth 100000 in
theorem dX12_lobby_84 : decode cX12_lobby 84 = .ok (.iconst (-1), 1) := by decide +kernel
set_option maxRecDepth 100000 in
theorem dX12_lobby_85 : decode cX12_lobby 85 = .ok (.ixor, 1) := by decide +kernel
set_option maxRecDepth 100000 in
theorem dX12_lobby_86 : decode cX12_lobby 86 = .ok (.iand, 1) := by decide +kernel
set_option maxRecDepth 100000 in
theorem dX12_lobby_87 : decode cX12_lobby 87 = .ok (.invokevirtual 297, 3) := by decide +kernel
set_option maxRecDepth 100000 in
theorem dX12_lobby_90 : decode cX12_lobby 90 = .ok (.iconst 0, 1) := by decide +kernel
set_option maxRecDepth 100000 in
theorem dX12_lobby_91 : decode cX12_lobby 91 = .ok (.istore 6, 2) := by decide +kernel
set_option maxRecDepth 100000 in
theorem dX12_lobby_93 : decode cX12_lobby 93 = .ok (.iload 6, 2) := by decide +kernel
set_option maxRecDepth 100000 in
theorem dX12_lobby_95 : decode cX12_lobby 95 = .ok (.aload_n 0, 1) := by decide +kernel
set_option maxRecDepth 100000 in
theorem dX12_lobby_96 : decode cX12_lobby 96 = .ok (.getfield 127, 3) := by decide +kernel
set_option maxRecDepth 100000 in
theorem dX12_lobby_99 : decode cX12_lobby 99 = .ok (.if_icmp .ge 42, 3) := by decide +kernel
set_option maxRecDepth 100000 in
theorem dX12_lobby_102 : decode cX12_lobby 102 = .ok (.aload_n 0, 1) := by decide +kernel
set_option maxRecDepth 100000 in
theorem dX12_lobby_103 : decode cX12_lobby 103 = .ok (.getfield 57, 3) := by decide +kernel
set_option maxRecDepth 100000 in
theorem dX12_lobby_106 : decode cX12_lobby 106 = .ok (.iload_n 2, 1) := by decide +kernel
set_option maxRecDepth 100000 in
theorem dX12_lobby_107 : decode cX12_lobby 107 = .ok (.dup2, 1) := by decide +kernel
set_option maxRecDepth 100000 in
theorem dX12_lobby_108 : decode cX12_lobby 108 = .ok (.iaload, 1) := by decide +kernel
set_option maxRecDepth 100000 in
theorem dX12_lobby_109 : decode cX12_lobby 109 = .ok (.iload 5, 2) := by decide +kernel
set_option maxRecDepth 100000 in
theorem dX12_lobby_111 : decode cX12_lobby 111 = .ok (.iload 6, 2) := by decide +kernel
set_option maxRecDepth 100000 in
theorem dX12_lobby_113 : decode cX12_lobby 113 = .ok (.invokestatic 288, 3) := by decide +kernel
set_option maxRecDepth 100000 in
theorem dX12_lobby_116 : decode cX12_lobby 116 = .ok (.ifCond .eq 16, 3) := by decide +kernel
set_option maxRecDepth 100000 in
theorem dX12_lobby_119 : decode cX12_lobby 119 = .ok (.aload_n 0, 1) := by decide +kernel
set_option maxRecDepth 100000 in
theorem dX12_lobby_120 : decode cX12_lobby 120 = .ok (.aload_n 0, 1) := by decide +kernel
set_option maxRecDepth 100000 in
theorem dX12_lobby_121 : decode cX12_lobby 121 = .ok (.getfield 33, 3) := by decide +kernel
set_option maxRecDepth 100000 in
theorem dX12_lobby_124 : decode cX12_lobby 124 = .ok (.iload 6, 2) := by decide +kernel
set_option maxRecDepth 100000 in
theorem dX12_lobby_126 : decode cX12_lobby 126 = .ok (.invokevirtual 294, 3) := by decide +kernel
set_option maxRecDepth 100000 in
theorem dX12_lobby_129 : decode cX12_lobby 129 = .ok (.goto 4, 3) := by decide +kernel
set_option maxRecDepth 100000 in
theorem dX12_lobby_132 : decode cX12_lobby 132 = .ok (.iconst 0, 1) := by decide +kernel
set_option maxRecDepth 100000 in
theorem dX12_lobby_133 : decode cX12_lobby 133 = .ok (.iadd, 1) := by decide +kernel
set_option maxRecDepth 100000 in
theorem dX12_lobby_134 : decode cX12_lobby 134 = .ok (.iastore, 1) := by decide +kernel
set_option maxRecDepth 100000 in
theorem dX12_lobby_135 : decode cX12_lobby 135 = .ok (.iinc 6 1, 3) := by decide +kernel
set_option maxRecDepth 100000 in
theorem dX12_lobby_138 : decode cX12_lobby 138 = .ok (.goto (-45), 3) := by decide +kernel
set_option maxRecDepth 100000 in
theorem dX12_lobby_141 : decode cX12_lobby 141 = .ok (.aload_n 0, 1) := by decide +kernel
set_option maxRecDepth 100000 in
theorem dX12_lobby_142 : decode cX12_lobby 142 = .ok (.invokevirtual 300, 3) := by decide +kernel
set_option maxRecDepth 100000 in
theorem dX12_lobby_145 : decode cX12_lobby 145 = .ok (.iload_n 2, 1) := by decide +kernel
set_option maxRecDepth 100000 in
theorem dX12_lobby_146 : decode cX12_lobby 146 = .ok (.if_icmp .ne 8, 3) := by decide +kernel
set_option maxRecDepth 100000 in
theorem dX12_lobby_149 : decode cX12_lobby 149 = .ok (.iload 5, 2) := by decide +kernel
set_option maxRecDepth 100000 in
theorem dX12_lobby_151 : decode cX12_lobby 151 = .ok (.goto 5, 3) := by decide +kernel
set_option maxRecDepth 100000 in
theorem dX12_lobby_154 : decode cX12_lobby 154 = .ok (.iload 4, 2) := by decide +kernel
set_option maxRecDepth 100000 in
theorem dX12_lobby_156 : decode cX12_lobby 156 = .ok (.istore 4, 2) := by decide +kernel
set_option maxRecDepth 100000 in
theorem dX12_lobby_158 : decode cX12_lobby 158 = .ok (.iinc 5 1, 3) := by decide +kernel
set_option maxRecDepth 100000 in
theorem dX12_lobby_161 : decode cX12_lobby 161 = .ok (.goto (-118), 3) := by decide +kernel
set_option maxRecDepth 100000 in
theorem dX12_lobby_164 : decode cX12_lobby 164 = .ok (.iload 4, 2) := by decide +kernel
set_option maxRecDepth 100000 in
theorem dX12_lobby_166 : decode cX12_lobby 166 = .ok (.ifCond .ge 6, 3) := by decide +kernel
set_option maxRecDepth 100000 in
theorem dX12_lobby_169 : decode cX12_lobby 169 = .ok (.bipush (-2), 2) := by decide +kernel
set_option maxRecDepth 100000 in
theorem dX12_lobby_171 : decode cX12_lobby 171 = .ok (.ireturn, 1) := by decide +kernel
set_option maxRecDepth 100000 in
theorem dX12_lobby_172 : decode cX12_lobby 172 = .ok (.aload_n 0, 1) := by decide +kernel
set_option maxRecDepth 100000 in
theorem dX12_lobby_173 : decode cX12_lobby 173 = .ok (.iconst 0, 1) := by decide +kernel
set_option maxRecDepth 100000 in
theorem dX12_lobby_174 : decode cX12_lobby 174 = .ok (.putfield 113, 3) := by decide +kernel
set_option maxRecDepth 100000 in
theorem dX12_lobby_177 : decode cX12_lobby 177 = .ok (.aload_n 0, 1) := by decide +kernel
set_option maxRecDepth 100000 in
theorem dX12_lobby_178 : decode cX12_lobby 178 = .ok (.iload 4, 2) := by decide +kernel
set_option maxRecDepth 100000 in
theorem dX12_lobby_180 : decode cX12_lobby 180 = .ok (.i2l, 1) := by decide +kernel
set_option maxRecDepth 100000 in
theorem dX12_lobby_181 : decode cX12_lobby 181 = .ok (.invokevirtual 116, 3) := by decide +kernel
set_option maxRecDepth 100000 in
theorem dX12_lobby_184 : decode cX12_lobby 184 = .ok (.iload 4, 2) := by decide +kernel
set_option maxRecDepth 100000 in
theorem dX12_lobby_186 : decode cX12_lobby 186 = .ok (.invokestatic 273, 3) := by decide +kernel
set_option maxRecDepth 100000 in
theorem dX12_lobby_189 : decode cX12_lobby 189 = .ok (.ireturn, 1) := by decide +kernel
set_option maxRecDepth 100000 in
theorem dX12_seat_0 : decode cX12_seat 0 = .ok (.aload_n 0, 1) := by decide +kernel
set_option maxRecDepth 100000 in
theorem dX12_seat_1 : decode cX12_seat 1 = .ok (.iconst 0, 1) := by decide +kernel
set_option maxRecDepth 100000 in
theorem dX12_seat_2 : decode cX12_seat 2 = .ok (.putfield 106, 3) := by decide +kernel
set_option maxRecDepth 100000 in
theorem dX12_seat_5 : decode cX12_seat 5 = .ok (.aload_n 0, 1) := by decide +kernel
set_option maxRecDepth 100000 in
theorem dX12_seat_6 : decode cX12_seat 6 = .ok (.iload_n 1, 1) := by decide +kernel
set_option maxRecDepth 100000 in
theorem dX12_seat_7 : decode cX12_seat 7 = .ok (.invokevirtual 325, 3) := by decide +kernel
set_option maxRecDepth 100000 in
theorem dX12_seat_10 : decode cX12_seat 10 = .ok (.ifCond .ne 5, 3) := by decide +kernel
set_option maxRecDepth 100000 in
theorem dX12_seat_13 : decode cX12_seat 13 = .ok (.iconst (-1), 1) := by decide +kernel
set_option maxRecDepth 100000 in
theorem dX12_seat_14 : decode cX12_seat 14 = .ok (.ireturn, 1) := by decide +kernel
set_option maxRecDepth 100000 in
theorem dX12_seat_15 : decode cX12_seat 15 = .ok (.aload_n 0, 1) := by decide +kernel
set_option maxRecDepth 100000 in
theorem dX12_seat_16 : decode cX12_seat 16 = .ok (.aload_n 0, 1) := by decide +kernel
set_option maxRecDepth 100000 in
theorem dX12_seat_17 : decode cX12_seat 17 = .ok (.getfield 33, 3) := by decide +kernel
set_option maxRecDepth 100000 in
theorem dX12_seat_20 : decode cX12_seat 20 = .ok (.invokevirtual 303, 3) := by decide +kernel
set_option maxRecDepth 100000 in
theorem dX12_seat_23 : decode cX12_seat 23 = .ok (.iload_n 1, 1) := by decide +kernel
set_option maxRecDepth 100000 in
theorem dX12_seat_24 : decode cX12_seat 24 = .ok (.invokestatic 288, 3) := by decide +kernel
set_option maxRecDepth 100000 in
theorem dX12_seat_27 : decode cX12_seat 27 = .ok (.ifCond .ne 6, 3) := by decide +kernel
set_option maxRecDepth 100000 in
theorem dX12_seat_30 : decode cX12_seat 30 = .ok (.bipush (-3), 2) := by decide +kernel
set_option maxRecDepth 100000 in
theorem dX12_seat_32 : decode cX12_seat 32 = .ok (.ireturn, 1) := by decide +kernel
set_option maxRecDepth 100000 in
theorem dX12_seat_33 : decode cX12_seat 33 = .ok (.bipush (-2), 2) := by decide +kernel
set_option maxRecDepth 100000 in
theorem dX12_seat_35 : decode cX12_seat 35 = .ok (.istore_n 2, 1) := by decide +kernel
set_option maxRecDepth 100000 in
theorem dX12_seat_36 : decode cX12_seat 36 = .ok (.bipush 31, 2) := by decide +kernel
set_option maxRecDepth 100000 in
theorem dX12_seat_38 : decode cX12_seat 38 = .ok (.istore_n 3, 1) := by decide +kernel
set_option maxRecDepth 100000 in
theorem dX12_seat_39 : decode cX12_seat 39 = .ok (.iconst 0, 1) := by decide +kernel
set_option maxRecDepth 100000 in
theorem dX12_seat_40 : decode cX12_seat 40 = .ok (.istore 4, 2) := by decide +kernel
set_option maxRecDepth 100000 in
theorem dX12_seat_42 : decode cX12_seat 42 = .ok (.iload 4, 2) := by decide +kernel
set_option maxRecDepth 100000 in
theorem dX12_seat_44 : decode cX12_seat 44 = .ok (.aload_n 0, 1) := by decide +kernel
set_option maxRecDepth 100000 in
theorem dX12_seat_45 : decode cX12_seat 45 = .ok (.getfield 124, 3) := by decide +kernel
set_option maxRecDepth 100000 in
theorem dX12_seat_48 : decode cX12_seat 48 = .ok (.if_icmp .ge 63, 3) := by decide +kernel
set_option maxRecDepth 100000 in
theorem dX12_seat_51 : decode cX12_seat 51 = .ok (.aload_n 0, 1) := by decide +kernel
set_option maxRecDepth 100000 in
theorem dX12_seat_52 : decode cX12_seat 52 = .ok (.getfield 33, 3) := by decide +kernel
set_option maxRecDepth 100000 in
theorem dX12_seat_55 : decode cX12_seat 55 = .ok (.iload 4, 2) := by decide +kernel
set_option maxRecDepth 100000 in
theorem dX12_seat_57 : decode cX12_seat 57 = .ok (.invokestatic 130, 3) := by decide +kernel
set_option maxRecDepth 100000 in
theorem dX12_seat_60 : decode cX12_seat 60 = .ok (.ifCond .lt 45, 3) := by decide +kernel
set_option maxRecDepth 100000 in
theorem dX12_seat_63 : decode cX12_seat 63 = .ok (.aload_n 0, 1) := by decide +kernel
set_option maxRecDepth 100000 in
theorem dX12_seat_64 : decode cX12_seat 64 = .ok (.invokevirtual 407, 3) := by decide +kernel
set_option maxRecDepth 100000 in
theorem dX12_seat_67 : decode cX12_seat 67 = .ok (.aload_n 0, 1) := by decide +kernel
set_option maxRecDepth 100000 in
theorem dX12_seat_68 : decode cX12_seat 68 = .ok (.getfield 36, 3) := by decide +kernel
set_option maxRecDepth 100000 in
theorem dX12_seat_71 : decode cX12_seat 71 = .ok (.bipush 14, 2) := by decide +kernel
set_option maxRecDepth 100000 in
theorem dX12_seat_73 : decode cX12_seat 73 = .ok (.iload_n 1, 1) := by decide +kernel
set_option maxRecDepth 100000 in
theorem dX12_seat_74 : decode cX12_seat 74 = .ok (.iadd, 1) := by decide +kernel
set_option maxRecDepth 100000 in
theorem dX12_seat_75 : decode cX12_seat 75 = .ok (.iload 4, 2) := by decide +kernel
set_option maxRecDepth 100000 in
theorem dX12_seat_77 : decode cX12_seat 77 = .ok (.iastore, 1) := by decide +kernel
set_option maxRecDepth 100000 in
theorem dX12_seat_78 : decode cX12_seat 78 = .ok (.aload_n 0, 1) := by decide +kernel
set_option maxRecDepth 100000 in
theorem dX12_seat_79 : decode cX12_seat 79 = .ok (.iload_n 1, 1) := by decide +kernel
set_option maxRecDepth 100000 in
theorem dX12_seat_80 : decode cX12_seat 80 = .ok (.invokevirtual 421, 3) := by decide +kernel
set_option maxRecDepth 100000 in
theorem dX12_seat_83 : decode cX12_seat 83 = .ok (.istore 5, 2) := by decide +kernel
set_option maxRecDepth 100000 in
theorem dX12_seat_85 : decode cX12_seat 85 = .ok (.iload 5, 2) := by decide +kernel
set_option maxRecDepth 100000 in
theorem dX12_seat_87 : decode cX12_seat 87 = .ok (.iload_n 3, 1) := by decide +kernel
set_option maxRecDepth 100000 in
theorem dX12_seat_88 : decode cX12_seat 88 = .ok (.if_icmp .ge 8, 3) := by decide +kernel
set_option maxRecDepth 100000 in
theorem dX12_seat_91 : decode cX12_seat 91 = .ok (.iload 4, 2) := by decide +kernel
set_option maxRecDepth 100000 in
theorem dX12_seat_93 : decode cX12_seat 93 = .ok (.goto 4, 3) := by decide +kernel
set_option maxRecDepth 100000 in
theorem dX12_seat_96 : decode cX12_seat 96 = .ok (.iload_n 2, 1) := by decide +kernel
set_option maxRecDepth 100000 in
theorem dX12_seat_97 : decode cX12_seat 97 = .ok (.istore_n 2, 1) := by decide +kernel
set_option maxRecDepth 100000 in
theorem dX12_seat_98 : decode cX12_seat 98 = .ok (.iload_n 3, 1) := by decide +kernel
set_option maxRecDepth 100000 in
theorem dX12_seat_99 : decode cX12_seat 99 = .ok (.iload 5, 2) := by decide +kernel
set_option maxRecDepth 100000 in
theorem dX12_seat_101 : decode cX12_seat 101 = .ok (.invokestatic 139, 3) := by decide +kernel
set_option maxRecDepth 100000 in
theorem dX12_seat_104 : decode cX12_seat 104 = .ok (.istore_n 3, 1) := by decide +kernel
set_option maxRecDepth 100000 in
theorem dX12_seat_105 : decode cX12_seat 105 = .ok (.iinc 4 1, 3) := by decide +kernel
set_option maxRecDepth 100000 in
theorem dX12_seat_108 : decode cX12_seat 108 = .ok (.goto (-66), 3) := by decide +kernel
set_option maxRecDepth 100000 in
theorem dX12_seat_111 : decode cX12_seat 111 = .ok (.iload_n 2, 1) := by decide +kernel
set_option maxRecDepth 100000 in
theorem dX12_seat_112 : decode cX12_seat 112 = .ok (.ifCond .lt 14, 3) := by decide +kernel
set_option maxRecDepth 100000 in
theorem dX12_seat_115 : decode cX12_seat 115 = .ok (.aload_n 0, 1) := by decide +kernel
set_option maxRecDepth 100000 in
theorem dX12_seat_116 : decode cX12_seat 116 = .ok (.iconst 0, 1) := by decide +kernel
set_option maxRecDepth 100000 in
theorem dX12_seat_117 : decode cX12_seat 117 = .ok (.putfield 113, 3) := by decide +kernel
set_option maxRecDepth 100000 in
theorem dX12_seat_120 : decode cX12_seat 120 = .ok (.aload_n 0, 1) := by decide +kernel
set_option maxRecDepth 100000 in
theorem dX12_seat_121 : decode cX12_seat 121 = .ok (.iload_n 3, 1) := by decide +kernel
set_option maxRecDepth 100000 in
theorem dX12_seat_122 : decode cX12_seat 122 = .ok (.i2l, 1) := by decide +kernel
set_option maxRecDepth 100000 in
theorem dX12_seat_123 : decode cX12_seat 123 = .ok (.invokevirtual 116, 3) := by decide +kernel
set_option maxRecDepth 100000 in
theorem dX12_seat_126 : decode cX12_seat 126 = .ok (.iload_n 2, 1) := by decide +kernel
set_option maxRecDepth 100000 in
theorem dX12_seat_127 : decode cX12_seat 127 = .ok (.ireturn, 1) := by decide +kernel
set_option maxRecDepth 100000 in
theorem dX12_reseat_0 : decode cX12_reseat 0 = .ok (.aload_n 0, 1) := by decide +kernel
set_option maxRecDepth 100000 in
theorem dX12_reseat_1 : decode cX12_reseat 1 = .ok (.iconst 0, 1) := by decide +kernel
set_option maxRecDepth 100000 in
theorem dX12_reseat_2 : decode cX12_reseat 2 = .ok (.putfield 106, 3) := by decide +kernel
set_option maxRecDepth 100000 in
theorem dX12_reseat_5 : decode cX12_reseat 5 = .ok (.iload_n 1, 1) := by decide +kernel
set_option maxRecDepth 100000 in
theorem dX12_reseat_6 : decode cX12_reseat 6 = .ok (.i2l, 1) := by decide +kernel
set_option maxRecDepth 100000 in
theorem dX12_reseat_7 : decode cX12_reseat 7 = .ok (.lconst 1, 1) := by decide +kernel
set_option maxRecDepth 100000 in
theorem dX12_reseat_8 : decode cX12_reseat 8 = .ok (.ldc2_w 430, 3) := by decide +kernel
set_option maxRecDepth 100000 in
theorem dX12_reseat_11 : decode cX12_reseat 11 = .ok (.invokestatic 120, 3) := by decide +kernel
set_option maxRecDepth 100000 in
theorem dX12_reseat_14 : decode cX12_reseat 14 = .ok (.ifCond .ne 5, 3) := by decide +kernel
set_option maxRecDepth 100000 in
theorem dX12_reseat_17 : decode cX12_reseat 17 = .ok (.iconst (-1), 1) := by decide +kernel
set_option maxRecDepth 100000 in
theorem dX12_reseat_18 : decode cX12_reseat 18 = .ok (.ireturn, 1) := by decide +kernel
set_option maxRecDepth 100000 in
theorem dX12_reseat_19 : decode cX12_reseat 19 = .ok (.aload_n 0, 1) := by decide +kernel
set_option maxRecDepth 100000 in
theorem dX12_reseat_20 : decode cX12_reseat 20 = .ok (.invokevirtual 407, 3) := by decide +kernel
set_option maxRecDepth 100000 in
theorem dX12_reseat_23 : decode cX12_reseat 23 = .ok (.aload_n 0, 1) := by decide +kernel
set_option maxRecDepth 100000 in
theorem dX12_reseat_24 : decode cX12_reseat 24 = .ok (.iload_n 1, 1) := by decide +kernel
set_option maxRecDepth 100000 in
theorem dX12_reseat_25 : decode cX12_reseat 25 = .ok (.invokevirtual 415, 3) := by decide +kernel
set_option maxRecDepth 100000 in
theorem dX12_reseat_28 : decode cX12_reseat 28 = .ok (.istore_n 2, 1) := by decide +kernel
set_option maxRecDepth 100000 in
theorem dX12_reseat_29 : decode cX12_reseat 29 = .ok (.iconst (-1), 1) := by decide +kernel
set_option maxRecDepth 100000 in
theorem dX12_reseat_30 : decode cX12_reseat 30 = .ok (.istore_n 3, 1) := by decide +kernel
set_option maxRecDepth 100000 in
theorem dX12_reseat_31 : decode cX12_reseat 31 = .ok (.iconst (-1), 1) := by decide +kernel
set_option maxRecDepth 100000 in
theorem dX12_reseat_32 : decode cX12_reseat 32 = .ok (.istore 4, 2) := by decide +kernel
set_option maxRecDepth 100000 in
theorem dX12_reseat_34 : decode cX12_reseat 34 = .ok (.iconst 0, 1) := by decide +kernel
set_option maxRecDepth 100000 in
theorem dX12_reseat_35 : decode cX12_reseat 35 = .ok (.istore 5, 2) := by decide +kernel
set_option maxRecDepth 100000 in
theorem dX12_reseat_37 : decode cX12_reseat 37 = .ok (.iload 5, 2) := by decide +kernel
set_option maxRecDepth 100000 in
theorem dX12_reseat_39 : decode cX12_reseat 39 = .ok (.aload_n 0, 1) := by decide +kernel
set_option maxRecDepth 100000 in
theorem dX12_reseat_40 : decode cX12_reseat 40 = .ok (.getfield 127, 3) := by decide +kernel
set_option maxRecDepth 100000 in
theorem dX12_reseat_43 : decode cX12_reseat 43 = .ok (.if_icmp .ge 109, 3) := by decide +kernel
set_option maxRecDepth 100000 in
theorem dX12_reseat_46 : decode cX12_reseat 46 = .ok (.iconst 0, 1) := by decide +kernel
set_option maxRecDepth 100000 in
theorem dX12_reseat_47 : decode cX12_reseat 47 = .ok (.istore 6, 2) := by decide +kernel
set_option maxRecDepth 100000 in
theorem dX12_reseat_49 : decode cX12_reseat 49 = .ok (.iload 6, 2) := by decide +kernel
set_option maxRecDepth 100000 in
theorem dX12_reseat_51 : decode cX12_reseat 51 = .ok (.aload_n 0, 1) := by decide +kernel
set_option maxRecDepth 100000 in
theorem dX12_reseat_52 : decode cX12_reseat 52 = .ok (.getfield 124, 3) := by decide +kernel
set_option maxRecDepth 100000 in
theorem dX12_reseat_55 : decode cX12_reseat 55 = .ok (.if_icmp .ge 91, 3) := by decide +kernel
set_option maxRecDepth 100000 in
theorem dX12_reseat_58 : decode cX12_reseat 58 = .ok (.aload_n 0, 1) := by decide +kernel
set_option maxRecDepth 100000 in
theorem dX12_reseat_59 : decode cX12_reseat 59 = .ok (.aload_n 0, 1) := by decide +kernel
set_option maxRecDepth 100000 in
theorem dX12_reseat_60 : decode cX12_reseat 60 = .ok (.getfield 33, 3) := by decide +kernel
set_option maxRecDepth 100000 in
theorem dX12_reseat_63 : decode cX12_reseat 63 = .ok (.invokevirtual 303, 3) := by decide +kernel
set_option maxRecDepth 100000 in
theorem dX12_reseat_66 : decode cX12_reseat 66 = .ok (.iload 5, 2) := by decide +kernel
set_option maxRecDepth 100000 in
theorem dX12_reseat_68 : decode cX12_reseat 68 = .ok (.invokestatic 288, 3) := by decide +kernel
set_option maxRecDepth 100000 in
theorem dX12_reseat_71 : decode cX12_reseat 71 = .ok (.ifCond .eq 69, 3) := by decide +kernel
set_option maxRecDepth 100000 in
theorem dX12_reseat_74 : decode cX12_reseat 74 = .ok (.aload_n 0, 1) := by decide +kernel
set_option maxRecDepth 100000 in
theorem dX12_reseat_75 : decode cX12_reseat 75 = .ok (.getfield 33, 3) := by decide +kernel
set_option maxRecDepth 100000 in
theorem dX12_reseat_78 : decode cX12_reseat 78 = .ok (.iload 6, 2) := by decide +kernel
set_option maxRecDepth 100000 in
theorem dX12_reseat_80 : decode cX12_reseat 80 = .ok (.invokestatic 130, 3) := by decide +kernel
set_option maxRecDepth 100000 in
theorem dX12_reseat_83 : decode cX12_reseat 83 = .ok (.ifCond .lt 57, 3) := by decide +kernel
set_option maxRecDepth 100000 in
theorem dX12_reseat_86 : decode cX12_reseat 86 = .ok (.aload_n 0, 1) := by decide +kernel
set_option maxRecDepth 100000 in
theorem dX12_reseat_87 : decode cX12_reseat 87 = .ok (.getfield 33, 3) := by decide +kernel
set_option maxRecDepth 100000 in
theorem dX12_reseat_90 : decode cX12_reseat 90 = .ok (.bipush 14, 2) := by decide +kernel
set_option maxRecDepth 100000 in
theorem dX12_reseat_92 : decode cX12_reseat 92 = .ok (.iload 5, 2) := by decide +kernel
set_option maxRecDepth 100000 in
theorem dX12_reseat_94 : decode cX12_reseat 94 = .ok (.iadd, 1) := by decide +kernel
set_option maxRecDepth 100000 in
theorem dX12_reseat_95 : decode cX12_reseat 95 = .ok (.iaload, 1) := by decide +kernel
set_option maxRecDepth 100000 in
theorem dX12_reseat_96 : decode cX12_reseat 96 = .ok (.iload 6, 2) := by decide +kernel
set_option maxRecDepth 100000 in
theorem dX12_reseat_98 : decode cX12_reseat 98 = .ok (.if_icmp .eq 42, 3) := by decide +kernel
set_option maxRecDepth 100000 in
theorem dX12_reseat_101 : decode cX12_reseat 101 = .ok (.aload_n 0, 1) := by decide +kernel
set_option maxRecDepth 100000 in
theorem dX12_reseat_102 : decode cX12_reseat 102 = .ok (.invokevirtual 407, 3) := by decide +kernel
set_option maxRecDepth 100000 in
theorem dX12_reseat_105 : decode cX12_reseat 105 = .ok (.aload_n 0, 1) := by decide +kernel
set_option maxRecDepth 100000 in
theorem dX12_reseat_106 : decode cX12_reseat 106 = .ok (.getfield 36, 3) := by decide +kernel
set_option maxRecDepth 100000 in
theorem dX12_reseat_109 : decode cX12_reseat 109 = .ok (.bipush 14, 2) := by decide +kernel
set_option maxRecDepth 100000 in
theorem dX12_reseat_111 : decode cX12_reseat 111 = .ok (.iload 5, 2) := by decide +kernel
set_option maxRecDepth 100000 in
theorem dX12_reseat_113 : decode cX12_reseat 113 = .ok (.iadd, 1) := by decide +kernel
set_option maxRecDepth 100000 in
theorem dX12_reseat_114 : decode cX12_reseat 114 = .ok (.iload 6, 2) := by decide +kernel
set_option maxRecDepth 100000 in
theorem dX12_reseat_116 : decode cX12_reseat 116 = .ok (.iastore, 1) := by decide +kernel
set_option maxRecDepth 100000 in
theorem dX12_reseat_117 : decode cX12_reseat 117 = .ok (.aload_n 0, 1) := by decide +kernel
set_option maxRecDepth 100000 in
theorem dX12_reseat_118 : decode cX12_reseat 118 = .ok (.iload_n 1, 1) := by decide +kernel
set_option maxRecDepth 100000 in
theorem dX12_reseat_119 : decode cX12_reseat 119 = .ok (.invokevirtual 415, 3) := by decide +kernel
set_option maxRecDepth 100000 in
theorem dX12_reseat_122 : decode cX12_reseat 122 = .ok (.istore 7, 2) := by decide +kernel
set_option maxRecDepth 100000 in
theorem dX12_reseat_124 : decode cX12_reseat 124 = .ok (.iload 7, 2) := by decide +kernel
set_option maxRecDepth 100000 in
theorem dX12_reseat_126 : decode cX12_reseat 126 = .ok (.iload_n 2, 1) := by decide +kernel
set_option maxRecDepth 100000 in
theorem dX12_reseat_127 : decode cX12_reseat 127 = .ok (.if_icmp .le 13, 3) := by decide +kernel
set_option maxRecDepth 100000 in
theorem dX12_reseat_130 : decode cX12_reseat 130 = .ok (.iload 7, 2) := by decide +kernel
set_option maxRecDepth 100000 in
theorem dX12_reseat_132 : decode cX12_reseat 132 = .ok (.istore_n 2, 1) := by decide +kernel
set_option maxRecDepth 100000 in
theorem dX12_reseat_133 : decode cX12_reseat 133 = .ok (.iload 5, 2) := by decide +kernel
set_option maxRecDepth 100000 in
theorem dX12_reseat_135 : decode cX12_reseat 135 = .ok (.istore_n 3, 1) := by decide +kernel
set_option maxRecDepth 100000 in
theorem dX12_reseat_136 : decode cX12_reseat 136 = .ok (.iload 6, 2) := by decide +kernel
set_option maxRecDepth 100000 in
theorem dX12_reseat_138 : decode cX12_reseat 138 = .ok (.istore 4, 2) := by decide +kernel
set_option maxRecDepth 100000 in
theorem dX12_reseat_140 : decode cX12_reseat 140 = .ok (.iinc 6 1, 3) := by decide +kernel
set_option maxRecDepth 100000 in
theorem dX12_reseat_143 : decode cX12_reseat 143 = .ok (.goto (-94), 3) := by decide +kernel
set_option maxRecDepth 100000 in
theorem dX12_reseat_146 : decode cX12_reseat 146 = .ok (.iinc 5 1, 3) := by decide +kernel
set_option maxRecDepth 100000 in
theorem dX12_reseat_149 : decode cX12_reseat 149 = .ok (.goto (-112), 3) := by decide +kernel
set_option maxRecDepth 100000 in
theorem dX12_reseat_152 : decode cX12_reseat 152 = .ok (.aload_n 0, 1) := by decide +kernel
set_option maxRecDepth 100000 in
theorem dX12_reseat_153 : decode cX12_reseat 153 = .ok (.iconst 0, 1) := by decide +kernel
set_option maxRecDepth 100000 in
theorem dX12_reseat_154 : decode cX12_reseat 154 = .ok (.putfield 113, 3) := by decide +kernel
set_option maxRecDepth 100000 in
theorem dX12_reseat_157 : decode cX12_reseat 157 = .ok (.aload_n 0, 1) := by decide +kernel
set_option maxRecDepth 100000 in
theorem dX12_reseat_158 : decode cX12_reseat 158 = .ok (.iload_n 3, 1) := by decide +kernel
set_option maxRecDepth 100000 in
theorem dX12_reseat_159 : decode cX12_reseat 159 = .ok (.i2l, 1) := by decide +kernel
set_option maxRecDepth 100000 in
theorem dX12_reseat_160 : decode cX12_reseat 160 = .ok (.invokevirtual 116, 3) := by decide +kernel
set_option maxRecDepth 100000 in
theorem dX12_reseat_163 : decode cX12_reseat 163 = .ok (.aload_n 0, 1) := by decide +kernel
set_option maxRecDepth 100000 in
theorem dX12_reseat_164 : decode cX12_reseat 164 = .ok (.iload 4, 2) := by decide +kernel
set_option maxRecDepth 100000 in
theorem dX12_reseat_166 : decode cX12_reseat 166 = .ok (.i2l, 1) := by decide +kernel
set_option maxRecDepth 100000 in
theorem dX12_reseat_167 : decode cX12_reseat 167 = .ok (.invokevirtual 116, 3) := by decide +kernel
set_option maxRecDepth 100000 in
theorem dX12_reseat_170 : decode cX12_reseat 170 = .ok (.iload_n 2, 1) := by decide +kernel
set_option maxRecDepth 100000 in
theorem dX12_reseat_171 : decode cX12_reseat 171 = .ok (.ireturn, 1) := by decide +kernel
set_option maxRecDepth 100000 in
theorem dX12_close_0 : decode cX12_close 0 = .ok (.aload_n 0, 1) := by decide +kernel
set_option maxRecDepth 100000 in
theorem dX12_close_1 : decode cX12_close 1 = .ok (.iconst 0, 1) := by decide +kernel
set_option maxRecDepth 100000 in
theorem dX12_close_2 : decode cX12_close 2 = .ok (.putfield 106, 3) := by decide +kernel
set_option maxRecDepth 100000 in
theorem dX12_close_5 : decode cX12_close 5 = .ok (.iload_n 1, 1) := by decide +kernel
set_option maxRecDepth 100000 in
theorem dX12_close_6 : decode cX12_close 6 = .ok (.i2l, 1) := by decide +kernel
set_option maxRecDepth 100000 in
theorem dX12_close_7 : decode cX12_close 7 = .ok (.lconst 1, 1) := by decide +kernel
set_option maxRecDepth 100000 in
theorem dX12_close_8 : decode cX12_close 8 = .ok (.ldc2_w 430, 3) := by decide +kernel
set_option maxRecDepth 100000 in
theorem dX12_close_11 : decode cX12_close 11 = .ok (.invokestatic 120, 3) := by decide +kernel
set_option maxRecDepth 100000 in
theorem dX12_close_14 : decode cX12_close 14 = .ok (.ifCond .ne 5, 3) := by decide +kernel
set_option maxRecDepth 100000 in
theorem dX12_close_17 : decode cX12_close 17 = .ok (.iconst (-1), 1) := by decide +kernel
set_option maxRecDepth 100000 in
theorem dX12_close_18 : decode cX12_close 18 = .ok (.ireturn, 1) := by decide +kernel
set_option maxRecDepth 100000 in
theorem dX12_close_19 : decode cX12_close 19 = .ok (.aload_n 0, 1) := by decide +kernel
set_option maxRecDepth 100000 in
theorem dX12_close_20 : decode cX12_close 20 = .ok (.invokevirtual 407, 3) := by decide +kernel
set_option maxRecDepth 100000 in
theorem dX12_close_23 : decode cX12_close 23 = .ok (.aload_n 0, 1) := by decide +kernel
set_option maxRecDepth 100000 in
theorem dX12_close_24 : decode cX12_close 24 = .ok (.iload_n 1, 1) := by decide +kernel
set_option maxRecDepth 100000 in
theorem dX12_close_25 : decode cX12_close 25 = .ok (.invokevirtual 415, 3) := by decide +kernel
set_option maxRecDepth 100000 in
theorem dX12_close_28 : decode cX12_close 28 = .ok (.istore_n 2, 1) := by decide +kernel
set_option maxRecDepth 100000 in
theorem dX12_close_29 : decode cX12_close 29 = .ok (.bipush (-3), 2) := by decide +kernel
set_option maxRecDepth 100000 in
theorem dX12_close_31 : decode cX12_close 31 = .ok (.istore_n 3, 1) := by decide +kernel
set_option maxRecDepth 100000 in
theorem dX12_close_32 : decode cX12_close 32 = .ok (.iconst 0, 1) := by decide +kernel
set_option maxRecDepth 100000 in
theorem dX12_close_33 : decode cX12_close 33 = .ok (.istore 4, 2) := by decide +kernel
set_option maxRecDepth 100000 in
theorem dX12_close_35 : decode cX12_close 35 = .ok (.iload 4, 2) := by decide +kernel
set_option maxRecDepth 100000 in
theorem dX12_close_37 : decode cX12_close 37 = .ok (.iconst 2, 1) := by decide +kernel
set_option maxRecDepth 100000 in
theorem dX12_close_38 : decode cX12_close 38 = .ok (.aload_n 0, 1) := by decide +kernel
set_option maxRecDepth 100000 in
theorem dX12_close_39 : decode cX12_close 39 = .ok (.getfield 13, 3) := by decide +kernel
set_option maxRecDepth 100000 in
theorem dX12_close_42 : decode cX12_close 42 = .ok (.imul, 1) := by decide +kernel
set_option maxRecDepth 100000 in
theorem dX12_close_43 : decode cX12_close 43 = .ok (.if_icmp .ge 75, 3) := by decide +kernel
set_option maxRecDepth 100000 in
theorem dX12_close_46 : decode cX12_close 46 = .ok (.aload_n 0, 1) := by decide +kernel
set_option maxRecDepth 100000 in
theorem dX12_close_47 : decode cX12_close 47 = .ok (.getfield 17, 3) := by decide +kernel
set_option maxRecDepth 100000 in
theorem dX12_close_50 : decode cX12_close 50 = .ok (.iload 4, 2) := by decide +kernel
set_option maxRecDepth 100000 in
theorem dX12_close_52 : decode cX12_close 52 = .ok (.iaload, 1) := by decide +kernel
set_option maxRecDepth 100000 in
theorem dX12_close_53 : decode cX12_close 53 = .ok (.istore 5, 2) := by decide +kernel
set_option maxRecDepth 100000 in
theorem dX12_close_55 : decode cX12_close 55 = .ok (.iload 5, 2) := by decide +kernel
set_option maxRecDepth 100000 in
theorem dX12_close_57 : decode cX12_close 57 = .ok (.ifCond .lt 55, 3) := by decide +kernel
set_option maxRecDepth 100000 in
theorem dX12_close_60 : decode cX12_close 60 = .ok (.aload_n 0, 1) := by decide +kernel
set_option maxRecDepth 100000 in
theorem dX12_close_61 : decode cX12_close 61 = .ok (.getfield 17, 3) := by decide +kernel
set_option maxRecDepth 100000 in
theorem dX12_close_64 : decode cX12_close 64 = .ok (.iload 4, 2) := by decide +kernel
set_option maxRecDepth 100000 in
theorem dX12_close_66 : decode cX12_close 66 = .ok (.iconst (-1), 1) := by decide +kernel
set_option maxRecDepth 100000 in
theorem dX12_close_67 : decode cX12_close 67 = .ok (.iastore, 1) := by decide +kernel
set_option maxRecDepth 100000 in
theorem dX12_close_68 : decode cX12_close 68 = .ok (.aload_n 0, 1) := by decide +kernel
set_option maxRecDepth 100000 in
theorem dX12_close_69 : decode cX12_close 69 = .ok (.invokevirtual 202, 3) := by decide +kernel
set_option maxRecDepth 100000 in
theorem dX12_close_72 : decode cX12_close 72 = .ok (.aload_n 0, 1) := by decide +kernel
set_option maxRecDepth 100000 in
theorem dX12_close_73 : decode cX12_close 73 = .ok (.invokevirtual 407, 3) := by decide +kernel
set_option maxRecDepth 100000 in
theorem dX12_close_76 : decode cX12_close 76 = .ok (.aload_n 0, 1) := by decide +kernel
set_option maxRecDepth 100000 in
theorem dX12_close_77 : decode cX12_close 77 = .ok (.iload_n 1, 1) := by decide +kernel
set_option maxRecDepth 100000 in
theorem dX12_close_78 : decode cX12_close 78 = .ok (.invokevirtual 415, 3) := by decide +kernel
set_option maxRecDepth 100000 in
theorem dX12_close_81 : decode cX12_close 81 = .ok (.istore 6, 2) := by decide +kernel
set_option maxRecDepth 100000 in
theorem dX12_close_83 : decode cX12_close 83 = .ok (.aload_n 0, 1) := by decide +kernel
set_option maxRecDepth 100000 in
theorem dX12_close_84 : decode cX12_close 84 = .ok (.getfield 17, 3) := by decide +kernel
set_option maxRecDepth 100000 in
theorem dX12_close_87 : decode cX12_close 87 = .ok (.iload 4, 2) := by decide +kernel
set_option maxRecDepth 100000 in
theorem dX12_close_89 : decode cX12_close 89 = .ok (.iload 5, 2) := by decide +kernel
set_option maxRecDepth 100000 in
theorem dX12_close_91 : decode cX12_close 91 = .ok (.iastore, 1) := by decide +kernel
set_option maxRecDepth 100000 in
theorem dX12_close_92 : decode cX12_close 92 = .ok (.iload 6, 2) := by decide +kernel
set_option maxRecDepth 100000 in
theorem dX12_close_94 : decode cX12_close 94 = .ok (.iload_n 2, 1) := by decide +kernel
set_option maxRecDepth 100000 in
theorem dX12_close_95 : decode cX12_close 95 = .ok (.if_icmp .le 8, 3) := by decide +kernel
set_option maxRecDepth 100000 in
theorem dX12_close_98 : decode cX12_close 98 = .ok (.iload 4, 2) := by decide +kernel
set_option maxRecDepth 100000 in
theorem dX12_close_100 : decode cX12_close 100 = .ok (.goto 4, 3) := by decide +kernel
set_option maxRecDepth 100000 in
theorem dX12_close_103 : decode cX12_close 103 = .ok (.iload_n 3, 1) := by decide +kernel
set_option maxRecDepth 100000 in
theorem dX12_close_104 : decode cX12_close 104 = .ok (.istore_n 3, 1) := by decide +kernel
set_option maxRecDepth 100000 in
theorem dX12_close_105 : decode cX12_close 105 = .ok (.iload_n 2, 1) := by decide +kernel
set_option maxRecDepth 100000 in
theorem dX12_close_106 : decode cX12_close 106 = .ok (.iload 6, 2) := by decide +kernel
set_option maxRecDepth 100000 in
theorem dX12_close_108 : decode cX12_close 108 = .ok (.invokestatic 281, 3) := by decide +kernel
set_option maxRecDepth 100000 in
theorem dX12_close_111 : decode cX12_close 111 = .ok (.istore_n 2, 1) := by decide +kernel
set_option maxRecDepth 100000 in
theorem dX12_close_112 : decode cX12_close 112 = .ok (.iinc 4 1, 3) := by decide +kernel
set_option maxRecDepth 100000 in
theorem dX12_close_115 : decode cX12_close 115 = .ok (.goto (-80), 3) := by decide +kernel
set_option maxRecDepth 100000 in
theorem dX12_close_118 : decode cX12_close 118 = .ok (.aload_n 0, 1) := by decide +kernel
set_option maxRecDepth 100000 in
theorem dX12_close_119 : decode cX12_close 119 = .ok (.invokevirtual 202, 3) := by decide +kernel
set_option maxRecDepth 100000 in
theorem dX12_close_122 : decode cX12_close 122 = .ok (.aload_n 0, 1) := by decide +kernel
set_option maxRecDepth 100000 in
theorem dX12_close_123 : decode cX12_close 123 = .ok (.iconst 0, 1) := by decide +kernel
set_option maxRecDepth 100000 in
theorem dX12_close_124 : decode cX12_close 124 = .ok (.putfield 113, 3) := by decide +kernel
set_option maxRecDepth 100000 in
theorem dX12_close_127 : decode cX12_close 127 = .ok (.aload_n 0, 1) := by decide +kernel
set_option maxRecDepth 100000 in
theorem dX12_close_128 : decode cX12_close 128 = .ok (.iload_n 2, 1) := by decide +kernel
set_option maxRecDepth 100000 in
theorem dX12_close_129 : decode cX12_close 129 = .ok (.i2l, 1) := by decide +kernel
set_option maxRecDepth 100000 in
theorem dX12_close_130 : decode cX12_close 130 = .ok (.invokevirtual 116, 3) := by decide +kernel
set_option maxRecDepth 100000 in
theorem dX12_close_133 : decode cX12_close 133 = .ok (.iload_n 3, 1) := by decide +kernel
set_option maxRecDepth 100000 in
theorem dX12_close_134 : decode cX12_close 134 = .ok (.ireturn, 1) := by decide +kernel
set_option maxRecDepth 100000 in
theorem dX12_fetches_0 : decode cX12_fetches 0 = .ok (.iload_n 2, 1) := by decide +kernel
set_option maxRecDepth 100000 in
theorem dX12_fetches_1 : decode cX12_fetches 1 = .ok (.ifCond .ne 69, 3) := by decide +kernel
set_option maxRecDepth 100000 in
theorem dX12_fetches_4 : decode cX12_fetches 4 = .ok (.iload 4, 2) := by decide +kernel
set_option maxRecDepth 100000 in
theorem dX12_fetches_6 : decode cX12_fetches 6 = .ok (.aload_n 0, 1) := by decide +kernel
set_option maxRecDepth 100000 in
theorem dX12_fetches_7 : decode cX12_fetches 7 = .ok (.iload_n 1, 1) := by decide +kernel
set_option maxRecDepth 100000 in
theorem dX12_fetches_8 : decode cX12_fetches 8 = .ok (.iload 5, 2) := by decide +kernel
set_option maxRecDepth 100000 in
theorem dX12_fetches_10 : decode cX12_fetches 10 = .ok (.invokevirtual 145, 3) := by decide +kernel
set_option maxRecDepth 100000 in
theorem dX12_fetches_13 : decode cX12_fetches 13 = .ok (.iadd, 1) := by decide +kernel
set_option maxRecDepth 100000 in
theorem dX12_fetches_14 : decode cX12_fetches 14 = .ok (.aload_n 0, 1) := by decide +kernel
set_option maxRecDepth 100000 in
theorem dX12_fetches_15 : decode cX12_fetches 15 = .ok (.getfield 432, 3) := by decide +kernel
set_option maxRecDepth 100000 in
theorem dX12_fetches_18 : decode cX12_fetches 18 = .ok (.if_icmp .ge 51, 3) := by decide +kernel
set_option maxRecDepth 100000 in
theorem dX12_fetches_21 : decode cX12_fetches 21 = .ok (.aload_n 0, 1) := by decide +kernel
set_option maxRecDepth 100000 in
theorem dX12_fetches_22 : decode cX12_fetches 22 = .ok (.iload 4, 2) := by decide +kernel
set_option maxRecDepth 100000 in
theorem dX12_fetches_24 : decode cX12_fetches 24 = .ok (.aload_n 0, 1) := by decide +kernel
set_option maxRecDepth 100000 in
theorem dX12_fetches_25 : decode cX12_fetches 25 = .ok (.iload_n 1, 1) := by decide +kernel
set_option maxRecDepth 100000 in
theorem dX12_fetches_26 : decode cX12_fetches 26 = .ok (.iload 5, 2) := by decide +kernel
set_option maxRecDepth 100000 in
theorem dX12_fetches_28 : decode cX12_fetches 28 = .ok (.invokevirtual 145, 3) := by decide +kernel
set_option maxRecDepth 100000 in
theorem dX12_fetches_31 : decode cX12_fetches 31 = .ok (.iadd, 1) := by decide +kernel
set_option maxRecDepth 100000 in
theorem dX12_fetches_32 : decode cX12_fetches 32 = .ok (.putfield 432, 3) := by decide +kernel
set_option maxRecDepth 100000 in
theorem dX12_fetches_35 : decode cX12_fetches 35 = .ok (.aload_n 0, 1) := by decide +kernel
set_option maxRecDepth 100000 in
theorem dX12_fetches_36 : decode cX12_fetches 36 = .ok (.iload_n 3, 1) := by decide +kernel
set_option maxRecDepth 100000 in
theorem dX12_fetches_37 : decode cX12_fetches 37 = .ok (.putfield 435, 3) := by decide +kernel
set_option maxRecDepth 100000 in
theorem dX12_fetches_40 : decode cX12_fetches 40 = .ok (.iconst 0, 1) := by decide +kernel
set_option maxRecDepth 100000 in
theorem dX12_fetches_41 : decode cX12_fetches 41 = .ok (.istore 6, 2) := by decide +kernel
set_option maxRecDepth 100000 in
theorem dX12_fetches_43 : decode cX12_fetches 43 = .ok (.iload 6, 2) := by decide +kernel
set_option maxRecDepth 100000 in
theorem dX12_fetches_45 : decode cX12_fetches 45 = .ok (.iload_n 3, 1) := by decide +kernel
set_option maxRecDepth 100000 in
theorem dX12_fetches_46 : decode cX12_fetches 46 = .ok (.if_icmp .ge 23, 3) := by decide +kernel
set_option maxRecDepth 100000 in
theorem dX12_fetches_49 : decode cX12_fetches 49 = .ok (.aload_n 0, 1) := by decide +kernel
set_option maxRecDepth 100000 in
theorem dX12_fetches_50 : decode cX12_fetches 50 = .ok (.getfield 75, 3) := by decide +kernel
set_option maxRecDepth 100000 in
theorem dX12_fetches_53 : decode cX12_fetches 53 = .ok (.iload 6, 2) := by decide +kernel
set_option maxRecDepth 100000 in
theorem dX12_fetches_55 : decode cX12_fetches 55 = .ok (.aload_n 0, 1) := by decide +kernel
set_option maxRecDepth 100000 in
theorem dX12_fetches_56 : decode cX12_fetches 56 = .ok (.getfield 72, 3) := by decide +kernel
set_option maxRecDepth 100000 in
theorem dX12_fetches_59 : decode cX12_fetches 59 = .ok (.iload 6, 2) := by decide +kernel
set_option maxRecDepth 100000 in
theorem dX12_fetches_61 : decode cX12_fetches 61 = .ok (.iaload, 1) := by decide +kernel
set_option maxRecDepth 100000 in
theorem dX12_fetches_62 : decode cX12_fetches 62 = .ok (.iastore, 1) := by decide +kernel
set_option maxRecDepth 100000 in
theorem dX12_fetches_63 : decode cX12_fetches 63 = .ok (.iinc 6 1, 3) := by decide +kernel
set_option maxRecDepth 100000 in
theorem dX12_fetches_66 : decode cX12_fetches 66 = .ok (.goto (-23), 3) := by decide +kernel
set_option maxRecDepth 100000 in
theorem dX12_fetches_69 : decode cX12_fetches 69 = .ok (.return_, 1) := by decide +kernel
set_option maxRecDepth 100000 in
theorem dX12_fetches_70 : decode cX12_fetches 70 = .ok (.iconst 0, 1) := by decide +kernel
set_option maxRecDepth 100000 in
theorem dX12_fetches_71 : decode cX12_fetches 71 = .ok (.istore 6, 2) := by decide +kernel
set_option maxRecDepth 100000 in
theorem dX12_fetches_73 : decode cX12_fetches 73 = .ok (.iload 6, 2) := by decide +kernel
set_option maxRecDepth 100000 in
theorem dX12_fetches_75 : decode cX12_fetches 75 = .ok (.aload_n 0, 1) := by decide +kernel
set_option maxRecDepth 100000 in
theorem dX12_fetches_76 : decode cX12_fetches 76 = .ok (.getfield 13, 3) := by decide +kernel
set_option maxRecDepth 100000 in
theorem dX12_fetches_79 : decode cX12_fetches 79 = .ok (.if_icmp .ge 67, 3) := by decide +kernel
set_option maxRecDepth 100000 in
theorem dX12_fetches_82 : decode cX12_fetches 82 = .ok (.iload_n 2, 1) := by decide +kernel
set_option maxRecDepth 100000 in
theorem dX12_fetches_83 : decode cX12_fetches 83 = .ok (.iload 6, 2) := by decide +kernel
set_option maxRecDepth 100000 in
theorem dX12_fetches_85 : decode cX12_fetches 85 = .ok (.invokestatic 288, 3) := by decide +kernel
set_option maxRecDepth 100000 in
theorem dX12_fetches_88 : decode cX12_fetches 88 = .ok (.ifCond .eq 52, 3) := by decide +kernel
set_option maxRecDepth 100000 in
theorem dX12_fetches_91 : decode cX12_fetches 91 = .ok (.aload_n 0, 1) := by decide +kernel
set_option maxRecDepth 100000 in
theorem dX12_fetches_92 : decode cX12_fetches 92 = .ok (.iload_n 1, 1) := by decide +kernel
set_option maxRecDepth 100000 in
theorem dX12_fetches_93 : decode cX12_fetches 93 = .ok (.iload 6, 2) := by decide +kernel
set_option maxRecDepth 100000 in
theorem dX12_fetches_95 : decode cX12_fetches 95 = .ok (.invokevirtual 145, 3) := by decide +kernel
set_option maxRecDepth 100000 in
theorem dX12_fetches_98 : decode cX12_fetches 98 = .ok (.ldc 138, 2) := by decide +kernel
set_option maxRecDepth 100000 in
theorem dX12_fetches_100 : decode cX12_fetches 100 = .ok (.if_icmp .ge 40, 3) := by decide +kernel
set_option maxRecDepth 100000 in
theorem dX12_fetches_103 : decode cX12_fetches 103 = .ok (.aload_n 0, 1) := by decide +kernel
set_option maxRecDepth 100000 in
theorem dX12_fetches_104 : decode cX12_fetches 104 = .ok (.getfield 72, 3) := by decide +kernel
set_option maxRecDepth 100000 in
theorem dX12_fetches_107 : decode cX12_fetches 107 = .ok (.iload_n 3, 1) := by decide +kernel
set_option maxRecDepth 100000 in
theorem dX12_fetches_108 : decode cX12_fetches 108 = .ok (.iload 6, 2) := by decide +kernel
set_option maxRecDepth 100000 in
theorem dX12_fetches_110 : decode cX12_fetches 110 = .ok (.iastore, 1) := by decide +kernel
set_option maxRecDepth 100000 in
theorem dX12_fetches_111 : decode cX12_fetches 111 = .ok (.aload_n 0, 1) := by decide +kernel
set_option maxRecDepth 100000 in
theorem dX12_fetches_112 : decode cX12_fetches 112 = .ok (.iload 6, 2) := by decide +kernel
set_option maxRecDepth 100000 in
theorem dX12_fetches_114 : decode cX12_fetches 114 = .ok (.iload_n 2, 1) := by decide +kernel
set_option maxRecDepth 100000 in
theorem dX12_fetches_115 : decode cX12_fetches 115 = .ok (.iconst 1, 1) := by decide +kernel
set_option maxRecDepth 100000 in
theorem dX12_fetches_116 : decode cX12_fetches 116 = .ok (.iload 6, 2) := by decide +kernel
set_option maxRecDepth 100000 in
theorem dX12_fetches_118 : decode cX12_fetches 118 = .ok (.ishl, 1) := by decide +kernel
set_option maxRecDepth 100000 in
theorem dX12_fetches_119 : decode cX12_fetches 119 = .ok (.iconst (-1), 1) := by decide +kernel
set_option maxRecDepth 100000 in
theorem dX12_fetches_120 : decode cX12_fetches 120 = .ok (.ixor, 1) := by decide +kernel
set_option maxRecDepth 100000 in
theorem dX12_fetches_121 : decode cX12_fetches 121 = .ok (.iand, 1) := by decide +kernel
set_option maxRecDepth 100000 in
theorem dX12_fetches_122 : decode cX12_fetches 122 = .ok (.iload_n 3, 1) := by decide +kernel
set_option maxRecDepth 100000 in
theorem dX12_fetches_123 : decode cX12_fetches 123 = .ok (.iconst 1, 1) := by decide +kernel
set_option maxRecDepth 100000 in
theorem dX12_fetches_124 : decode cX12_fetches 124 = .ok (.iadd, 1) := by decide +kernel
set_option maxRecDepth 100000 in
theorem dX12_fetches_125 : decode cX12_fetches 125 = .ok (.iload 4, 2) := by decide +kernel
set_option maxRecDepth 100000 in
theorem dX12_fetches_127 : decode cX12_fetches 127 = .ok (.aload_n 0, 1) := by decide +kernel
set_option maxRecDepth 100000 in
theorem dX12_fetches_128 : decode cX12_fetches 128 = .ok (.iload_n 1, 1) := by decide +kernel
set_option maxRecDepth 100000 in
theorem dX12_fetches_129 : decode cX12_fetches 129 = .ok (.iload 6, 2) := by decide +kernel
set_option maxRecDepth 100000 in
theorem dX12_fetches_131 : decode cX12_fetches 131 = .ok (.invokevirtual 145, 3) := by decide +kernel
set_option maxRecDepth 100000 in
theorem dX12_fetches_134 : decode cX12_fetches 134 = .ok (.iadd, 1) := by decide +kernel
set_option maxRecDepth 100000 in
theorem dX12_fetches_135 : decode cX12_fetches 135 = .ok (.iload 5, 2) := by decide +kernel
set_option maxRecDepth 100000 in
theorem dX12_fetches_137 : decode cX12_fetches 137 = .ok (.invokevirtual 438, 3) := by decide +kernel
set_option maxRecDepth 100000 in
theorem dX12_fetches_140 : decode cX12_fetches 140 = .ok (.iinc 6 1, 3) := by decide +kernel
set_option maxRecDepth 100000 in
theorem dX12_fetches_143 : decode cX12_fetches 143 = .ok (.goto (-70), 3) := by decide +kernel
set_option maxRecDepth 100000 in
theorem dX12_fetches_146 : decode cX12_fetches 146 = .ok (.return_, 1) := by decide +kernel
set_option maxRecDepth 100000 in
theorem dX12_fetch_0 : decode cX12_fetch 0 = .ok (.aload_n 0, 1) := by decide +kernel
set_option maxRecDepth 100000 in
theorem dX12_fetch_1 : decode cX12_fetch 1 = .ok (.iconst 0, 1) := by decide +kernel
set_option maxRecDepth 100000 in
theorem dX12_fetch_2 : decode cX12_fetch 2 = .ok (.putfield 106, 3) := by decide +kernel
set_option maxRecDepth 100000 in
theorem dX12_fetch_5 : decode cX12_fetch 5 = .ok (.aload_n 0, 1) := by decide +kernel
set_option maxRecDepth 100000 in
theorem dX12_fetch_6 : decode cX12_fetch 6 = .ok (.iload_n 1, 1) := by decide +kernel
set_option maxRecDepth 100000 in
theorem dX12_fetch_7 : decode cX12_fetch 7 = .ok (.invokevirtual 306, 3) := by decide +kernel
set_option maxRecDepth 100000 in
theorem dX12_fetch_10 : decode cX12_fetch 10 = .ok (.ifCond .ne 5, 3) := by decide +kernel
set_option maxRecDepth 100000 in
theorem dX12_fetch_13 : decode cX12_fetch 13 = .ok (.iconst (-1), 1) := by decide +kernel
set_option maxRecDepth 100000 in
theorem dX12_fetch_14 : decode cX12_fetch 14 = .ok (.ireturn, 1) := by decide +kernel
set_option maxRecDepth 100000 in
theorem dX12_fetch_15 : decode cX12_fetch 15 = .ok (.iconst 0, 1) := by decide +kernel
set_option maxRecDepth 100000 in
theorem dX12_fetch_16 : decode cX12_fetch 16 = .ok (.istore_n 2, 1) := by decide +kernel
set_option maxRecDepth 100000 in
theorem dX12_fetch_17 : decode cX12_fetch 17 = .ok (.iconst 0, 1) := by decide +kernel
set_option maxRecDepth 100000 in
theorem dX12_fetch_18 : decode cX12_fetch 18 = .ok (.istore_n 3, 1) := by decide +kernel
set_option maxRecDepth 100000 in
theorem dX12_fetch_19 : decode cX12_fetch 19 = .ok (.iload_n 3, 1) := by decide +kernel
set_option maxRecDepth 100000 in
theorem dX12_fetch_20 : decode cX12_fetch 20 = .ok (.aload_n 0, 1) := by decide +kernel
set_option maxRecDepth 100000 in
theorem dX12_fetch_21 : decode cX12_fetch 21 = .ok (.getfield 13, 3) := by decide +kernel
set_option maxRecDepth 100000 in
theorem dX12_fetch_24 : decode cX12_fetch 24 = .ok (.if_icmp .ge 31, 3) := by decide +kernel
set_option maxRecDepth 100000 in
theorem dX12_fetch_27 : decode cX12_fetch 27 = .ok (.iload_n 2, 1) := by decide +kernel
set_option maxRecDepth 100000 in
theorem dX12_fetch_28 : decode cX12_fetch 28 = .ok (.aload_n 0, 1) := by decide +kernel
set_option maxRecDepth 100000 in
theorem dX12_fetch_29 : decode cX12_fetch 29 = .ok (.aload_n 0, 1) := by decide +kernel
set_option maxRecDepth 100000 in
theorem dX12_fetch_30 : decode cX12_fetch 30 = .ok (.getfield 33, 3) := by decide +kernel
set_option maxRecDepth 100000 in
theorem dX12_fetch_33 : decode cX12_fetch 33 = .ok (.iload_n 3, 1) := by decide +kernel
set_option maxRecDepth 100000 in
theorem dX12_fetch_34 : decode cX12_fetch 34 = .ok (.invokevirtual 314, 3) := by decide +kernel
set_option maxRecDepth 100000 in
theorem dX12_fetch_37 : decode cX12_fetch 37 = .ok (.ifCond .eq 9, 3) := by decide +kernel
set_option maxRecDepth 100000 in
theorem dX12_fetch_40 : decode cX12_fetch 40 = .ok (.iconst 1, 1) := by decide +kernel
set_option maxRecDepth 100000 in
theorem dX12_fetch_41 : decode cX12_fetch 41 = .ok (.iload_n 3, 1) := by decide +kernel
set_option maxRecDepth 100000 in
theorem dX12_fetch_42 : decode cX12_fetch 42 = .ok (.ishl, 1) := by decide +kernel
set_option maxRecDepth 100000 in
theorem dX12_fetch_43 : decode cX12_fetch 43 = .ok (.goto 4, 3) := by decide +kernel
set_option maxRecDepth 100000 in
theorem dX12_fetch_46 : decode cX12_fetch 46 = .ok (.iconst 0, 1) := by decide +kernel
set_option maxRecDepth 100000 in
theorem dX12_fetch_47 : decode cX12_fetch 47 = .ok (.ior, 1) := by decide +kernel
set_option maxRecDepth 100000 in
theorem dX12_fetch_48 : decode cX12_fetch 48 = .ok (.istore_n 2, 1) := by decide +kernel
set_option maxRecDepth 100000 in
theorem dX12_fetch_49 : decode cX12_fetch 49 = .ok (.iinc 3 1, 3) := by decide +kernel
set_option maxRecDepth 100000 in
theorem dX12_fetch_52 : decode cX12_fetch 52 = .ok (.goto (-33), 3) := by decide +kernel
set_option maxRecDepth 100000 in
theorem dX12_fetch_55 : decode cX12_fetch 55 = .ok (.aload_n 0, 1) := by decide +kernel
set_option maxRecDepth 100000 in
theorem dX12_fetch_56 : decode cX12_fetch 56 = .ok (.ldc 138, 2) := by decide +kernel
set_option maxRecDepth 100000 in
theorem dX12_fetch_58 : decode cX12_fetch 58 = .ok (.putfield 432, 3) := by decide +kernel
set_option maxRecDepth 100000 in
theorem dX12_fetch_61 : decode cX12_fetch 61 = .ok (.aload_n 0, 1) := by decide +kernel
set_option maxRecDepth 100000 in
theorem dX12_fetch_62 : decode cX12_fetch 62 = .ok (.aload_n 0, 1) := by decide +kernel
set_option maxRecDepth 100000 in
theorem dX12_fetch_63 : decode cX12_fetch 63 = .ok (.getfield 33, 3) := by decide +kernel
set_option maxRecDepth 100000 in
theorem dX12_fetch_66 : decode cX12_fetch 66 = .ok (.iconst 0, 1) := by decide +kernel
set_option maxRecDepth 100000 in
theorem dX12_fetch_67 : decode cX12_fetch 67 = .ok (.iaload, 1) := by decide +kernel
set_option maxRecDepth 100000 in
theorem dX12_fetch_68 : decode cX12_fetch 68 = .ok (.iload_n 2, 1) := by decide +kernel
set_option maxRecDepth 100000 in
theorem dX12_fetch_69 : decode cX12_fetch 69 = .ok (.iconst 0, 1) := by decide +kernel
set_option maxRecDepth 100000 in
theorem dX12_fetch_70 : decode cX12_fetch 70 = .ok (.iconst 0, 1) := by decide +kernel
set_option maxRecDepth 100000 in
theorem dX12_fetch_71 : decode cX12_fetch 71 = .ok (.iload_n 1, 1) := by decide +kernel
set_option maxRecDepth 100000 in
theorem dX12_fetch_72 : decode cX12_fetch 72 = .ok (.invokevirtual 438, 3) := by decide +kernel
set_option maxRecDepth 100000 in
theorem dX12_fetch_75 : decode cX12_fetch 75 = .ok (.aload_n 0, 1) := by decide +kernel
set_option maxRecDepth 100000 in
theorem dX12_fetch_76 : decode cX12_fetch 76 = .ok (.getfield 432, 3) := by decide +kernel
set_option maxRecDepth 100000 in
theorem dX12_fetch_79 : decode cX12_fetch 79 = .ok (.ldc 138, 2) := by decide +kernel
set_option maxRecDepth 100000 in
theorem dX12_fetch_81 : decode cX12_fetch 81 = .ok (.if_icmp .lt 6, 3) := by decide +kernel
set_option maxRecDepth 100000 in
theorem dX12_fetch_84 : decode cX12_fetch 84 = .ok (.bipush (-2), 2) := by decide +kernel
set_option maxRecDepth 100000 in
theorem dX12_fetch_86 : decode cX12_fetch 86 = .ok (.ireturn, 1) := by decide +kernel
set_option maxRecDepth 100000 in
theorem dX12_fetch_87 : decode cX12_fetch 87 = .ok (.aload_n 0, 1) := by decide +kernel
set_option maxRecDepth 100000 in
theorem dX12_fetch_88 : decode cX12_fetch 88 = .ok (.iconst 0, 1) := by decide +kernel
set_option maxRecDepth 100000 in
theorem dX12_fetch_89 : decode cX12_fetch 89 = .ok (.putfield 113, 3) := by decide +kernel
set_option maxRecDepth 100000 in
theorem dX12_fetch_92 : decode cX12_fetch 92 = .ok (.iconst 0, 1) := by decide +kernel
set_option maxRecDepth 100000 in
theorem dX12_fetch_93 : decode cX12_fetch 93 = .ok (.istore_n 3, 1) := by decide +kernel
set_option maxRecDepth 100000 in
theorem dX12_fetch_94 : decode cX12_fetch 94 = .ok (.iload_n 3, 1) := by decide +kernel
set_option maxRecDepth 100000 in
theorem dX12_fetch_95 : decode cX12_fetch 95 = .ok (.aload_n 0, 1) := by decide +kernel
set_option maxRecDepth 100000 in
theorem dX12_fetch_96 : decode cX12_fetch 96 = .ok (.getfield 435, 3) := by decide +kernel
set_option maxRecDepth 100000 in
theorem dX12_fetch_99 : decode cX12_fetch 99 = .ok (.if_icmp .ge 20, 3) := by decide +kernel
set_option maxRecDepth 100000 in
theorem dX12_fetch_102 : decode cX12_fetch 102 = .ok (.aload_n 0, 1) := by decide +kernel
set_option maxRecDepth 100000 in
theorem dX12_fetch_103 : decode cX12_fetch 103 = .ok (.aload_n 0, 1) := by decide +kernel
set_option maxRecDepth 100000 in
theorem dX12_fetch_104 : decode cX12_fetch 104 = .ok (.getfield 75, 3) := by decide +kernel
set_option maxRecDepth 100000 in
theorem dX12_fetch_107 : decode cX12_fetch 107 = .ok (.iload_n 3, 1) := by decide +kernel
set_option maxRecDepth 100000 in
theorem dX12_fetch_108 : decode cX12_fetch 108 = .ok (.iaload, 1) := by decide +kernel
set_option maxRecDepth 100000 in
theorem dX12_fetch_109 : decode cX12_fetch 109 = .ok (.i2l, 1) := by decide +kernel
set_option maxRecDepth 100000 in
theorem dX12_fetch_110 : decode cX12_fetch 110 = .ok (.invokevirtual 116, 3) := by decide +kernel
set_option maxRecDepth 100000 in
theorem dX12_fetch_113 : decode cX12_fetch 113 = .ok (.iinc 3 1, 3) := by decide +kernel
set_option maxRecDepth 100000 in
theorem dX12_fetch_116 : decode cX12_fetch 116 = .ok (.goto (-22), 3) := by decide +kernel
set_option maxRecDepth 100000 in
theorem dX12_fetch_119 : decode cX12_fetch 119 = .ok (.aload_n 0, 1) := by decide +kernel
set_option maxRecDepth 100000 in
theorem dX12_fetch_120 : decode cX12_fetch 120 = .ok (.getfield 432, 3) := by decide +kernel
set_option maxRecDepth 100000 in
theorem dX12_fetch_123 : decode cX12_fetch 123 = .ok (.ireturn, 1) := by decide +kernel
set_option maxRecDepth 100000 in
theorem dX12_law_0 : decode cX12_law 0 = .ok (.aload_n 0, 1) := by decide +kernel
set_option maxRecDepth 100000 in
theorem dX12_law_1 : decode cX12_law 1 = .ok (.iconst 0, 1) := by decide +kernel
set_option maxRecDepth 100000 in
theorem dX12_law_2 : decode cX12_law 2 = .ok (.putfield 106, 3) := by decide +kernel
set_option maxRecDepth 100000 in
theorem dX12_law_5 : decode cX12_law 5 = .ok (.aload_n 0, 1) := by decide +kernel
set_option maxRecDepth 100000 in
theorem dX12_law_6 : decode cX12_law 6 = .ok (.invokevirtual 260, 3) := by decide +kernel
set_option maxRecDepth 100000 in
theorem dX12_law_9 : decode cX12_law 9 = .ok (.istore_n 1, 1) := by decide +kernel
set_option maxRecDepth 100000 in
theorem dX12_law_10 : decode cX12_law 10 = .ok (.iload_n 1, 1) := by decide +kernel
set_option maxRecDepth 100000 in
theorem dX12_law_11 : decode cX12_law 11 = .ok (.ifCond .ge 11, 3) := by decide +kernel
set_option maxRecDepth 100000 in
theorem dX12_law_14 : decode cX12_law 14 = .ok (.iload_n 1, 1) := by decide +kernel
set_option maxRecDepth 100000 in
theorem dX12_law_15 : decode cX12_law 15 = .ok (.iconst 1, 1) := by decide +kernel
set_option maxRecDepth 100000 in
theorem dX12_law_16 : decode cX12_law 16 = .ok (.iadd, 1) := by decide +kernel
set_option maxRecDepth 100000 in
theorem dX12_law_17 : decode cX12_law 17 = .ok (.sipush 10000, 3) := by decide +kernel
set_option maxRecDepth 100000 in
theorem dX12_law_20 : decode cX12_law 20 = .ok (.isub, 1) := by decide +kernel
set_option maxRecDepth 100000 in
theorem dX12_law_21 : decode cX12_law 21 = .ok (.ireturn, 1) := by decide +kernel
set_option maxRecDepth 100000 in
theorem dX12_law_22 : decode cX12_law 22 = .ok (.aload_n 0, 1) := by decide +kernel
set_option maxRecDepth 100000 in
theorem dX12_law_23 : decode cX12_law 23 = .ok (.invokevirtual 407, 3) := by decide +kernel
set_option maxRecDepth 100000 in
theorem dX12_law_26 : decode cX12_law 26 = .ok (.aload_n 0, 1) := by decide +kernel
set_option maxRecDepth 100000 in
theorem dX12_law_27 : decode cX12_law 27 = .ok (.bipush 10, 2) := by decide +kernel
set_option maxRecDepth 100000 in
theorem dX12_law_29 : decode cX12_law 29 = .ok (.invokevirtual 415, 3) := by decide +kernel
set_option maxRecDepth 100000 in
theorem dX12_law_32 : decode cX12_law 32 = .ok (.istore_n 2, 1) := by decide +kernel
set_option maxRecDepth 100000 in
theorem dX12_law_33 : decode cX12_law 33 = .ok (.aload_n 0, 1) := by decide +kernel
set_option maxRecDepth 100000 in
theorem dX12_law_34 : decode cX12_law 34 = .ok (.getfield 257, 3) := by decide +kernel
set_option maxRecDepth 100000 in
theorem dX12_law_37 : decode cX12_law 37 = .ok (.istore_n 3, 1) := by decide +kernel
set_option maxRecDepth 100000 in
theorem dX12_law_38 : decode cX12_law 38 = .ok (.iconst 0, 1) := by decide +kernel
set_option maxRecDepth 100000 in
theorem dX12_law_39 : decode cX12_law 39 = .ok (.istore 4, 2) := by decide +kernel
set_option maxRecDepth 100000 in
theorem dX12_law_41 : decode cX12_law 41 = .ok (.iload 4, 2) := by decide +kernel
set_option maxRecDepth 100000 in
theorem dX12_law_43 : decode cX12_law 43 = .ok (.aload_n 0, 1) := by decide +kernel
set_option maxRecDepth 100000 in
theorem dX12_law_44 : decode cX12_law 44 = .ok (.getfield 257, 3) := by decide +kernel
set_option maxRecDepth 100000 in
theorem dX12_law_47 : decode cX12_law 47 = .ok (.if_icmp .ge 23, 3) := by decide +kernel
set_option maxRecDepth 100000 in
theorem dX12_law_50 : decode cX12_law 50 = .ok (.aload_n 0, 1) := by decide +kernel
set_option maxRecDepth 100000 in
theorem dX12_law_51 : decode cX12_law 51 = .ok (.getfield 78, 3) := by decide +kernel
set_option maxRecDepth 100000 in
theorem dX12_law_54 : decode cX12_law 54 = .ok (.iload 4, 2) := by decide +kernel
set_option maxRecDepth 100000 in
theorem dX12_law_56 : decode cX12_law 56 = .ok (.aload_n 0, 1) := by decide +kernel
set_option maxRecDepth 100000 in
theorem dX12_law_57 : decode cX12_law 57 = .ok (.getfield 45, 3) := by decide +kernel
set_option maxRecDepth 100000 in
theorem dX12_law_60 : decode cX12_law 60 = .ok (.iload 4, 2) := by decide +kernel
set_option maxRecDepth 100000 in
theorem dX12_law_62 : decode cX12_law 62 = .ok (.iaload, 1) := by decide +kernel
set_option maxRecDepth 100000 in
theorem dX12_law_63 : decode cX12_law 63 = .ok (.iastore, 1) := by decide +kernel
set_option maxRecDepth 100000 in
theorem dX12_law_64 : decode cX12_law 64 = .ok (.iinc 4 1, 3) := by decide +kernel
set_option maxRecDepth 100000 in
theorem dX12_law_67 : decode cX12_law 67 = .ok (.goto (-26), 3) := by decide +kernel
set_option maxRecDepth 100000 in
theorem dX12_law_70 : decode cX12_law 70 = .ok (.aload_n 0, 1) := by decide +kernel
set_option maxRecDepth 100000 in
theorem dX12_law_71 : decode cX12_law 71 = .ok (.aload_n 0, 1) := by decide +kernel
set_option maxRecDepth 100000 in
theorem dX12_law_72 : decode cX12_law 72 = .ok (.getfield 48, 3) := by decide +kernel
set_option maxRecDepth 100000 in
theorem dX12_law_75 : decode cX12_law 75 = .ok (.aload_n 0, 1) := by decide +kernel
set_option maxRecDepth 100000 in
theorem dX12_law_76 : decode cX12_law 76 = .ok (.getfield 230, 3) := by decide +kernel
set_option maxRecDepth 100000 in
theorem dX12_law_79 : decode cX12_law 79 = .ok (.invokevirtual 263, 3) := by decide +kernel
set_option maxRecDepth 100000 in
theorem dX12_law_82 : decode cX12_law 82 = .ok (.aload_n 0, 1) := by decide +kernel
set_option maxRecDepth 100000 in
theorem dX12_law_83 : decode cX12_law 83 = .ok (.invokevirtual 407, 3) := by decide +kernel
set_option maxRecDepth 100000 in
theorem dX12_law_86 : decode cX12_law 86 = .ok (.aload_n 0, 1) := by decide +kernel
set_option maxRecDepth 100000 in
theorem dX12_law_87 : decode cX12_law 87 = .ok (.bipush 10, 2) := by decide +kernel
set_option maxRecDepth 100000 in
theorem dX12_law_89 : decode cX12_law 89 = .ok (.invokevirtual 415, 3) := by decide +kernel
set_option maxRecDepth 100000 in
theorem dX12_law_92 : decode cX12_law 92 = .ok (.istore 4, 2) := by decide +kernel
set_option maxRecDepth 100000 in
theorem dX12_law_94 : decode cX12_law 94 = .ok (.aload_n 0, 1) := by decide +kernel
set_option maxRecDepth 100000 in
theorem dX12_law_95 : decode cX12_law 95 = .ok (.aload_n 0, 1) := by decide +kernel
set_option maxRecDepth 100000 in
theorem dX12_law_96 : decode cX12_law 96 = .ok (.getfield 78, 3) := by decide +kernel
set_option maxRecDepth 100000 in
theorem dX12_law_99 : decode cX12_law 99 = .ok (.iload_n 3, 1) := by decide +kernel
set_option maxRecDepth 100000 in
theorem dX12_law_100 : decode cX12_law 100 = .ok (.invokevirtual 263, 3) := by decide +kernel
set_option maxRecDepth 100000 in
theorem dX12_law_103 : decode cX12_law 103 = .ok (.aload_n 0, 1) := by decide +kernel
set_option maxRecDepth 100000 in
theorem dX12_law_104 : decode cX12_law 104 = .ok (.iconst 0, 1) := by decide +kernel
set_option maxRecDepth 100000 in
theorem dX12_law_105 : decode cX12_law 105 = .ok (.putfield 113, 3) := by decide +kernel
set_option maxRecDepth 100000 in
theorem dX12_law_108 : decode cX12_law 108 = .ok (.aload_n 0, 1) := by decide +kernel
set_option maxRecDepth 100000 in
theorem dX12_law_109 : decode cX12_law 109 = .ok (.iload 4, 2) := by decide +kernel
set_option maxRecDepth 100000 in
theorem dX12_law_111 : decode cX12_law 111 = .ok (.i2l, 1) := by decide +kernel
set_option maxRecDepth 100000 in
theorem dX12_law_112 : decode cX12_law 112 = .ok (.invokevirtual 116, 3) := by decide +kernel
set_option maxRecDepth 100000 in
theorem dX12_law_115 : decode cX12_law 115 = .ok (.aload_n 0, 1) := by decide +kernel
set_option maxRecDepth 100000 in
theorem dX12_law_116 : decode cX12_law 116 = .ok (.iload_n 2, 1) := by decide +kernel
set_option maxRecDepth 100000 in
theorem dX12_law_117 : decode cX12_law 117 = .ok (.i2l, 1) := by decide +kernel
set_option maxRecDepth 100000 in
theorem dX12_law_118 : decode cX12_law 118 = .ok (.invokevirtual 116, 3) := by decide +kernel
set_option maxRecDepth 100000 in
theorem dX12_law_121 : decode cX12_law 121 = .ok (.iload 4, 2) := by decide +kernel
set_option maxRecDepth 100000 in
theorem dX12_law_123 : decode cX12_law 123 = .ok (.iload_n 2, 1) := by decide +kernel
set_option maxRecDepth 100000 in
theorem dX12_law_124 : decode cX12_law 124 = .ok (.isub, 1) := by decide +kernel
set_option maxRecDepth 100000 in
theorem dX12_law_125 : decode cX12_law 125 = .ok (.ireturn, 1) := by decide +kernel
set_option maxRecDepth 100000 in
theorem dX12_byHeads_0 : decode cX12_byHeads 0 = .ok (.iconst 0, 1) := by decide +kernel
set_option maxRecDepth 100000 in
theorem dX12_byHeads_1 : decode cX12_byHeads 1 = .ok (.istore_n 2, 1) := by decide +kernel
set_option maxRecDepth 100000 in
theorem dX12_byHeads_2 : decode cX12_byHeads 2 = .ok (.iconst 0, 1) := by decide +kernel
set_option maxRecDepth 100000 in
theorem dX12_byHeads_3 : decode cX12_byHeads 3 = .ok (.istore_n 3, 1) := by decide +kernel
set_option maxRecDepth 100000 in
theorem dX12_byHeads_4 : decode cX12_byHeads 4 = .ok (.iconst 0, 1) := by decide +kernel
set_option maxRecDepth 100000 in
theorem dX12_byHeads_5 : decode cX12_byHeads 5 = .ok (.istore 4, 2) := by decide +kernel
set_option maxRecDepth 100000 in
theorem dX12_byHeads_7 : decode cX12_byHeads 7 = .ok (.iconst 0, 1) := by decide +kernel
set_option maxRecDepth 100000 in
theorem dX12_byHeads_8 : decode cX12_byHeads 8 = .ok (.istore 5, 2) := by decide +kernel
set_option maxRecDepth 100000 in
theorem dX12_byHeads_10 : decode cX12_byHeads 10 = .ok (.iload 5, 2) := by decide +kernel
set_option maxRecDepth 100000 in
theorem dX12_byHeads_12 : decode cX12_byHeads 12 = .ok (.aload_n 0, 1) := by decide +kernel
set_option maxRecDepth 100000 in
theorem dX12_byHeads_13 : decode cX12_byHeads 13 = .ok (.getfield 124, 3) := by decide +kernel
set_option maxRecDepth 100000 in
theorem dX12_byHeads_16 : decode cX12_byHeads 16 = .ok (.if_icmp .ge 83, 3) := by decide +kernel
set_option maxRecDepth 100000 in
theorem dX12_byHeads_19 : decode cX12_byHeads 19 = .ok (.aload_n 1, 1) := by decide +kernel
set_option maxRecDepth 100000 in
theorem dX12_byHeads_20 : decode cX12_byHeads 20 = .ok (.iload 5, 2) := by decide +kernel
set_option maxRecDepth 100000 in
theorem dX12_byHeads_22 : decode cX12_byHeads 22 = .ok (.invokestatic 130, 3) := by decide +kernel
set_option maxRecDepth 100000 in
theorem dX12_byHeads_25 : decode cX12_byHeads 25 = .ok (.ifCond .ge 7, 3) := by decide +kernel
set_option maxRecDepth 100000 in
theorem dX12_byHeads_28 : decode cX12_byHeads 28 = .ok (.iconst (-1), 1) := by decide +kernel
set_option maxRecDepth 100000 in
theorem dX12_byHeads_29 : decode cX12_byHeads 29 = .ok (.goto 10, 3) := by decide +kernel
set_option maxRecDepth 100000 in
theorem dX12_byHeads_32 : decode cX12_byHeads 32 = .ok (.aload_n 0, 1) := by decide +kernel
set_option maxRecDepth 100000 in
theorem dX12_byHeads_33 : decode cX12_byHeads 33 = .ok (.aload_n 1, 1) := by decide +kernel
set_option maxRecDepth 100000 in
theorem dX12_byHeads_34 : decode cX12_byHeads 34 = .ok (.iload 5, 2) := by decide +kernel
set_option maxRecDepth 100000 in
theorem dX12_byHeads_36 : decode cX12_byHeads 36 = .ok (.invokevirtual 322, 3) := by decide +kernel
set_option maxRecDepth 100000 in
theorem dX12_byHeads_39 : decode cX12_byHeads 39 = .ok (.istore 6, 2) := by decide +kernel
set_option maxRecDepth 100000 in
theorem dX12_byHeads_41 : decode cX12_byHeads 41 = .ok (.iload_n 2, 1) := by decide +kernel
set_option maxRecDepth 100000 in
theorem dX12_byHeads_42 : decode cX12_byHeads 42 = .ok (.iload 6, 2) := by decide +kernel
set_option maxRecDepth 100000 in
theorem dX12_byHeads_44 : decode cX12_byHeads 44 = .ok (.ifCond .ne 7, 3) := by decide +kernel
set_option maxRecDepth 100000 in
theorem dX12_byHeads_47 : decode cX12_byHeads 47 = .ok (.iconst 1, 1) := by decide +kernel
set_option maxRecDepth 100000 in
theorem dX12_byHeads_48 : decode cX12_byHeads 48 = .ok (.goto 4, 3) := by decide +kernel
set_option maxRecDepth 100000 in
theorem dX12_byHeads_51 : decode cX12_byHeads 51 = .ok (.iconst 0, 1) := by decide +kernel
set_option maxRecDepth 100000 in
theorem dX12_byHeads_52 : decode cX12_byHeads 52 = .ok (.invokestatic 134, 3) := by decide +kernel
set_option maxRecDepth 100000 in
theorem dX12_byHeads_55 : decode cX12_byHeads 55 = .ok (.iadd, 1) := by decide +kernel
set_option maxRecDepth 100000 in
theorem dX12_byHeads_56 : decode cX12_byHeads 56 = .ok (.istore_n 2, 1) := by decide +kernel
set_option maxRecDepth 100000 in
theorem dX12_byHeads_57 : decode cX12_byHeads 57 = .ok (.iload_n 3, 1) := by decide +kernel
set_option maxRecDepth 100000 in
theorem dX12_byHeads_58 : decode cX12_byHeads 58 = .ok (.iload 6, 2) := by decide +kernel
set_option maxRecDepth 100000 in
theorem dX12_byHeads_60 : decode cX12_byHeads 60 = .ok (.iconst 1, 1) := by decide +kernel
set_option maxRecDepth 100000 in
theorem dX12_byHeads_61 : decode cX12_byHeads 61 = .ok (.if_icmp .ne 7, 3) := by decide +kernel
set_option maxRecDepth 100000 in
theorem dX12_byHeads_64 : decode cX12_byHeads 64 = .ok (.iconst 1, 1) := by decide +kernel
set_option maxRecDepth 100000 in
theorem dX12_byHeads_65 : decode cX12_byHeads 65 = .ok (.goto 4, 3) := by decide +kernel
set_option maxRecDepth 100000 in
theorem dX12_byHeads_68 : decode cX12_byHeads 68 = .ok (.iconst 0, 1) := by decide +kernel
set_option maxRecDepth 100000 in
theorem dX12_byHeads_69 : decode cX12_byHeads 69 = .ok (.invokestatic 134, 3) := by decide +kernel
set_option maxRecDepth 100000 in
theorem dX12_byHeads_72 : decode cX12_byHeads 72 = .ok (.iadd, 1) := by decide +kernel
set_option maxRecDepth 100000 in
theorem dX12_byHeads_73 : decode cX12_byHeads 73 = .ok (.istore_n 3, 1) := by decide +kernel
set_option maxRecDepth 100000 in
theorem dX12_byHeads_74 : decode cX12_byHeads 74 = .ok (.iload 4, 2) := by decide +kernel
set_option maxRecDepth 100000 in
theorem dX12_byHeads_76 : decode cX12_byHeads 76 = .ok (.iload 6, 2) := by decide +kernel
set_option maxRecDepth 100000 in
theorem dX12_byHeads_78 : decode cX12_byHeads 78 = .ok (.iconst 2, 1) := by decide +kernel
set_option maxRecDepth 100000 in
theorem dX12_byHeads_79 : decode cX12_byHeads 79 = .ok (.if_icmp .ne 7, 3) := by decide +kernel
set_option maxRecDepth 100000 in
theorem dX12_byHeads_82 : decode cX12_byHeads 82 = .ok (.iconst 1, 1) := by decide +kernel
set_option maxRecDepth 100000 in
theorem dX12_byHeads_83 : decode cX12_byHeads 83 = .ok (.goto 4, 3) := by decide +kernel
set_option maxRecDepth 100000 in
theorem dX12_byHeads_86 : decode cX12_byHeads 86 = .ok (.iconst 0, 1) := by decide +kernel
set_option maxRecDepth 100000 in
theorem dX12_byHeads_87 : decode cX12_byHeads 87 = .ok (.invokestatic 134, 3) := by decide +kernel
set_option maxRecDepth 100000 in
theorem dX12_byHeads_90 : decode cX12_byHeads 90 = .ok (.iadd, 1) := by decide +kernel
set_option maxRecDepth 100000 in
theorem dX12_byHeads_91 : decode cX12_byHeads 91 = .ok (.istore 4, 2) := by decide +kernel
set_option maxRecDepth 100000 in
theorem dX12_byHeads_93 : decode cX12_byHeads 93 = .ok (.iinc 5 1, 3) := by decide +kernel
set_option maxRecDepth 100000 in
theorem dX12_byHeads_96 : decode cX12_byHeads 96 = .ok (.goto (-86), 3) := by decide +kernel
set_option maxRecDepth 100000 in
theorem dX12_byHeads_99 : decode cX12_byHeads 99 = .ok (.aload_n 0, 1) := by decide +kernel
set_option maxRecDepth 100000 in
theorem dX12_byHeads_100 : decode cX12_byHeads 100 = .ok (.getfield 57, 3) := by decide +kernel
set_option maxRecDepth 100000 in
theorem dX12_byHeads_103 : decode cX12_byHeads 103 = .ok (.iconst 0, 1) := by decide +kernel
set_option maxRecDepth 100000 in
theorem dX12_byHeads_104 : decode cX12_byHeads 104 = .ok (.iload_n 2, 1) := by decide +kernel
set_option maxRecDepth 100000 in
theorem dX12_byHeads_105 : decode cX12_byHeads 105 = .ok (.iastore, 1) := by decide +kernel
set_option maxRecDepth 100000 in
theorem dX12_byHeads_106 : decode cX12_byHeads 106 = .ok (.aload_n 0, 1) := by decide +kernel
set_option maxRecDepth 100000 in
theorem dX12_byHeads_107 : decode cX12_byHeads 107 = .ok (.getfield 57, 3) := by decide +kernel
set_option maxRecDepth 100000 in
theorem dX12_byHeads_110 : decode cX12_byHeads 110 = .ok (.iconst 1, 1) := by decide +kernel
set_option maxRecDepth 100000 in
theorem dX12_byHeads_111 : decode cX12_byHeads 111 = .ok (.iload_n 3, 1) := by decide +kernel
set_option maxRecDepth 100000 in
theorem dX12_byHeads_112 : decode cX12_byHeads 112 = .ok (.iastore, 1) := by decide +kernel
set_option maxRecDepth 100000 in
theorem dX12_byHeads_113 : decode cX12_byHeads 113 = .ok (.aload_n 0, 1) := by decide +kernel
set_option maxRecDepth 100000 in
theorem dX12_byHeads_114 : decode cX12_byHeads 114 = .ok (.getfield 57, 3) := by decide +kernel
set_option maxRecDepth 100000 in
theorem dX12_byHeads_117 : decode cX12_byHeads 117 = .ok (.iconst 2, 1) := by decide +kernel
set_option maxRecDepth 100000 in
theorem dX12_byHeads_118 : decode cX12_byHeads 118 = .ok (.iload 4, 2) := by decide +kernel
set_option maxRecDepth 100000 in
theorem dX12_byHeads_120 : decode cX12_byHeads 120 = .ok (.iastore, 1) := by decide +kernel
set_option maxRecDepth 100000 in
theorem dX12_byHeads_121 : decode cX12_byHeads 121 = .ok (.aload_n 0, 1) := by decide +kernel
set_option maxRecDepth 100000 in
theorem dX12_byHeads_122 : decode cX12_byHeads 122 = .ok (.invokevirtual 300, 3) := by decide +kernel
set_option maxRecDepth 100000 in
theorem dX12_byHeads_125 : decode cX12_byHeads 125 = .ok (.ireturn, 1) := by decide +kernel
set_option maxRecDepth 100000 in
theorem dX12_heads_0 : decode cX12_heads 0 = .ok (.aload_n 0, 1) := by decide +kernel
set_option maxRecDepth 100000 in
theorem dX12_heads_1 : decode cX12_heads 1 = .ok (.iconst 0, 1) := by decide +kernel
set_option maxRecDepth 100000 in
theorem dX12_heads_2 : decode cX12_heads 2 = .ok (.putfield 106, 3) := by decide +kernel
set_option maxRecDepth 100000 in
theorem dX12_heads_5 : decode cX12_heads 5 = .ok (.iload_n 1, 1) := by decide +kernel
set_option maxRecDepth 100000 in
theorem dX12_heads_6 : decode cX12_heads 6 = .ok (.i2l, 1) := by decide +kernel
set_option maxRecDepth 100000 in
theorem dX12_heads_7 : decode cX12_heads 7 = .ok (.lconst 1, 1) := by decide +kernel
set_option maxRecDepth 100000 in
theorem dX12_heads_8 : decode cX12_heads 8 = .ok (.ldc2_w 413, 3) := by decide +kernel
set_option maxRecDepth 100000 in
theorem dX12_heads_11 : decode cX12_heads 11 = .ok (.invokestatic 120, 3) := by decide +kernel
set_option maxRecDepth 100000 in
theorem dX12_heads_14 : decode cX12_heads 14 = .ok (.ifCond .ne 5, 3) := by decide +kernel
set_option maxRecDepth 100000 in
theorem dX12_heads_17 : decode cX12_heads 17 = .ok (.iconst (-1), 1) := by decide +kernel
set_option maxRecDepth 100000 in
theorem dX12_heads_18 : decode cX12_heads 18 = .ok (.ireturn, 1) := by decide +kernel
set_option maxRecDepth 100000 in
theorem dX12_heads_19 : decode cX12_heads 19 = .ok (.aload_n 0, 1) := by decide +kernel
set_option maxRecDepth 100000 in
theorem dX12_heads_20 : decode cX12_heads 20 = .ok (.invokevirtual 407, 3) := by decide +kernel
set_option maxRecDepth 100000 in
theorem dX12_heads_23 : decode cX12_heads 23 = .ok (.iconst 0, 1) := by decide +kernel
set_option maxRecDepth 100000 in
theorem dX12_heads_24 : decode cX12_heads 24 = .ok (.istore_n 2, 1) := by decide +kernel
set_option maxRecDepth 100000 in
theorem dX12_heads_25 : decode cX12_heads 25 = .ok (.iload_n 2, 1) := by decide +kernel
set_option maxRecDepth 100000 in
theorem dX12_heads_26 : decode cX12_heads 26 = .ok (.iload_n 1, 1) := by decide +kernel
set_option maxRecDepth 100000 in
theorem dX12_heads_27 : decode cX12_heads 27 = .ok (.if_icmp .ge 26, 3) := by decide +kernel
set_option maxRecDepth 100000 in
theorem dX12_heads_30 : decode cX12_heads 30 = .ok (.aload_n 0, 1) := by decide +kernel
set_option maxRecDepth 100000 in
theorem dX12_heads_31 : decode cX12_heads 31 = .ok (.aload_n 0, 1) := by decide +kernel
set_option maxRecDepth 100000 in
theorem dX12_heads_32 : decode cX12_heads 32 = .ok (.getfield 36, 3) := by decide +kernel
set_option maxRecDepth 100000 in
theorem dX12_heads_35 : decode cX12_heads 35 = .ok (.aload_n 0, 1) := by decide +kernel
set_option maxRecDepth 100000 in
theorem dX12_heads_36 : decode cX12_heads 36 = .ok (.aload_n 0, 1) := by decide +kernel
set_option maxRecDepth 100000 in
theorem dX12_heads_37 : decode cX12_heads 37 = .ok (.getfield 36, 3) := by decide +kernel
set_option maxRecDepth 100000 in
theorem dX12_heads_40 : decode cX12_heads 40 = .ok (.invokevirtual 442, 3) := by decide +kernel
set_option maxRecDepth 100000 in
theorem dX12_heads_43 : decode cX12_heads 43 = .ok (.invokevirtual 361, 3) := by decide +kernel
set_option maxRecDepth 100000 in
theorem dX12_heads_46 : decode cX12_heads 46 = .ok (.pop, 1) := by decide +kernel
set_option maxRecDepth 100000 in
theorem dX12_heads_47 : decode cX12_heads 47 = .ok (.iinc 2 1, 3) := by decide +kernel
set_option maxRecDepth 100000 in
theorem dX12_heads_50 : decode cX12_heads 50 = .ok (.goto (-25), 3) := by decide +kernel
set_option maxRecDepth 100000 in
theorem dX12_heads_53 : decode cX12_heads 53 = .ok (.aload_n 0, 1) := by decide +kernel
set_option maxRecDepth 100000 in
theorem dX12_heads_54 : decode cX12_heads 54 = .ok (.iconst 0, 1) := by decide +kernel
set_option maxRecDepth 100000 in
theorem dX12_heads_55 : decode cX12_heads 55 = .ok (.putfield 113, 3) := by decide +kernel
set_option maxRecDepth 100000 in
theorem dX12_heads_58 : decode cX12_heads 58 = .ok (.aload_n 0, 1) := by decide +kernel
set_option maxRecDepth 100000 in
theorem dX12_heads_59 : decode cX12_heads 59 = .ok (.aload_n 0, 1) := by decide +kernel
set_option maxRecDepth 100000 in
theorem dX12_heads_60 : decode cX12_heads 60 = .ok (.getfield 36, 3) := by decide +kernel
set_option maxRecDepth 100000 in
theorem dX12_heads_63 : decode cX12_heads 63 = .ok (.iconst 0, 1) := by decide +kernel
set_option maxRecDepth 100000 in
theorem dX12_heads_64 : decode cX12_heads 64 = .ok (.iaload, 1) := by decide +kernel
set_option maxRecDepth 100000 in
theorem dX12_heads_65 : decode cX12_heads 65 = .ok (.i2l, 1) := by decide +kernel
set_option maxRecDepth 100000 in
theorem dX12_heads_66 : decode cX12_heads 66 = .ok (.invokevirtual 116, 3) := by decide +kernel
set_option maxRecDepth 100000 in
theorem dX12_heads_69 : decode cX12_heads 69 = .ok (.aload_n 0, 1) := by decide +kernel
set_option maxRecDepth 100000 in
theorem dX12_heads_70 : decode cX12_heads 70 = .ok (.aload_n 0, 1) := by decide +kernel
set_option maxRecDepth 100000 in
theorem dX12_heads_71 : decode cX12_heads 71 = .ok (.getfield 36, 3) := by decide +kernel
set_option maxRecDepth 100000 in
theorem dX12_heads_74 : decode cX12_heads 74 = .ok (.invokevirtual 410, 3) := by decide +kernel
set_option maxRecDepth 100000 in
theorem dX12_heads_77 : decode cX12_heads 77 = .ok (.aload_n 0, 1) := by decide +kernel
set_option maxRecDepth 100000 in
theorem dX12_heads_78 : decode cX12_heads 78 = .ok (.aload_n 0, 1) := by decide +kernel
set_option maxRecDepth 100000 in
theorem dX12_heads_79 : decode cX12_heads 79 = .ok (.getfield 33, 3) := by decide +kernel
set_option maxRecDepth 100000 in
theorem dX12_heads_82 : decode cX12_heads 82 = .ok (.invokevirtual 410, 3) := by decide +kernel
set_option maxRecDepth 100000 in
theorem dX12_heads_85 : decode cX12_heads 85 = .ok (.isub, 1) := by decide +kernel
set_option maxRecDepth 100000 in
theorem dX12_heads_86 : decode cX12_heads 86 = .ok (.ireturn, 1) := by decide +kernel
set_option maxRecDepth 100000 in
theorem dX12_seen_0 : decode cX12_seen 0 = .ok (.aload_n 0, 1) := by decide +kernel
set_option maxRecDepth 100000 in
theorem dX12_seen_1 : decode cX12_seen 1 = .ok (.iconst 0, 1) := by decide +kernel
set_option maxRecDepth 100000 in
theorem dX12_seen_2 : decode cX12_seen 2 = .ok (.putfield 106, 3) := by decide +kernel
set_option maxRecDepth 100000 in
theorem dX12_seen_5 : decode cX12_seen 5 = .ok (.iload_n 1, 1) := by decide +kernel
set_option maxRecDepth 100000 in
theorem dX12_seen_6 : decode cX12_seen 6 = .ok (.i2l, 1) := by decide +kernel
set_option maxRecDepth 100000 in
theorem dX12_seen_7 : decode cX12_seen 7 = .ok (.lconst 0, 1) := by decide +kernel
set_option maxRecDepth 100000 in
theorem dX12_seen_8 : decode cX12_seen 8 = .ok (.ldc2_w 430, 3) := by decide +kernel
set_option maxRecDepth 100000 in
theorem dX12_seen_11 : decode cX12_seen 11 = .ok (.invokestatic 120, 3) := by decide +kernel
set_option maxRecDepth 100000 in
theorem dX12_seen_14 : decode cX12_seen 14 = .ok (.ifCond .eq 30, 3) := by decide +kernel
set_option maxRecDepth 100000 in
theorem dX12_seen_17 : decode cX12_seen 17 = .ok (.aload_n 0, 1) := by decide +kernel
set_option maxRecDepth 100000 in
theorem dX12_seen_18 : decode cX12_seen 18 = .ok (.iload_n 2, 1) := by decide +kernel
set_option maxRecDepth 100000 in
theorem dX12_seen_19 : decode cX12_seen 19 = .ok (.invokevirtual 306, 3) := by decide +kernel
set_option maxRecDepth 100000 in
theorem dX12_seen_22 : decode cX12_seen 22 = .ok (.ifCond .eq 22, 3) := by decide +kernel
set_option maxRecDepth 100000 in
theorem dX12_seen_25 : decode cX12_seen 25 = .ok (.iload_n 3, 1) := by decide +kernel
set_option maxRecDepth 100000 in
theorem dX12_seen_26 : decode cX12_seen 26 = .ok (.i2l, 1) := by decide +kernel
set_option maxRecDepth 100000 in
theorem dX12_seen_27 : decode cX12_seen 27 = .ok (.lconst 0, 1) := by decide +kernel
set_option maxRecDepth 100000 in
theorem dX12_seen_28 : decode cX12_seen 28 = .ok (.lconst 1, 1) := by decide +kernel
set_option maxRecDepth 100000 in
theorem dX12_seen_29 : decode cX12_seen 29 = .ok (.invokestatic 120, 3) := by decide +kernel
set_option maxRecDepth 100000 in
theorem dX12_seen_32 : decode cX12_seen 32 = .ok (.ifCond .eq 12, 3) := by decide +kernel
set_option maxRecDepth 100000 in
theorem dX12_seen_35 : decode cX12_seen 35 = .ok (.aload_n 0, 1) := by decide +kernel
set_option maxRecDepth 100000 in
theorem dX12_seen_36 : decode cX12_seen 36 = .ok (.getfield 205, 3) := by decide +kernel
set_option maxRecDepth 100000 in
theorem dX12_seen_39 : decode cX12_seen 39 = .ok (.bipush 12, 2) := by decide +kernel
set_option maxRecDepth 100000 in
theorem dX12_seen_41 : decode cX12_seen 41 = .ok (.if_icmp .ne 5, 3) := by decide +kernel
set_option maxRecDepth 100000 in
theorem dX12_seen_44 : decode cX12_seen 44 = .ok (.iconst (-1), 1) := by decide +kernel
set_option maxRecDepth 100000 in
theorem dX12_seen_45 : decode cX12_seen 45 = .ok (.ireturn, 1) := by decide +kernel
set_option maxRecDepth 100000 in
theorem dX12_seen_46 : decode cX12_seen 46 = .ok (.aload_n 0, 1) := by decide +kernel
set_option maxRecDepth 100000 in
theorem dX12_seen_47 : decode cX12_seen 47 = .ok (.getfield 81, 3) := by decide +kernel
set_option maxRecDepth 100000 in
theorem dX12_seen_50 : decode cX12_seen 50 = .ok (.aload_n 0, 1) := by decide +kernel
set_option maxRecDepth 100000 in
theorem dX12_seen_51 : decode cX12_seen 51 = .ok (.getfield 205, 3) := by decide +kernel
set_option maxRecDepth 100000 in
theorem dX12_seen_54 : decode cX12_seen 54 = .ok (.iload_n 1, 1) := by decide +kernel
set_option maxRecDepth 100000 in
theorem dX12_seen_55 : decode cX12_seen 55 = .ok (.iastore, 1) := by decide +kernel
set_option maxRecDepth 100000 in
theorem dX12_seen_56 : decode cX12_seen 56 = .ok (.aload_n 0, 1) := by decide +kernel
set_option maxRecDepth 100000 in
theorem dX12_seen_57 : decode cX12_seen 57 = .ok (.getfield 84, 3) := by decide +kernel
set_option maxRecDepth 100000 in
theorem dX12_seen_60 : decode cX12_seen 60 = .ok (.aload_n 0, 1) := by decide +kernel
set_option maxRecDepth 100000 in
theorem dX12_seen_61 : decode cX12_seen 61 = .ok (.getfield 205, 3) := by decide +kernel
set_option maxRecDepth 100000 in
theorem dX12_seen_64 : decode cX12_seen 64 = .ok (.iload_n 2, 1) := by decide +kernel
set_option maxRecDepth 100000 in
theorem dX12_seen_65 : decode cX12_seen 65 = .ok (.iastore, 1) := by decide +kernel
set_option maxRecDepth 100000 in
theorem dX12_seen_66 : decode cX12_seen 66 = .ok (.aload_n 0, 1) := by decide +kernel
set_option maxRecDepth 100000 in
theorem dX12_seen_67 : decode cX12_seen 67 = .ok (.getfield 87, 3) := by decide +kernel
set_option maxRecDepth 100000 in
theorem dX12_seen_70 : decode cX12_seen 70 = .ok (.aload_n 0, 1) := by decide +kernel
set_option maxRecDepth 100000 in
theorem dX12_seen_71 : decode cX12_seen 71 = .ok (.getfield 205, 3) := by decide +kernel
set_option maxRecDepth 100000 in
theorem dX12_seen_74 : decode cX12_seen 74 = .ok (.iload_n 3, 1) := by decide +kernel
set_option maxRecDepth 100000 in
theorem dX12_seen_75 : decode cX12_seen 75 = .ok (.iastore, 1) := by decide +kernel
set_option maxRecDepth 100000 in
theorem dX12_seen_76 : decode cX12_seen 76 = .ok (.aload_n 0, 1) := by decide +kernel
set_option maxRecDepth 100000 in
theorem dX12_seen_77 : decode cX12_seen 77 = .ok (.dup, 1) := by decide +kernel
set_option maxRecDepth 100000 in
theorem dX12_seen_78 : decode cX12_seen 78 = .ok (.getfield 205, 3) := by decide +kernel
set_option maxRecDepth 100000 in
theorem dX12_seen_81 : decode cX12_seen 81 = .ok (.iconst 1, 1) := by decide +kernel
set_option maxRecDepth 100000 in
theorem dX12_seen_82 : decode cX12_seen 82 = .ok (.iadd, 1) := by decide +kernel
set_option maxRecDepth 100000 in
theorem dX12_seen_83 : decode cX12_seen 83 = .ok (.putfield 205, 3) := by decide +kernel
set_option maxRecDepth 100000 in
theorem dX12_seen_86 : decode cX12_seen 86 = .ok (.aload_n 0, 1) := by decide +kernel
set_option maxRecDepth 100000 in
theorem dX12_seen_87 : decode cX12_seen 87 = .ok (.getfield 205, 3) := by decide +kernel
set_option maxRecDepth 100000 in
theorem dX12_seen_90 : decode cX12_seen 90 = .ok (.ireturn, 1) := by decide +kernel
set_option maxRecDepth 100000 in
theorem dX12_forget_0 : decode cX12_forget 0 = .ok (.aload_n 0, 1) := by decide +kernel
set_option maxRecDepth 100000 in
theorem dX12_forget_1 : decode cX12_forget 1 = .ok (.iconst 0, 1) := by decide +kernel
set_option maxRecDepth 100000 in
theorem dX12_forget_2 : decode cX12_forget 2 = .ok (.putfield 106, 3) := by decide +kernel
set_option maxRecDepth 100000 in
theorem dX12_forget_5 : decode cX12_forget 5 = .ok (.aload_n 0, 1) := by decide +kernel
set_option maxRecDepth 100000 in
theorem dX12_forget_6 : decode cX12_forget 6 = .ok (.getfield 205, 3) := by decide +kernel
set_option maxRecDepth 100000 in
theorem dX12_forget_9 : decode cX12_forget 9 = .ok (.istore_n 1, 1) := by decide +kernel
set_option maxRecDepth 100000 in
theorem dX12_forget_10 : decode cX12_forget 10 = .ok (.aload_n 0, 1) := by decide +kernel
set_option maxRecDepth 100000 in
theorem dX12_forget_11 : decode cX12_forget 11 = .ok (.iconst 0, 1) := by decide +kernel
set_option maxRecDepth 100000 in
theorem dX12_forget_12 : decode cX12_forget 12 = .ok (.putfield 205, 3) := by decide +kernel
set_option maxRecDepth 100000 in
theorem dX12_forget_15 : decode cX12_forget 15 = .ok (.iload_n 1, 1) := by decide +kernel
set_option maxRecDepth 100000 in
theorem dX12_forget_16 : decode cX12_forget 16 = .ok (.ireturn, 1) := by decide +kernel
set_option maxRecDepth 100000 in
theorem dX12_lastSeen_0 : decode cX12_lastSeen 0 = .ok (.iconst (-1), 1) := by decide +kernel
set_option maxRecDepth 100000 in
theorem dX12_lastSeen_1 : decode cX12_lastSeen 1 = .ok (.istore_n 1, 1) := by decide +kernel
set_option maxRecDepth 100000 in
theorem dX12_lastSeen_2 : decode cX12_lastSeen 2 = .ok (.iconst 0, 1) := by decide +kernel
set_option maxRecDepth 100000 in
theorem dX12_lastSeen_3 : decode cX12_lastSeen 3 = .ok (.istore_n 2, 1) := by decide +kernel
set_option maxRecDepth 100000 in
theorem dX12_lastSeen_4 : decode cX12_lastSeen 4 = .ok (.iload_n 2, 1) := by decide +kernel
set_option maxRecDepth 100000 in
theorem dX12_lastSeen_5 : decode cX12_lastSeen 5 = .ok (.aload_n 0, 1) := by decide +kernel
set_option maxRecDepth 100000 in
theorem dX12_lastSeen_6 : decode cX12_lastSeen 6 = .ok (.getfield 205, 3) := by decide +kernel
set_option maxRecDepth 100000 in
theorem dX12_lastSeen_9 : decode cX12_lastSeen 9 = .ok (.if_icmp .ge 20, 3) := by decide +kernel
set_option maxRecDepth 100000 in
theorem dX12_lastSeen_12 : decode cX12_lastSeen 12 = .ok (.iload_n 1, 1) := by decide +kernel
set_option maxRecDepth 100000 in
theorem dX12_lastSeen_13 : decode cX12_lastSeen 13 = .ok (.aload_n 0, 1) := by decide +kernel
set_option maxRecDepth 100000 in
theorem dX12_lastSeen_14 : decode cX12_lastSeen 14 = .ok (.getfield 81, 3) := by decide +kernel
set_option maxRecDepth 100000 in
theorem dX12_lastSeen_17 : decode cX12_lastSeen 17 = .ok (.iload_n 2, 1) := by decide +kernel
set_option maxRecDepth 100000 in
theorem dX12_lastSeen_18 : decode cX12_lastSeen 18 = .ok (.iaload, 1) := by decide +kernel
set_option maxRecDepth 100000 in
theorem dX12_lastSeen_19 : decode cX12_lastSeen 19 = .ok (.invokestatic 281, 3) := by decide +kernel
set_option maxRecDepth 100000 in
theorem dX12_lastSeen_22 : decode cX12_lastSeen 22 = .ok (.istore_n 1, 1) := by decide +kernel
set_option maxRecDepth 100000 in
theorem dX12_lastSeen_23 : decode cX12_lastSeen 23 = .ok (.iinc 2 1, 3) := by decide +kernel
set_option maxRecDepth 100000 in
theorem dX12_lastSeen_26 : decode cX12_lastSeen 26 = .ok (.goto (-22), 3) := by decide +kernel
set_option maxRecDepth 100000 in
theorem dX12_lastSeen_29 : decode cX12_lastSeen 29 = .ok (.iload_n 1, 1) := by decide +kernel
set_option maxRecDepth 100000 in
theorem dX12_lastSeen_30 : decode cX12_lastSeen 30 = .ok (.ireturn, 1) := by decide +kernel
set_option maxRecDepth 100000 in
theorem dX12_fits_0 : decode cX12_fits 0 = .ok (.iconst 1, 1) := by decide +kernel
set_option maxRecDepth 100000 in
theorem dX12_fits_1 : decode cX12_fits 1 = .ok (.istore_n 3, 1) := by decide +kernel
set_option maxRecDepth 100000 in
theorem dX12_fits_2 : decode cX12_fits 2 = .ok (.iconst 0, 1) := by decide +kernel
set_option maxRecDepth 100000 in
theorem dX12_fits_3 : decode cX12_fits 3 = .ok (.istore 4, 2) := by decide +kernel
set_option maxRecDepth 100000 in
theorem dX12_fits_5 : decode cX12_fits 5 = .ok (.iload 4, 2) := by decide +kernel
set_option maxRecDepth 100000 in
theorem dX12_fits_7 : decode cX12_fits 7 = .ok (.aload_n 0, 1) := by decide +kernel
set_option maxRecDepth 100000 in
theorem dX12_fits_8 : decode cX12_fits 8 = .ok (.getfield 205, 3) := by decide +kernel
set_option maxRecDepth 100000 in
theorem dX12_fits_11 : decode cX12_fits 11 = .ok (.if_icmp .ge 59, 3) := by decide +kernel
set_option maxRecDepth 100000 in
theorem dX12_fits_14 : decode cX12_fits 14 = .ok (.iload_n 3, 1) := by decide +kernel
set_option maxRecDepth 100000 in
theorem dX12_fits_15 : decode cX12_fits 15 = .ok (.ifCond .eq 47, 3) := by decide +kernel
set_option maxRecDepth 100000 in
theorem dX12_fits_18 : decode cX12_fits 18 = .ok (.aload_n 0, 1) := by decide +kernel
set_option maxRecDepth 100000 in
theorem dX12_fits_19 : decode cX12_fits 19 = .ok (.getfield 81, 3) := by decide +kernel
set_option maxRecDepth 100000 in
theorem dX12_fits_22 : decode cX12_fits 22 = .ok (.iload 4, 2) := by decide +kernel
set_option maxRecDepth 100000 in
theorem dX12_fits_24 : decode cX12_fits 24 = .ok (.iaload, 1) := by decide +kernel
set_option maxRecDepth 100000 in
theorem dX12_fits_25 : decode cX12_fits 25 = .ok (.iload_n 1, 1) := by decide +kernel
set_option maxRecDepth 100000 in
theorem dX12_fits_26 : decode cX12_fits 26 = .ok (.if_icmp .ne 32, 3) := by decide +kernel
set_option maxRecDepth 100000 in
theorem dX12_fits_29 : decode cX12_fits 29 = .ok (.aload_n 0, 1) := by decide +kernel
set_option maxRecDepth 100000 in
theorem dX12_fits_30 : decode cX12_fits 30 = .ok (.getfield 84, 3) := by decide +kernel
set_option maxRecDepth 100000 in
theorem dX12_fits_33 : decode cX12_fits 33 = .ok (.iload 4, 2) := by decide +kernel
set_option maxRecDepth 100000 in
theorem dX12_fits_35 : decode cX12_fits 35 = .ok (.iaload, 1) := by decide +kernel
set_option maxRecDepth 100000 in
theorem dX12_fits_36 : decode cX12_fits 36 = .ok (.iload_n 2, 1) := by decide +kernel
set_option maxRecDepth 100000 in
theorem dX12_fits_37 : decode cX12_fits 37 = .ok (.if_icmp .ne 7, 3) := by decide +kernel
set_option maxRecDepth 100000 in
theorem dX12_fits_40 : decode cX12_fits 40 = .ok (.iconst 1, 1) := by decide +kernel
set_option maxRecDepth 100000 in
theorem dX12_fits_41 : decode cX12_fits 41 = .ok (.goto 4, 3) := by decide +kernel
set_option maxRecDepth 100000 in
theorem dX12_fits_44 : decode cX12_fits 44 = .ok (.iconst 0, 1) := by decide +kernel
set_option maxRecDepth 100000 in
theorem dX12_fits_45 : decode cX12_fits 45 = .ok (.invokestatic 134, 3) := by decide +kernel
set_option maxRecDepth 100000 in
theorem dX12_fits_48 : decode cX12_fits 48 = .ok (.aload_n 0, 1) := by decide +kernel
set_option maxRecDepth 100000 in
theorem dX12_fits_49 : decode cX12_fits 49 = .ok (.getfield 87, 3) := by decide +kernel
set_option maxRecDepth 100000 in
theorem dX12_fits_52 : decode cX12_fits 52 = .ok (.iload 4, 2) := by decide +kernel
set_option maxRecDepth 100000 in
theorem dX12_fits_54 : decode cX12_fits 54 = .ok (.iaload, 1) := by decide +kernel
set_option maxRecDepth 100000 in
theorem dX12_fits_55 : decode cX12_fits 55 = .ok (.if_icmp .ne 7, 3) := by decide +kernel
set_option maxRecDepth 100000 in
theorem dX12_fits_58 : decode cX12_fits 58 = .ok (.iconst 1, 1) := by decide +kernel
set_option maxRecDepth 100000 in
theorem dX12_fits_59 : decode cX12_fits 59 = .ok (.goto 4, 3) := by decide +kernel
set_option maxRecDepth 100000 in
theorem dX12_fits_62 : decode cX12_fits 62 = .ok (.iconst 0, 1) := by decide +kernel
set_option maxRecDepth 100000 in
theorem dX12_fits_63 : decode cX12_fits 63 = .ok (.istore_n 3, 1) := by decide +kernel
set_option maxRecDepth 100000 in
theorem dX12_fits_64 : decode cX12_fits 64 = .ok (.iinc 4 1, 3) := by decide +kernel
set_option maxRecDepth 100000 in
theorem dX12_fits_67 : decode cX12_fits 67 = .ok (.goto (-62), 3) := by decide +kernel
set_option maxRecDepth 100000 in
theorem dX12_fits_70 : decode cX12_fits 70 = .ok (.iload_n 3, 1) := by decide +kernel
set_option maxRecDepth 100000 in
theorem dX12_fits_71 : decode cX12_fits 71 = .ok (.ireturn, 1) := by decide +kernel
set_option maxRecDepth 100000 in
theorem dX12_rowsBy_0 : decode cX12_rowsBy 0 = .ok (.aload_n 0, 1) := by decide +kernel
set_option maxRecDepth 100000 in
theorem dX12_rowsBy_1 : decode cX12_rowsBy 1 = .ok (.getfield 17, 3) := by decide +kernel
set_option maxRecDepth 100000 in
theorem dX12_rowsBy_4 : decode cX12_rowsBy 4 = .ok (.iconst 2, 1) := by decide +kernel
set_option maxRecDepth 100000 in
theorem dX12_rowsBy_5 : decode cX12_rowsBy 5 = .ok (.iload_n 2, 1) := by decide +kernel
set_option maxRecDepth 100000 in
theorem dX12_rowsBy_6 : decode cX12_rowsBy 6 = .ok (.imul, 1) := by decide +kernel
set_option maxRecDepth 100000 in
theorem dX12_rowsBy_7 : decode cX12_rowsBy 7 = .ok (.iload_n 3, 1) := by decide +kernel
set_option maxRecDepth 100000 in
theorem dX12_rowsBy_8 : decode cX12_rowsBy 8 = .ok (.iadd, 1) := by decide +kernel
set_option maxRecDepth 100000 in
theorem dX12_rowsBy_9 : decode cX12_rowsBy 9 = .ok (.iaload, 1) := by decide +kernel
set_option maxRecDepth 100000 in
theorem dX12_rowsBy_10 : decode cX12_rowsBy 10 = .ok (.istore 4, 2) := by decide +kernel
set_option maxRecDepth 100000 in
theorem dX12_rowsBy_12 : decode cX12_rowsBy 12 = .ok (.iload 4, 2) := by decide +kernel
set_option maxRecDepth 100000 in
theorem dX12_rowsBy_14 : decode cX12_rowsBy 14 = .ok (.ifCond .ge 7, 3) := by decide +kernel
set_option maxRecDepth 100000 in
theorem dX12_rowsBy_17 : decode cX12_rowsBy 17 = .ok (.iconst 0, 1) := by decide +kernel
set_option maxRecDepth 100000 in
theorem dX12_rowsBy_18 : decode cX12_rowsBy 18 = .ok (.goto 17, 3) := by decide +kernel
set_option maxRecDepth 100000 in
theorem dX12_rowsBy_21 : decode cX12_rowsBy 21 = .ok (.aload_n 0, 1) := by decide +kernel
set_option maxRecDepth 100000 in
theorem dX12_rowsBy_22 : decode cX12_rowsBy 22 = .ok (.getfield 90, 3) := by decide +kernel
set_option maxRecDepth 100000 in
theorem dX12_rowsBy_25 : decode cX12_rowsBy 25 = .ok (.bipush 9, 2) := by decide +kernel
set_option maxRecDepth 100000 in
theorem dX12_rowsBy_27 : decode cX12_rowsBy 27 = .ok (.iload_n 1, 1) := by decide +kernel
set_option maxRecDepth 100000 in
theorem dX12_rowsBy_28 : decode cX12_rowsBy 28 = .ok (.iconst 1, 1) := by decide +kernel
set_option maxRecDepth 100000 in
theorem dX12_rowsBy_29 : decode cX12_rowsBy 29 = .ok (.iadd, 1) := by decide +kernel
set_option maxRecDepth 100000 in
theorem dX12_rowsBy_30 : decode cX12_rowsBy 30 = .ok (.imul, 1) := by decide +kernel
set_option maxRecDepth 100000 in
theorem dX12_rowsBy_31 : decode cX12_rowsBy 31 = .ok (.iload 4, 2) := by decide +kernel
set_option maxRecDepth 100000 in
theorem dX12_rowsBy_33 : decode cX12_rowsBy 33 = .ok (.iadd, 1) := by decide +kernel
set_option maxRecDepth 100000 in
theorem dX12_rowsBy_34 : decode cX12_rowsBy 34 = .ok (.iaload, 1) := by decide +kernel
set_option maxRecDepth 100000 in
theorem dX12_rowsBy_35 : decode cX12_rowsBy 35 = .ok (.ireturn, 1) := by decide +kernel
set_option maxRecDepth 100000 in
theorem dX12_laysRows_0 : decode cX12_laysRows 0 = .ok (.iload_n 1, 1) := by decide +kernel
set_option maxRecDepth 100000 in
theorem dX12_laysRows_1 : decode cX12_laysRows 1 = .ok (.istore_n 2, 1) := by decide +kernel
set_option maxRecDepth 100000 in
theorem dX12_laysRows_2 : decode cX12_laysRows 2 = .ok (.iload_n 2, 1) := by decide +kernel
set_option maxRecDepth 100000 in
theorem dX12_laysRows_3 : decode cX12_laysRows 3 = .ok (.ifCond .lt 77, 3) := by decide +kernel
set_option maxRecDepth 100000 in
theorem dX12_laysRows_6 : decode cX12_laysRows 6 = .ok (.iconst 0, 1) := by decide +kernel
set_option maxRecDepth 100000 in
theorem dX12_laysRows_7 : decode cX12_laysRows 7 = .ok (.istore_n 3, 1) := by decide +kernel
set_option maxRecDepth 100000 in
theorem dX12_laysRows_8 : decode cX12_laysRows 8 = .ok (.iload_n 3, 1) := by decide +kernel
set_option maxRecDepth 100000 in
theorem dX12_laysRows_9 : decode cX12_laysRows 9 = .ok (.aload_n 0, 1) := by decide +kernel
set_option maxRecDepth 100000 in
theorem dX12_laysRows_10 : decode cX12_laysRows 10 = .ok (.getfield 13, 3) := by decide +kernel
set_option maxRecDepth 100000 in
theorem dX12_laysRows_13 : decode cX12_laysRows 13 = .ok (.if_icmp .ge 61, 3) := by decide +kernel
set_option maxRecDepth 100000 in
theorem dX12_laysRows_16 : decode cX12_laysRows 16 = .ok (.iload_n 2, 1) := by decide +kernel
set_option maxRecDepth 100000 in
theorem dX12_laysRows_17 : decode cX12_laysRows 17 = .ok (.iload_n 1, 1) := by decide +kernel
set_option maxRecDepth 100000 in
theorem dX12_laysRows_18 : decode cX12_laysRows 18 = .ok (.if_icmp .ne 7, 3) := by decide +kernel
set_option maxRecDepth 100000 in
theorem dX12_laysRows_21 : decode cX12_laysRows 21 = .ok (.iconst 1, 1) := by decide +kernel
set_option maxRecDepth 100000 in
theorem dX12_laysRows_22 : decode cX12_laysRows 22 = .ok (.goto 18, 3) := by decide +kernel
set_option maxRecDepth 100000 in
theorem dX12_laysRows_25 : decode cX12_laysRows 25 = .ok (.aload_n 0, 1) := by decide +kernel
set_option maxRecDepth 100000 in
theorem dX12_laysRows_26 : decode cX12_laysRows 26 = .ok (.iload_n 2, 1) := by decide +kernel
set_option maxRecDepth 100000 in
theorem dX12_laysRows_27 : decode cX12_laysRows 27 = .ok (.iload_n 3, 1) := by decide +kernel
set_option maxRecDepth 100000 in
theorem dX12_laysRows_28 : decode cX12_laysRows 28 = .ok (.iconst 0, 1) := by decide +kernel
set_option maxRecDepth 100000 in
theorem dX12_laysRows_29 : decode cX12_laysRows 29 = .ok (.invokevirtual 445, 3) := by decide +kernel
set_option maxRecDepth 100000 in
theorem dX12_laysRows_32 : decode cX12_laysRows 32 = .ok (.aload_n 0, 1) := by decide +kernel
set_option maxRecDepth 100000 in
theorem dX12_laysRows_33 : decode cX12_laysRows 33 = .ok (.iload_n 2, 1) := by decide +kernel
set_option maxRecDepth 100000 in
theorem dX12_laysRows_34 : decode cX12_laysRows 34 = .ok (.iload_n 3, 1) := by decide +kernel
set_option maxRecDepth 100000 in
theorem dX12_laysRows_35 : decode cX12_laysRows 35 = .ok (.iconst 1, 1) := by decide +kernel
set_option maxRecDepth 100000 in
theorem dX12_laysRows_36 : decode cX12_laysRows 36 = .ok (.invokevirtual 445, 3) := by decide +kernel
set_option maxRecDepth 100000 in
theorem dX12_laysRows_39 : decode cX12_laysRows 39 = .ok (.iadd, 1) := by decide +kernel
set_option maxRecDepth 100000 in
theorem dX12_laysRows_40 : decode cX12_laysRows 40 = .ok (.istore 4, 2) := by decide +kernel
set_option maxRecDepth 100000 in
theorem dX12_laysRows_42 : decode cX12_laysRows 42 = .ok (.aload_n 0, 1) := by decide +kernel
set_option maxRecDepth 100000 in
theorem dX12_laysRows_43 : decode cX12_laysRows 43 = .ok (.getfield 90, 3) := by decide +kernel
set_option maxRecDepth 100000 in
theorem dX12_laysRows_46 : decode cX12_laysRows 46 = .ok (.bipush 9, 2) := by decide +kernel
set_option maxRecDepth 100000 in
theorem dX12_laysRows_48 : decode cX12_laysRows 48 = .ok (.iload_n 2, 1) := by decide +kernel
set_option maxRecDepth 100000 in
theorem dX12_laysRows_49 : decode cX12_laysRows 49 = .ok (.imul, 1) := by decide +kernel
set_option maxRecDepth 100000 in
theorem dX12_laysRows_50 : decode cX12_laysRows 50 = .ok (.iload_n 3, 1) := by decide +kernel
set_option maxRecDepth 100000 in
theorem dX12_laysRows_51 : decode cX12_laysRows 51 = .ok (.iadd, 1) := by decide +kernel
set_option maxRecDepth 100000 in
theorem dX12_laysRows_52 : decode cX12_laysRows 52 = .ok (.aload_n 0, 1) := by decide +kernel
set_option maxRecDepth 100000 in
theorem dX12_laysRows_53 : decode cX12_laysRows 53 = .ok (.iload_n 2, 1) := by decide +kernel
set_option maxRecDepth 100000 in
theorem dX12_laysRows_54 : decode cX12_laysRows 54 = .ok (.iload_n 3, 1) := by decide +kernel
set_option maxRecDepth 100000 in
theorem dX12_laysRows_55 : decode cX12_laysRows 55 = .ok (.invokevirtual 448, 3) := by decide +kernel
set_option maxRecDepth 100000 in
theorem dX12_laysRows_58 : decode cX12_laysRows 58 = .ok (.ifCond .eq 8, 3) := by decide +kernel
set_option maxRecDepth 100000 in
theorem dX12_laysRows_61 : decode cX12_laysRows 61 = .ok (.iload 4, 2) := by decide +kernel
set_option maxRecDepth 100000 in
theorem dX12_laysRows_63 : decode cX12_laysRows 63 = .ok (.goto 4, 3) := by decide +kernel
set_option maxRecDepth 100000 in
theorem dX12_laysRows_66 : decode cX12_laysRows 66 = .ok (.iconst 0, 1) := by decide +kernel
set_option maxRecDepth 100000 in
theorem dX12_laysRows_67 : decode cX12_laysRows 67 = .ok (.iastore, 1) := by decide +kernel
set_option maxRecDepth 100000 in
theorem dX12_laysRows_68 : decode cX12_laysRows 68 = .ok (.iinc 3 1, 3) := by decide +kernel
set_option maxRecDepth 100000 in
theorem dX12_laysRows_71 : decode cX12_laysRows 71 = .ok (.goto (-63), 3) := by decide +kernel
set_option maxRecDepth 100000 in
theorem dX12_laysRows_74 : decode cX12_laysRows 74 = .ok (.iinc 2 (-1), 3) := by decide +kernel
set_option maxRecDepth 100000 in
theorem dX12_laysRows_77 : decode cX12_laysRows 77 = .ok (.goto (-75), 3) := by decide +kernel
set_option maxRecDepth 100000 in
theorem dX12_laysRows_80 : decode cX12_laysRows 80 = .ok (.iconst 0, 1) := by decide +kernel
set_option maxRecDepth 100000 in
theorem dX12_laysRows_81 : decode cX12_laysRows 81 = .ok (.istore_n 2, 1) := by decide +kernel
set_option maxRecDepth 100000 in
theorem dX12_laysRows_82 : decode cX12_laysRows 82 = .ok (.iload_n 2, 1) := by decide +kernel
set_option maxRecDepth 100000 in
theorem dX12_laysRows_83 : decode cX12_laysRows 83 = .ok (.bipush 117, 2) := by decide +kernel
set_option maxRecDepth 100000 in
theorem dX12_laysRows_85 : decode cX12_laysRows 85 = .ok (.if_icmp .ge 16, 3) := by decide +kernel
set_option maxRecDepth 100000 in
theorem dX12_laysRows_88 : decode cX12_laysRows 88 = .ok (.aload_n 0, 1) := by decide +kernel
set_option maxRecDepth 100000 in
theorem dX12_laysRows_89 : decode cX12_laysRows 89 = .ok (.getfield 93, 3) := by decide +kernel
set_option maxRecDepth 100000 in
theorem dX12_laysRows_92 : decode cX12_laysRows 92 = .ok (.iload_n 2, 1) := by decide +kernel
set_option maxRecDepth 100000 in
theorem dX12_laysRows_93 : decode cX12_laysRows 93 = .ok (.iconst 0, 1) := by decide +kernel
set_option maxRecDepth 100000 in
theorem dX12_laysRows_94 : decode cX12_laysRows 94 = .ok (.bastore, 1) := by decide +kernel
set_option maxRecDepth 100000 in
theorem dX12_laysRows_95 : decode cX12_laysRows 95 = .ok (.iinc 2 1, 3) := by decide +kernel
set_option maxRecDepth 100000 in
theorem dX12_laysRows_98 : decode cX12_laysRows 98 = .ok (.goto (-16), 3) := by decide +kernel
set_option maxRecDepth 100000 in
theorem dX12_laysRows_101 : decode cX12_laysRows 101 = .ok (.aload_n 0, 1) := by decide +kernel
set_option maxRecDepth 100000 in
theorem dX12_laysRows_102 : decode cX12_laysRows 102 = .ok (.getfield 93, 3) := by decide +kernel
set_option maxRecDepth 100000 in
theorem dX12_laysRows_105 : decode cX12_laysRows 105 = .ok (.aload_n 0, 1) := by decide +kernel
set_option maxRecDepth 100000 in
theorem dX12_laysRows_106 : decode cX12_laysRows 106 = .ok (.getfield 33, 3) := by decide +kernel
set_option maxRecDepth 100000 in
theorem dX12_laysRows_109 : decode cX12_laysRows 109 = .ok (.iconst 0, 1) := by decide +kernel
set_option maxRecDepth 100000 in
theorem dX12_laysRows_110 : decode cX12_laysRows 110 = .ok (.iaload, 1) := by decide +kernel
set_option maxRecDepth 100000 in
theorem dX12_laysRows_111 : decode cX12_laysRows 111 = .ok (.aload_n 0, 1) := by decide +kernel
set_option maxRecDepth 100000 in
theorem dX12_laysRows_112 : decode cX12_laysRows 112 = .ok (.getfield 90, 3) := by decide +kernel
set_option maxRecDepth 100000 in
theorem dX12_laysRows_115 : decode cX12_laysRows 115 = .ok (.aload_n 0, 1) := by decide +kernel
set_option maxRecDepth 100000 in
theorem dX12_laysRows_116 : decode cX12_laysRows 116 = .ok (.getfield 33, 3) := by decide +kernel
set_option maxRecDepth 100000 in
theorem dX12_laysRows_119 : decode cX12_laysRows 119 = .ok (.iconst 0, 1) := by decide +kernel
set_option maxRecDepth 100000 in
theorem dX12_laysRows_120 : decode cX12_laysRows 120 = .ok (.iaload, 1) := by decide +kernel
set_option maxRecDepth 100000 in
theorem dX12_laysRows_121 : decode cX12_laysRows 121 = .ok (.iaload, 1) := by decide +kernel
set_option maxRecDepth 100000 in
theorem dX12_laysRows_122 : decode cX12_laysRows 122 = .ok (.ifCond .le 7, 3) := by decide +kernel
set_option maxRecDepth 100000 in
theorem dX12_laysRows_125 : decode cX12_laysRows 125 = .ok (.iconst 1, 1) := by decide +kernel
set_option maxRecDepth 100000 in
theorem dX12_laysRows_126 : decode cX12_laysRows 126 = .ok (.goto 4, 3) := by decide +kernel
set_option maxRecDepth 100000 in
theorem dX12_laysRows_129 : decode cX12_laysRows 129 = .ok (.iconst 0, 1) := by decide +kernel
set_option maxRecDepth 100000 in
theorem dX12_laysRows_130 : decode cX12_laysRows 130 = .ok (.bastore, 1) := by decide +kernel
set_option maxRecDepth 100000 in
theorem dX12_laysRows_131 : decode cX12_laysRows 131 = .ok (.iconst 0, 1) := by decide +kernel
set_option maxRecDepth 100000 in
theorem dX12_laysRows_132 : decode cX12_laysRows 132 = .ok (.istore_n 2, 1) := by decide +kernel
set_option maxRecDepth 100000 in
theorem dX12_laysRows_133 : decode cX12_laysRows 133 = .ok (.iload_n 2, 1) := by decide +kernel
set_option maxRecDepth 100000 in
theorem dX12_laysRows_134 : decode cX12_laysRows 134 = .ok (.iload_n 1, 1) := by decide +kernel
set_option maxRecDepth 100000 in
theorem dX12_laysRows_135 : decode cX12_laysRows 135 = .ok (.if_icmp .ge 76, 3) := by decide +kernel
set_option maxRecDepth 100000 in
theorem dX12_laysRows_138 : decode cX12_laysRows 138 = .ok (.iconst 0, 1) := by decide +kernel
set_option maxRecDepth 100000 in
theorem dX12_laysRows_139 : decode cX12_laysRows 139 = .ok (.istore_n 3, 1) := by decide +kernel
set_option maxRecDepth 100000 in
theorem dX12_laysRows_140 : decode cX12_laysRows 140 = .ok (.iload_n 3, 1) := by decide +kernel
set_option maxRecDepth 100000 in
theorem dX12_laysRows_141 : decode cX12_laysRows 141 = .ok (.iconst 2, 1) := by decide +kernel
set_option maxRecDepth 100000 in
theorem dX12_laysRows_142 : decode cX12_laysRows 142 = .ok (.aload_n 0, 1) := by decide +kernel
set_option maxRecDepth 100000 in
theorem dX12_laysRows_143 : decode cX12_laysRows 143 = .ok (.getfield 13, 3) := by decide +kernel
set_option maxRecDepth 100000 in
theorem dX12_laysRows_146 : decode cX12_laysRows 146 = .ok (.imul, 1) := by decide +kernel
set_option maxRecDepth 100000 in
theorem dX12_laysRows_147 : decode cX12_laysRows 147 = .ok (.if_icmp .ge 58, 3) := by decide +kernel
set_option maxRecDepth 100000 in
theorem dX12_laysRows_150 : decode cX12_laysRows 150 = .ok (.aload_n 0, 1) := by decide +kernel
set_option maxRecDepth 100000 in
theorem dX12_laysRows_151 : decode cX12_laysRows 151 = .ok (.getfield 93, 3) := by decide +kernel
set_option maxRecDepth 100000 in
theorem dX12_laysRows_154 : decode cX12_laysRows 154 = .ok (.bipush 9, 2) := by decide +kernel
set_option maxRecDepth 100000 in
theorem dX12_laysRows_156 : decode cX12_laysRows 156 = .ok (.iload_n 2, 1) := by decide +kernel
set_option maxRecDepth 100000 in
theorem dX12_laysRows_157 : decode cX12_laysRows 157 = .ok (.imul, 1) := by decide +kernel
set_option maxRecDepth 100000 in
theorem dX12_laysRows_158 : decode cX12_laysRows 158 = .ok (.iload_n 3, 1) := by decide +kernel
set_option maxRecDepth 100000 in
theorem dX12_laysRows_159 : decode cX12_laysRows 159 = .ok (.iconst 2, 1) := by decide +kernel
set_option maxRecDepth 100000 in
theorem dX12_laysRows_160 : decode cX12_laysRows 160 = .ok (.idiv, 1) := by decide +kernel
set_option maxRecDepth 100000 in
theorem dX12_laysRows_161 : decode cX12_laysRows 161 = .ok (.iadd, 1) := by decide +kernel
set_option maxRecDepth 100000 in
theorem dX12_laysRows_162 : decode cX12_laysRows 162 = .ok (.baload, 1) := by decide +kernel
set_option maxRecDepth 100000 in
theorem dX12_laysRows_163 : decode cX12_laysRows 163 = .ok (.ifCond .eq 36, 3) := by decide +kernel
set_option maxRecDepth 100000 in
theorem dX12_laysRows_166 : decode cX12_laysRows 166 = .ok (.aload_n 0, 1) := by decide +kernel
set_option maxRecDepth 100000 in
theorem dX12_laysRows_167 : decode cX12_laysRows 167 = .ok (.iload_n 2, 1) := by decide +kernel
set_option maxRecDepth 100000 in
theorem dX12_laysRows_168 : decode cX12_laysRows 168 = .ok (.iload_n 3, 1) := by decide +kernel
set_option maxRecDepth 100000 in
theorem dX12_laysRows_169 : decode cX12_laysRows 169 = .ok (.iconst 2, 1) := by decide +kernel
set_option maxRecDepth 100000 in
theorem dX12_laysRows_170 : decode cX12_laysRows 170 = .ok (.idiv, 1) := by decide +kernel
set_option maxRecDepth 100000 in
theorem dX12_laysRows_171 : decode cX12_laysRows 171 = .ok (.iload_n 3, 1) := by decide +kernel
set_option maxRecDepth 100000 in
theorem dX12_laysRows_172 : decode cX12_laysRows 172 = .ok (.iconst 2, 1) := by decide +kernel
set_option maxRecDepth 100000 in
theorem dX12_laysRows_173 : decode cX12_laysRows 173 = .ok (.irem, 1) := by decide +kernel
set_option maxRecDepth 100000 in
theorem dX12_laysRows_174 : decode cX12_laysRows 174 = .ok (.invokevirtual 445, 3) := by decide +kernel
set_option maxRecDepth 100000 in
theorem dX12_laysRows_177 : decode cX12_laysRows 177 = .ok (.ifCond .le 22, 3) := by decide +kernel
set_option maxRecDepth 100000 in
theorem dX12_laysRows_180 : decode cX12_laysRows 180 = .ok (.aload_n 0, 1) := by decide +kernel
set_option maxRecDepth 100000 in
theorem dX12_laysRows_181 : decode cX12_laysRows 181 = .ok (.getfield 93, 3) := by decide +kernel
set_option maxRecDepth 100000 in
theorem dX12_laysRows_184 : decode cX12_laysRows 184 = .ok (.bipush 9, 2) := by decide +kernel
set_option maxRecDepth 100000 in
theorem dX12_laysRows_186 : decode cX12_laysRows 186 = .ok (.iload_n 2, 1) := by decide +kernel
set_option maxRecDepth 100000 in
theorem dX12_laysRows_187 : decode cX12_laysRows 187 = .ok (.iconst 1, 1) := by decide +kernel
set_option maxRecDepth 100000 in
theorem dX12_laysRows_188 : decode cX12_laysRows 188 = .ok (.iadd, 1) := by decide +kernel
set_option maxRecDepth 100000 in
theorem dX12_laysRows_189 : decode cX12_laysRows 189 = .ok (.imul, 1) := by decide +kernel
set_option maxRecDepth 100000 in
theorem dX12_laysRows_190 : decode cX12_laysRows 190 = .ok (.aload_n 0, 1) := by decide +kernel
set_option maxRecDepth 100000 in
theorem dX12_laysRows_191 : decode cX12_laysRows 191 = .ok (.getfield 17, 3) := by decide +kernel
set_option maxRecDepth 100000 in
theorem dX12_laysRows_194 : decode cX12_laysRows 194 = .ok (.iload_n 3, 1) := by decide +kernel
set_option maxRecDepth 100000 in
theorem dX12_laysRows_195 : decode cX12_laysRows 195 = .ok (.iaload, 1) := by decide +kernel
set_option maxRecDepth 100000 in
theorem dX12_laysRows_196 : decode cX12_laysRows 196 = .ok (.iadd, 1) := by decide +kernel
set_option maxRecDepth 100000 in
theorem dX12_laysRows_197 : decode cX12_laysRows 197 = .ok (.iconst 1, 1) := by decide +kernel
set_option maxRecDepth 100000 in
theorem dX12_laysRows_198 : decode cX12_laysRows 198 = .ok (.bastore, 1) := by decide +kernel
set_option maxRecDepth 100000 in
theorem dX12_laysRows_199 : decode cX12_laysRows 199 = .ok (.iinc 3 1, 3) := by decide +kernel
set_option maxRecDepth 100000 in
theorem dX12_laysRows_202 : decode cX12_laysRows 202 = .ok (.goto (-62), 3) := by decide +kernel
set_option maxRecDepth 100000 in
theorem dX12_laysRows_205 : decode cX12_laysRows 205 = .ok (.iinc 2 1, 3) := by decide +kernel
set_option maxRecDepth 100000 in
theorem dX12_laysRows_208 : decode cX12_laysRows 208 = .ok (.goto (-75), 3) := by decide +kernel
set_option maxRecDepth 100000 in
theorem dX12_laysRows_211 : decode cX12_laysRows 211 = .ok (.return_, 1) := by decide +kernel
set_option maxRecDepth 100000 in
theorem dX12_rows_0 : decode cX12_rows 0 = .ok (.aload_n 0, 1) := by decide +kernel
set_option maxRecDepth 100000 in
theorem dX12_rows_1 : decode cX12_rows 1 = .ok (.iconst 0, 1) := by decide +kernel
set_option maxRecDepth 100000 in
theorem dX12_rows_2 : decode cX12_rows 2 = .ok (.putfield 106, 3) := by decide +kernel
set_option maxRecDepth 100000 in
theorem dX12_rows_5 : decode cX12_rows 5 = .ok (.aload_n 0, 1) := by decide +kernel
set_option maxRecDepth 100000 in
theorem dX12_rows_6 : decode cX12_rows 6 = .ok (.invokevirtual 451, 3) := by decide +kernel
set_option maxRecDepth 100000 in
theorem dX12_rows_9 : decode cX12_rows 9 = .ok (.istore_n 1, 1) := by decide +kernel
set_option maxRecDepth 100000 in
theorem dX12_rows_10 : decode cX12_rows 10 = .ok (.iload_n 1, 1) := by decide +kernel
set_option maxRecDepth 100000 in
theorem dX12_rows_11 : decode cX12_rows 11 = .ok (.ifCond .ge 5, 3) := by decide +kernel
set_option maxRecDepth 100000 in
theorem dX12_rows_14 : decode cX12_rows 14 = .ok (.iconst (-1), 1) := by decide +kernel
set_option maxRecDepth 100000 in
theorem dX12_rows_15 : decode cX12_rows 15 = .ok (.ireturn, 1) := by decide +kernel
set_option maxRecDepth 100000 in
theorem dX12_rows_16 : decode cX12_rows 16 = .ok (.aload_n 0, 1) := by decide +kernel
set_option maxRecDepth 100000 in
theorem dX12_rows_17 : decode cX12_rows 17 = .ok (.iload_n 1, 1) := by decide +kernel
set_option maxRecDepth 100000 in
theorem dX12_rows_18 : decode cX12_rows 18 = .ok (.invokevirtual 454, 3) := by decide +kernel
set_option maxRecDepth 100000 in
theorem dX12_rows_21 : decode cX12_rows 21 = .ok (.aload_n 0, 1) := by decide +kernel
set_option maxRecDepth 100000 in
theorem dX12_rows_22 : decode cX12_rows 22 = .ok (.getfield 90, 3) := by decide +kernel
set_option maxRecDepth 100000 in
theorem dX12_rows_25 : decode cX12_rows 25 = .ok (.aload_n 0, 1) := by decide +kernel
set_option maxRecDepth 100000 in
theorem dX12_rows_26 : decode cX12_rows 26 = .ok (.getfield 33, 3) := by decide +kernel
set_option maxRecDepth 100000 in
theorem dX12_rows_29 : decode cX12_rows 29 = .ok (.iconst 0, 1) := by decide +kernel
set_option maxRecDepth 100000 in
theorem dX12_rows_30 : decode cX12_rows 30 = .ok (.iaload, 1) := by decide +kernel
set_option maxRecDepth 100000 in
theorem dX12_rows_31 : decode cX12_rows 31 = .ok (.iaload, 1) := by decide +kernel
set_option maxRecDepth 100000 in
theorem dX12_rows_32 : decode cX12_rows 32 = .ok (.istore_n 2, 1) := by decide +kernel
set_option maxRecDepth 100000 in
theorem dX12_rows_33 : decode cX12_rows 33 = .ok (.aload_n 0, 1) := by decide +kernel
set_option maxRecDepth 100000 in
theorem dX12_rows_34 : decode cX12_rows 34 = .ok (.iconst 0, 1) := by decide +kernel
set_option maxRecDepth 100000 in
theorem dX12_rows_35 : decode cX12_rows 35 = .ok (.putfield 113, 3) := by decide +kernel
set_option maxRecDepth 100000 in
theorem dX12_rows_38 : decode cX12_rows 38 = .ok (.aload_n 0, 1) := by decide +kernel
set_option maxRecDepth 100000 in
theorem dX12_rows_39 : decode cX12_rows 39 = .ok (.getfield 33, 3) := by decide +kernel
set_option maxRecDepth 100000 in
theorem dX12_rows_42 : decode cX12_rows 42 = .ok (.iconst 0, 1) := by decide +kernel
set_option maxRecDepth 100000 in
theorem dX12_rows_43 : decode cX12_rows 43 = .ok (.iaload, 1) := by decide +kernel
set_option maxRecDepth 100000 in
theorem dX12_rows_44 : decode cX12_rows 44 = .ok (.istore_n 3, 1) := by decide +kernel
set_option maxRecDepth 100000 in
theorem dX12_rows_45 : decode cX12_rows 45 = .ok (.iconst 0, 1) := by decide +kernel
set_option maxRecDepth 100000 in
theorem dX12_rows_46 : decode cX12_rows 46 = .ok (.istore 4, 2) := by decide +kernel
set_option maxRecDepth 100000 in
theorem dX12_rows_48 : decode cX12_rows 48 = .ok (.iload 4, 2) := by decide +kernel
set_option maxRecDepth 100000 in
theorem dX12_rows_50 : decode cX12_rows 50 = .ok (.iload_n 1, 1) := by decide +kernel
set_option maxRecDepth 100000 in
theorem dX12_rows_51 : decode cX12_rows 51 = .ok (.if_icmp .ge 50, 3) := by decide +kernel
set_option maxRecDepth 100000 in
theorem dX12_rows_54 : decode cX12_rows 54 = .ok (.iload_n 2, 1) := by decide +kernel
set_option maxRecDepth 100000 in
theorem dX12_rows_55 : decode cX12_rows 55 = .ok (.ifCond .le 46, 3) := by decide +kernel
set_option maxRecDepth 100000 in
theorem dX12_rows_58 : decode cX12_rows 58 = .ok (.aload_n 0, 1) := by decide +kernel
set_option maxRecDepth 100000 in
theorem dX12_rows_59 : decode cX12_rows 59 = .ok (.iload 4, 2) := by decide +kernel
set_option maxRecDepth 100000 in
theorem dX12_rows_61 : decode cX12_rows 61 = .ok (.iload_n 3, 1) := by decide +kernel
set_option maxRecDepth 100000 in
theorem dX12_rows_62 : decode cX12_rows 62 = .ok (.iconst 0, 1) := by decide +kernel
set_option maxRecDepth 100000 in
theorem dX12_rows_63 : decode cX12_rows 63 = .ok (.invokevirtual 445, 3) := by decide +kernel
set_option maxRecDepth 100000 in
theorem dX12_rows_66 : decode cX12_rows 66 = .ok (.ifCond .le 7, 3) := by decide +kernel
set_option maxRecDepth 100000 in
theorem dX12_rows_69 : decode cX12_rows 69 = .ok (.iconst 0, 1) := by decide +kernel
set_option maxRecDepth 100000 in
theorem dX12_rows_70 : decode cX12_rows 70 = .ok (.goto 4, 3) := by decide +kernel
set_option maxRecDepth 100000 in
theorem dX12_rows_73 : decode cX12_rows 73 = .ok (.iconst 1, 1) := by decide +kernel
set_option maxRecDepth 100000 in
theorem dX12_rows_74 : decode cX12_rows 74 = .ok (.istore 5, 2) := by decide +kernel
set_option maxRecDepth 100000 in
theorem dX12_rows_76 : decode cX12_rows 76 = .ok (.aload_n 0, 1) := by decide +kernel
set_option maxRecDepth 100000 in
theorem dX12_rows_77 : decode cX12_rows 77 = .ok (.iload 5, 2) := by decide +kernel
set_option maxRecDepth 100000 in
theorem dX12_rows_79 : decode cX12_rows 79 = .ok (.i2l, 1) := by decide +kernel
set_option maxRecDepth 100000 in
theorem dX12_rows_80 : decode cX12_rows 80 = .ok (.invokevirtual 116, 3) := by decide +kernel
set_option maxRecDepth 100000 in
theorem dX12_rows_83 : decode cX12_rows 83 = .ok (.aload_n 0, 1) := by decide +kernel
set_option maxRecDepth 100000 in
theorem dX12_rows_84 : decode cX12_rows 84 = .ok (.getfield 17, 3) := by decide +kernel
set_option maxRecDepth 100000 in
theorem dX12_rows_87 : decode cX12_rows 87 = .ok (.iconst 2, 1) := by decide +kernel
set_option maxRecDepth 100000 in
theorem dX12_rows_88 : decode cX12_rows 88 = .ok (.iload_n 3, 1) := by decide +kernel
set_option maxRecDepth 100000 in
theorem dX12_rows_89 : decode cX12_rows 89 = .ok (.imul, 1) := by decide +kernel
set_option maxRecDepth 100000 in
theorem dX12_rows_90 : decode cX12_rows 90 = .ok (.iload 5, 2) := by decide +kernel
set_option maxRecDepth 100000 in
theorem dX12_rows_92 : decode cX12_rows 92 = .ok (.iadd, 1) := by decide +kernel
set_option maxRecDepth 100000 in
theorem dX12_rows_93 : decode cX12_rows 93 = .ok (.iaload, 1) := by decide +kernel
set_option maxRecDepth 100000 in
theorem dX12_rows_94 : decode cX12_rows 94 = .ok (.istore_n 3, 1) := by decide +kernel
set_option maxRecDepth 100000 in
theorem dX12_rows_95 : decode cX12_rows 95 = .ok (.iinc 4 1, 3) := by decide +kernel
set_option maxRecDepth 100000 in
theorem dX12_rows_98 : decode cX12_rows 98 = .ok (.goto (-50), 3) := by decide +kernel
set_option maxRecDepth 100000 in
theorem dX12_rows_101 : decode cX12_rows 101 = .ok (.iload_n 2, 1) := by decide +kernel
set_option maxRecDepth 100000 in
theorem dX12_rows_102 : decode cX12_rows 102 = .ok (.ireturn, 1) := by decide +kernel
set_option maxRecDepth 100000 in
theorem dX12_beenBehind_0 : decode cX12_beenBehind 0 = .ok (.iconst 0, 1) := by decide +kernel
set_option maxRecDepth 100000 in
theorem dX12_beenBehind_1 : decode cX12_beenBehind 1 = .ok (.istore_n 2, 1) := by decide +kernel
set_option maxRecDepth 100000 in
theorem dX12_beenBehind_2 : decode cX12_beenBehind 2 = .ok (.iconst 0, 1) := by decide +kernel
set_option maxRecDepth 100000 in
theorem dX12_beenBehind_3 : decode cX12_beenBehind 3 = .ok (.istore_n 3, 1) := by decide +kernel
set_option maxRecDepth 100000 in
theorem dX12_beenBehind_4 : decode cX12_beenBehind 4 = .ok (.iload_n 3, 1) := by decide +kernel
set_option maxRecDepth 100000 in
theorem dX12_beenBehind_5 : decode cX12_beenBehind 5 = .ok (.aload_n 0, 1) := by decide +kernel
set_option maxRecDepth 100000 in
theorem dX12_beenBehind_6 : decode cX12_beenBehind 6 = .ok (.getfield 13, 3) := by decide +kernel
set_option maxRecDepth 100000 in
theorem dX12_beenBehind_9 : decode cX12_beenBehind 9 = .ok (.if_icmp .ge 33, 3) := by decide +kernel
set_option maxRecDepth 100000 in
theorem dX12_beenBehind_12 : decode cX12_beenBehind 12 = .ok (.iload_n 2, 1) := by decide +kernel
set_option maxRecDepth 100000 in
theorem dX12_beenBehind_13 : decode cX12_beenBehind 13 = .ok (.aload_n 0, 1) := by decide +kernel
set_option maxRecDepth 100000 in
theorem dX12_beenBehind_14 : decode cX12_beenBehind 14 = .ok (.getfield 93, 3) := by decide +kernel
set_option maxRecDepth 100000 in
theorem dX12_beenBehind_17 : decode cX12_beenBehind 17 = .ok (.bipush 9, 2) := by decide +kernel
set_option maxRecDepth 100000 in
theorem dX12_beenBehind_19 : decode cX12_beenBehind 19 = .ok (.iload_n 1, 1) := by decide +kernel
set_option maxRecDepth 100000 in
theorem dX12_beenBehind_20 : decode cX12_beenBehind 20 = .ok (.imul, 1) := by decide +kernel
set_option maxRecDepth 100000 in
theorem dX12_beenBehind_21 : decode cX12_beenBehind 21 = .ok (.iload_n 3, 1) := by decide +kernel
set_option maxRecDepth 100000 in
theorem dX12_beenBehind_22 : decode cX12_beenBehind 22 = .ok (.iadd, 1) := by decide +kernel
set_option maxRecDepth 100000 in
theorem dX12_beenBehind_23 : decode cX12_beenBehind 23 = .ok (.baload, 1) := by decide +kernel
set_option maxRecDepth 100000 in
theorem dX12_beenBehind_24 : decode cX12_beenBehind 24 = .ok (.ifCond .eq 9, 3) := by decide +kernel
set_option maxRecDepth 100000 in
theorem dX12_beenBehind_27 : decode cX12_beenBehind 27 = .ok (.iconst 1, 1) := by decide +kernel
set_option maxRecDepth 100000 in
theorem dX12_beenBehind_28 : decode cX12_beenBehind 28 = .ok (.iload_n 3, 1) := by decide +kernel
set_option maxRecDepth 100000 in
theorem dX12_beenBehind_29 : decode cX12_beenBehind 29 = .ok (.ishl, 1) := by decide +kernel
set_option maxRecDepth 100000 in
theorem dX12_beenBehind_30 : decode cX12_beenBehind 30 = .ok (.goto 4, 3) := by decide +kernel
set_option maxRecDepth 100000 in
theorem dX12_beenBehind_33 : decode cX12_beenBehind 33 = .ok (.iconst 0, 1) := by decide +kernel
set_option maxRecDepth 100000 in
theorem dX12_beenBehind_34 : decode cX12_beenBehind 34 = .ok (.ior, 1) := by decide +kernel
set_option maxRecDepth 100000 in
theorem dX12_beenBehind_35 : decode cX12_beenBehind 35 = .ok (.istore_n 2, 1) := by decide +kernel
set_option maxRecDepth 100000 in
theorem dX12_beenBehind_36 : decode cX12_beenBehind 36 = .ok (.iinc 3 1, 3) := by decide +kernel
set_option maxRecDepth 100000 in
theorem dX12_beenBehind_39 : decode cX12_beenBehind 39 = .ok (.goto (-35), 3) := by decide +kernel
set_option maxRecDepth 100000 in
theorem dX12_beenBehind_42 : decode cX12_beenBehind 42 = .ok (.iload_n 2, 1) := by decide +kernel
set_option maxRecDepth 100000 in
theorem dX12_beenBehind_43 : decode cX12_beenBehind 43 = .ok (.ireturn, 1) := by decide +kernel
set_option maxRecDepth 100000 in
theorem dX12_been_0 : decode cX12_been 0 = .ok (.aload_n 0, 1) := by decide +kernel
set_option maxRecDepth 100000 in
theorem dX12_been_1 : decode cX12_been 1 = .ok (.iconst 0, 1) := by decide +kernel
set_option maxRecDepth 100000 in
theorem dX12_been_2 : decode cX12_been 2 = .ok (.putfield 106, 3) := by decide +kernel
set_option maxRecDepth 100000 in
theorem dX12_been_5 : decode cX12_been 5 = .ok (.aload_n 0, 1) := by decide +kernel
set_option maxRecDepth 100000 in
theorem dX12_been_6 : decode cX12_been 6 = .ok (.invokevirtual 451, 3) := by decide +kernel
set_option maxRecDepth 100000 in
theorem dX12_been_9 : decode cX12_been 9 = .ok (.istore_n 2, 1) := by decide +kernel
set_option maxRecDepth 100000 in
theorem dX12_been_10 : decode cX12_been 10 = .ok (.iload_n 2, 1) := by decide +kernel
set_option maxRecDepth 100000 in
theorem dX12_been_11 : decode cX12_been 11 = .ok (.ifCond .lt 14, 3) := by decide +kernel
set_option maxRecDepth 100000 in
theorem dX12_been_14 : decode cX12_been 14 = .ok (.iload_n 1, 1) := by decide +kernel
set_option maxRecDepth 100000 in
theorem dX12_been_15 : decode cX12_been 15 = .ok (.i2l, 1) := by decide +kernel
set_option maxRecDepth 100000 in
theorem dX12_been_16 : decode cX12_been 16 = .ok (.lconst 0, 1) := by decide +kernel
set_option maxRecDepth 100000 in
theorem dX12_been_17 : decode cX12_been 17 = .ok (.iload_n 2, 1) := by decide +kernel
set_option maxRecDepth 100000 in
theorem dX12_been_18 : decode cX12_been 18 = .ok (.i2l, 1) := by decide +kernel
set_option maxRecDepth 100000 in
theorem dX12_been_19 : decode cX12_been 19 = .ok (.invokestatic 120, 3) := by decide +kernel
set_option maxRecDepth 100000 in
theorem dX12_been_22 : decode cX12_been 22 = .ok (.ifCond .ne 5, 3) := by decide +kernel
set_option maxRecDepth 100000 in
theorem dX12_been_25 : decode cX12_been 25 = .ok (.iconst (-1), 1) := by decide +kernel
set_option maxRecDepth 100000 in
theorem dX12_been_26 : decode cX12_been 26 = .ok (.ireturn, 1) := by decide +kernel
set_option maxRecDepth 100000 in
theorem dX12_been_27 : decode cX12_been 27 = .ok (.aload_n 0, 1) := by decide +kernel
set_option maxRecDepth 100000 in
theorem dX12_been_28 : decode cX12_been 28 = .ok (.iload_n 2, 1) := by decide +kernel
set_option maxRecDepth 100000 in
theorem dX12_been_29 : decode cX12_been 29 = .ok (.invokevirtual 454, 3) := by decide +kernel
set_option maxRecDepth 100000 in
theorem dX12_been_32 : decode cX12_been 32 = .ok (.aload_n 0, 1) := by decide +kernel
set_option maxRecDepth 100000 in
theorem dX12_been_33 : decode cX12_been 33 = .ok (.iconst 0, 1) := by decide +kernel
set_option maxRecDepth 100000 in
theorem dX12_been_34 : decode cX12_been 34 = .ok (.putfield 113, 3) := by decide +kernel
set_option maxRecDepth 100000 in
theorem dX12_been_37 : decode cX12_been 37 = .ok (.aload_n 0, 1) := by decide +kernel
set_option maxRecDepth 100000 in
theorem dX12_been_38 : decode cX12_been 38 = .ok (.aload_n 0, 1) := by decide +kernel
set_option maxRecDepth 100000 in
theorem dX12_been_39 : decode cX12_been 39 = .ok (.iload_n 1, 1) := by decide +kernel
set_option maxRecDepth 100000 in
theorem dX12_been_40 : decode cX12_been 40 = .ok (.invokevirtual 457, 3) := by decide +kernel
set_option maxRecDepth 100000 in
theorem dX12_been_43 : decode cX12_been 43 = .ok (.invokestatic 273, 3) := by decide +kernel
set_option maxRecDepth 100000 in
theorem dX12_been_46 : decode cX12_been 46 = .ok (.i2l, 1) := by decide +kernel
set_option maxRecDepth 100000 in
theorem dX12_been_47 : decode cX12_been 47 = .ok (.invokevirtual 116, 3) := by decide +kernel
set_option maxRecDepth 100000 in
theorem dX12_been_50 : decode cX12_been 50 = .ok (.aload_n 0, 1) := by decide +kernel
set_option maxRecDepth 100000 in
theorem dX12_been_51 : decode cX12_been 51 = .ok (.iload_n 1, 1) := by decide +kernel
set_option maxRecDepth 100000 in
theorem dX12_been_52 : decode cX12_been 52 = .ok (.invokevirtual 457, 3) := by decide +kernel
set_option maxRecDepth 100000 in
theorem dX12_been_55 : decode cX12_been 55 = .ok (.ireturn, 1) := by decide +kernel
set_option maxRecDepth 100000 in
theorem dX12_ask_0 : decode cX12_ask 0 = .ok (.aload_n 0, 1) := by decide +kernel
set_option maxRecDepth 100000 in
theorem dX12_ask_1 : decode cX12_ask 1 = .ok (.iconst 0, 1) := by decide +kernel
set_option maxRecDepth 100000 in
theorem dX12_ask_2 : decode cX12_ask 2 = .ok (.putfield 106, 3) := by decide +kernel
set_option maxRecDepth 100000 in
theorem dX12_ask_5 : decode cX12_ask 5 = .ok (.aload_n 0, 1) := by decide +kernel
set_option maxRecDepth 100000 in
theorem dX12_ask_6 : decode cX12_ask 6 = .ok (.invokevirtual 451, 3) := by decide +kernel
set_option maxRecDepth 100000 in
theorem dX12_ask_9 : decode cX12_ask 9 = .ok (.istore_n 1, 1) := by decide +kernel
set_option maxRecDepth 100000 in
theorem dX12_ask_10 : decode cX12_ask 10 = .ok (.iload_n 1, 1) := by decide +kernel
set_option maxRecDepth 100000 in
theorem dX12_ask_11 : decode cX12_ask 11 = .ok (.ifCond .ge 6, 3) := by decide +kernel
set_option maxRecDepth 100000 in
theorem dX12_ask_14 : decode cX12_ask 14 = .ok (.bipush (-2), 2) := by decide +kernel
set_option maxRecDepth 100000 in
theorem dX12_ask_16 : decode cX12_ask 16 = .ok (.ireturn, 1) := by decide +kernel
set_option maxRecDepth 100000 in
theorem dX12_ask_17 : decode cX12_ask 17 = .ok (.aload_n 0, 1) := by decide +kernel
set_option maxRecDepth 100000 in
theorem dX12_ask_18 : decode cX12_ask 18 = .ok (.iload_n 1, 1) := by decide +kernel
set_option maxRecDepth 100000 in
theorem dX12_ask_19 : decode cX12_ask 19 = .ok (.invokevirtual 454, 3) := by decide +kernel
set_option maxRecDepth 100000 in
theorem dX12_ask_22 : decode cX12_ask 22 = .ok (.bipush (-2), 2) := by decide +kernel
set_option maxRecDepth 100000 in
theorem dX12_ask_24 : decode cX12_ask 24 = .ok (.istore_n 2, 1) := by decide +kernel
set_option maxRecDepth 100000 in
theorem dX12_ask_25 : decode cX12_ask 25 = .ok (.iconst 0, 1) := by decide +kernel
set_option maxRecDepth 100000 in
theorem dX12_ask_26 : decode cX12_ask 26 = .ok (.istore_n 3, 1) := by decide +kernel
set_option maxRecDepth 100000 in
theorem dX12_ask_27 : decode cX12_ask 27 = .ok (.iconst 0, 1) := by decide +kernel
set_option maxRecDepth 100000 in
theorem dX12_ask_28 : decode cX12_ask 28 = .ok (.istore 4, 2) := by decide +kernel
set_option maxRecDepth 100000 in
theorem dX12_ask_30 : decode cX12_ask 30 = .ok (.iload 4, 2) := by decide +kernel
set_option maxRecDepth 100000 in
theorem dX12_ask_32 : decode cX12_ask 32 = .ok (.iload_n 1, 1) := by decide +kernel
set_option maxRecDepth 100000 in
theorem dX12_ask_33 : decode cX12_ask 33 = .ok (.if_icmp .gt 40, 3) := by decide +kernel
set_option maxRecDepth 100000 in
theorem dX12_ask_36 : decode cX12_ask 36 = .ok (.aload_n 0, 1) := by decide +kernel
set_option maxRecDepth 100000 in
theorem dX12_ask_37 : decode cX12_ask 37 = .ok (.iload 4, 2) := by decide +kernel
set_option maxRecDepth 100000 in
theorem dX12_ask_39 : decode cX12_ask 39 = .ok (.invokevirtual 457, 3) := by decide +kernel
set_option maxRecDepth 100000 in
theorem dX12_ask_42 : decode cX12_ask 42 = .ok (.invokestatic 273, 3) := by decide +kernel
set_option maxRecDepth 100000 in
theorem dX12_ask_45 : decode cX12_ask 45 = .ok (.istore 5, 2) := by decide +kernel
set_option maxRecDepth 100000 in
theorem dX12_ask_47 : decode cX12_ask 47 = .ok (.iload 5, 2) := by decide +kernel
set_option maxRecDepth 100000 in
theorem dX12_ask_49 : decode cX12_ask 49 = .ok (.iload_n 3, 1) := by decide +kernel
set_option maxRecDepth 100000 in
theorem dX12_ask_50 : decode cX12_ask 50 = .ok (.if_icmp .le 8, 3) := by decide +kernel
set_option maxRecDepth 100000 in
theorem dX12_ask_53 : decode cX12_ask 53 = .ok (.iload 4, 2) := by decide +kernel
set_option maxRecDepth 100000 in
theorem dX12_ask_55 : decode cX12_ask 55 = .ok (.goto 4, 3) := by decide +kernel
set_option maxRecDepth 100000 in
theorem dX12_ask_58 : decode cX12_ask 58 = .ok (.iload_n 2, 1) := by decide +kernel
set_option maxRecDepth 100000 in
theorem dX12_ask_59 : decode cX12_ask 59 = .ok (.istore_n 2, 1) := by decide +kernel
set_option maxRecDepth 100000 in
theorem dX12_ask_60 : decode cX12_ask 60 = .ok (.iload_n 3, 1) := by decide +kernel
set_option maxRecDepth 100000 in
theorem dX12_ask_61 : decode cX12_ask 61 = .ok (.iload 5, 2) := by decide +kernel
set_option maxRecDepth 100000 in
theorem dX12_ask_63 : decode cX12_ask 63 = .ok (.invokestatic 281, 3) := by decide +kernel
set_option maxRecDepth 100000 in
theorem dX12_ask_66 : decode cX12_ask 66 = .ok (.istore_n 3, 1) := by decide +kernel
set_option maxRecDepth 100000 in
theorem dX12_ask_67 : decode cX12_ask 67 = .ok (.iinc 4 1, 3) := by decide +kernel
set_option maxRecDepth 100000 in
theorem dX12_ask_70 : decode cX12_ask 70 = .ok (.goto (-40), 3) := by decide +kernel
set_option maxRecDepth 100000 in
theorem dX12_ask_73 : decode cX12_ask 73 = .ok (.iload_n 2, 1) := by decide +kernel
set_option maxRecDepth 100000 in
theorem dX12_ask_74 : decode cX12_ask 74 = .ok (.ifCond .lt 14, 3) := by decide +kernel
set_option maxRecDepth 100000 in
theorem dX12_ask_77 : decode cX12_ask 77 = .ok (.aload_n 0, 1) := by decide +kernel
set_option maxRecDepth 100000 in
theorem dX12_ask_78 : decode cX12_ask 78 = .ok (.iconst 0, 1) := by decide +kernel
set_option maxRecDepth 100000 in
theorem dX12_ask_79 : decode cX12_ask 79 = .ok (.putfield 113, 3) := by decide +kernel
set_option maxRecDepth 100000 in
theorem dX12_ask_82 : decode cX12_ask 82 = .ok (.aload_n 0, 1) := by decide +kernel
set_option maxRecDepth 100000 in
theorem dX12_ask_83 : decode cX12_ask 83 = .ok (.iload_n 3, 1) := by decide +kernel
set_option maxRecDepth 100000 in
theorem dX12_ask_84 : decode cX12_ask 84 = .ok (.i2l, 1) := by decide +kernel
set_option maxRecDepth 100000 in
theorem dX12_ask_85 : decode cX12_ask 85 = .ok (.invokevirtual 116, 3) := by decide +kernel
set_option maxRecDepth 100000 in
theorem dX12_ask_88 : decode cX12_ask 88 = .ok (.iload_n 2, 1) := by decide +kernel
set_option maxRecDepth 100000 in
theorem dX12_ask_89 : decode cX12_ask 89 = .ok (.ireturn, 1) := by decide +kernel
set_option maxRecDepth 100000 in
theorem dX12_odds_0 : decode cX12_odds 0 = .ok (.aload_n 0, 1) := by decide +kernel
set_option maxRecDepth 100000 in
theorem dX12_odds_1 : decode cX12_odds 1 = .ok (.iconst 0, 1) := by decide +kernel
set_option maxRecDepth 100000 in
theorem dX12_odds_2 : decode cX12_odds 2 = .ok (.putfield 106, 3) := by decide +kernel
set_option maxRecDepth 100000 in
theorem dX12_odds_5 : decode cX12_odds 5 = .ok (.aload_n 0, 1) := by decide +kernel
set_option maxRecDepth 100000 in
theorem dX12_odds_6 : decode cX12_odds 6 = .ok (.iload_n 1, 1) := by decide +kernel
set_option maxRecDepth 100000 in
theorem dX12_odds_7 : decode cX12_odds 7 = .ok (.invokevirtual 317, 3) := by decide +kernel
set_option maxRecDepth 100000 in
theorem dX12_odds_10 : decode cX12_odds 10 = .ok (.ifCond .eq 27, 3) := by decide +kernel
set_option maxRecDepth 100000 in
theorem dX12_odds_13 : decode cX12_odds 13 = .ok (.iload_n 2, 1) := by decide +kernel
set_option maxRecDepth 100000 in
theorem dX12_odds_14 : decode cX12_odds 14 = .ok (.i2l, 1) := by decide +kernel
set_option maxRecDepth 100000 in
theorem dX12_odds_15 : decode cX12_odds 15 = .ok (.lconst 0, 1) := by decide +kernel
set_option maxRecDepth 100000 in
theorem dX12_odds_16 : decode cX12_odds 16 = .ok (.ldc2_w 428, 3) := by decide +kernel
set_option maxRecDepth 100000 in
theorem dX12_odds_19 : decode cX12_odds 19 = .ok (.invokestatic 120, 3) := by decide +kernel
set_option maxRecDepth 100000 in
theorem dX12_odds_22 : decode cX12_odds 22 = .ok (.ifCond .eq 15, 3) := by decide +kernel
set_option maxRecDepth 100000 in
theorem dX12_odds_25 : decode cX12_odds 25 = .ok (.iload_n 3, 1) := by decide +kernel
set_option maxRecDepth 100000 in
theorem dX12_odds_26 : decode cX12_odds 26 = .ok (.i2l, 1) := by decide +kernel
set_option maxRecDepth 100000 in
theorem dX12_odds_27 : decode cX12_odds 27 = .ok (.lconst 0, 1) := by decide +kernel
set_option maxRecDepth 100000 in
theorem dX12_odds_28 : decode cX12_odds 28 = .ok (.ldc2_w 460, 3) := by decide +kernel
set_option maxRecDepth 100000 in
theorem dX12_odds_31 : decode cX12_odds 31 = .ok (.invokestatic 120, 3) := by decide +kernel
set_option maxRecDepth 100000 in
theorem dX12_odds_34 : decode cX12_odds 34 = .ok (.ifCond .ne 5, 3) := by decide +kernel
set_option maxRecDepth 100000 in
theorem dX12_odds_37 : decode cX12_odds 37 = .ok (.iconst (-1), 1) := by decide +kernel
set_option maxRecDepth 100000 in
theorem dX12_odds_38 : decode cX12_odds 38 = .ok (.ireturn, 1) := by decide +kernel
set_option maxRecDepth 100000 in
theorem dX12_odds_39 : decode cX12_odds 39 = .ok (.aload_n 0, 1) := by decide +kernel
set_option maxRecDepth 100000 in
theorem dX12_odds_40 : decode cX12_odds 40 = .ok (.aload_n 0, 1) := by decide +kernel
set_option maxRecDepth 100000 in
theorem dX12_odds_41 : decode cX12_odds 41 = .ok (.getfield 33, 3) := by decide +kernel
set_option maxRecDepth 100000 in
theorem dX12_odds_44 : decode cX12_odds 44 = .ok (.iload_n 1, 1) := by decide +kernel
set_option maxRecDepth 100000 in
theorem dX12_odds_45 : decode cX12_odds 45 = .ok (.invokevirtual 270, 3) := by decide +kernel
set_option maxRecDepth 100000 in
theorem dX12_odds_48 : decode cX12_odds 48 = .ok (.istore 4, 2) := by decide +kernel
set_option maxRecDepth 100000 in
theorem dX12_odds_50 : decode cX12_odds 50 = .ok (.iload 4, 2) := by decide +kernel
set_option maxRecDepth 100000 in
theorem dX12_odds_52 : decode cX12_odds 52 = .ok (.invokestatic 273, 3) := by decide +kernel
set_option maxRecDepth 100000 in
theorem dX12_odds_55 : decode cX12_odds 55 = .ok (.bipush 8, 2) := by decide +kernel
set_option maxRecDepth 100000 in
theorem dX12_odds_57 : decode cX12_odds 57 = .ok (.if_icmp .le 6, 3) := by decide +kernel
set_option maxRecDepth 100000 in
theorem dX12_odds_60 : decode cX12_odds 60 = .ok (.bipush (-2), 2) := by decide +kernel
set_option maxRecDepth 100000 in
theorem dX12_odds_62 : decode cX12_odds 62 = .ok (.ireturn, 1) := by decide +kernel
set_option maxRecDepth 100000 in
theorem dX12_odds_63 : decode cX12_odds 63 = .ok (.lconst 0, 1) := by decide +kernel
set_option maxRecDepth 100000 in
theorem dX12_odds_64 : decode cX12_odds 64 = .ok (.lstore 5, 2) := by decide +kernel
set_option maxRecDepth 100000 in
theorem dX12_odds_66 : decode cX12_odds 66 = .ok (.lconst 1, 1) := by decide +kernel
set_option maxRecDepth 100000 in
theorem dX12_odds_67 : decode cX12_odds 67 = .ok (.lstore 7, 2) := by decide +kernel
set_option maxRecDepth 100000 in
theorem dX12_odds_69 : decode cX12_odds 69 = .ok (.iload 4, 2) := by decide +kernel
set_option maxRecDepth 100000 in
theorem dX12_odds_71 : decode cX12_odds 71 = .ok (.invokestatic 273, 3) := by decide +kernel
set_option maxRecDepth 100000 in
theorem dX12_odds_74 : decode cX12_odds 74 = .ok (.istore 9, 2) := by decide +kernel
set_option maxRecDepth 100000 in
theorem dX12_odds_76 : decode cX12_odds 76 = .ok (.iload 9, 2) := by decide +kernel
set_option maxRecDepth 100000 in
theorem dX12_odds_78 : decode cX12_odds 78 = .ok (.ifCond .le 17, 3) := by decide +kernel
set_option maxRecDepth 100000 in
theorem dX12_odds_81 : decode cX12_odds 81 = .ok (.lload 7, 2) := by decide +kernel
set_option maxRecDepth 100000 in
theorem dX12_odds_83 : decode cX12_odds 83 = .ok (.ldc2_w 460, 3) := by decide +kernel
set_option maxRecDepth 100000 in
theorem dX12_odds_86 : decode cX12_odds 86 = .ok (.lmul, 1) := by decide +kernel
set_option maxRecDepth 100000 in
theorem dX12_odds_87 : decode cX12_odds 87 = .ok (.lstore 7, 2) := by decide +kernel
set_option maxRecDepth 100000 in
theorem dX12_odds_89 : decode cX12_odds 89 = .ok (.iinc 9 (-1), 3) := by decide +kernel
set_option maxRecDepth 100000 in
theorem dX12_odds_92 : decode cX12_odds 92 = .ok (.goto (-16), 3) := by decide +kernel
set_option maxRecDepth 100000 in
theorem dX12_odds_95 : decode cX12_odds 95 = .ok (.iconst 0, 1) := by decide +kernel
set_option maxRecDepth 100000 in
theorem dX12_odds_96 : decode cX12_odds 96 = .ok (.istore 9, 2) := by decide +kernel
set_option maxRecDepth 100000 in
theorem dX12_odds_98 : decode cX12_odds 98 = .ok (.iload 9, 2) := by decide +kernel
set_option maxRecDepth 100000 in
theorem dX12_odds_100 : decode cX12_odds 100 = .ok (.iload 4, 2) := by decide +kernel
set_option maxRecDepth 100000 in
theorem dX12_odds_102 : decode cX12_odds 102 = .ok (.if_icmp .gt 108, 3) := by decide +kernel
set_option maxRecDepth 100000 in
theorem dX12_odds_105 : decode cX12_odds 105 = .ok (.iload 9, 2) := by decide +kernel
set_option maxRecDepth 100000 in
theorem dX12_odds_107 : decode cX12_odds 107 = .ok (.iload 4, 2) := by decide +kernel
set_option maxRecDepth 100000 in
theorem dX12_odds_109 : decode cX12_odds 109 = .ok (.iconst (-1), 1) := by decide +kernel
set_option maxRecDepth 100000 in
theorem dX12_odds_110 : decode cX12_odds 110 = .ok (.ixor, 1) := by decide +kernel
set_option maxRecDepth 100000 in
theorem dX12_odds_111 : decode cX12_odds 111 = .ok (.iand, 1) := by decide +kernel
set_option maxRecDepth 100000 in
theorem dX12_odds_112 : decode cX12_odds 112 = .ok (.ifCond .ne 92, 3) := by decide +kernel
set_option maxRecDepth 100000 in
theorem dX12_odds_115 : decode cX12_odds 115 = .ok (.lconst 1, 1) := by decide +kernel
set_option maxRecDepth 100000 in
theorem dX12_odds_116 : decode cX12_odds 116 = .ok (.lstore 10, 2) := by decide +kernel
set_option maxRecDepth 100000 in
theorem dX12_odds_118 : decode cX12_odds 118 = .ok (.iconst 0, 1) := by decide +kernel
set_option maxRecDepth 100000 in
theorem dX12_odds_119 : decode cX12_odds 119 = .ok (.istore 12, 2) := by decide +kernel
set_option maxRecDepth 100000 in
theorem dX12_odds_121 : decode cX12_odds 121 = .ok (.iload 12, 2) := by decide +kernel
set_option maxRecDepth 100000 in
theorem dX12_odds_123 : decode cX12_odds 123 = .ok (.aload_n 0, 1) := by decide +kernel
set_option maxRecDepth 100000 in
theorem dX12_odds_124 : decode cX12_odds 124 = .ok (.getfield 127, 3) := by decide +kernel
set_option maxRecDepth 100000 in
theorem dX12_odds_127 : decode cX12_odds 127 = .ok (.if_icmp .ge 48, 3) := by decide +kernel
set_option maxRecDepth 100000 in
theorem dX12_odds_130 : decode cX12_odds 130 = .ok (.lload 10, 2) := by decide +kernel
set_option maxRecDepth 100000 in
theorem dX12_odds_132 : decode cX12_odds 132 = .ok (.iload 4, 2) := by decide +kernel
set_option maxRecDepth 100000 in
theorem dX12_odds_134 : decode cX12_odds 134 = .ok (.iload 12, 2) := by decide +kernel
set_option maxRecDepth 100000 in
theorem dX12_odds_136 : decode cX12_odds 136 = .ok (.invokestatic 288, 3) := by decide +kernel
set_option maxRecDepth 100000 in
theorem dX12_odds_139 : decode cX12_odds 139 = .ok (.ifCond .ne 7, 3) := by decide +kernel
set_option maxRecDepth 100000 in
theorem dX12_odds_142 : decode cX12_odds 142 = .ok (.lconst 1, 1) := by decide +kernel
set_option maxRecDepth 100000 in
theorem dX12_odds_143 : decode cX12_odds 143 = .ok (.goto 23, 3) := by decide +kernel
set_option maxRecDepth 100000 in
theorem dX12_odds_146 : decode cX12_odds 146 = .ok (.iload 9, 2) := by decide +kernel
set_option maxRecDepth 100000 in
theorem dX12_odds_148 : decode cX12_odds 148 = .ok (.iload 12, 2) := by decide +kernel
set_option maxRecDepth 100000 in
theorem dX12_odds_150 : decode cX12_odds 150 = .ok (.invokestatic 288, 3) := by decide +kernel
set_option maxRecDepth 100000 in
theorem dX12_odds_153 : decode cX12_odds 153 = .ok (.ifCond .eq 11, 3) := by decide +kernel
set_option maxRecDepth 100000 in
theorem dX12_odds_156 : decode cX12_odds 156 = .ok (.bipush 10, 2) := by decide +kernel
set_option maxRecDepth 100000 in
theorem dX12_odds_158 : decode cX12_odds 158 = .ok (.iload_n 3, 1) := by decide +kernel
set_option maxRecDepth 100000 in
theorem dX12_odds_159 : decode cX12_odds 159 = .ok (.isub, 1) := by decide +kernel
set_option maxRecDepth 100000 in
theorem dX12_odds_160 : decode cX12_odds 160 = .ok (.i2l, 1) := by decide +kernel
set_option maxRecDepth 100000 in
theorem dX12_odds_161 : decode cX12_odds 161 = .ok (.goto 5, 3) := by decide +kernel
set_option maxRecDepth 100000 in
theorem dX12_odds_164 : decode cX12_odds 164 = .ok (.iload_n 3, 1) := by decide +kernel
set_option maxRecDepth 100000 in
theorem dX12_odds_165 : decode cX12_odds 165 = .ok (.i2l, 1) := by decide +kernel
set_option maxRecDepth 100000 in
theorem dX12_odds_166 : decode cX12_odds 166 = .ok (.lmul, 1) := by decide +kernel
set_option maxRecDepth 100000 in
theorem dX12_odds_167 : decode cX12_odds 167 = .ok (.lstore 10, 2) := by decide +kernel
set_option maxRecDepth 100000 in
theorem dX12_odds_169 : decode cX12_odds 169 = .ok (.iinc 12 1, 3) := by decide +kernel
set_option maxRecDepth 100000 in
theorem dX12_odds_172 : decode cX12_odds 172 = .ok (.goto (-51), 3) := by decide +kernel
set_option maxRecDepth 100000 in
theorem dX12_odds_175 : decode cX12_odds 175 = .ok (.aload_n 0, 1) := by decide +kernel
set_option maxRecDepth 100000 in
theorem dX12_odds_176 : decode cX12_odds 176 = .ok (.aload_n 0, 1) := by decide +kernel
set_option maxRecDepth 100000 in
theorem dX12_odds_177 : decode cX12_odds 177 = .ok (.getfield 33, 3) := by decide +kernel
set_option maxRecDepth 100000 in
theorem dX12_odds_180 : decode cX12_odds 180 = .ok (.iload 9, 2) := by decide +kernel
set_option maxRecDepth 100000 in
theorem dX12_odds_182 : decode cX12_odds 182 = .ok (.invokevirtual 297, 3) := by decide +kernel
set_option maxRecDepth 100000 in
theorem dX12_odds_185 : decode cX12_odds 185 = .ok (.lload 5, 2) := by decide +kernel
set_option maxRecDepth 100000 in
theorem dX12_odds_187 : decode cX12_odds 187 = .ok (.aload_n 0, 1) := by decide +kernel
set_option maxRecDepth 100000 in
theorem dX12_odds_188 : decode cX12_odds 188 = .ok (.invokevirtual 300, 3) := by decide +kernel
set_option maxRecDepth 100000 in
theorem dX12_odds_191 : decode cX12_odds 191 = .ok (.iload_n 2, 1) := by decide +kernel
set_option maxRecDepth 100000 in
theorem dX12_odds_192 : decode cX12_odds 192 = .ok (.if_icmp .ne 8, 3) := by decide +kernel
set_option maxRecDepth 100000 in
theorem dX12_odds_195 : decode cX12_odds 195 = .ok (.lload 10, 2) := by decide +kernel
set_option maxRecDepth 100000 in
theorem dX12_odds_197 : decode cX12_odds 197 = .ok (.goto 4, 3) := by decide +kernel
set_option maxRecDepth 100000 in
theorem dX12_odds_200 : decode cX12_odds 200 = .ok (.lconst 0, 1) := by decide +kernel
set_option maxRecDepth 100000 in
theorem dX12_odds_201 : decode cX12_odds 201 = .ok (.ladd, 1) := by decide +kernel
set_option maxRecDepth 100000 in
theorem dX12_odds_202 : decode cX12_odds 202 = .ok (.lstore 5, 2) := by decide +kernel
set_option maxRecDepth 100000 in
theorem dX12_odds_204 : decode cX12_odds 204 = .ok (.iinc 9 1, 3) := by decide +kernel
set_option maxRecDepth 100000 in
theorem dX12_odds_207 : decode cX12_odds 207 = .ok (.goto (-109), 3) := by decide +kernel
set_option maxRecDepth 100000 in
theorem dX12_odds_210 : decode cX12_odds 210 = .ok (.aload_n 0, 1) := by decide +kernel
set_option maxRecDepth 100000 in
theorem dX12_odds_211 : decode cX12_odds 211 = .ok (.lload 5, 2) := by decide +kernel
set_option maxRecDepth 100000 in
theorem dX12_odds_213 : decode cX12_odds 213 = .ok (.lload 7, 2) := by decide +kernel
set_option maxRecDepth 100000 in
theorem dX12_odds_215 : decode cX12_odds 215 = .ok (.invokevirtual 424, 3) := by decide +kernel
set_option maxRecDepth 100000 in
theorem dX12_odds_218 : decode cX12_odds 218 = .ok (.iconst 0, 1) := by decide +kernel
set_option maxRecDepth 100000 in
theorem dX12_odds_219 : decode cX12_odds 219 = .ok (.ireturn, 1) := by decide +kernel
set_option maxRecDepth 100000 in
theorem dX12_gets_0 : decode cX12_gets 0 = .ok (.iload_n 0, 1) := by decide +kernel
set_option maxRecDepth 100000 in
theorem dX12_gets_1 : decode cX12_gets 1 = .ok (.iload_n 1, 1) := by decide +kernel
set_option maxRecDepth 100000 in
theorem dX12_gets_2 : decode cX12_gets 2 = .ok (.iadd, 1) := by decide +kernel
set_option maxRecDepth 100000 in
theorem dX12_gets_3 : decode cX12_gets 3 = .ok (.iload_n 2, 1) := by decide +kernel
set_option maxRecDepth 100000 in
theorem dX12_gets_4 : decode cX12_gets 4 = .ok (.if_icmp .gt 7, 3) := by decide +kernel
set_option maxRecDepth 100000 in
theorem dX12_gets_7 : decode cX12_gets 7 = .ok (.iload_n 0, 1) := by decide +kernel
set_option maxRecDepth 100000 in
theorem dX12_gets_8 : decode cX12_gets 8 = .ok (.goto 4, 3) := by decide +kernel
set_option maxRecDepth 100000 in
theorem dX12_gets_11 : decode cX12_gets 11 = .ok (.iconst 0, 1) := by decide +kernel
set_option maxRecDepth 100000 in
theorem dX12_gets_12 : decode cX12_gets 12 = .ok (.ireturn, 1) := by decide +kernel
set_option maxRecDepth 100000 in
theorem dX12_isRest_0 : decode cX12_isRest 0 = .ok (.iconst 1, 1) := by decide +kernel
set_option maxRecDepth 100000 in
theorem dX12_isRest_1 : decode cX12_isRest 1 = .ok (.istore_n 3, 1) := by decide +kernel
set_option maxRecDepth 100000 in
theorem dX12_isRest_2 : decode cX12_isRest 2 = .ok (.iconst 0, 1) := by decide +kernel
set_option maxRecDepth 100000 in
theorem dX12_isRest_3 : decode cX12_isRest 3 = .ok (.istore 4, 2) := by decide +kernel
set_option maxRecDepth 100000 in
theorem dX12_isRest_5 : decode cX12_isRest 5 = .ok (.iload 4, 2) := by decide +kernel
set_option maxRecDepth 100000 in
theorem dX12_isRest_7 : decode cX12_isRest 7 = .ok (.iload_n 2, 1) := by decide +kernel
set_option maxRecDepth 100000 in
theorem dX12_isRest_8 : decode cX12_isRest 8 = .ok (.if_icmp .gt 35, 3) := by decide +kernel
set_option maxRecDepth 100000 in
theorem dX12_isRest_11 : decode cX12_isRest 11 = .ok (.iload_n 3, 1) := by decide +kernel
set_option maxRecDepth 100000 in
theorem dX12_isRest_12 : decode cX12_isRest 12 = .ok (.ifCond .eq 23, 3) := by decide +kernel
set_option maxRecDepth 100000 in
theorem dX12_isRest_15 : decode cX12_isRest 15 = .ok (.iload 4, 2) := by decide +kernel
set_option maxRecDepth 100000 in
theorem dX12_isRest_17 : decode cX12_isRest 17 = .ok (.iload_n 1, 1) := by decide +kernel
set_option maxRecDepth 100000 in
theorem dX12_isRest_18 : decode cX12_isRest 18 = .ok (.iload_n 2, 1) := by decide +kernel
set_option maxRecDepth 100000 in
theorem dX12_isRest_19 : decode cX12_isRest 19 = .ok (.invokestatic 462, 3) := by decide +kernel
set_option maxRecDepth 100000 in
theorem dX12_isRest_22 : decode cX12_isRest 22 = .ok (.iload_n 0, 1) := by decide +kernel
set_option maxRecDepth 100000 in
theorem dX12_isRest_23 : decode cX12_isRest 23 = .ok (.iload_n 1, 1) := by decide +kernel
set_option maxRecDepth 100000 in
theorem dX12_isRest_24 : decode cX12_isRest 24 = .ok (.iload_n 2, 1) := by decide +kernel
set_option maxRecDepth 100000 in
theorem dX12_isRest_25 : decode cX12_isRest 25 = .ok (.invokestatic 462, 3) := by decide +kernel
set_option maxRecDepth 100000 in
theorem dX12_isRest_28 : decode cX12_isRest 28 = .ok (.if_icmp .gt 7, 3) := by decide +kernel
set_option maxRecDepth 100000 in
theorem dX12_isRest_31 : decode cX12_isRest 31 = .ok (.iconst 1, 1) := by decide +kernel
set_option maxRecDepth 100000 in
theorem dX12_isRest_32 : decode cX12_isRest 32 = .ok (.goto 4, 3) := by decide +kernel
set_option maxRecDepth 100000 in
theorem dX12_isRest_35 : decode cX12_isRest 35 = .ok (.iconst 0, 1) := by decide +kernel
set_option maxRecDepth 100000 in
theorem dX12_isRest_36 : decode cX12_isRest 36 = .ok (.istore_n 3, 1) := by decide +kernel
set_option maxRecDepth 100000 in
theorem dX12_isRest_37 : decode cX12_isRest 37 = .ok (.iinc 4 1, 3) := by decide +kernel
set_option maxRecDepth 100000 in
theorem dX12_isRest_40 : decode cX12_isRest 40 = .ok (.goto (-35), 3) := by decide +kernel
set_option maxRecDepth 100000 in
theorem dX12_isRest_43 : decode cX12_isRest 43 = .ok (.iload_n 3, 1) := by decide +kernel
set_option maxRecDepth 100000 in
theorem dX12_isRest_44 : decode cX12_isRest 44 = .ok (.ireturn, 1) := by decide +kernel
set_option maxRecDepth 100000 in
theorem dX12_bargain_0 : decode cX12_bargain 0 = .ok (.aload_n 0, 1) := by decide +kernel
set_option maxRecDepth 100000 in
theorem dX12_bargain_1 : decode cX12_bargain 1 = .ok (.iconst 0, 1) := by decide +kernel
set_option maxRecDepth 100000 in
theorem dX12_bargain_2 : decode cX12_bargain 2 = .ok (.putfield 106, 3) := by decide +kernel
set_option maxRecDepth 100000 in
theorem dX12_bargain_5 : decode cX12_bargain 5 = .ok (.iload_n 1, 1) := by decide +kernel
set_option maxRecDepth 100000 in
theorem dX12_bargain_6 : decode cX12_bargain 6 = .ok (.i2l, 1) := by decide +kernel
set_option maxRecDepth 100000 in
theorem dX12_bargain_7 : decode cX12_bargain 7 = .ok (.lconst 1, 1) := by decide +kernel
set_option maxRecDepth 100000 in
theorem dX12_bargain_8 : decode cX12_bargain 8 = .ok (.ldc2_w 465, 3) := by decide +kernel
set_option maxRecDepth 100000 in
theorem dX12_bargain_11 : decode cX12_bargain 11 = .ok (.invokestatic 120, 3) := by decide +kernel
set_option maxRecDepth 100000 in
theorem dX12_bargain_14 : decode cX12_bargain 14 = .ok (.ifCond .ne 5, 3) := by decide +kernel
set_option maxRecDepth 100000 in
theorem dX12_bargain_17 : decode cX12_bargain 17 = .ok (.iconst (-1), 1) := by decide +kernel
set_option maxRecDepth 100000 in
theorem dX12_bargain_18 : decode cX12_bargain 18 = .ok (.ireturn, 1) := by decide +kernel
set_option maxRecDepth 100000 in
theorem dX12_bargain_19 : decode cX12_bargain 19 = .ok (.iconst 0, 1) := by decide +kernel
set_option maxRecDepth 100000 in
theorem dX12_bargain_20 : decode cX12_bargain 20 = .ok (.istore_n 2, 1) := by decide +kernel
set_option maxRecDepth 100000 in
theorem dX12_bargain_21 : decode cX12_bargain 21 = .ok (.aload_n 0, 1) := by decide +kernel
set_option maxRecDepth 100000 in
theorem dX12_bargain_22 : decode cX12_bargain 22 = .ok (.iconst 0, 1) := by decide +kernel
set_option maxRecDepth 100000 in
theorem dX12_bargain_23 : decode cX12_bargain 23 = .ok (.putfield 113, 3) := by decide +kernel
set_option maxRecDepth 100000 in
theorem dX12_bargain_26 : decode cX12_bargain 26 = .ok (.iconst 0, 1) := by decide +kernel
set_option maxRecDepth 100000 in
theorem dX12_bargain_27 : decode cX12_bargain 27 = .ok (.istore_n 3, 1) := by decide +kernel
set_option maxRecDepth 100000 in
theorem dX12_bargain_28 : decode cX12_bargain 28 = .ok (.iload_n 3, 1) := by decide +kernel
set_option maxRecDepth 100000 in
theorem dX12_bargain_29 : decode cX12_bargain 29 = .ok (.iload_n 1, 1) := by decide +kernel
set_option maxRecDepth 100000 in
theorem dX12_bargain_30 : decode cX12_bargain 30 = .ok (.if_icmp .gt 64, 3) := by decide +kernel
set_option maxRecDepth 100000 in
theorem dX12_bargain_33 : decode cX12_bargain 33 = .ok (.iconst 0, 1) := by decide +kernel
set_option maxRecDepth 100000 in
theorem dX12_bargain_34 : decode cX12_bargain 34 = .ok (.istore 4, 2) := by decide +kernel
set_option maxRecDepth 100000 in
theorem dX12_bargain_36 : decode cX12_bargain 36 = .ok (.iload 4, 2) := by decide +kernel
set_option maxRecDepth 100000 in
theorem dX12_bargain_38 : decode cX12_bargain 38 = .ok (.iload_n 1, 1) := by decide +kernel
set_option maxRecDepth 100000 in
theorem dX12_bargain_39 : decode cX12_bargain 39 = .ok (.if_icmp .gt 49, 3) := by decide +kernel
set_option maxRecDepth 100000 in
theorem dX12_bargain_42 : decode cX12_bargain 42 = .ok (.iload_n 3, 1) := by decide +kernel
set_option maxRecDepth 100000 in
theorem dX12_bargain_43 : decode cX12_bargain 43 = .ok (.iload 4, 2) := by decide +kernel
set_option maxRecDepth 100000 in
theorem dX12_bargain_45 : decode cX12_bargain 45 = .ok (.iload_n 1, 1) := by decide +kernel
set_option maxRecDepth 100000 in
theorem dX12_bargain_46 : decode cX12_bargain 46 = .ok (.invokestatic 467, 3) := by decide +kernel
set_option maxRecDepth 100000 in
theorem dX12_bargain_49 : decode cX12_bargain 49 = .ok (.ifCond .eq 33, 3) := by decide +kernel
set_option maxRecDepth 100000 in
theorem dX12_bargain_52 : decode cX12_bargain 52 = .ok (.iload 4, 2) := by decide +kernel
set_option maxRecDepth 100000 in
theorem dX12_bargain_54 : decode cX12_bargain 54 = .ok (.iload_n 3, 1) := by decide +kernel
set_option maxRecDepth 100000 in
theorem dX12_bargain_55 : decode cX12_bargain 55 = .ok (.iload_n 1, 1) := by decide +kernel
set_option maxRecDepth 100000 in
theorem dX12_bargain_56 : decode cX12_bargain 56 = .ok (.invokestatic 467, 3) := by decide +kernel
set_option maxRecDepth 100000 in
theorem dX12_bargain_59 : decode cX12_bargain 59 = .ok (.ifCond .eq 23, 3) := by decide +kernel
set_option maxRecDepth 100000 in
theorem dX12_bargain_62 : decode cX12_bargain 62 = .ok (.iload_n 2, 1) := by decide +kernel
set_option maxRecDepth 100000 in
theorem dX12_bargain_63 : decode cX12_bargain 63 = .ok (.ifCond .ne 16, 3) := by decide +kernel
set_option maxRecDepth 100000 in
theorem dX12_bargain_66 : decode cX12_bargain 66 = .ok (.aload_n 0, 1) := by decide +kernel
set_option maxRecDepth 100000 in
theorem dX12_bargain_67 : decode cX12_bargain 67 = .ok (.iload_n 3, 1) := by decide +kernel
set_option maxRecDepth 100000 in
theorem dX12_bargain_68 : decode cX12_bargain 68 = .ok (.i2l, 1) := by decide +kernel
set_option maxRecDepth 100000 in
theorem dX12_bargain_69 : decode cX12_bargain 69 = .ok (.invokevirtual 116, 3) := by decide +kernel
set_option maxRecDepth 100000 in
theorem dX12_bargain_72 : decode cX12_bargain 72 = .ok (.aload_n 0, 1) := by decide +kernel
set_option maxRecDepth 100000 in
theorem dX12_bargain_73 : decode cX12_bargain 73 = .ok (.iload 4, 2) := by decide +kernel
set_option maxRecDepth 100000 in
theorem dX12_bargain_75 : decode cX12_bargain 75 = .ok (.i2l, 1) := by decide +kernel
set_option maxRecDepth 100000 in
theorem dX12_bargain_76 : decode cX12_bargain 76 = .ok (.invokevirtual 116, 3) := by decide +kernel
set_option maxRecDepth 100000 in
theorem dX12_bargain_79 : decode cX12_bargain 79 = .ok (.iinc 2 1, 3) := by decide +kernel
set_option maxRecDepth 100000 in
theorem dX12_bargain_82 : decode cX12_bargain 82 = .ok (.iinc 4 1, 3) := by decide +kernel
set_option maxRecDepth 100000 in
theorem dX12_bargain_85 : decode cX12_bargain 85 = .ok (.goto (-49), 3) := by decide +kernel
set_option maxRecDepth 100000 in
theorem dX12_bargain_88 : decode cX12_bargain 88 = .ok (.iinc 3 1, 3) := by decide +kernel
set_option maxRecDepth 100000 in
theorem dX12_bargain_91 : decode cX12_bargain 91 = .ok (.goto (-63), 3) := by decide +kernel
set_option maxRecDepth 100000 in
theorem dX12_bargain_94 : decode cX12_bargain 94 = .ok (.iload_n 2, 1) := by decide +kernel
set_option maxRecDepth 100000 in
theorem dX12_bargain_95 : decode cX12_bargain 95 = .ok (.ireturn, 1) := by decide +kernel
set_option maxRecDepth 100000 in
theorem dX12_draws_0 : decode cX12_draws 0 = .ok (.aload_n 0, 1) := by decide +kernel
set_option maxRecDepth 100000 in
theorem dX12_draws_1 : decode cX12_draws 1 = .ok (.aload_n 0, 1) := by decide +kernel
set_option maxRecDepth 100000 in
theorem dX12_draws_2 : decode cX12_draws 2 = .ok (.getfield 470, 3) := by decide +kernel
set_option maxRecDepth 100000 in
theorem dX12_draws_5 : decode cX12_draws 5 = .ok (.ldc_w 473, 3) := by decide +kernel
set_option maxRecDepth 100000 in
theorem dX12_draws_8 : decode cX12_draws 8 = .ok (.imul, 1) := by decide +kernel
set_option maxRecDepth 100000 in
theorem dX12_draws_9 : decode cX12_draws 9 = .ok (.sipush 12345, 3) := by decide +kernel
set_option maxRecDepth 100000 in
theorem dX12_draws_12 : decode cX12_draws 12 = .ok (.iadd, 1) := by decide +kernel
set_option maxRecDepth 100000 in
theorem dX12_draws_13 : decode cX12_draws 13 = .ok (.putfield 470, 3) := by decide +kernel
set_option maxRecDepth 100000 in
theorem dX12_draws_16 : decode cX12_draws 16 = .ok (.aload_n 0, 1) := by decide +kernel
set_option maxRecDepth 100000 in
theorem dX12_draws_17 : decode cX12_draws 17 = .ok (.getfield 470, 3) := by decide +kernel
set_option maxRecDepth 100000 in
theorem dX12_draws_20 : decode cX12_draws 20 = .ok (.bipush 16, 2) := by decide +kernel
set_option maxRecDepth 100000 in
theorem dX12_draws_22 : decode cX12_draws 22 = .ok (.iushr, 1) := by decide +kernel
set_option maxRecDepth 100000 in
theorem dX12_draws_23 : decode cX12_draws 23 = .ok (.iload_n 1, 1) := by decide +kernel
set_option maxRecDepth 100000 in
theorem dX12_draws_24 : decode cX12_draws 24 = .ok (.irem, 1) := by decide +kernel
set_option maxRecDepth 100000 in
theorem dX12_draws_25 : decode cX12_draws 25 = .ok (.ireturn, 1) := by decide +kernel
set_option maxRecDepth 100000 in
theorem dX12_nights_0 : decode cX12_nights 0 = .ok (.aload_n 0, 1) := by decide +kernel
set_option maxRecDepth 100000 in
theorem dX12_nights_1 : decode cX12_nights 1 = .ok (.iconst 0, 1) := by decide +kernel
set_option maxRecDepth 100000 in
theorem dX12_nights_2 : decode cX12_nights 2 = .ok (.putfield 106, 3) := by decide +kernel
set_option maxRecDepth 100000 in
theorem dX12_nights_5 : decode cX12_nights 5 = .ok (.iload_n 2, 1) := by decide +kernel
set_option maxRecDepth 100000 in
theorem dX12_nights_6 : decode cX12_nights 6 = .ok (.i2l, 1) := by decide +kernel
set_option maxRecDepth 100000 in
theorem dX12_nights_7 : decode cX12_nights 7 = .ok (.lconst 1, 1) := by decide +kernel
set_option maxRecDepth 100000 in
theorem dX12_nights_8 : decode cX12_nights 8 = .ok (.ldc2_w 474, 3) := by decide +kernel
set_option maxRecDepth 100000 in
theorem dX12_nights_11 : decode cX12_nights 11 = .ok (.invokestatic 120, 3) := by decide +kernel
set_option maxRecDepth 100000 in
theorem dX12_nights_14 : decode cX12_nights 14 = .ok (.ifCond .ne 5, 3) := by decide +kernel
set_option maxRecDepth 100000 in
theorem dX12_nights_17 : decode cX12_nights 17 = .ok (.iconst (-1), 1) := by decide +kernel
set_option maxRecDepth 100000 in
theorem dX12_nights_18 : decode cX12_nights 18 = .ok (.ireturn, 1) := by decide +kernel
set_option maxRecDepth 100000 in
theorem dX12_nights_19 : decode cX12_nights 19 = .ok (.aload_n 0, 1) := by decide +kernel
set_option maxRecDepth 100000 in
theorem dX12_nights_20 : decode cX12_nights 20 = .ok (.iload_n 1, 1) := by decide +kernel
set_option maxRecDepth 100000 in
theorem dX12_nights_21 : decode cX12_nights 21 = .ok (.putfield 470, 3) := by decide +kernel
set_option maxRecDepth 100000 in
theorem dX12_nights_24 : decode cX12_nights 24 = .ok (.aload_n 0, 1) := by decide +kernel
set_option maxRecDepth 100000 in
theorem dX12_nights_25 : decode cX12_nights 25 = .ok (.invokevirtual 407, 3) := by decide +kernel
set_option maxRecDepth 100000 in
theorem dX12_nights_28 : decode cX12_nights 28 = .ok (.iconst 0, 1) := by decide +kernel
set_option maxRecDepth 100000 in
theorem dX12_nights_29 : decode cX12_nights 29 = .ok (.istore_n 3, 1) := by decide +kernel
set_option maxRecDepth 100000 in
theorem dX12_nights_30 : decode cX12_nights 30 = .ok (.iload_n 3, 1) := by decide +kernel
set_option maxRecDepth 100000 in
theorem dX12_nights_31 : decode cX12_nights 31 = .ok (.iload_n 2, 1) := by decide +kernel
set_option maxRecDepth 100000 in
theorem dX12_nights_32 : decode cX12_nights 32 = .ok (.if_icmp .ge 144, 3) := by decide +kernel
set_option maxRecDepth 100000 in
theorem dX12_nights_35 : decode cX12_nights 35 = .ok (.aload_n 0, 1) := by decide +kernel
set_option maxRecDepth 100000 in
theorem dX12_nights_36 : decode cX12_nights 36 = .ok (.iconst 5, 1) := by decide +kernel
set_option maxRecDepth 100000 in
theorem dX12_nights_37 : decode cX12_nights 37 = .ok (.invokevirtual 476, 3) := by decide +kernel
set_option maxRecDepth 100000 in
theorem dX12_nights_40 : decode cX12_nights 40 = .ok (.istore 4, 2) := by decide +kernel
set_option maxRecDepth 100000 in
theorem dX12_nights_42 : decode cX12_nights 42 = .ok (.iload 4, 2) := by decide +kernel
set_option maxRecDepth 100000 in
theorem dX12_nights_44 : decode cX12_nights 44 = .ok (.iconst 3, 1) := by decide +kernel
set_option maxRecDepth 100000 in
theorem dX12_nights_45 : decode cX12_nights 45 = .ok (.if_icmp .ge 15, 3) := by decide +kernel
set_option maxRecDepth 100000 in
theorem dX12_nights_48 : decode cX12_nights 48 = .ok (.aload_n 0, 1) := by decide +kernel
set_option maxRecDepth 100000 in
theorem dX12_nights_49 : decode cX12_nights 49 = .ok (.aload_n 0, 1) := by decide +kernel
set_option maxRecDepth 100000 in
theorem dX12_nights_50 : decode cX12_nights 50 = .ok (.getfield 36, 3) := by decide +kernel
set_option maxRecDepth 100000 in
theorem dX12_nights_53 : decode cX12_nights 53 = .ok (.invokevirtual 373, 3) := by decide +kernel
set_option maxRecDepth 100000 in
theorem dX12_nights_56 : decode cX12_nights 56 = .ok (.pop, 1) := by decide +kernel
set_option maxRecDepth 100000 in
theorem dX12_nights_57 : decode cX12_nights 57 = .ok (.goto 113, 3) := by decide +kernel
set_option maxRecDepth 100000 in
theorem dX12_nights_60 : decode cX12_nights 60 = .ok (.iload 4, 2) := by decide +kernel
set_option maxRecDepth 100000 in
theorem dX12_nights_62 : decode cX12_nights 62 = .ok (.iconst 3, 1) := by decide +kernel
set_option maxRecDepth 100000 in
theorem dX12_nights_63 : decode cX12_nights 63 = .ok (.if_icmp .ne 15, 3) := by decide +kernel
set_option maxRecDepth 100000 in
theorem dX12_nights_66 : decode cX12_nights 66 = .ok (.aload_n 0, 1) := by decide +kernel
set_option maxRecDepth 100000 in
theorem dX12_nights_67 : decode cX12_nights 67 = .ok (.aload_n 0, 1) := by decide +kernel
set_option maxRecDepth 100000 in
theorem dX12_nights_68 : decode cX12_nights 68 = .ok (.getfield 36, 3) := by decide +kernel
set_option maxRecDepth 100000 in
theorem dX12_nights_71 : decode cX12_nights 71 = .ok (.invokevirtual 380, 3) := by decide +kernel
set_option maxRecDepth 100000 in
theorem dX12_nights_74 : decode cX12_nights 74 = .ok (.pop, 1) := by decide +kernel
set_option maxRecDepth 100000 in
theorem dX12_nights_75 : decode cX12_nights 75 = .ok (.goto 95, 3) := by decide +kernel
set_option maxRecDepth 100000 in
theorem dX12_nights_78 : decode cX12_nights 78 = .ok (.aload_n 0, 1) := by decide +kernel
set_option maxRecDepth 100000 in
theorem dX12_nights_79 : decode cX12_nights 79 = .ok (.getfield 127, 3) := by decide +kernel
set_option maxRecDepth 100000 in
theorem dX12_nights_82 : decode cX12_nights 82 = .ok (.ifCond .le 88, 3) := by decide +kernel
set_option maxRecDepth 100000 in
theorem dX12_nights_85 : decode cX12_nights 85 = .ok (.aload_n 0, 1) := by decide +kernel
set_option maxRecDepth 100000 in
theorem dX12_nights_86 : decode cX12_nights 86 = .ok (.aload_n 0, 1) := by decide +kernel
set_option maxRecDepth 100000 in
theorem dX12_nights_87 : decode cX12_nights 87 = .ok (.getfield 127, 3) := by decide +kernel
set_option maxRecDepth 100000 in
theorem dX12_nights_90 : decode cX12_nights 90 = .ok (.invokevirtual 476, 3) := by decide +kernel
set_option maxRecDepth 100000 in
theorem dX12_nights_93 : decode cX12_nights 93 = .ok (.istore 5, 2) := by decide +kernel
set_option maxRecDepth 100000 in
theorem dX12_nights_95 : decode cX12_nights 95 = .ok (.aload_n 0, 1) := by decide +kernel
set_option maxRecDepth 100000 in
theorem dX12_nights_96 : decode cX12_nights 96 = .ok (.aload_n 0, 1) := by decide +kernel
set_option maxRecDepth 100000 in
theorem dX12_nights_97 : decode cX12_nights 97 = .ok (.getfield 124, 3) := by decide +kernel
set_option maxRecDepth 100000 in
theorem dX12_nights_100 : decode cX12_nights 100 = .ok (.invokevirtual 476, 3) := by decide +kernel
set_option maxRecDepth 100000 in
theorem dX12_nights_103 : decode cX12_nights 103 = .ok (.istore 6, 2) := by decide +kernel
set_option maxRecDepth 100000 in
theorem dX12_nights_105 : decode cX12_nights 105 = .ok (.aload_n 0, 1) := by decide +kernel
set_option maxRecDepth 100000 in
theorem dX12_nights_106 : decode cX12_nights 106 = .ok (.aload_n 0, 1) := by decide +kernel
set_option maxRecDepth 100000 in
theorem dX12_nights_107 : decode cX12_nights 107 = .ok (.getfield 36, 3) := by decide +kernel
set_option maxRecDepth 100000 in
theorem dX12_nights_110 : decode cX12_nights 110 = .ok (.invokevirtual 303, 3) := by decide +kernel
set_option maxRecDepth 100000 in
theorem dX12_nights_113 : decode cX12_nights 113 = .ok (.iload 5, 2) := by decide +kernel
set_option maxRecDepth 100000 in
theorem dX12_nights_115 : decode cX12_nights 115 = .ok (.invokestatic 288, 3) := by decide +kernel
set_option maxRecDepth 100000 in
theorem dX12_nights_118 : decode cX12_nights 118 = .ok (.ifCond .eq 19, 3) := by decide +kernel
set_option maxRecDepth 100000 in
theorem dX12_nights_121 : decode cX12_nights 121 = .ok (.aload_n 0, 1) := by decide +kernel
set_option maxRecDepth 100000 in
theorem dX12_nights_122 : decode cX12_nights 122 = .ok (.getfield 36, 3) := by decide +kernel
set_option maxRecDepth 100000 in
theorem dX12_nights_125 : decode cX12_nights 125 = .ok (.iload 6, 2) := by decide +kernel
set_option maxRecDepth 100000 in
theorem dX12_nights_127 : decode cX12_nights 127 = .ok (.invokestatic 130, 3) := by decide +kernel
set_option maxRecDepth 100000 in
theorem dX12_nights_130 : decode cX12_nights 130 = .ok (.ifCond .lt 7, 3) := by decide +kernel
set_option maxRecDepth 100000 in
theorem dX12_nights_133 : decode cX12_nights 133 = .ok (.iconst 1, 1) := by decide +kernel
set_option maxRecDepth 100000 in
theorem dX12_nights_134 : decode cX12_nights 134 = .ok (.goto 4, 3) := by decide +kernel
set_option maxRecDepth 100000 in
theorem dX12_nights_137 : decode cX12_nights 137 = .ok (.iconst 0, 1) := by decide +kernel
set_option maxRecDepth 100000 in
theorem dX12_nights_138 : decode cX12_nights 138 = .ok (.istore 7, 2) := by decide +kernel
set_option maxRecDepth 100000 in
theorem dX12_nights_140 : decode cX12_nights 140 = .ok (.aload_n 0, 1) := by decide +kernel
set_option maxRecDepth 100000 in
theorem dX12_nights_141 : decode cX12_nights 141 = .ok (.getfield 36, 3) := by decide +kernel
set_option maxRecDepth 100000 in
theorem dX12_nights_144 : decode cX12_nights 144 = .ok (.bipush 14, 2) := by decide +kernel
set_option maxRecDepth 100000 in
theorem dX12_nights_146 : decode cX12_nights 146 = .ok (.iload 5, 2) := by decide +kernel
set_option maxRecDepth 100000 in
theorem dX12_nights_148 : decode cX12_nights 148 = .ok (.iadd, 1) := by decide +kernel
set_option maxRecDepth 100000 in
theorem dX12_nights_149 : decode cX12_nights 149 = .ok (.iload 7, 2) := by decide +kernel
set_option maxRecDepth 100000 in
theorem dX12_nights_151 : decode cX12_nights 151 = .ok (.ifCond .eq 8, 3) := by decide +kernel
set_option maxRecDepth 100000 in
theorem dX12_nights_154 : decode cX12_nights 154 = .ok (.iload 6, 2) := by decide +kernel
set_option maxRecDepth 100000 in
theorem dX12_nights_156 : decode cX12_nights 156 = .ok (.goto 13, 3) := by decide +kernel
set_option maxRecDepth 100000 in
theorem dX12_nights_159 : decode cX12_nights 159 = .ok (.aload_n 0, 1) := by decide +kernel
set_option maxRecDepth 100000 in
theorem dX12_nights_160 : decode cX12_nights 160 = .ok (.getfield 36, 3) := by decide +kernel
set_option maxRecDepth 100000 in
theorem dX12_nights_163 : decode cX12_nights 163 = .ok (.bipush 14, 2) := by decide +kernel
set_option maxRecDepth 100000 in
theorem dX12_nights_165 : decode cX12_nights 165 = .ok (.iload 5, 2) := by decide +kernel
set_option maxRecDepth 100000 in
theorem dX12_nights_167 : decode cX12_nights 167 = .ok (.iadd, 1) := by decide +kernel
set_option maxRecDepth 100000 in
theorem dX12_nights_168 : decode cX12_nights 168 = .ok (.iaload, 1) := by decide +kernel
set_option maxRecDepth 100000 in
theorem dX12_nights_169 : decode cX12_nights 169 = .ok (.iastore, 1) := by decide +kernel
set_option maxRecDepth 100000 in
theorem dX12_nights_170 : decode cX12_nights 170 = .ok (.iinc 3 1, 3) := by decide +kernel
set_option maxRecDepth 100000 in
theorem dX12_nights_173 : decode cX12_nights 173 = .ok (.goto (-143), 3) := by decide +kernel
set_option maxRecDepth 100000 in
theorem dX12_nights_176 : decode cX12_nights 176 = .ok (.aload_n 0, 1) := by decide +kernel
set_option maxRecDepth 100000 in
theorem dX12_nights_177 : decode cX12_nights 177 = .ok (.iconst 0, 1) := by decide +kernel
set_option maxRecDepth 100000 in
theorem dX12_nights_178 : decode cX12_nights 178 = .ok (.putfield 113, 3) := by decide +kernel
set_option maxRecDepth 100000 in
theorem dX12_nights_181 : decode cX12_nights 181 = .ok (.aload_n 0, 1) := by decide +kernel
set_option maxRecDepth 100000 in
theorem dX12_nights_182 : decode cX12_nights 182 = .ok (.aload_n 0, 1) := by decide +kernel
set_option maxRecDepth 100000 in
theorem dX12_nights_183 : decode cX12_nights 183 = .ok (.getfield 36, 3) := by decide +kernel
set_option maxRecDepth 100000 in
theorem dX12_nights_186 : decode cX12_nights 186 = .ok (.iconst 1, 1) := by decide +kernel
set_option maxRecDepth 100000 in
theorem dX12_nights_187 : decode cX12_nights 187 = .ok (.iaload, 1) := by decide +kernel
set_option maxRecDepth 100000 in
theorem dX12_nights_188 : decode cX12_nights 188 = .ok (.i2l, 1) := by decide +kernel
set_option maxRecDepth 100000 in
theorem dX12_nights_189 : decode cX12_nights 189 = .ok (.invokevirtual 116, 3) := by decide +kernel
set_option maxRecDepth 100000 in
theorem dX12_nights_192 : decode cX12_nights 192 = .ok (.aload_n 0, 1) := by decide +kernel
set_option maxRecDepth 100000 in
theorem dX12_nights_193 : decode cX12_nights 193 = .ok (.aload_n 0, 1) := by decide +kernel
set_option maxRecDepth 100000 in
theorem dX12_nights_194 : decode cX12_nights 194 = .ok (.getfield 36, 3) := by decide +kernel
set_option maxRecDepth 100000 in
theorem dX12_nights_197 : decode cX12_nights 197 = .ok (.iconst 0, 1) := by decide +kernel
set_option maxRecDepth 100000 in
theorem dX12_nights_198 : decode cX12_nights 198 = .ok (.iaload, 1) := by decide +kernel
set_option maxRecDepth 100000 in
theorem dX12_nights_199 : decode cX12_nights 199 = .ok (.i2l, 1) := by decide +kernel
set_option maxRecDepth 100000 in
theorem dX12_nights_200 : decode cX12_nights 200 = .ok (.invokevirtual 116, 3) := by decide +kernel
set_option maxRecDepth 100000 in
theorem dX12_nights_203 : decode cX12_nights 203 = .ok (.aload_n 0, 1) := by decide +kernel
set_option maxRecDepth 100000 in
theorem dX12_nights_204 : decode cX12_nights 204 = .ok (.aload_n 0, 1) := by decide +kernel
set_option maxRecDepth 100000 in
theorem dX12_nights_205 : decode cX12_nights 205 = .ok (.getfield 36, 3) := by decide +kernel
set_option maxRecDepth 100000 in
theorem dX12_nights_208 : decode cX12_nights 208 = .ok (.invokevirtual 410, 3) := by decide +kernel
set_option maxRecDepth 100000 in
theorem dX12_nights_211 : decode cX12_nights 211 = .ok (.aload_n 0, 1) := by decide +kernel
set_option maxRecDepth 100000 in
theorem dX12_nights_212 : decode cX12_nights 212 = .ok (.aload_n 0, 1) := by decide +kernel
set_option maxRecDepth 100000 in
theorem dX12_nights_213 : decode cX12_nights 213 = .ok (.getfield 33, 3) := by decide +kernel
set_option maxRecDepth 100000 in
theorem dX12_nights_216 : decode cX12_nights 216 = .ok (.invokevirtual 410, 3) := by decide +kernel
set_option maxRecDepth 100000 in
theorem dX12_nights_219 : decode cX12_nights 219 = .ok (.isub, 1) := by decide +kernel
set_option maxRecDepth 100000 in
theorem dX12_nights_220 : decode cX12_nights 220 = .ok (.ireturn, 1) := by decide +kernel
set_option maxRecDepth 100000 in
theorem dX12_keep_0 : decode cX12_keep 0 = .ok (.aload_n 0, 1) := by decide +kernel
set_option maxRecDepth 100000 in
theorem dX12_keep_1 : decode cX12_keep 1 = .ok (.iconst 0, 1) := by decide +kernel
set_option maxRecDepth 100000 in
theorem dX12_keep_2 : decode cX12_keep 2 = .ok (.putfield 106, 3) := by decide +kernel
set_option maxRecDepth 100000 in
theorem dX12_keep_5 : decode cX12_keep 5 = .ok (.iload_n 1, 1) := by decide +kernel
set_option maxRecDepth 100000 in
theorem dX12_keep_6 : decode cX12_keep 6 = .ok (.i2l, 1) := by decide +kernel
set_option maxRecDepth 100000 in
theorem dX12_keep_7 : decode cX12_keep 7 = .ok (.lconst 0, 1) := by decide +kernel
set_option maxRecDepth 100000 in
theorem dX12_keep_8 : decode cX12_keep 8 = .ok (.ldc2_w 428, 3) := by decide +kernel
set_option maxRecDepth 100000 in
theorem dX12_keep_11 : decode cX12_keep 11 = .ok (.invokestatic 120, 3) := by decide +kernel
set_option maxRecDepth 100000 in
theorem dX12_keep_14 : decode cX12_keep 14 = .ok (.ifCond .ne 5, 3) := by decide +kernel
set_option maxRecDepth 100000 in
theorem dX12_keep_17 : decode cX12_keep 17 = .ok (.iconst 0, 1) := by decide +kernel
set_option maxRecDepth 100000 in
theorem dX12_keep_18 : decode cX12_keep 18 = .ok (.ireturn, 1) := by decide +kernel
set_option maxRecDepth 100000 in
theorem dX12_keep_19 : decode cX12_keep 19 = .ok (.aload_n 0, 1) := by decide +kernel
set_option maxRecDepth 100000 in
theorem dX12_keep_20 : decode cX12_keep 20 = .ok (.getfield 97, 3) := by decide +kernel
set_option maxRecDepth 100000 in
theorem dX12_keep_23 : decode cX12_keep 23 = .ok (.iload_n 1, 1) := by decide +kernel
set_option maxRecDepth 100000 in
theorem dX12_keep_24 : decode cX12_keep 24 = .ok (.iconst 1, 1) := by decide +kernel
set_option maxRecDepth 100000 in
theorem dX12_keep_25 : decode cX12_keep 25 = .ok (.bastore, 1) := by decide +kernel
set_option maxRecDepth 100000 in
theorem dX12_keep_26 : decode cX12_keep 26 = .ok (.aload_n 0, 1) := by decide +kernel
set_option maxRecDepth 100000 in
theorem dX12_keep_27 : decode cX12_keep 27 = .ok (.getfield 100, 3) := by decide +kernel
set_option maxRecDepth 100000 in
theorem dX12_keep_30 : decode cX12_keep 30 = .ok (.iload_n 1, 1) := by decide +kernel
set_option maxRecDepth 100000 in
theorem dX12_keep_31 : decode cX12_keep 31 = .ok (.aload_n 0, 1) := by decide +kernel
set_option maxRecDepth 100000 in
theorem dX12_keep_32 : decode cX12_keep 32 = .ok (.getfield 211, 3) := by decide +kernel
set_option maxRecDepth 100000 in
theorem dX12_keep_35 : decode cX12_keep 35 = .ok (.iastore, 1) := by decide +kernel
set_option maxRecDepth 100000 in
theorem dX12_keep_36 : decode cX12_keep 36 = .ok (.iconst 0, 1) := by decide +kernel
set_option maxRecDepth 100000 in
theorem dX12_keep_37 : decode cX12_keep 37 = .ok (.istore_n 2, 1) := by decide +kernel
set_option maxRecDepth 100000 in
theorem dX12_keep_38 : decode cX12_keep 38 = .ok (.iload_n 2, 1) := by decide +kernel
set_option maxRecDepth 100000 in
theorem dX12_keep_39 : decode cX12_keep 39 = .ok (.bipush 26, 2) := by decide +kernel
set_option maxRecDepth 100000 in
theorem dX12_keep_41 : decode cX12_keep 41 = .ok (.if_icmp .ge 26, 3) := by decide +kernel
set_option maxRecDepth 100000 in
theorem dX12_keep_44 : decode cX12_keep 44 = .ok (.aload_n 0, 1) := by decide +kernel
set_option maxRecDepth 100000 in
theorem dX12_keep_45 : decode cX12_keep 45 = .ok (.getfield 103, 3) := by decide +kernel
set_option maxRecDepth 100000 in
theorem dX12_keep_48 : decode cX12_keep 48 = .ok (.bipush 26, 2) := by decide +kernel
set_option maxRecDepth 100000 in
theorem dX12_keep_50 : decode cX12_keep 50 = .ok (.iload_n 1, 1) := by decide +kernel
set_option maxRecDepth 100000 in
theorem dX12_keep_51 : decode cX12_keep 51 = .ok (.imul, 1) := by decide +kernel
set_option maxRecDepth 100000 in
theorem dX12_keep_52 : decode cX12_keep 52 = .ok (.iload_n 2, 1) := by decide +kernel
set_option maxRecDepth 100000 in
theorem dX12_keep_53 : decode cX12_keep 53 = .ok (.iadd, 1) := by decide +kernel
set_option maxRecDepth 100000 in
theorem dX12_keep_54 : decode cX12_keep 54 = .ok (.aload_n 0, 1) := by decide +kernel
set_option maxRecDepth 100000 in
theorem dX12_keep_55 : decode cX12_keep 55 = .ok (.getfield 33, 3) := by decide +kernel
set_option maxRecDepth 100000 in
theorem dX12_keep_58 : decode cX12_keep 58 = .ok (.iload_n 2, 1) := by decide +kernel
set_option maxRecDepth 100000 in
theorem dX12_keep_59 : decode cX12_keep 59 = .ok (.iaload, 1) := by decide +kernel
set_option maxRecDepth 100000 in
theorem dX12_keep_60 : decode cX12_keep 60 = .ok (.iastore, 1) := by decide +kernel
set_option maxRecDepth 100000 in
theorem dX12_keep_61 : decode cX12_keep 61 = .ok (.iinc 2 1, 3) := by decide +kernel
set_option maxRecDepth 100000 in
theorem dX12_keep_64 : decode cX12_keep 64 = .ok (.goto (-26), 3) := by decide +kernel
set_option maxRecDepth 100000 in
theorem dX12_keep_67 : decode cX12_keep 67 = .ok (.iconst 1, 1) := by decide +kernel
set_option maxRecDepth 100000 in
theorem dX12_keep_68 : decode cX12_keep 68 = .ok (.ireturn, 1) := by decide +kernel
set_option maxRecDepth 100000 in
theorem dX12_again_0 : decode cX12_again 0 = .ok (.aload_n 0, 1) := by decide +kernel
set_option maxRecDepth 100000 in
theorem dX12_again_1 : decode cX12_again 1 = .ok (.iconst 0, 1) := by decide +kernel
set_option maxRecDepth 100000 in
theorem dX12_again_2 : decode cX12_again 2 = .ok (.putfield 106, 3) := by decide +kernel
set_option maxRecDepth 100000 in
theorem dX12_again_5 : decode cX12_again 5 = .ok (.iload_n 1, 1) := by decide +kernel
set_option maxRecDepth 100000 in
theorem dX12_again_6 : decode cX12_again 6 = .ok (.i2l, 1) := by decide +kernel
set_option maxRecDepth 100000 in
theorem dX12_again_7 : decode cX12_again 7 = .ok (.lconst 0, 1) := by decide +kernel
set_option maxRecDepth 100000 in
theorem dX12_again_8 : decode cX12_again 8 = .ok (.ldc2_w 428, 3) := by decide +kernel
set_option maxRecDepth 100000 in
theorem dX12_again_11 : decode cX12_again 11 = .ok (.invokestatic 120, 3) := by decide +kernel
set_option maxRecDepth 100000 in
theorem dX12_again_14 : decode cX12_again 14 = .ok (.ifCond .eq 25, 3) := by decide +kernel
set_option maxRecDepth 100000 in
theorem dX12_again_17 : decode cX12_again 17 = .ok (.aload_n 0, 1) := by decide +kernel
set_option maxRecDepth 100000 in
theorem dX12_again_18 : decode cX12_again 18 = .ok (.getfield 97, 3) := by decide +kernel
set_option maxRecDepth 100000 in
theorem dX12_again_21 : decode cX12_again 21 = .ok (.iload_n 1, 1) := by decide +kernel
set_option maxRecDepth 100000 in
theorem dX12_again_22 : decode cX12_again 22 = .ok (.baload, 1) := by decide +kernel
set_option maxRecDepth 100000 in
theorem dX12_again_23 : decode cX12_again 23 = .ok (.ifCond .eq 16, 3) := by decide +kernel
set_option maxRecDepth 100000 in
theorem dX12_again_26 : decode cX12_again 26 = .ok (.aload_n 0, 1) := by decide +kernel
set_option maxRecDepth 100000 in
theorem dX12_again_27 : decode cX12_again 27 = .ok (.getfield 100, 3) := by decide +kernel
set_option maxRecDepth 100000 in
theorem dX12_again_30 : decode cX12_again 30 = .ok (.iload_n 1, 1) := by decide +kernel
set_option maxRecDepth 100000 in
theorem dX12_again_31 : decode cX12_again 31 = .ok (.iaload, 1) := by decide +kernel
set_option maxRecDepth 100000 in
theorem dX12_again_32 : decode cX12_again 32 = .ok (.aload_n 0, 1) := by decide +kernel
set_option maxRecDepth 100000 in
theorem dX12_again_33 : decode cX12_again 33 = .ok (.getfield 211, 3) := by decide +kernel
set_option maxRecDepth 100000 in
theorem dX12_again_36 : decode cX12_again 36 = .ok (.if_icmp .eq 5, 3) := by decide +kernel
set_option maxRecDepth 100000 in
theorem dX12_again_39 : decode cX12_again 39 = .ok (.iconst 0, 1) := by decide +kernel
set_option maxRecDepth 100000 in
theorem dX12_again_40 : decode cX12_again 40 = .ok (.ireturn, 1) := by decide +kernel
set_option maxRecDepth 100000 in
theorem dX12_again_41 : decode cX12_again 41 = .ok (.iconst 0, 1) := by decide +kernel
set_option maxRecDepth 100000 in
theorem dX12_again_42 : decode cX12_again 42 = .ok (.istore_n 2, 1) := by decide +kernel
set_option maxRecDepth 100000 in
theorem dX12_again_43 : decode cX12_again 43 = .ok (.iload_n 2, 1) := by decide +kernel
set_option maxRecDepth 100000 in
theorem dX12_again_44 : decode cX12_again 44 = .ok (.bipush 26, 2) := by decide +kernel
set_option maxRecDepth 100000 in
theorem dX12_again_46 : decode cX12_again 46 = .ok (.if_icmp .ge 26, 3) := by decide +kernel
set_option maxRecDepth 100000 in
theorem dX12_again_49 : decode cX12_again 49 = .ok (.aload_n 0, 1) := by decide +kernel
set_option maxRecDepth 100000 in
theorem dX12_again_50 : decode cX12_again 50 = .ok (.getfield 33, 3) := by decide +kernel
set_option maxRecDepth 100000 in
theorem dX12_again_53 : decode cX12_again 53 = .ok (.iload_n 2, 1) := by decide +kernel
set_option maxRecDepth 100000 in
theorem dX12_again_54 : decode cX12_again 54 = .ok (.aload_n 0, 1) := by decide +kernel
set_option maxRecDepth 100000 in
theorem dX12_again_55 : decode cX12_again 55 = .ok (.getfield 103, 3) := by decide +kernel
set_option maxRecDepth 100000 in
theorem dX12_again_58 : decode cX12_again 58 = .ok (.bipush 26, 2) := by decide +kernel
set_option maxRecDepth 100000 in
theorem dX12_again_60 : decode cX12_again 60 = .ok (.iload_n 1, 1) := by decide +kernel
set_option maxRecDepth 100000 in
theorem dX12_again_61 : decode cX12_again 61 = .ok (.imul, 1) := by decide +kernel
set_option maxRecDepth 100000 in
theorem dX12_again_62 : decode cX12_again 62 = .ok (.iload_n 2, 1) := by decide +kernel
set_option maxRecDepth 100000 in
theorem dX12_again_63 : decode cX12_again 63 = .ok (.iadd, 1) := by decide +kernel
set_option maxRecDepth 100000 in
theorem dX12_again_64 : decode cX12_again 64 = .ok (.iaload, 1) := by decide +kernel
set_option maxRecDepth 100000 in
theorem dX12_again_65 : decode cX12_again 65 = .ok (.iastore, 1) := by decide +kernel
set_option maxRecDepth 100000 in
theorem dX12_again_66 : decode cX12_again 66 = .ok (.iinc 2 1, 3) := by decide +kernel
set_option maxRecDepth 100000 in
theorem dX12_again_69 : decode cX12_again 69 = .ok (.goto (-26), 3) := by decide +kernel
set_option maxRecDepth 100000 in
theorem dX12_again_72 : decode cX12_again 72 = .ok (.aload_n 0, 1) := by decide +kernel
set_option maxRecDepth 100000 in
theorem dX12_again_73 : decode cX12_again 73 = .ok (.iconst 0, 1) := by decide +kernel
set_option maxRecDepth 100000 in
theorem dX12_again_74 : decode cX12_again 74 = .ok (.putfield 208, 3) := by decide +kernel
set_option maxRecDepth 100000 in
theorem dX12_again_77 : decode cX12_again 77 = .ok (.iconst 1, 1) := by decide +kernel
set_option maxRecDepth 100000 in
theorem dX12_again_78 : decode cX12_again 78 = .ok (.ireturn, 1) := by decide +kernel
set_option maxRecDepth 100000 in
theorem dX12_count_0 : decode cX12_count 0 = .ok (.aload_n 0, 1) := by decide +kernel
set_option maxRecDepth 100000 in
theorem dX12_count_1 : decode cX12_count 1 = .ok (.iconst 0, 1) := by decide +kernel
set_option maxRecDepth 100000 in
theorem dX12_count_2 : decode cX12_count 2 = .ok (.putfield 106, 3) := by decide +kernel
set_option maxRecDepth 100000 in
theorem dX12_count_5 : decode cX12_count 5 = .ok (.iload_n 1, 1) := by decide +kernel
set_option maxRecDepth 100000 in
theorem dX12_count_6 : decode cX12_count 6 = .ok (.tableswitch 149 0 11 #[62, 67, 72, 77, 84, 91, 100, 120, 129, 134, 139, 144], 62) := by decide +kernel
set_option maxRecDepth 100000 in
theorem dX12_count_68 : decode cX12_count 68 = .ok (.aload_n 0, 1) := by decide +kernel
set_option maxRecDepth 100000 in
theorem dX12_count_69 : decode cX12_count 69 = .ok (.getfield 13, 3) := by decide +kernel
set_option maxRecDepth 100000 in
theorem dX12_count_72 : decode cX12_count 72 = .ok (.ireturn, 1) := by decide +kernel
set_option maxRecDepth 100000 in
theorem dX12_count_73 : decode cX12_count 73 = .ok (.aload_n 0, 1) := by decide +kernel
set_option maxRecDepth 100000 in
theorem dX12_count_74 : decode cX12_count 74 = .ok (.getfield 124, 3) := by decide +kernel
set_option maxRecDepth 100000 in
theorem dX12_count_77 : decode cX12_count 77 = .ok (.ireturn, 1) := by decide +kernel
set_option maxRecDepth 100000 in
theorem dX12_count_78 : decode cX12_count 78 = .ok (.aload_n 0, 1) := by decide +kernel
set_option maxRecDepth 100000 in
theorem dX12_count_79 : decode cX12_count 79 = .ok (.getfield 127, 3) := by decide +kernel
set_option maxRecDepth 100000 in
theorem dX12_count_82 : decode cX12_count 82 = .ok (.ireturn, 1) := by decide +kernel
set_option maxRecDepth 100000 in
theorem dX12_count_83 : decode cX12_count 83 = .ok (.aload_n 0, 1) := by decide +kernel
set_option maxRecDepth 100000 in
theorem dX12_count_84 : decode cX12_count 84 = .ok (.getfield 33, 3) := by decide +kernel
set_option maxRecDepth 100000 in
theorem dX12_count_87 : decode cX12_count 87 = .ok (.iconst 1, 1) := by decide +kernel
set_option maxRecDepth 100000 in
theorem dX12_count_88 : decode cX12_count 88 = .ok (.iaload, 1) := by decide +kernel
set_option maxRecDepth 100000 in
theorem dX12_count_89 : decode cX12_count 89 = .ok (.ireturn, 1) := by decide +kernel
set_option maxRecDepth 100000 in
theorem dX12_count_90 : decode cX12_count 90 = .ok (.aload_n 0, 1) := by decide +kernel
set_option maxRecDepth 100000 in
theorem dX12_count_91 : decode cX12_count 91 = .ok (.getfield 33, 3) := by decide +kernel
set_option maxRecDepth 100000 in
theorem dX12_count_94 : decode cX12_count 94 = .ok (.iconst 0, 1) := by decide +kernel
set_option maxRecDepth 100000 in
theorem dX12_count_95 : decode cX12_count 95 = .ok (.iaload, 1) := by decide +kernel
set_option maxRecDepth 100000 in
theorem dX12_count_96 : decode cX12_count 96 = .ok (.ireturn, 1) := by decide +kernel
set_option maxRecDepth 100000 in
theorem dX12_count_97 : decode cX12_count 97 = .ok (.aload_n 0, 1) := by decide +kernel
set_option maxRecDepth 100000 in
theorem dX12_count_98 : decode cX12_count 98 = .ok (.aload_n 0, 1) := by decide +kernel
set_option maxRecDepth 100000 in
theorem dX12_count_99 : decode cX12_count 99 = .ok (.getfield 33, 3) := by decide +kernel
set_option maxRecDepth 100000 in
theorem dX12_count_102 : decode cX12_count 102 = .ok (.invokevirtual 418, 3) := by decide +kernel
set_option maxRecDepth 100000 in
theorem dX12_count_105 : decode cX12_count 105 = .ok (.ireturn, 1) := by decide +kernel
set_option maxRecDepth 100000 in
theorem dX12_count_106 : decode cX12_count 106 = .ok (.iconst 1, 1) := by decide +kernel
set_option maxRecDepth 100000 in
theorem dX12_count_107 : decode cX12_count 107 = .ok (.aload_n 0, 1) := by decide +kernel
set_option maxRecDepth 100000 in
theorem dX12_count_108 : decode cX12_count 108 = .ok (.getfield 124, 3) := by decide +kernel
set_option maxRecDepth 100000 in
theorem dX12_count_111 : decode cX12_count 111 = .ok (.ishl, 1) := by decide +kernel
set_option maxRecDepth 100000 in
theorem dX12_count_112 : decode cX12_count 112 = .ok (.iconst 1, 1) := by decide +kernel
set_option maxRecDepth 100000 in
theorem dX12_count_113 : decode cX12_count 113 = .ok (.isub, 1) := by decide +kernel
set_option maxRecDepth 100000 in
theorem dX12_count_114 : decode cX12_count 114 = .ok (.aload_n 0, 1) := by decide +kernel
set_option maxRecDepth 100000 in
theorem dX12_count_115 : decode cX12_count 115 = .ok (.aload_n 0, 1) := by decide +kernel
set_option maxRecDepth 100000 in
theorem dX12_count_116 : decode cX12_count 116 = .ok (.getfield 33, 3) := by decide +kernel
set_option maxRecDepth 100000 in
theorem dX12_count_119 : decode cX12_count 119 = .ok (.invokevirtual 418, 3) := by decide +kernel
set_option maxRecDepth 100000 in
theorem dX12_count_122 : decode cX12_count 122 = .ok (.iconst (-1), 1) := by decide +kernel
set_option maxRecDepth 100000 in
theorem dX12_count_123 : decode cX12_count 123 = .ok (.ixor, 1) := by decide +kernel
set_option maxRecDepth 100000 in
theorem dX12_count_124 : decode cX12_count 124 = .ok (.iand, 1) := by decide +kernel
set_option maxRecDepth 100000 in
theorem dX12_count_125 : decode cX12_count 125 = .ok (.ireturn, 1) := by decide +kernel
set_option maxRecDepth 100000 in
theorem dX12_count_126 : decode cX12_count 126 = .ok (.aload_n 0, 1) := by decide +kernel
set_option maxRecDepth 100000 in
theorem dX12_count_127 : decode cX12_count 127 = .ok (.aload_n 0, 1) := by decide +kernel
set_option maxRecDepth 100000 in
theorem dX12_count_128 : decode cX12_count 128 = .ok (.getfield 33, 3) := by decide +kernel
set_option maxRecDepth 100000 in
theorem dX12_count_131 : decode cX12_count 131 = .ok (.invokevirtual 370, 3) := by decide +kernel
set_option maxRecDepth 100000 in
theorem dX12_count_134 : decode cX12_count 134 = .ok (.ireturn, 1) := by decide +kernel
set_option maxRecDepth 100000 in
theorem dX12_count_135 : decode cX12_count 135 = .ok (.aload_n 0, 1) := by decide +kernel
set_option maxRecDepth 100000 in
theorem dX12_count_136 : decode cX12_count 136 = .ok (.getfield 205, 3) := by decide +kernel
set_option maxRecDepth 100000 in
theorem dX12_count_139 : decode cX12_count 139 = .ok (.ireturn, 1) := by decide +kernel
set_option maxRecDepth 100000 in
theorem dX12_count_140 : decode cX12_count 140 = .ok (.aload_n 0, 1) := by decide +kernel
set_option maxRecDepth 100000 in
theorem dX12_count_141 : decode cX12_count 141 = .ok (.getfield 208, 3) := by decide +kernel
set_option maxRecDepth 100000 in
theorem dX12_count_144 : decode cX12_count 144 = .ok (.ireturn, 1) := by decide +kernel
set_option maxRecDepth 100000 in
theorem dX12_count_145 : decode cX12_count 145 = .ok (.aload_n 0, 1) := by decide +kernel
set_option maxRecDepth 100000 in
theorem dX12_count_146 : decode cX12_count 146 = .ok (.getfield 113, 3) := by decide +kernel
set_option maxRecDepth 100000 in
theorem dX12_count_149 : decode cX12_count 149 = .ok (.ireturn, 1) := by decide +kernel
set_option maxRecDepth 100000 in
theorem dX12_count_150 : decode cX12_count 150 = .ok (.aload_n 0, 1) := by decide +kernel
set_option maxRecDepth 100000 in
theorem dX12_count_151 : decode cX12_count 151 = .ok (.getfield 148, 3) := by decide +kernel
set_option maxRecDepth 100000 in
theorem dX12_count_154 : decode cX12_count 154 = .ok (.ireturn, 1) := by decide +kernel
set_option maxRecDepth 100000 in
theorem dX12_count_155 : decode cX12_count 155 = .ok (.bipush (-100), 2) := by decide +kernel
set_option maxRecDepth 100000 in
theorem dX12_count_157 : decode cX12_count 157 = .ok (.ireturn, 1) := by decide +kernel
set_option maxRecDepth 100000 in
theorem dX12_row_0 : decode cX12_row 0 = .ok (.aload_n 0, 1) := by decide +kernel
set_option maxRecDepth 100000 in
theorem dX12_row_1 : decode cX12_row 1 = .ok (.iconst 0, 1) := by decide +kernel
set_option maxRecDepth 100000 in
theorem dX12_row_2 : decode cX12_row 2 = .ok (.putfield 106, 3) := by decide +kernel
set_option maxRecDepth 100000 in
theorem dX12_row_5 : decode cX12_row 5 = .ok (.iload_n 1, 1) := by decide +kernel
set_option maxRecDepth 100000 in
theorem dX12_row_6 : decode cX12_row 6 = .ok (.i2l, 1) := by decide +kernel
set_option maxRecDepth 100000 in
theorem dX12_row_7 : decode cX12_row 7 = .ok (.lconst 0, 1) := by decide +kernel
set_option maxRecDepth 100000 in
theorem dX12_row_8 : decode cX12_row 8 = .ok (.aload_n 0, 1) := by decide +kernel
set_option maxRecDepth 100000 in
theorem dX12_row_9 : decode cX12_row 9 = .ok (.getfield 113, 3) := by decide +kernel
set_option maxRecDepth 100000 in
theorem dX12_row_12 : decode cX12_row 12 = .ok (.iconst 1, 1) := by decide +kernel
set_option maxRecDepth 100000 in
theorem dX12_row_13 : decode cX12_row 13 = .ok (.isub, 1) := by decide +kernel
set_option maxRecDepth 100000 in
theorem dX12_row_14 : decode cX12_row 14 = .ok (.i2l, 1) := by decide +kernel
set_option maxRecDepth 100000 in
theorem dX12_row_15 : decode cX12_row 15 = .ok (.invokestatic 120, 3) := by decide +kernel
set_option maxRecDepth 100000 in
theorem dX12_row_18 : decode cX12_row 18 = .ok (.ifCond .ne 10, 3) := by decide +kernel
set_option maxRecDepth 100000 in
theorem dX12_row_21 : decode cX12_row 21 = .ok (.aload_n 0, 1) := by decide +kernel
set_option maxRecDepth 100000 in
theorem dX12_row_22 : decode cX12_row 22 = .ok (.iconst 1, 1) := by decide +kernel
set_option maxRecDepth 100000 in
theorem dX12_row_23 : decode cX12_row 23 = .ok (.putfield 106, 3) := by decide +kernel
set_option maxRecDepth 100000 in
theorem dX12_row_26 : decode cX12_row 26 = .ok (.lconst 0, 1) := by decide +kernel
set_option maxRecDepth 100000 in
theorem dX12_row_27 : decode cX12_row 27 = .ok (.lreturn, 1) := by decide +kernel
set_option maxRecDepth 100000 in
theorem dX12_row_28 : decode cX12_row 28 = .ok (.aload_n 0, 1) := by decide +kernel
set_option maxRecDepth 100000 in
theorem dX12_row_29 : decode cX12_row 29 = .ok (.getfield 9, 3) := by decide +kernel
set_option maxRecDepth 100000 in
theorem dX12_row_32 : decode cX12_row 32 = .ok (.iload_n 1, 1) := by decide +kernel
set_option maxRecDepth 100000 in
theorem dX12_row_33 : decode cX12_row 33 = .ok (.laload, 1) := by decide +kernel
set_option maxRecDepth 100000 in
theorem dX12_row_34 : decode cX12_row 34 = .ok (.lreturn, 1) := by decide +kernel

theorem dX2_cut_29 : decode cX2_cut 29 = .ok (.iinc 3 1, 3) := by decide +kernel
theorem dX2_cut_32 : decode cX2_cut 32 = .ok (.goto (-30), 3) := by decide +kernel
theorem dX2_cut_35 : decode cX2_cut 35 = .ok (.return_, 1) := by decide +kernel
theorem dX2_delete_0 : decode cX2_delete 0 = .ok (.iload_n 1, 1) := by decide +kernel
theorem dX2_delete_1 : decode cX2_delete 1 = .ok (.ifCond .lt 28, 3) := by decide +kernel
theorem dX2_delete_4 : decode cX2_delete 4 = .ok (.iload_n 2, 1) := by decide +kernel
theorem dX2_delete_5 : decode cX2_delete 5 = .ok (.iconst 1, 1) := by decide +kernel
theorem dX2_delete_6 : decode cX2_delete 6 = .ok (.bipush 6, 2) := by decide +kernel
theorem dX2_delete_8 : decode cX2_delete 8 = .ok (.invokestatic 70, 3) := by decide +kernel
theorem dX2_delete_11 : decode cX2_delete 11 = .ok (.ifCond .eq 18, 3) := by decide +kernel
theorem dX2_delete_14 : decode cX2_delete 14 = .ok (.iload_n 1, 1) := by decide +kernel
theorem dX2_delete_15 : decode cX2_delete 15 = .ok (.aload_n 0, 1) := by decide +kernel
theorem dX2_delete_16 : decode cX2_delete 16 = .ok (.getfield 42, 3) := by decide +kernel
theorem dX2_delete_19 : decode cX2_delete 19 = .ok (.aload_n 0, 1) := by decide +kernel
theorem dX2_delete_20 : decode cX2_delete 20 = .ok (.getfield 67, 3) := by decide +kernel
theorem dX2_delete_23 : decode cX2_delete 23 = .ok (.iaload, 1) := by decide +kernel
theorem dX2_delete_24 : decode cX2_delete 24 = .ok (.iload_n 2, 1) := by decide +kernel
theorem dX2_delete_25 : decode cX2_delete 25 = .ok (.isub, 1) := by decide +kernel
theorem dX2_delete_26 : decode cX2_delete 26 = .ok (.if_icmp .le 5, 3) := by decide +kernel
theorem dX2_delete_29 : decode cX2_delete 29 = .ok (.iconst (-1), 1) := by decide +kernel
theorem dX2_delete_30 : decode cX2_delete 30 = .ok (.ireturn, 1) := by decide +kernel
theorem dX2_delete_31 : decode cX2_delete 31 = .ok (.aload_n 0, 1) := by decide +kernel
theorem dX2_delete_32 : decode cX2_delete 32 = .ok (.getfield 7, 3) := by decide +kernel
theorem dX2_delete_35 : decode cX2_delete 35 = .ok (.bipush 24, 2) := by decide +kernel
theorem dX2_delete_37 : decode cX2_delete 37 = .ok (.if_icmp .ne 6, 3) := by decide +kernel
theorem dX2_delete_40 : decode cX2_delete 40 = .ok (.bipush (-3), 2) := by decide +kernel
theorem dX2_delete_42 : decode cX2_delete 42 = .ok (.ireturn, 1) := by decide +kernel
theorem dX2_delete_43 : decode cX2_delete 43 = .ok (.aload_n 0, 1) := by decide +kernel
theorem dX2_delete_44 : decode cX2_delete 44 = .ok (.iload_n 1, 1) := by decide +kernel
theorem dX2_delete_45 : decode cX2_delete 45 = .ok (.iload_n 2, 1) := by decide +kernel
theorem dX2_delete_46 : decode cX2_delete 46 = .ok (.invokevirtual 84, 3) := by decide +kernel
theorem dX2_delete_49 : decode cX2_delete 49 = .ok (.aload_n 0, 1) := by decide +kernel
theorem dX2_delete_50 : decode cX2_delete 50 = .ok (.iload_n 1, 1) := by decide +kernel
theorem dX2_delete_51 : decode cX2_delete 51 = .ok (.iload_n 2, 1) := by decide +kernel
theorem dX2_delete_52 : decode cX2_delete 52 = .ok (.iconst 1, 1) := by decide +kernel
theorem dX2_delete_53 : decode cX2_delete 53 = .ok (.invokevirtual 80, 3) := by decide +kernel
theorem dX2_delete_56 : decode cX2_delete 56 = .ok (.ireturn, 1) := by decide +kernel
theorem dX2_undo_0 : decode cX2_undo 0 = .ok (.aload_n 0, 1) := by decide +kernel
theorem dX2_undo_1 : decode cX2_undo 1 = .ok (.aload_n 0, 1) := by decide +kernel
theorem dX2_undo_2 : decode cX2_undo 2 = .ok (.getfield 67, 3) := by decide +kernel
theorem dX2_undo_5 : decode cX2_undo 5 = .ok (.invokevirtual 61, 3) := by decide +kernel
theorem dX2_undo_8 : decode cX2_undo 8 = .ok (.istore_n 1, 1) := by decide +kernel
theorem dX2_undo_9 : decode cX2_undo 9 = .ok (.iload_n 1, 1) := by decide +kernel
theorem dX2_undo_10 : decode cX2_undo 10 = .ok (.bipush (-7), 2) := by decide +kernel
theorem dX2_undo_12 : decode cX2_undo 12 = .ok (.if_icmp .ne 8, 3) := by decide +kernel
theorem dX2_undo_15 : decode cX2_undo 15 = .ok (.bipush (-7), 2) := by decide +kernel
theorem dX2_undo_17 : decode cX2_undo 17 = .ok (.goto 8, 3) := by decide +kernel
theorem dX2_undo_20 : decode cX2_undo 20 = .ok (.aload_n 0, 1) := by decide +kernel
theorem dX2_undo_21 : decode cX2_undo 21 = .ok (.iload_n 1, 1) := by decide +kernel
theorem dX2_undo_22 : decode cX2_undo 22 = .ok (.invokevirtual 77, 3) := by decide +kernel
theorem dX2_undo_25 : decode cX2_undo 25 = .ok (.ireturn, 1) := by decide +kernel
theorem dX2_redo_0 : decode cX2_redo 0 = .ok (.aload_n 0, 1) := by decide +kernel
theorem dX2_redo_1 : decode cX2_redo 1 = .ok (.getfield 23, 3) := by decide +kernel
theorem dX2_redo_4 : decode cX2_redo 4 = .ok (.aload_n 0, 1) := by decide +kernel
theorem dX2_redo_5 : decode cX2_redo 5 = .ok (.getfield 67, 3) := by decide +kernel
theorem dX2_redo_8 : decode cX2_redo 8 = .ok (.iaload, 1) := by decide +kernel
theorem dX2_redo_9 : decode cX2_redo 9 = .ok (.bipush (-7), 2) := by decide +kernel
theorem dX2_redo_11 : decode cX2_redo 11 = .ok (.if_icmp .ne 8, 3) := by decide +kernel
theorem dX2_redo_14 : decode cX2_redo 14 = .ok (.bipush (-7), 2) := by decide +kernel
theorem dX2_redo_16 : decode cX2_redo 16 = .ok (.goto 20, 3) := by decide +kernel
theorem dX2_redo_19 : decode cX2_redo 19 = .ok (.aload_n 0, 1) := by decide +kernel
theorem dX2_redo_20 : decode cX2_redo 20 = .ok (.aload_n 0, 1) := by decide +kernel
theorem dX2_redo_21 : decode cX2_redo 21 = .ok (.aload_n 0, 1) := by decide +kernel
theorem dX2_redo_22 : decode cX2_redo 22 = .ok (.getfield 23, 3) := by decide +kernel
theorem dX2_redo_25 : decode cX2_redo 25 = .ok (.aload_n 0, 1) := by decide +kernel
theorem dX2_redo_26 : decode cX2_redo 26 = .ok (.getfield 67, 3) := by decide +kernel
theorem dX2_redo_29 : decode cX2_redo 29 = .ok (.iaload, 1) := by decide +kernel
theorem dX2_redo_30 : decode cX2_redo 30 = .ok (.invokevirtual 57, 3) := by decide +kernel
theorem dX2_redo_33 : decode cX2_redo 33 = .ok (.invokevirtual 77, 3) := by decide +kernel
theorem dX2_redo_36 : decode cX2_redo 36 = .ok (.ireturn, 1) := by decide +kernel
theorem dX2_common_0 : decode cX2_common 0 = .ok (.iload_n 1, 1) := by decide +kernel
theorem dX2_common_1 : decode cX2_common 1 = .ok (.istore_n 3, 1) := by decide +kernel
theorem dX2_common_2 : decode cX2_common 2 = .ok (.aload_n 0, 1) := by decide +kernel
theorem dX2_common_3 : decode cX2_common 3 = .ok (.iload_n 3, 1) := by decide +kernel
theorem dX2_common_4 : decode cX2_common 4 = .ok (.iload_n 2, 1) := by decide +kernel
theorem dX2_common_5 : decode cX2_common 5 = .ok (.invokevirtual 88, 3) := by decide +kernel
theorem dX2_common_8 : decode cX2_common 8 = .ok (.ifCond .ne 12, 3) := by decide +kernel
theorem dX2_common_11 : decode cX2_common 11 = .ok (.aload_n 0, 1) := by decide +kernel
theorem dX2_common_12 : decode cX2_common 12 = .ok (.iload_n 3, 1) := by decide +kernel
theorem dX2_common_13 : decode cX2_common 13 = .ok (.invokevirtual 61, 3) := by decide +kernel
theorem dX2_common_16 : decode cX2_common 16 = .ok (.istore_n 3, 1) := by decide +kernel
theorem dX2_common_17 : decode cX2_common 17 = .ok (.goto (-15), 3) := by decide +kernel
theorem dX2_common_20 : decode cX2_common 20 = .ok (.iload_n 3, 1) := by decide +kernel
theorem dX2_common_21 : decode cX2_common 21 = .ok (.ireturn, 1) := by decide +kernel
theorem dX2_far_0 : decode cX2_far 0 = .ok (.aload_n 0, 1) := by decide +kernel
theorem dX2_far_1 : decode cX2_far 1 = .ok (.iload_n 1, 1) := by decide +kernel
theorem dX2_far_2 : decode cX2_far 2 = .ok (.invokevirtual 92, 3) := by decide +kernel
theorem dX2_far_5 : decode cX2_far 5 = .ok (.aload_n 0, 1) := by decide +kernel
theorem dX2_far_6 : decode cX2_far 6 = .ok (.iload_n 2, 1) := by decide +kernel
theorem dX2_far_7 : decode cX2_far 7 = .ok (.invokevirtual 92, 3) := by decide +kernel
theorem dX2_far_10 : decode cX2_far 10 = .ok (.iadd, 1) := by decide +kernel
theorem dX2_far_11 : decode cX2_far 11 = .ok (.iconst 2, 1) := by decide +kernel
theorem dX2_far_12 : decode cX2_far 12 = .ok (.aload_n 0, 1) := by decide +kernel
theorem dX2_far_13 : decode cX2_far 13 = .ok (.aload_n 0, 1) := by decide +kernel
theorem dX2_far_14 : decode cX2_far 14 = .ok (.iload_n 1, 1) := by decide +kernel
theorem dX2_far_15 : decode cX2_far 15 = .ok (.iload_n 2, 1) := by decide +kernel
theorem dX2_far_16 : decode cX2_far 16 = .ok (.invokevirtual 95, 3) := by decide +kernel
theorem dX2_far_19 : decode cX2_far 19 = .ok (.invokevirtual 92, 3) := by decide +kernel
theorem dX2_far_22 : decode cX2_far 22 = .ok (.imul, 1) := by decide +kernel
theorem dX2_far_23 : decode cX2_far 23 = .ok (.isub, 1) := by decide +kernel
theorem dX2_far_24 : decode cX2_far 24 = .ok (.ireturn, 1) := by decide +kernel
theorem dX2_jumpTo_0 : decode cX2_jumpTo 0 = .ok (.aload_n 0, 1) := by decide +kernel
theorem dX2_jumpTo_1 : decode cX2_jumpTo 1 = .ok (.aload_n 0, 1) := by decide +kernel
theorem dX2_jumpTo_2 : decode cX2_jumpTo 2 = .ok (.getfield 67, 3) := by decide +kernel
theorem dX2_jumpTo_5 : decode cX2_jumpTo 5 = .ok (.iload_n 1, 1) := by decide +kernel
theorem dX2_jumpTo_6 : decode cX2_jumpTo 6 = .ok (.invokevirtual 99, 3) := by decide +kernel
theorem dX2_jumpTo_9 : decode cX2_jumpTo 9 = .ok (.istore_n 2, 1) := by decide +kernel
theorem dX2_jumpTo_10 : decode cX2_jumpTo 10 = .ok (.aload_n 0, 1) := by decide +kernel
theorem dX2_jumpTo_11 : decode cX2_jumpTo 11 = .ok (.iload_n 1, 1) := by decide +kernel
theorem dX2_jumpTo_12 : decode cX2_jumpTo 12 = .ok (.invokevirtual 77, 3) := by decide +kernel
theorem dX2_jumpTo_15 : decode cX2_jumpTo 15 = .ok (.istore_n 3, 1) := by decide +kernel
theorem dX2_jumpTo_16 : decode cX2_jumpTo 16 = .ok (.iload_n 3, 1) := by decide +kernel
theorem dX2_jumpTo_17 : decode cX2_jumpTo 17 = .ok (.aload_n 0, 1) := by decide +kernel
theorem dX2_jumpTo_18 : decode cX2_jumpTo 18 = .ok (.getfield 16, 3) := by decide +kernel
theorem dX2_jumpTo_21 : decode cX2_jumpTo 21 = .ok (.iload_n 1, 1) := by decide +kernel
theorem dX2_jumpTo_22 : decode cX2_jumpTo 22 = .ok (.iaload, 1) := by decide +kernel
theorem dX2_jumpTo_23 : decode cX2_jumpTo 23 = .ok (.if_icmp .ne 7, 3) := by decide +kernel
theorem dX2_jumpTo_26 : decode cX2_jumpTo 26 = .ok (.iload_n 2, 1) := by decide +kernel
theorem dX2_jumpTo_27 : decode cX2_jumpTo 27 = .ok (.goto 5, 3) := by decide +kernel
theorem dX2_jumpTo_30 : decode cX2_jumpTo 30 = .ok (.bipush (-7), 2) := by decide +kernel
theorem dX2_jumpTo_32 : decode cX2_jumpTo 32 = .ok (.ireturn, 1) := by decide +kernel
theorem dX2_jump_0 : decode cX2_jump 0 = .ok (.aload_n 0, 1) := by decide +kernel
theorem dX2_jump_1 : decode cX2_jump 1 = .ok (.iload_n 1, 1) := by decide +kernel
theorem dX2_jump_2 : decode cX2_jump 2 = .ok (.invokevirtual 57, 3) := by decide +kernel
theorem dX2_jump_5 : decode cX2_jump 5 = .ok (.istore_n 2, 1) := by decide +kernel
theorem dX2_jump_6 : decode cX2_jump 6 = .ok (.iload_n 2, 1) := by decide +kernel
theorem dX2_jump_7 : decode cX2_jump 7 = .ok (.bipush (-7), 2) := by decide +kernel
theorem dX2_jump_9 : decode cX2_jump 9 = .ok (.if_icmp .ne 8, 3) := by decide +kernel
theorem dX2_jump_12 : decode cX2_jump 12 = .ok (.bipush (-2), 2) := by decide +kernel
theorem dX2_jump_14 : decode cX2_jump 14 = .ok (.goto 8, 3) := by decide +kernel
theorem dX2_jump_17 : decode cX2_jump 17 = .ok (.aload_n 0, 1) := by decide +kernel
theorem dX2_jump_18 : decode cX2_jump 18 = .ok (.iload_n 2, 1) := by decide +kernel
theorem dX2_jump_19 : decode cX2_jump 19 = .ok (.invokevirtual 102, 3) := by decide +kernel
theorem dX2_jump_22 : decode cX2_jump 22 = .ok (.ireturn, 1) := by decide +kernel
theorem dX2_shift_0 : decode cX2_shift 0 = .ok (.aload_n 0, 1) := by decide +kernel
theorem dX2_shift_1 : decode cX2_shift 1 = .ok (.getfield 29, 3) := by decide +kernel
theorem dX2_shift_4 : decode cX2_shift 4 = .ok (.iload_n 1, 1) := by decide +kernel
theorem dX2_shift_5 : decode cX2_shift 5 = .ok (.iaload, 1) := by decide +kernel
theorem dX2_shift_6 : decode cX2_shift 6 = .ok (.istore_n 2, 1) := by decide +kernel
theorem dX2_shift_7 : decode cX2_shift 7 = .ok (.aload_n 0, 1) := by decide +kernel
theorem dX2_shift_8 : decode cX2_shift 8 = .ok (.getfield 32, 3) := by decide +kernel
theorem dX2_shift_11 : decode cX2_shift 11 = .ok (.iload_n 1, 1) := by decide +kernel
theorem dX2_shift_12 : decode cX2_shift 12 = .ok (.iaload, 1) := by decide +kernel
theorem dX2_shift_13 : decode cX2_shift 13 = .ok (.istore_n 3, 1) := by decide +kernel
theorem dX2_shift_14 : decode cX2_shift 14 = .ok (.aload_n 0, 1) := by decide +kernel
theorem dX2_shift_15 : decode cX2_shift 15 = .ok (.iload_n 1, 1) := by decide +kernel
theorem dX2_shift_16 : decode cX2_shift 16 = .ok (.invokevirtual 92, 3) := by decide +kernel
theorem dX2_shift_19 : decode cX2_shift 19 = .ok (.iconst 1, 1) := by decide +kernel
theorem dX2_shift_20 : decode cX2_shift 20 = .ok (.iadd, 1) := by decide +kernel
theorem dX2_shift_21 : decode cX2_shift 21 = .ok (.istore 4, 2) := by decide +kernel
theorem dX2_shift_23 : decode cX2_shift 23 = .ok (.aload_n 0, 1) := by decide +kernel
theorem dX2_shift_24 : decode cX2_shift 24 = .ok (.aload_n 0, 1) := by decide +kernel
theorem dX2_shift_25 : decode cX2_shift 25 = .ok (.getfield 67, 3) := by decide +kernel
theorem dX2_shift_28 : decode cX2_shift 28 = .ok (.invokevirtual 92, 3) := by decide +kernel
theorem dX2_shift_31 : decode cX2_shift 31 = .ok (.istore 5, 2) := by decide +kernel
theorem dX2_shift_33 : decode cX2_shift 33 = .ok (.iload 4, 2) := by decide +kernel
theorem dX2_shift_35 : decode cX2_shift 35 = .ok (.istore 6, 2) := by decide +kernel
theorem dX2_shift_37 : decode cX2_shift 37 = .ok (.iload 6, 2) := by decide +kernel
theorem dX2_shift_39 : decode cX2_shift 39 = .ok (.iload 5, 2) := by decide +kernel
theorem dX2_shift_41 : decode cX2_shift 41 = .ok (.if_icmp .gt 218, 3) := by decide +kernel
theorem dX2_shift_44 : decode cX2_shift 44 = .ok (.aload_n 0, 1) := by decide +kernel
theorem dX2_shift_45 : decode cX2_shift 45 = .ok (.getfield 67, 3) := by decide +kernel
theorem dX2_shift_48 : decode cX2_shift 48 = .ok (.istore 7, 2) := by decide +kernel
theorem dX2_shift_50 : decode cX2_shift 50 = .ok (.aload_n 0, 1) := by decide +kernel
theorem dX2_shift_51 : decode cX2_shift 51 = .ok (.iload 7, 2) := by decide +kernel
theorem dX2_shift_53 : decode cX2_shift 53 = .ok (.invokevirtual 92, 3) := by decide +kernel
theorem dX2_shift_56 : decode cX2_shift 56 = .ok (.iload 6, 2) := by decide +kernel
theorem dX2_shift_58 : decode cX2_shift 58 = .ok (.if_icmp .le 14, 3) := by decide +kernel
theorem dX2_shift_61 : decode cX2_shift 61 = .ok (.aload_n 0, 1) := by decide +kernel
theorem dX2_shift_62 : decode cX2_shift 62 = .ok (.iload 7, 2) := by decide +kernel
theorem dX2_shift_64 : decode cX2_shift 64 = .ok (.invokevirtual 61, 3) := by decide +kernel
theorem dX2_shift_67 : decode cX2_shift 67 = .ok (.istore 7, 2) := by decide +kernel
theorem dX2_shift_69 : decode cX2_shift 69 = .ok (.goto (-19), 3) := by decide +kernel
theorem dX2_shift_72 : decode cX2_shift 72 = .ok (.aload_n 0, 1) := by decide +kernel
theorem dX2_shift_73 : decode cX2_shift 73 = .ok (.getfield 29, 3) := by decide +kernel
theorem dX2_shift_76 : decode cX2_shift 76 = .ok (.iload 7, 2) := by decide +kernel
theorem dX2_shift_78 : decode cX2_shift 78 = .ok (.iaload, 1) := by decide +kernel
theorem dX2_shift_79 : decode cX2_shift 79 = .ok (.istore 8, 2) := by decide +kernel
theorem dX2_shift_81 : decode cX2_shift 81 = .ok (.aload_n 0, 1) := by decide +kernel
theorem dX2_shift_82 : decode cX2_shift 82 = .ok (.getfield 32, 3) := by decide +kernel
theorem dX2_shift_85 : decode cX2_shift 85 = .ok (.iload 7, 2) := by decide +kernel
theorem dX2_shift_87 : decode cX2_shift 87 = .ok (.iaload, 1) := by decide +kernel
theorem dX2_shift_88 : decode cX2_shift 88 = .ok (.istore 9, 2) := by decide +kernel
theorem dX2_shift_90 : decode cX2_shift 90 = .ok (.aload_n 0, 1) := by decide +kernel
theorem dX2_shift_91 : decode cX2_shift 91 = .ok (.getfield 35, 3) := by decide +kernel
theorem dX2_shift_94 : decode cX2_shift 94 = .ok (.iload 7, 2) := by decide +kernel
theorem dX2_shift_96 : decode cX2_shift 96 = .ok (.baload, 1) := by decide +kernel
theorem dX2_shift_97 : decode cX2_shift 97 = .ok (.ifCond .eq 69, 3) := by decide +kernel
theorem dX2_shift_100 : decode cX2_shift 100 = .ok (.iload 8, 2) := by decide +kernel
theorem dX2_shift_102 : decode cX2_shift 102 = .ok (.iload 9, 2) := by decide +kernel
theorem dX2_shift_104 : decode cX2_shift 104 = .ok (.iadd, 1) := by decide +kernel
theorem dX2_shift_105 : decode cX2_shift 105 = .ok (.iload_n 2, 1) := by decide +kernel
theorem dX2_shift_106 : decode cX2_shift 106 = .ok (.if_icmp .gt 7, 3) := by decide +kernel
theorem dX2_shift_109 : decode cX2_shift 109 = .ok (.iconst 1, 1) := by decide +kernel
theorem dX2_shift_110 : decode cX2_shift 110 = .ok (.goto 4, 3) := by decide +kernel
theorem dX2_shift_113 : decode cX2_shift 113 = .ok (.iconst 0, 1) := by decide +kernel
theorem dX2_shift_114 : decode cX2_shift 114 = .ok (.istore 11, 2) := by decide +kernel
theorem dX2_shift_116 : decode cX2_shift 116 = .ok (.iload 11, 2) := by decide +kernel
theorem dX2_shift_118 : decode cX2_shift 118 = .ok (.ifCond .ne 24, 3) := by decide +kernel
theorem dX2_shift_121 : decode cX2_shift 121 = .ok (.iload 8, 2) := by decide +kernel
theorem dX2_shift_123 : decode cX2_shift 123 = .ok (.iload_n 2, 1) := by decide +kernel
theorem dX2_shift_124 : decode cX2_shift 124 = .ok (.aload_n 0, 1) := by decide +kernel
theorem dX2_shift_125 : decode cX2_shift 125 = .ok (.getfield 35, 3) := by decide +kernel
theorem dX2_shift_128 : decode cX2_shift 128 = .ok (.iload_n 1, 1) := by decide +kernel
theorem dX2_shift_129 : decode cX2_shift 129 = .ok (.baload, 1) := by decide +kernel
theorem dX2_shift_130 : decode cX2_shift 130 = .ok (.ifCond .eq 7, 3) := by decide +kernel
theorem dX2_shift_133 : decode cX2_shift 133 = .ok (.iconst 0, 1) := by decide +kernel
theorem dX2_shift_134 : decode cX2_shift 134 = .ok (.goto 4, 3) := by decide +kernel
theorem dX2_shift_137 : decode cX2_shift 137 = .ok (.iload_n 3, 1) := by decide +kernel
theorem dX2_shift_138 : decode cX2_shift 138 = .ok (.iadd, 1) := by decide +kernel
theorem dX2_shift_139 : decode cX2_shift 139 = .ok (.if_icmp .lt 7, 3) := by decide +kernel
theorem dX2_shift_142 : decode cX2_shift 142 = .ok (.iconst 1, 1) := by decide +kernel
theorem dX2_shift_143 : decode cX2_shift 143 = .ok (.goto 4, 3) := by decide +kernel
theorem dX2_shift_146 : decode cX2_shift 146 = .ok (.iconst 0, 1) := by decide +kernel
theorem dX2_shift_147 : decode cX2_shift 147 = .ok (.istore 10, 2) := by decide +kernel
theorem dX2_shift_149 : decode cX2_shift 149 = .ok (.iload_n 2, 1) := by decide +kernel
theorem dX2_shift_150 : decode cX2_shift 150 = .ok (.iload 11, 2) := by decide +kernel
theorem dX2_shift_152 : decode cX2_shift 152 = .ok (.ifCond .eq 8, 3) := by decide +kernel
theorem dX2_shift_155 : decode cX2_shift 155 = .ok (.iload 9, 2) := by decide +kernel
theorem dX2_shift_157 : decode cX2_shift 157 = .ok (.goto 4, 3) := by decide +kernel
theorem dX2_shift_160 : decode cX2_shift 160 = .ok (.iconst 0, 1) := by decide +kernel
theorem dX2_shift_161 : decode cX2_shift 161 = .ok (.isub, 1) := by decide +kernel
theorem dX2_shift_162 : decode cX2_shift 162 = .ok (.istore_n 2, 1) := by decide +kernel
theorem dX2_shift_163 : decode cX2_shift 163 = .ok (.goto 82, 3) := by decide +kernel
theorem dX2_shift_166 : decode cX2_shift 166 = .ok (.aload_n 0, 1) := by decide +kernel
theorem dX2_shift_167 : decode cX2_shift 167 = .ok (.getfield 35, 3) := by decide +kernel
theorem dX2_shift_170 : decode cX2_shift 170 = .ok (.iload_n 1, 1) := by decide +kernel
theorem dX2_shift_171 : decode cX2_shift 171 = .ok (.baload, 1) := by decide +kernel
theorem dX2_shift_172 : decode cX2_shift 172 = .ok (.ifCond .eq 17, 3) := by decide +kernel
theorem dX2_shift_175 : decode cX2_shift 175 = .ok (.iload 8, 2) := by decide +kernel
theorem dX2_shift_177 : decode cX2_shift 177 = .ok (.iload_n 2, 1) := by decide +kernel
theorem dX2_shift_178 : decode cX2_shift 178 = .ok (.if_icmp .ge 7, 3) := by decide +kernel
theorem dX2_shift_181 : decode cX2_shift 181 = .ok (.iconst 1, 1) := by decide +kernel
theorem dX2_shift_182 : decode cX2_shift 182 = .ok (.goto 18, 3) := by decide +kernel
theorem dX2_shift_185 : decode cX2_shift 185 = .ok (.iconst 0, 1) := by decide +kernel
theorem dX2_shift_186 : decode cX2_shift 186 = .ok (.goto 14, 3) := by decide +kernel
theorem dX2_shift_189 : decode cX2_shift 189 = .ok (.iload 8, 2) := by decide +kernel
theorem dX2_shift_191 : decode cX2_shift 191 = .ok (.iload_n 2, 1) := by decide +kernel
theorem dX2_shift_192 : decode cX2_shift 192 = .ok (.if_icmp .gt 7, 3) := by decide +kernel
theorem dX2_shift_195 : decode cX2_shift 195 = .ok (.iconst 1, 1) := by decide +kernel
theorem dX2_shift_196 : decode cX2_shift 196 = .ok (.goto 4, 3) := by decide +kernel
theorem dX2_shift_199 : decode cX2_shift 199 = .ok (.iconst 0, 1) := by decide +kernel
theorem dX2_shift_200 : decode cX2_shift 200 = .ok (.istore 11, 2) := by decide +kernel
theorem dX2_shift_202 : decode cX2_shift 202 = .ok (.iload 11, 2) := by decide +kernel
theorem dX2_shift_204 : decode cX2_shift 204 = .ok (.ifCond .ne 20, 3) := by decide +kernel
theorem dX2_shift_207 : decode cX2_shift 207 = .ok (.aload_n 0, 1) := by decide +kernel
theorem dX2_shift_208 : decode cX2_shift 208 = .ok (.getfield 35, 3) := by decide +kernel
theorem dX2_shift_211 : decode cX2_shift 211 = .ok (.iload_n 1, 1) := by decide +kernel
theorem dX2_shift_212 : decode cX2_shift 212 = .ok (.baload, 1) := by decide +kernel
theorem dX2_shift_213 : decode cX2_shift 213 = .ok (.ifCond .ne 11, 3) := by decide +kernel
theorem dX2_shift_216 : decode cX2_shift 216 = .ok (.iload 8, 2) := by decide +kernel
theorem dX2_shift_218 : decode cX2_shift 218 = .ok (.iload_n 2, 1) := by decide +kernel
theorem dX2_shift_219 : decode cX2_shift 219 = .ok (.iload_n 3, 1) := by decide +kernel
theorem dX2_shift_220 : decode cX2_shift 220 = .ok (.iadd, 1) := by decide +kernel
theorem dX2_shift_221 : decode cX2_shift 221 = .ok (.if_icmp .lt 7, 3) := by decide +kernel
theorem dX2_shift_224 : decode cX2_shift 224 = .ok (.iconst 1, 1) := by decide +kernel
theorem dX2_shift_225 : decode cX2_shift 225 = .ok (.goto 4, 3) := by decide +kernel
theorem dX2_shift_228 : decode cX2_shift 228 = .ok (.iconst 0, 1) := by decide +kernel
theorem dX2_shift_229 : decode cX2_shift 229 = .ok (.istore 10, 2) := by decide +kernel
theorem dX2_shift_231 : decode cX2_shift 231 = .ok (.iload_n 2, 1) := by decide +kernel
theorem dX2_shift_232 : decode cX2_shift 232 = .ok (.iload 11, 2) := by decide +kernel
theorem dX2_shift_234 : decode cX2_shift 234 = .ok (.ifCond .eq 8, 3) := by decide +kernel
theorem dX2_shift_237 : decode cX2_shift 237 = .ok (.iload 9, 2) := by decide +kernel
theorem dX2_shift_239 : decode cX2_shift 239 = .ok (.goto 4, 3) := by decide +kernel
theorem dX2_shift_242 : decode cX2_shift 242 = .ok (.iconst 0, 1) := by decide +kernel
theorem dX2_shift_243 : decode cX2_shift 243 = .ok (.iadd, 1) := by decide +kernel
theorem dX2_shift_244 : decode cX2_shift 244 = .ok (.istore_n 2, 1) := by decide +kernel
theorem dX2_shift_245 : decode cX2_shift 245 = .ok (.iload 10, 2) := by decide +kernel
theorem dX2_shift_247 : decode cX2_shift 247 = .ok (.ifCond .ne 6, 3) := by decide +kernel
theorem dX2_shift_250 : decode cX2_shift 250 = .ok (.iload 7, 2) := by decide +kernel
theorem dX2_shift_252 : decode cX2_shift 252 = .ok (.ireturn, 1) := by decide +kernel
theorem dX2_shift_253 : decode cX2_shift 253 = .ok (.iinc 6 1, 3) := by decide +kernel
theorem dX2_shift_256 : decode cX2_shift 256 = .ok (.goto (-219), 3) := by decide +kernel
theorem dX2_shift_259 : decode cX2_shift 259 = .ok (.aload_n 0, 1) := by decide +kernel
theorem dX2_shift_260 : decode cX2_shift 260 = .ok (.iload_n 2, 1) := by decide +kernel
theorem dX2_shift_261 : decode cX2_shift 261 = .ok (.putfield 105, 3) := by decide +kernel
theorem dX2_shift_264 : decode cX2_shift 264 = .ok (.bipush (-7), 2) := by decide +kernel
theorem dX2_shift_266 : decode cX2_shift 266 = .ok (.ireturn, 1) := by decide +kernel
theorem dX2_refusal_0 : decode cX2_refusal 0 = .ok (.iload_n 1, 1) := by decide +kernel
theorem dX2_refusal_1 : decode cX2_refusal 1 = .ok (.bipush (-7), 2) := by decide +kernel
theorem dX2_refusal_3 : decode cX2_refusal 3 = .ok (.if_icmp .ne 6, 3) := by decide +kernel
theorem dX2_refusal_6 : decode cX2_refusal 6 = .ok (.bipush (-2), 2) := by decide +kernel
theorem dX2_refusal_8 : decode cX2_refusal 8 = .ok (.ireturn, 1) := by decide +kernel
theorem dX2_refusal_9 : decode cX2_refusal 9 = .ok (.iload_n 1, 1) := by decide +kernel
theorem dX2_refusal_10 : decode cX2_refusal 10 = .ok (.ifCond .eq 15, 3) := by decide +kernel
theorem dX2_refusal_13 : decode cX2_refusal 13 = .ok (.aload_n 0, 1) := by decide +kernel
theorem dX2_refusal_14 : decode cX2_refusal 14 = .ok (.iload_n 1, 1) := by decide +kernel
theorem dX2_refusal_15 : decode cX2_refusal 15 = .ok (.aload_n 0, 1) := by decide +kernel
theorem dX2_refusal_16 : decode cX2_refusal 16 = .ok (.getfield 67, 3) := by decide +kernel
theorem dX2_refusal_19 : decode cX2_refusal 19 = .ok (.invokevirtual 88, 3) := by decide +kernel
theorem dX2_refusal_22 : decode cX2_refusal 22 = .ok (.ifCond .ne 8, 3) := by decide +kernel
theorem dX2_refusal_25 : decode cX2_refusal 25 = .ok (.bipush (-6), 2) := by decide +kernel
theorem dX2_refusal_27 : decode cX2_refusal 27 = .ok (.goto 4, 3) := by decide +kernel
theorem dX2_refusal_30 : decode cX2_refusal 30 = .ok (.iconst 0, 1) := by decide +kernel
theorem dX2_refusal_31 : decode cX2_refusal 31 = .ok (.ireturn, 1) := by decide +kernel
theorem dX2_undoEdit_0 : decode cX2_undoEdit 0 = .ok (.aload_n 0, 1) := by decide +kernel
theorem dX2_undoEdit_1 : decode cX2_undoEdit 1 = .ok (.iload_n 1, 1) := by decide +kernel
theorem dX2_undoEdit_2 : decode cX2_undoEdit 2 = .ok (.invokevirtual 57, 3) := by decide +kernel
theorem dX2_undoEdit_5 : decode cX2_undoEdit 5 = .ok (.istore_n 2, 1) := by decide +kernel
theorem dX2_undoEdit_6 : decode cX2_undoEdit 6 = .ok (.aload_n 0, 1) := by decide +kernel
theorem dX2_undoEdit_7 : decode cX2_undoEdit 7 = .ok (.iload_n 2, 1) := by decide +kernel
theorem dX2_undoEdit_8 : decode cX2_undoEdit 8 = .ok (.invokevirtual 108, 3) := by decide +kernel
theorem dX2_undoEdit_11 : decode cX2_undoEdit 11 = .ok (.istore_n 3, 1) := by decide +kernel
theorem dX2_undoEdit_12 : decode cX2_undoEdit 12 = .ok (.iload_n 3, 1) := by decide +kernel
theorem dX2_undoEdit_13 : decode cX2_undoEdit 13 = .ok (.ifCond .eq 5, 3) := by decide +kernel
theorem dX2_undoEdit_16 : decode cX2_undoEdit 16 = .ok (.iload_n 3, 1) := by decide +kernel
theorem dX2_undoEdit_17 : decode cX2_undoEdit 17 = .ok (.ireturn, 1) := by decide +kernel
theorem dX2_undoEdit_18 : decode cX2_undoEdit 18 = .ok (.aload_n 0, 1) := by decide +kernel
theorem dX2_undoEdit_19 : decode cX2_undoEdit 19 = .ok (.iload_n 2, 1) := by decide +kernel
theorem dX2_undoEdit_20 : decode cX2_undoEdit 20 = .ok (.invokevirtual 111, 3) := by decide +kernel
theorem dX2_undoEdit_23 : decode cX2_undoEdit 23 = .ok (.bipush (-7), 2) := by decide +kernel
theorem dX2_undoEdit_25 : decode cX2_undoEdit 25 = .ok (.if_icmp .eq 6, 3) := by decide +kernel
theorem dX2_undoEdit_28 : decode cX2_undoEdit 28 = .ok (.bipush (-5), 2) := by decide +kernel
theorem dX2_undoEdit_30 : decode cX2_undoEdit 30 = .ok (.ireturn, 1) := by decide +kernel
theorem dX2_undoEdit_31 : decode cX2_undoEdit 31 = .ok (.aload_n 0, 1) := by decide +kernel
theorem dX2_undoEdit_32 : decode cX2_undoEdit 32 = .ok (.getfield 35, 3) := by decide +kernel
theorem dX2_undoEdit_35 : decode cX2_undoEdit 35 = .ok (.iload_n 2, 1) := by decide +kernel
theorem dX2_undoEdit_36 : decode cX2_undoEdit 36 = .ok (.baload, 1) := by decide +kernel
theorem dX2_undoEdit_37 : decode cX2_undoEdit 37 = .ok (.ifCond .eq 27, 3) := by decide +kernel
theorem dX2_undoEdit_40 : decode cX2_undoEdit 40 = .ok (.aload_n 0, 1) := by decide +kernel
theorem dX2_undoEdit_41 : decode cX2_undoEdit 41 = .ok (.getfield 42, 3) := by decide +kernel
theorem dX2_undoEdit_44 : decode cX2_undoEdit 44 = .ok (.aload_n 0, 1) := by decide +kernel
theorem dX2_undoEdit_45 : decode cX2_undoEdit 45 = .ok (.getfield 67, 3) := by decide +kernel
theorem dX2_undoEdit_48 : decode cX2_undoEdit 48 = .ok (.iaload, 1) := by decide +kernel
theorem dX2_undoEdit_49 : decode cX2_undoEdit 49 = .ok (.aload_n 0, 1) := by decide +kernel
theorem dX2_undoEdit_50 : decode cX2_undoEdit 50 = .ok (.getfield 32, 3) := by decide +kernel
theorem dX2_undoEdit_53 : decode cX2_undoEdit 53 = .ok (.iload_n 2, 1) := by decide +kernel
theorem dX2_undoEdit_54 : decode cX2_undoEdit 54 = .ok (.iaload, 1) := by decide +kernel
theorem dX2_undoEdit_55 : decode cX2_undoEdit 55 = .ok (.iadd, 1) := by decide +kernel
theorem dX2_undoEdit_56 : decode cX2_undoEdit 56 = .ok (.bipush 40, 2) := by decide +kernel
theorem dX2_undoEdit_58 : decode cX2_undoEdit 58 = .ok (.if_icmp .le 6, 3) := by decide +kernel
theorem dX2_undoEdit_61 : decode cX2_undoEdit 61 = .ok (.bipush (-4), 2) := by decide +kernel
theorem dX2_undoEdit_63 : decode cX2_undoEdit 63 = .ok (.ireturn, 1) := by decide +kernel
theorem dX2_undoEdit_64 : decode cX2_undoEdit 64 = .ok (.aload_n 0, 1) := by decide +kernel
theorem dX2_undoEdit_65 : decode cX2_undoEdit 65 = .ok (.getfield 7, 3) := by decide +kernel
theorem dX2_undoEdit_68 : decode cX2_undoEdit 68 = .ok (.bipush 24, 2) := by decide +kernel
theorem dX2_undoEdit_70 : decode cX2_undoEdit 70 = .ok (.if_icmp .ne 6, 3) := by decide +kernel
theorem dX2_undoEdit_73 : decode cX2_undoEdit 73 = .ok (.bipush (-3), 2) := by decide +kernel
theorem dX2_undoEdit_75 : decode cX2_undoEdit 75 = .ok (.ireturn, 1) := by decide +kernel
theorem dX2_undoEdit_76 : decode cX2_undoEdit 76 = .ok (.iconst 0, 1) := by decide +kernel
theorem dX2_undoEdit_77 : decode cX2_undoEdit 77 = .ok (.istore 4, 2) := by decide +kernel
theorem dX2_undoEdit_79 : decode cX2_undoEdit 79 = .ok (.iload 4, 2) := by decide +kernel
theorem dX2_undoEdit_81 : decode cX2_undoEdit 81 = .ok (.aload_n 0, 1) := by decide +kernel
theorem dX2_undoEdit_82 : decode cX2_undoEdit 82 = .ok (.getfield 32, 3) := by decide +kernel
theorem dX2_undoEdit_85 : decode cX2_undoEdit 85 = .ok (.iload_n 2, 1) := by decide +kernel
theorem dX2_undoEdit_86 : decode cX2_undoEdit 86 = .ok (.iaload, 1) := by decide +kernel
theorem dX2_undoEdit_87 : decode cX2_undoEdit 87 = .ok (.if_icmp .ge 28, 3) := by decide +kernel
theorem dX2_undoEdit_90 : decode cX2_undoEdit 90 = .ok (.aload_n 0, 1) := by decide +kernel
theorem dX2_undoEdit_91 : decode cX2_undoEdit 91 = .ok (.getfield 54, 3) := by decide +kernel
theorem dX2_undoEdit_94 : decode cX2_undoEdit 94 = .ok (.iload 4, 2) := by decide +kernel
theorem dX2_undoEdit_96 : decode cX2_undoEdit 96 = .ok (.aload_n 0, 1) := by decide +kernel
theorem dX2_undoEdit_97 : decode cX2_undoEdit 97 = .ok (.getfield 39, 3) := by decide +kernel
theorem dX2_undoEdit_100 : decode cX2_undoEdit 100 = .ok (.bipush 6, 2) := by decide +kernel
theorem dX2_undoEdit_102 : decode cX2_undoEdit 102 = .ok (.iload_n 2, 1) := by decide +kernel
theorem dX2_undoEdit_103 : decode cX2_undoEdit 103 = .ok (.imul, 1) := by decide +kernel
theorem dX2_undoEdit_104 : decode cX2_undoEdit 104 = .ok (.iload 4, 2) := by decide +kernel
theorem dX2_undoEdit_106 : decode cX2_undoEdit 106 = .ok (.iadd, 1) := by decide +kernel
theorem dX2_undoEdit_107 : decode cX2_undoEdit 107 = .ok (.iaload, 1) := by decide +kernel
theorem dX2_undoEdit_108 : decode cX2_undoEdit 108 = .ok (.iastore, 1) := by decide +kernel
theorem dX2_undoEdit_109 : decode cX2_undoEdit 109 = .ok (.iinc 4 1, 3) := by decide +kernel
theorem dX2_undoEdit_112 : decode cX2_undoEdit 112 = .ok (.goto (-33), 3) := by decide +kernel
theorem dX2_undoEdit_115 : decode cX2_undoEdit 115 = .ok (.aload_n 0, 1) := by decide +kernel
theorem dX2_undoEdit_116 : decode cX2_undoEdit 116 = .ok (.aload_n 0, 1) := by decide +kernel
theorem dX2_undoEdit_117 : decode cX2_undoEdit 117 = .ok (.getfield 105, 3) := by decide +kernel
theorem dX2_undoEdit_120 : decode cX2_undoEdit 120 = .ok (.aload_n 0, 1) := by decide +kernel
theorem dX2_undoEdit_121 : decode cX2_undoEdit 121 = .ok (.getfield 32, 3) := by decide +kernel
theorem dX2_undoEdit_124 : decode cX2_undoEdit 124 = .ok (.iload_n 2, 1) := by decide +kernel
theorem dX2_undoEdit_125 : decode cX2_undoEdit 125 = .ok (.iaload, 1) := by decide +kernel
theorem dX2_undoEdit_126 : decode cX2_undoEdit 126 = .ok (.aload_n 0, 1) := by decide +kernel
theorem dX2_undoEdit_127 : decode cX2_undoEdit 127 = .ok (.getfield 35, 3) := by decide +kernel
theorem dX2_undoEdit_130 : decode cX2_undoEdit 130 = .ok (.iload_n 2, 1) := by decide +kernel
theorem dX2_undoEdit_131 : decode cX2_undoEdit 131 = .ok (.baload, 1) := by decide +kernel
theorem dX2_undoEdit_132 : decode cX2_undoEdit 132 = .ok (.ifCond .ne 7, 3) := by decide +kernel
theorem dX2_undoEdit_135 : decode cX2_undoEdit 135 = .ok (.iconst 1, 1) := by decide +kernel
theorem dX2_undoEdit_136 : decode cX2_undoEdit 136 = .ok (.goto 4, 3) := by decide +kernel
theorem dX2_undoEdit_139 : decode cX2_undoEdit 139 = .ok (.iconst 0, 1) := by decide +kernel
theorem dX2_undoEdit_140 : decode cX2_undoEdit 140 = .ok (.invokevirtual 80, 3) := by decide +kernel
theorem dX2_undoEdit_143 : decode cX2_undoEdit 143 = .ok (.ireturn, 1) := by decide +kernel
theorem dX2_conflictWith_0 : decode cX2_conflictWith 0 = .ok (.aload_n 0, 1) := by decide +kernel
theorem dX2_conflictWith_1 : decode cX2_conflictWith 1 = .ok (.iload_n 1, 1) := by decide +kernel
theorem dX2_conflictWith_2 : decode cX2_conflictWith 2 = .ok (.invokevirtual 57, 3) := by decide +kernel
theorem dX2_conflictWith_5 : decode cX2_conflictWith 5 = .ok (.istore_n 2, 1) := by decide +kernel
theorem dX2_conflictWith_6 : decode cX2_conflictWith 6 = .ok (.aload_n 0, 1) := by decide +kernel
theorem dX2_conflictWith_7 : decode cX2_conflictWith 7 = .ok (.iload_n 2, 1) := by decide +kernel
theorem dX2_conflictWith_8 : decode cX2_conflictWith 8 = .ok (.invokevirtual 108, 3) := by decide +kernel
theorem dX2_conflictWith_11 : decode cX2_conflictWith 11 = .ok (.istore_n 3, 1) := by decide +kernel
theorem dX2_conflictWith_12 : decode cX2_conflictWith 12 = .ok (.iload_n 3, 1) := by decide +kernel
theorem dX2_conflictWith_13 : decode cX2_conflictWith 13 = .ok (.ifCond .eq 5, 3) := by decide +kernel
theorem dX2_conflictWith_16 : decode cX2_conflictWith 16 = .ok (.iload_n 3, 1) := by decide +kernel
theorem dX2_conflictWith_17 : decode cX2_conflictWith 17 = .ok (.ireturn, 1) := by decide +kernel
theorem dX2_conflictWith_18 : decode cX2_conflictWith 18 = .ok (.aload_n 0, 1) := by decide +kernel
theorem dX2_conflictWith_19 : decode cX2_conflictWith 19 = .ok (.iload_n 2, 1) := by decide +kernel
theorem dX2_conflictWith_20 : decode cX2_conflictWith 20 = .ok (.invokevirtual 111, 3) := by decide +kernel
theorem dX2_conflictWith_23 : decode cX2_conflictWith 23 = .ok (.istore 4, 2) := by decide +kernel
theorem dX2_conflictWith_25 : decode cX2_conflictWith 25 = .ok (.iload 4, 2) := by decide +kernel
theorem dX2_conflictWith_27 : decode cX2_conflictWith 27 = .ok (.bipush (-7), 2) := by decide +kernel
theorem dX2_conflictWith_29 : decode cX2_conflictWith 29 = .ok (.if_icmp .ne 8, 3) := by decide +kernel
theorem dX2_conflictWith_32 : decode cX2_conflictWith 32 = .ok (.bipush (-7), 2) := by decide +kernel
theorem dX2_conflictWith_34 : decode cX2_conflictWith 34 = .ok (.goto 10, 3) := by decide +kernel
theorem dX2_conflictWith_37 : decode cX2_conflictWith 37 = .ok (.aload_n 0, 1) := by decide +kernel
theorem dX2_conflictWith_38 : decode cX2_conflictWith 38 = .ok (.getfield 16, 3) := by decide +kernel
theorem dX2_conflictWith_41 : decode cX2_conflictWith 41 = .ok (.iload 4, 2) := by decide +kernel
theorem dX2_conflictWith_43 : decode cX2_conflictWith 43 = .ok (.iaload, 1) := by decide +kernel
theorem dX2_conflictWith_44 : decode cX2_conflictWith 44 = .ok (.ireturn, 1) := by decide +kernel
theorem dX2_current_0 : decode cX2_current 0 = .ok (.aload_n 0, 1) := by decide +kernel
theorem dX2_current_1 : decode cX2_current 1 = .ok (.getfield 16, 3) := by decide +kernel
theorem dX2_current_4 : decode cX2_current 4 = .ok (.aload_n 0, 1) := by decide +kernel
theorem dX2_current_5 : decode cX2_current 5 = .ok (.getfield 67, 3) := by decide +kernel
theorem dX2_current_8 : decode cX2_current 8 = .ok (.iaload, 1) := by decide +kernel
theorem dX2_current_9 : decode cX2_current 9 = .ok (.ireturn, 1) := by decide +kernel
theorem dX2_nodeCount_0 : decode cX2_nodeCount 0 = .ok (.aload_n 0, 1) := by decide +kernel
theorem dX2_nodeCount_1 : decode cX2_nodeCount 1 = .ok (.getfield 7, 3) := by decide +kernel
theorem dX2_nodeCount_4 : decode cX2_nodeCount 4 = .ok (.ireturn, 1) := by decide +kernel
theorem dX2_lengthOf_0 : decode cX2_lengthOf 0 = .ok (.aload_n 0, 1) := by decide +kernel
theorem dX2_lengthOf_1 : decode cX2_lengthOf 1 = .ok (.iload_n 1, 1) := by decide +kernel
theorem dX2_lengthOf_2 : decode cX2_lengthOf 2 = .ok (.invokevirtual 57, 3) := by decide +kernel
theorem dX2_lengthOf_5 : decode cX2_lengthOf 5 = .ok (.istore_n 2, 1) := by decide +kernel
theorem dX2_lengthOf_6 : decode cX2_lengthOf 6 = .ok (.iload_n 2, 1) := by decide +kernel
theorem dX2_lengthOf_7 : decode cX2_lengthOf 7 = .ok (.bipush (-7), 2) := by decide +kernel
theorem dX2_lengthOf_9 : decode cX2_lengthOf 9 = .ok (.if_icmp .ne 8, 3) := by decide +kernel
theorem dX2_lengthOf_12 : decode cX2_lengthOf 12 = .ok (.bipush (-2), 2) := by decide +kernel
theorem dX2_lengthOf_14 : decode cX2_lengthOf 14 = .ok (.goto 9, 3) := by decide +kernel
theorem dX2_lengthOf_17 : decode cX2_lengthOf 17 = .ok (.aload_n 0, 1) := by decide +kernel
theorem dX2_lengthOf_18 : decode cX2_lengthOf 18 = .ok (.getfield 42, 3) := by decide +kernel
theorem dX2_lengthOf_21 : decode cX2_lengthOf 21 = .ok (.iload_n 2, 1) := by decide +kernel
theorem dX2_lengthOf_22 : decode cX2_lengthOf 22 = .ok (.iaload, 1) := by decide +kernel
theorem dX2_lengthOf_23 : decode cX2_lengthOf 23 = .ok (.ireturn, 1) := by decide +kernel
theorem dX2_characterOf_0 : decode cX2_characterOf 0 = .ok (.aload_n 0, 1) := by decide +kernel
theorem dX2_characterOf_1 : decode cX2_characterOf 1 = .ok (.iload_n 1, 1) := by decide +kernel
theorem dX2_characterOf_2 : decode cX2_characterOf 2 = .ok (.invokevirtual 57, 3) := by decide +kernel
theorem dX2_characterOf_5 : decode cX2_characterOf 5 = .ok (.istore_n 3, 1) := by decide +kernel
theorem dX2_characterOf_6 : decode cX2_characterOf 6 = .ok (.iload_n 3, 1) := by decide +kernel
theorem dX2_characterOf_7 : decode cX2_characterOf 7 = .ok (.bipush (-7), 2) := by decide +kernel
theorem dX2_characterOf_9 : decode cX2_characterOf 9 = .ok (.if_icmp .ne 6, 3) := by decide +kernel
theorem dX2_characterOf_12 : decode cX2_characterOf 12 = .ok (.bipush (-2), 2) := by decide +kernel
theorem dX2_characterOf_14 : decode cX2_characterOf 14 = .ok (.ireturn, 1) := by decide +kernel
theorem dX2_characterOf_15 : decode cX2_characterOf 15 = .ok (.iload_n 2, 1) := by decide +kernel
theorem dX2_characterOf_16 : decode cX2_characterOf 16 = .ok (.iconst 0, 1) := by decide +kernel
theorem dX2_characterOf_17 : decode cX2_characterOf 17 = .ok (.aload_n 0, 1) := by decide +kernel
theorem dX2_characterOf_18 : decode cX2_characterOf 18 = .ok (.getfield 42, 3) := by decide +kernel
theorem dX2_characterOf_21 : decode cX2_characterOf 21 = .ok (.iload_n 3, 1) := by decide +kernel
theorem dX2_characterOf_22 : decode cX2_characterOf 22 = .ok (.iaload, 1) := by decide +kernel
theorem dX2_characterOf_23 : decode cX2_characterOf 23 = .ok (.iconst 1, 1) := by decide +kernel
theorem dX2_characterOf_24 : decode cX2_characterOf 24 = .ok (.isub, 1) := by decide +kernel
theorem dX2_characterOf_25 : decode cX2_characterOf 25 = .ok (.invokestatic 70, 3) := by decide +kernel
theorem dX2_characterOf_28 : decode cX2_characterOf 28 = .ok (.ifCond .eq 17, 3) := by decide +kernel
theorem dX2_characterOf_31 : decode cX2_characterOf 31 = .ok (.aload_n 0, 1) := by decide +kernel
theorem dX2_characterOf_32 : decode cX2_characterOf 32 = .ok (.getfield 45, 3) := by decide +kernel
theorem dX2_characterOf_35 : decode cX2_characterOf 35 = .ok (.bipush 40, 2) := by decide +kernel
theorem dX2_characterOf_37 : decode cX2_characterOf 37 = .ok (.iload_n 3, 1) := by decide +kernel
theorem dX2_characterOf_38 : decode cX2_characterOf 38 = .ok (.imul, 1) := by decide +kernel
theorem dX2_characterOf_39 : decode cX2_characterOf 39 = .ok (.iload_n 2, 1) := by decide +kernel
theorem dX2_characterOf_40 : decode cX2_characterOf 40 = .ok (.iadd, 1) := by decide +kernel
theorem dX2_characterOf_41 : decode cX2_characterOf 41 = .ok (.iaload, 1) := by decide +kernel
theorem dX2_characterOf_42 : decode cX2_characterOf 42 = .ok (.goto 4, 3) := by decide +kernel
theorem dX2_characterOf_45 : decode cX2_characterOf 45 = .ok (.iconst (-1), 1) := by decide +kernel
theorem dX2_characterOf_46 : decode cX2_characterOf 46 = .ok (.ireturn, 1) := by decide +kernel
theorem dX2_edit_0 : decode cX2_edit 0 = .ok (.sipush 1000, 3) := by decide +kernel
theorem dX2_edit_3 : decode cX2_edit 3 = .ok (.aload_n 0, 1) := by decide +kernel
theorem dX2_edit_4 : decode cX2_edit 4 = .ok (.getfield 29, 3) := by decide +kernel
theorem dX2_edit_7 : decode cX2_edit 7 = .ok (.iload_n 1, 1) := by decide +kernel
theorem dX2_edit_8 : decode cX2_edit 8 = .ok (.iaload, 1) := by decide +kernel
theorem dX2_edit_9 : decode cX2_edit 9 = .ok (.imul, 1) := by decide +kernel
theorem dX2_edit_10 : decode cX2_edit 10 = .ok (.bipush 10, 2) := by decide +kernel
theorem dX2_edit_12 : decode cX2_edit 12 = .ok (.aload_n 0, 1) := by decide +kernel
theorem dX2_edit_13 : decode cX2_edit 13 = .ok (.getfield 32, 3) := by decide +kernel
theorem dX2_edit_16 : decode cX2_edit 16 = .ok (.iload_n 1, 1) := by decide +kernel
theorem dX2_edit_17 : decode cX2_edit 17 = .ok (.iaload, 1) := by decide +kernel
theorem dX2_edit_18 : decode cX2_edit 18 = .ok (.imul, 1) := by decide +kernel
theorem dX2_edit_19 : decode cX2_edit 19 = .ok (.iadd, 1) := by decide +kernel
theorem dX2_edit_20 : decode cX2_edit 20 = .ok (.aload_n 0, 1) := by decide +kernel
theorem dX2_edit_21 : decode cX2_edit 21 = .ok (.getfield 35, 3) := by decide +kernel
theorem dX2_edit_24 : decode cX2_edit 24 = .ok (.iload_n 1, 1) := by decide +kernel
theorem dX2_edit_25 : decode cX2_edit 25 = .ok (.baload, 1) := by decide +kernel
theorem dX2_edit_26 : decode cX2_edit 26 = .ok (.ifCond .eq 7, 3) := by decide +kernel
theorem dX2_edit_29 : decode cX2_edit 29 = .ok (.iconst 1, 1) := by decide +kernel
theorem dX2_edit_30 : decode cX2_edit 30 = .ok (.goto 4, 3) := by decide +kernel
theorem dX2_edit_33 : decode cX2_edit 33 = .ok (.iconst 0, 1) := by decide +kernel
theorem dX2_edit_34 : decode cX2_edit 34 = .ok (.iadd, 1) := by decide +kernel
theorem dX2_edit_35 : decode cX2_edit 35 = .ok (.ireturn, 1) := by decide +kernel
theorem dX2_editOf_0 : decode cX2_editOf 0 = .ok (.aload_n 0, 1) := by decide +kernel
theorem dX2_editOf_1 : decode cX2_editOf 1 = .ok (.iload_n 1, 1) := by decide +kernel
theorem dX2_editOf_2 : decode cX2_editOf 2 = .ok (.invokevirtual 57, 3) := by decide +kernel
theorem dX2_editOf_5 : decode cX2_editOf 5 = .ok (.istore_n 2, 1) := by decide +kernel
theorem dX2_editOf_6 : decode cX2_editOf 6 = .ok (.iload_n 2, 1) := by decide +kernel
theorem dX2_editOf_7 : decode cX2_editOf 7 = .ok (.bipush (-7), 2) := by decide +kernel
theorem dX2_editOf_9 : decode cX2_editOf 9 = .ok (.if_icmp .ne 6, 3) := by decide +kernel
theorem dX2_editOf_12 : decode cX2_editOf 12 = .ok (.bipush (-2), 2) := by decide +kernel
theorem dX2_editOf_14 : decode cX2_editOf 14 = .ok (.ireturn, 1) := by decide +kernel
theorem dX2_editOf_15 : decode cX2_editOf 15 = .ok (.iload_n 2, 1) := by decide +kernel
theorem dX2_editOf_16 : decode cX2_editOf 16 = .ok (.ifCond .ne 8, 3) := by decide +kernel
theorem dX2_editOf_19 : decode cX2_editOf 19 = .ok (.bipush (-6), 2) := by decide +kernel
theorem dX2_editOf_21 : decode cX2_editOf 21 = .ok (.goto 8, 3) := by decide +kernel
theorem dX2_editOf_24 : decode cX2_editOf 24 = .ok (.aload_n 0, 1) := by decide +kernel
theorem dX2_editOf_25 : decode cX2_editOf 25 = .ok (.iload_n 2, 1) := by decide +kernel
theorem dX2_editOf_26 : decode cX2_editOf 26 = .ok (.invokevirtual 114, 3) := by decide +kernel
theorem dX2_editOf_29 : decode cX2_editOf 29 = .ok (.ireturn, 1) := by decide +kernel
theorem dX2_parentOf_0 : decode cX2_parentOf 0 = .ok (.aload_n 0, 1) := by decide +kernel
theorem dX2_parentOf_1 : decode cX2_parentOf 1 = .ok (.iload_n 1, 1) := by decide +kernel
theorem dX2_parentOf_2 : decode cX2_parentOf 2 = .ok (.invokevirtual 57, 3) := by decide +kernel
theorem dX2_parentOf_5 : decode cX2_parentOf 5 = .ok (.istore_n 2, 1) := by decide +kernel
theorem dX2_parentOf_6 : decode cX2_parentOf 6 = .ok (.iload_n 2, 1) := by decide +kernel
theorem dX2_parentOf_7 : decode cX2_parentOf 7 = .ok (.bipush (-7), 2) := by decide +kernel
theorem dX2_parentOf_9 : decode cX2_parentOf 9 = .ok (.if_icmp .ne 6, 3) := by decide +kernel
theorem dX2_parentOf_12 : decode cX2_parentOf 12 = .ok (.bipush (-2), 2) := by decide +kernel
theorem dX2_parentOf_14 : decode cX2_parentOf 14 = .ok (.ireturn, 1) := by decide +kernel
theorem dX2_parentOf_15 : decode cX2_parentOf 15 = .ok (.iload_n 2, 1) := by decide +kernel
theorem dX2_parentOf_16 : decode cX2_parentOf 16 = .ok (.ifCond .ne 8, 3) := by decide +kernel
theorem dX2_parentOf_19 : decode cX2_parentOf 19 = .ok (.bipush (-6), 2) := by decide +kernel
theorem dX2_parentOf_21 : decode cX2_parentOf 21 = .ok (.goto 9, 3) := by decide +kernel
theorem dX2_parentOf_24 : decode cX2_parentOf 24 = .ok (.aload_n 0, 1) := by decide +kernel
theorem dX2_parentOf_25 : decode cX2_parentOf 25 = .ok (.getfield 20, 3) := by decide +kernel
theorem dX2_parentOf_28 : decode cX2_parentOf 28 = .ok (.iload_n 2, 1) := by decide +kernel
theorem dX2_parentOf_29 : decode cX2_parentOf 29 = .ok (.iaload, 1) := by decide +kernel
theorem dX2_parentOf_30 : decode cX2_parentOf 30 = .ok (.ireturn, 1) := by decide +kernel
theorem dX2_childMany_0 : decode cX2_childMany 0 = .ok (.iconst 0, 1) := by decide +kernel
theorem dX2_childMany_1 : decode cX2_childMany 1 = .ok (.istore_n 2, 1) := by decide +kernel
theorem dX2_childMany_2 : decode cX2_childMany 2 = .ok (.iconst 0, 1) := by decide +kernel
theorem dX2_childMany_3 : decode cX2_childMany 3 = .ok (.istore_n 3, 1) := by decide +kernel
theorem dX2_childMany_4 : decode cX2_childMany 4 = .ok (.iload_n 3, 1) := by decide +kernel
theorem dX2_childMany_5 : decode cX2_childMany 5 = .ok (.aload_n 0, 1) := by decide +kernel
theorem dX2_childMany_6 : decode cX2_childMany 6 = .ok (.getfield 7, 3) := by decide +kernel
theorem dX2_childMany_9 : decode cX2_childMany 9 = .ok (.if_icmp .ge 32, 3) := by decide +kernel
theorem dX2_childMany_12 : decode cX2_childMany 12 = .ok (.iload_n 2, 1) := by decide +kernel
theorem dX2_childMany_13 : decode cX2_childMany 13 = .ok (.aload_n 0, 1) := by decide +kernel
theorem dX2_childMany_14 : decode cX2_childMany 14 = .ok (.getfield 20, 3) := by decide +kernel
theorem dX2_childMany_17 : decode cX2_childMany 17 = .ok (.iload_n 3, 1) := by decide +kernel
theorem dX2_childMany_18 : decode cX2_childMany 18 = .ok (.iaload, 1) := by decide +kernel
theorem dX2_childMany_19 : decode cX2_childMany 19 = .ok (.aload_n 0, 1) := by decide +kernel
theorem dX2_childMany_20 : decode cX2_childMany 20 = .ok (.getfield 16, 3) := by decide +kernel
theorem dX2_childMany_23 : decode cX2_childMany 23 = .ok (.iload_n 1, 1) := by decide +kernel
theorem dX2_childMany_24 : decode cX2_childMany 24 = .ok (.iaload, 1) := by decide +kernel
theorem dX2_childMany_25 : decode cX2_childMany 25 = .ok (.if_icmp .ne 7, 3) := by decide +kernel
theorem dX2_childMany_28 : decode cX2_childMany 28 = .ok (.iconst 1, 1) := by decide +kernel
theorem dX2_childMany_29 : decode cX2_childMany 29 = .ok (.goto 4, 3) := by decide +kernel
theorem dX2_childMany_32 : decode cX2_childMany 32 = .ok (.iconst 0, 1) := by decide +kernel
theorem dX2_childMany_33 : decode cX2_childMany 33 = .ok (.iadd, 1) := by decide +kernel
theorem dX2_childMany_34 : decode cX2_childMany 34 = .ok (.istore_n 2, 1) := by decide +kernel
theorem dX2_childMany_35 : decode cX2_childMany 35 = .ok (.iinc 3 1, 3) := by decide +kernel
theorem dX2_childMany_38 : decode cX2_childMany 38 = .ok (.goto (-34), 3) := by decide +kernel
theorem dX2_childMany_41 : decode cX2_childMany 41 = .ok (.iload_n 2, 1) := by decide +kernel
theorem dX2_childMany_42 : decode cX2_childMany 42 = .ok (.ireturn, 1) := by decide +kernel
theorem dX2_child_0 : decode cX2_child 0 = .ok (.iconst 0, 1) := by decide +kernel
theorem dX2_child_1 : decode cX2_child 1 = .ok (.istore_n 3, 1) := by decide +kernel
theorem dX2_child_2 : decode cX2_child 2 = .ok (.iconst 0, 1) := by decide +kernel
theorem dX2_child_3 : decode cX2_child 3 = .ok (.istore 4, 2) := by decide +kernel
theorem dX2_child_5 : decode cX2_child 5 = .ok (.iload 4, 2) := by decide +kernel
theorem dX2_child_7 : decode cX2_child 7 = .ok (.aload_n 0, 1) := by decide +kernel
theorem dX2_child_8 : decode cX2_child 8 = .ok (.getfield 7, 3) := by decide +kernel
theorem dX2_child_11 : decode cX2_child 11 = .ok (.if_icmp .ge 41, 3) := by decide +kernel
theorem dX2_child_14 : decode cX2_child 14 = .ok (.aload_n 0, 1) := by decide +kernel
theorem dX2_child_15 : decode cX2_child 15 = .ok (.getfield 20, 3) := by decide +kernel
theorem dX2_child_18 : decode cX2_child 18 = .ok (.iload 4, 2) := by decide +kernel
theorem dX2_child_20 : decode cX2_child 20 = .ok (.iaload, 1) := by decide +kernel
theorem dX2_child_21 : decode cX2_child 21 = .ok (.aload_n 0, 1) := by decide +kernel
theorem dX2_child_22 : decode cX2_child 22 = .ok (.getfield 16, 3) := by decide +kernel
theorem dX2_child_25 : decode cX2_child 25 = .ok (.iload_n 1, 1) := by decide +kernel
theorem dX2_child_26 : decode cX2_child 26 = .ok (.iaload, 1) := by decide +kernel
theorem dX2_child_27 : decode cX2_child 27 = .ok (.if_icmp .ne 19, 3) := by decide +kernel
theorem dX2_child_30 : decode cX2_child 30 = .ok (.iload_n 3, 1) := by decide +kernel
theorem dX2_child_31 : decode cX2_child 31 = .ok (.iload_n 2, 1) := by decide +kernel
theorem dX2_child_32 : decode cX2_child 32 = .ok (.if_icmp .ne 11, 3) := by decide +kernel
theorem dX2_child_35 : decode cX2_child 35 = .ok (.aload_n 0, 1) := by decide +kernel
theorem dX2_child_36 : decode cX2_child 36 = .ok (.getfield 16, 3) := by decide +kernel
theorem dX2_child_39 : decode cX2_child 39 = .ok (.iload 4, 2) := by decide +kernel
theorem dX2_child_41 : decode cX2_child 41 = .ok (.iaload, 1) := by decide +kernel
theorem dX2_child_42 : decode cX2_child 42 = .ok (.ireturn, 1) := by decide +kernel
theorem dX2_child_43 : decode cX2_child 43 = .ok (.iinc 3 1, 3) := by decide +kernel
theorem dX2_child_46 : decode cX2_child 46 = .ok (.iinc 4 1, 3) := by decide +kernel
theorem dX2_child_49 : decode cX2_child 49 = .ok (.goto (-44), 3) := by decide +kernel
theorem dX2_child_52 : decode cX2_child 52 = .ok (.bipush (-7), 2) := by decide +kernel
theorem dX2_child_54 : decode cX2_child 54 = .ok (.ireturn, 1) := by decide +kernel
theorem dX2_childOf_0 : decode cX2_childOf 0 = .ok (.aload_n 0, 1) := by decide +kernel
theorem dX2_childOf_1 : decode cX2_childOf 1 = .ok (.iload_n 1, 1) := by decide +kernel
theorem dX2_childOf_2 : decode cX2_childOf 2 = .ok (.invokevirtual 57, 3) := by decide +kernel
theorem dX2_childOf_5 : decode cX2_childOf 5 = .ok (.istore_n 3, 1) := by decide +kernel
theorem dX2_childOf_6 : decode cX2_childOf 6 = .ok (.iload_n 3, 1) := by decide +kernel
theorem dX2_childOf_7 : decode cX2_childOf 7 = .ok (.bipush (-7), 2) := by decide +kernel
theorem dX2_childOf_9 : decode cX2_childOf 9 = .ok (.if_icmp .ne 8, 3) := by decide +kernel
theorem dX2_childOf_12 : decode cX2_childOf 12 = .ok (.bipush (-2), 2) := by decide +kernel
theorem dX2_childOf_14 : decode cX2_childOf 14 = .ok (.goto 9, 3) := by decide +kernel
theorem dX2_childOf_17 : decode cX2_childOf 17 = .ok (.aload_n 0, 1) := by decide +kernel
theorem dX2_childOf_18 : decode cX2_childOf 18 = .ok (.iload_n 3, 1) := by decide +kernel
theorem dX2_childOf_19 : decode cX2_childOf 19 = .ok (.iload_n 2, 1) := by decide +kernel
theorem dX2_childOf_20 : decode cX2_childOf 20 = .ok (.invokevirtual 117, 3) := by decide +kernel
theorem dX2_childOf_23 : decode cX2_childOf 23 = .ok (.ireturn, 1) := by decide +kernel
theorem dX2_favouriteOf_0 : decode cX2_favouriteOf 0 = .ok (.aload_n 0, 1) := by decide +kernel
theorem dX2_favouriteOf_1 : decode cX2_favouriteOf 1 = .ok (.iload_n 1, 1) := by decide +kernel
theorem dX2_favouriteOf_2 : decode cX2_favouriteOf 2 = .ok (.invokevirtual 57, 3) := by decide +kernel
theorem dX2_favouriteOf_5 : decode cX2_favouriteOf 5 = .ok (.istore_n 2, 1) := by decide +kernel
theorem dX2_favouriteOf_6 : decode cX2_favouriteOf 6 = .ok (.iload_n 2, 1) := by decide +kernel
theorem dX2_favouriteOf_7 : decode cX2_favouriteOf 7 = .ok (.bipush (-7), 2) := by decide +kernel
theorem dX2_favouriteOf_9 : decode cX2_favouriteOf 9 = .ok (.if_icmp .ne 8, 3) := by decide +kernel
theorem dX2_favouriteOf_12 : decode cX2_favouriteOf 12 = .ok (.bipush (-2), 2) := by decide +kernel
theorem dX2_favouriteOf_14 : decode cX2_favouriteOf 14 = .ok (.goto 9, 3) := by decide +kernel
theorem dX2_favouriteOf_17 : decode cX2_favouriteOf 17 = .ok (.aload_n 0, 1) := by decide +kernel
theorem dX2_favouriteOf_18 : decode cX2_favouriteOf 18 = .ok (.getfield 23, 3) := by decide +kernel
theorem dX2_favouriteOf_21 : decode cX2_favouriteOf 21 = .ok (.iload_n 2, 1) := by decide +kernel
theorem dX2_favouriteOf_22 : decode cX2_favouriteOf 22 = .ok (.iaload, 1) := by decide +kernel
theorem dX2_favouriteOf_23 : decode cX2_favouriteOf 23 = .ok (.ireturn, 1) := by decide +kernel

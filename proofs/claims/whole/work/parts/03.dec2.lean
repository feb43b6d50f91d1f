theorem dX1_marksOn_19 : decode cX1_marksOn 19 = .ok (.iinc 2 1, 3) := by decide +kernel
theorem dX1_marksOn_22 : decode cX1_marksOn 22 = .ok (.iinc 3 1, 3) := by decide +kernel
theorem dX1_marksOn_25 : decode cX1_marksOn 25 = .ok (.goto (-21), 3) := by decide +kernel
theorem dX1_marksOn_28 : decode cX1_marksOn 28 = .ok (.iload_n 2, 1) := by decide +kernel
theorem dX1_marksOn_29 : decode cX1_marksOn 29 = .ok (.ireturn, 1) := by decide +kernel
theorem dX1_isForgettable_0 : decode cX1_isForgettable 0 = .ok (.aload_n 1, 1) := by decide +kernel
theorem dX1_isForgettable_1 : decode cX1_isForgettable 1 = .ok (.getfield 62, 3) := by decide +kernel
theorem dX1_isForgettable_4 : decode cX1_isForgettable 4 = .ok (.ifnull 30, 3) := by decide +kernel
theorem dX1_isForgettable_7 : decode cX1_isForgettable 7 = .ok (.aload_n 1, 1) := by decide +kernel
theorem dX1_isForgettable_8 : decode cX1_isForgettable 8 = .ok (.aload_n 0, 1) := by decide +kernel
theorem dX1_isForgettable_9 : decode cX1_isForgettable 9 = .ok (.getfield 36, 3) := by decide +kernel
theorem dX1_isForgettable_12 : decode cX1_isForgettable 12 = .ok (.if_acmp .eq 22, 3) := by decide +kernel
theorem dX1_isForgettable_15 : decode cX1_isForgettable 15 = .ok (.aload_n 1, 1) := by decide +kernel
theorem dX1_isForgettable_16 : decode cX1_isForgettable 16 = .ok (.getfield 69, 3) := by decide +kernel
theorem dX1_isForgettable_19 : decode cX1_isForgettable 19 = .ok (.ifnonnull 15, 3) := by decide +kernel
theorem dX1_isForgettable_22 : decode cX1_isForgettable 22 = .ok (.aload_n 0, 1) := by decide +kernel
theorem dX1_isForgettable_23 : decode cX1_isForgettable 23 = .ok (.aload_n 1, 1) := by decide +kernel
theorem dX1_isForgettable_24 : decode cX1_isForgettable 24 = .ok (.invokevirtual 121, 3) := by decide +kernel
theorem dX1_isForgettable_27 : decode cX1_isForgettable 27 = .ok (.ifCond .ne 7, 3) := by decide +kernel
theorem dX1_isForgettable_30 : decode cX1_isForgettable 30 = .ok (.iconst 1, 1) := by decide +kernel
theorem dX1_isForgettable_31 : decode cX1_isForgettable 31 = .ok (.goto 4, 3) := by decide +kernel
theorem dX1_isForgettable_34 : decode cX1_isForgettable 34 = .ok (.iconst 0, 1) := by decide +kernel
theorem dX1_isForgettable_35 : decode cX1_isForgettable 35 = .ok (.ireturn, 1) := by decide +kernel
theorem dX1_mixed_0 : decode cX1_mixed 0 = .ok (.ldc2_w 177, 3) := by decide +kernel
theorem dX1_mixed_3 : decode cX1_mixed 3 = .ok (.lload_n 0, 1) := by decide +kernel
theorem dX1_mixed_4 : decode cX1_mixed 4 = .ok (.lmul, 1) := by decide +kernel
theorem dX1_mixed_5 : decode cX1_mixed 5 = .ok (.lload_n 2, 1) := by decide +kernel
theorem dX1_mixed_6 : decode cX1_mixed 6 = .ok (.ladd, 1) := by decide +kernel
theorem dX1_mixed_7 : decode cX1_mixed 7 = .ok (.lreturn, 1) := by decide +kernel
theorem dX1_mixedText_0 : decode cX1_mixedText 0 = .ok (.lload_n 0, 1) := by decide +kernel
theorem dX1_mixedText_1 : decode cX1_mixedText 1 = .ok (.iload_n 3, 1) := by decide +kernel
theorem dX1_mixedText_2 : decode cX1_mixedText 2 = .ok (.i2l, 1) := by decide +kernel
theorem dX1_mixedText_3 : decode cX1_mixedText 3 = .ok (.invokestatic 136, 3) := by decide +kernel
theorem dX1_mixedText_6 : decode cX1_mixedText 6 = .ok (.lstore 4, 2) := by decide +kernel
theorem dX1_mixedText_8 : decode cX1_mixedText 8 = .ok (.iconst 0, 1) := by decide +kernel
theorem dX1_mixedText_9 : decode cX1_mixedText 9 = .ok (.istore 6, 2) := by decide +kernel
theorem dX1_mixedText_11 : decode cX1_mixedText 11 = .ok (.iload 6, 2) := by decide +kernel
theorem dX1_mixedText_13 : decode cX1_mixedText 13 = .ok (.iload_n 3, 1) := by decide +kernel
theorem dX1_mixedText_14 : decode cX1_mixedText 14 = .ok (.if_icmp .ge 28, 3) := by decide +kernel
theorem dX1_mixedText_17 : decode cX1_mixedText 17 = .ok (.iload 6, 2) := by decide +kernel
theorem dX1_mixedText_19 : decode cX1_mixedText 19 = .ok (.aload_n 2, 1) := by decide +kernel
theorem dX1_mixedText_20 : decode cX1_mixedText 20 = .ok (.arraylength, 1) := by decide +kernel
theorem dX1_mixedText_21 : decode cX1_mixedText 21 = .ok (.if_icmp .ge 21, 3) := by decide +kernel
theorem dX1_mixedText_24 : decode cX1_mixedText 24 = .ok (.lload 4, 2) := by decide +kernel
theorem dX1_mixedText_26 : decode cX1_mixedText 26 = .ok (.aload_n 2, 1) := by decide +kernel
theorem dX1_mixedText_27 : decode cX1_mixedText 27 = .ok (.iload 6, 2) := by decide +kernel
theorem dX1_mixedText_29 : decode cX1_mixedText 29 = .ok (.caload, 1) := by decide +kernel
theorem dX1_mixedText_30 : decode cX1_mixedText 30 = .ok (.i2l, 1) := by decide +kernel
theorem dX1_mixedText_31 : decode cX1_mixedText 31 = .ok (.invokestatic 136, 3) := by decide +kernel
theorem dX1_mixedText_34 : decode cX1_mixedText 34 = .ok (.lstore 4, 2) := by decide +kernel
theorem dX1_mixedText_36 : decode cX1_mixedText 36 = .ok (.iinc 6 1, 3) := by decide +kernel
theorem dX1_mixedText_39 : decode cX1_mixedText 39 = .ok (.goto (-28), 3) := by decide +kernel
theorem dX1_mixedText_42 : decode cX1_mixedText 42 = .ok (.lload 4, 2) := by decide +kernel
theorem dX1_mixedText_44 : decode cX1_mixedText 44 = .ok (.lreturn, 1) := by decide +kernel
theorem dX1_mixedNode_0 : decode cX1_mixedNode 0 = .ok (.aload_n 2, 1) := by decide +kernel
theorem dX1_mixedNode_1 : decode cX1_mixedNode 1 = .ok (.getfield 62, 3) := by decide +kernel
theorem dX1_mixedNode_4 : decode cX1_mixedNode 4 = .ok (.astore_n 3, 1) := by decide +kernel
theorem dX1_mixedNode_5 : decode cX1_mixedNode 5 = .ok (.lload_n 0, 1) := by decide +kernel
theorem dX1_mixedNode_6 : decode cX1_mixedNode 6 = .ok (.aload_n 2, 1) := by decide +kernel
theorem dX1_mixedNode_7 : decode cX1_mixedNode 7 = .ok (.getfield 55, 3) := by decide +kernel
theorem dX1_mixedNode_10 : decode cX1_mixedNode 10 = .ok (.i2l, 1) := by decide +kernel
theorem dX1_mixedNode_11 : decode cX1_mixedNode 11 = .ok (.invokestatic 136, 3) := by decide +kernel
theorem dX1_mixedNode_14 : decode cX1_mixedNode 14 = .ok (.lstore 4, 2) := by decide +kernel
theorem dX1_mixedNode_16 : decode cX1_mixedNode 16 = .ok (.lload 4, 2) := by decide +kernel
theorem dX1_mixedNode_18 : decode cX1_mixedNode 18 = .ok (.aload_n 3, 1) := by decide +kernel
theorem dX1_mixedNode_19 : decode cX1_mixedNode 19 = .ok (.ifnonnull 7, 3) := by decide +kernel
theorem dX1_mixedNode_22 : decode cX1_mixedNode 22 = .ok (.lconst 0, 1) := by decide +kernel
theorem dX1_mixedNode_23 : decode cX1_mixedNode 23 = .ok (.goto 8, 3) := by decide +kernel
theorem dX1_mixedNode_26 : decode cX1_mixedNode 26 = .ok (.aload_n 3, 1) := by decide +kernel
theorem dX1_mixedNode_27 : decode cX1_mixedNode 27 = .ok (.getfield 55, 3) := by decide +kernel
theorem dX1_mixedNode_30 : decode cX1_mixedNode 30 = .ok (.i2l, 1) := by decide +kernel
theorem dX1_mixedNode_31 : decode cX1_mixedNode 31 = .ok (.invokestatic 136, 3) := by decide +kernel
theorem dX1_mixedNode_34 : decode cX1_mixedNode 34 = .ok (.lstore 4, 2) := by decide +kernel
theorem dX1_mixedNode_36 : decode cX1_mixedNode 36 = .ok (.lload 4, 2) := by decide +kernel
theorem dX1_mixedNode_38 : decode cX1_mixedNode 38 = .ok (.aload_n 3, 1) := by decide +kernel
theorem dX1_mixedNode_39 : decode cX1_mixedNode 39 = .ok (.ifnonnull 7, 3) := by decide +kernel
theorem dX1_mixedNode_42 : decode cX1_mixedNode 42 = .ok (.lconst 0, 1) := by decide +kernel
theorem dX1_mixedNode_43 : decode cX1_mixedNode 43 = .ok (.goto 8, 3) := by decide +kernel
theorem dX1_mixedNode_46 : decode cX1_mixedNode 46 = .ok (.aload_n 2, 1) := by decide +kernel
theorem dX1_mixedNode_47 : decode cX1_mixedNode 47 = .ok (.invokestatic 108, 3) := by decide +kernel
theorem dX1_mixedNode_50 : decode cX1_mixedNode 50 = .ok (.i2l, 1) := by decide +kernel
theorem dX1_mixedNode_51 : decode cX1_mixedNode 51 = .ok (.invokestatic 136, 3) := by decide +kernel
theorem dX1_mixedNode_54 : decode cX1_mixedNode 54 = .ok (.lstore 4, 2) := by decide +kernel
theorem dX1_mixedNode_56 : decode cX1_mixedNode 56 = .ok (.lload 4, 2) := by decide +kernel
theorem dX1_mixedNode_58 : decode cX1_mixedNode 58 = .ok (.aload_n 2, 1) := by decide +kernel
theorem dX1_mixedNode_59 : decode cX1_mixedNode 59 = .ok (.getfield 95, 3) := by decide +kernel
theorem dX1_mixedNode_62 : decode cX1_mixedNode 62 = .ok (.aload_n 2, 1) := by decide +kernel
theorem dX1_mixedNode_63 : decode cX1_mixedNode 63 = .ok (.getfield 40, 3) := by decide +kernel
theorem dX1_mixedNode_66 : decode cX1_mixedNode 66 = .ok (.invokestatic 148, 3) := by decide +kernel
theorem dX1_mixedNode_69 : decode cX1_mixedNode 69 = .ok (.lstore 4, 2) := by decide +kernel
theorem dX1_mixedNode_71 : decode cX1_mixedNode 71 = .ok (.lload 4, 2) := by decide +kernel
theorem dX1_mixedNode_73 : decode cX1_mixedNode 73 = .ok (.aload_n 2, 1) := by decide +kernel
theorem dX1_mixedNode_74 : decode cX1_mixedNode 74 = .ok (.getfield 69, 3) := by decide +kernel
theorem dX1_mixedNode_77 : decode cX1_mixedNode 77 = .ok (.invokestatic 105, 3) := by decide +kernel
theorem dX1_mixedNode_80 : decode cX1_mixedNode 80 = .ok (.i2l, 1) := by decide +kernel
theorem dX1_mixedNode_81 : decode cX1_mixedNode 81 = .ok (.invokestatic 136, 3) := by decide +kernel
theorem dX1_mixedNode_84 : decode cX1_mixedNode 84 = .ok (.lstore 4, 2) := by decide +kernel
theorem dX1_mixedNode_86 : decode cX1_mixedNode 86 = .ok (.lload 4, 2) := by decide +kernel
theorem dX1_mixedNode_88 : decode cX1_mixedNode 88 = .ok (.aload_n 2, 1) := by decide +kernel
theorem dX1_mixedNode_89 : decode cX1_mixedNode 89 = .ok (.getfield 111, 3) := by decide +kernel
theorem dX1_mixedNode_92 : decode cX1_mixedNode 92 = .ok (.i2l, 1) := by decide +kernel
theorem dX1_mixedNode_93 : decode cX1_mixedNode 93 = .ok (.invokestatic 136, 3) := by decide +kernel
theorem dX1_mixedNode_96 : decode cX1_mixedNode 96 = .ok (.lreturn, 1) := by decide +kernel
theorem dX2_init_0 : decode cX2_init 0 = .ok (.aload_n 0, 1) := by decide +kernel
theorem dX2_init_1 : decode cX2_init 1 = .ok (.invokespecial 1, 3) := by decide +kernel
theorem dX2_init_4 : decode cX2_init 4 = .ok (.aload_n 0, 1) := by decide +kernel
theorem dX2_init_5 : decode cX2_init 5 = .ok (.iconst 1, 1) := by decide +kernel
theorem dX2_init_6 : decode cX2_init 6 = .ok (.putfield 7, 3) := by decide +kernel
theorem dX2_init_9 : decode cX2_init 9 = .ok (.aload_n 0, 1) := by decide +kernel
theorem dX2_init_10 : decode cX2_init 10 = .ok (.iconst 1, 1) := by decide +kernel
theorem dX2_init_11 : decode cX2_init 11 = .ok (.putfield 13, 3) := by decide +kernel
theorem dX2_init_14 : decode cX2_init 14 = .ok (.aload_n 0, 1) := by decide +kernel
theorem dX2_init_15 : decode cX2_init 15 = .ok (.bipush 24, 2) := by decide +kernel
theorem dX2_init_17 : decode cX2_init 17 = .ok (.newarray .int, 2) := by decide +kernel
theorem dX2_init_19 : decode cX2_init 19 = .ok (.putfield 16, 3) := by decide +kernel
theorem dX2_init_22 : decode cX2_init 22 = .ok (.aload_n 0, 1) := by decide +kernel
theorem dX2_init_23 : decode cX2_init 23 = .ok (.bipush 24, 2) := by decide +kernel
theorem dX2_init_25 : decode cX2_init 25 = .ok (.newarray .int, 2) := by decide +kernel
theorem dX2_init_27 : decode cX2_init 27 = .ok (.putfield 20, 3) := by decide +kernel
theorem dX2_init_30 : decode cX2_init 30 = .ok (.aload_n 0, 1) := by decide +kernel
theorem dX2_init_31 : decode cX2_init 31 = .ok (.bipush 24, 2) := by decide +kernel
theorem dX2_init_33 : decode cX2_init 33 = .ok (.newarray .int, 2) := by decide +kernel
theorem dX2_init_35 : decode cX2_init 35 = .ok (.putfield 23, 3) := by decide +kernel
theorem dX2_init_38 : decode cX2_init 38 = .ok (.aload_n 0, 1) := by decide +kernel
theorem dX2_init_39 : decode cX2_init 39 = .ok (.bipush 24, 2) := by decide +kernel
theorem dX2_init_41 : decode cX2_init 41 = .ok (.newarray .int, 2) := by decide +kernel
theorem dX2_init_43 : decode cX2_init 43 = .ok (.putfield 26, 3) := by decide +kernel
theorem dX2_init_46 : decode cX2_init 46 = .ok (.aload_n 0, 1) := by decide +kernel
theorem dX2_init_47 : decode cX2_init 47 = .ok (.bipush 24, 2) := by decide +kernel
theorem dX2_init_49 : decode cX2_init 49 = .ok (.newarray .int, 2) := by decide +kernel
theorem dX2_init_51 : decode cX2_init 51 = .ok (.putfield 29, 3) := by decide +kernel
theorem dX2_init_54 : decode cX2_init 54 = .ok (.aload_n 0, 1) := by decide +kernel
theorem dX2_init_55 : decode cX2_init 55 = .ok (.bipush 24, 2) := by decide +kernel
theorem dX2_init_57 : decode cX2_init 57 = .ok (.newarray .int, 2) := by decide +kernel
theorem dX2_init_59 : decode cX2_init 59 = .ok (.putfield 32, 3) := by decide +kernel
theorem dX2_init_62 : decode cX2_init 62 = .ok (.aload_n 0, 1) := by decide +kernel
theorem dX2_init_63 : decode cX2_init 63 = .ok (.bipush 24, 2) := by decide +kernel
theorem dX2_init_65 : decode cX2_init 65 = .ok (.newarray .boolean, 2) := by decide +kernel
theorem dX2_init_67 : decode cX2_init 67 = .ok (.putfield 35, 3) := by decide +kernel
theorem dX2_init_70 : decode cX2_init 70 = .ok (.aload_n 0, 1) := by decide +kernel
theorem dX2_init_71 : decode cX2_init 71 = .ok (.sipush 144, 3) := by decide +kernel
theorem dX2_init_74 : decode cX2_init 74 = .ok (.newarray .int, 2) := by decide +kernel
theorem dX2_init_76 : decode cX2_init 76 = .ok (.putfield 39, 3) := by decide +kernel
theorem dX2_init_79 : decode cX2_init 79 = .ok (.aload_n 0, 1) := by decide +kernel
theorem dX2_init_80 : decode cX2_init 80 = .ok (.bipush 24, 2) := by decide +kernel
theorem dX2_init_82 : decode cX2_init 82 = .ok (.newarray .int, 2) := by decide +kernel
theorem dX2_init_84 : decode cX2_init 84 = .ok (.putfield 42, 3) := by decide +kernel
theorem dX2_init_87 : decode cX2_init 87 = .ok (.aload_n 0, 1) := by decide +kernel
theorem dX2_init_88 : decode cX2_init 88 = .ok (.sipush 960, 3) := by decide +kernel
theorem dX2_init_91 : decode cX2_init 91 = .ok (.newarray .int, 2) := by decide +kernel
theorem dX2_init_93 : decode cX2_init 93 = .ok (.putfield 45, 3) := by decide +kernel
theorem dX2_init_96 : decode cX2_init 96 = .ok (.aload_n 0, 1) := by decide +kernel
theorem dX2_init_97 : decode cX2_init 97 = .ok (.bipush 6, 2) := by decide +kernel
theorem dX2_init_99 : decode cX2_init 99 = .ok (.newarray .int, 2) := by decide +kernel
theorem dX2_init_101 : decode cX2_init 101 = .ok (.putfield 48, 3) := by decide +kernel
theorem dX2_init_104 : decode cX2_init 104 = .ok (.aload_n 0, 1) := by decide +kernel
theorem dX2_init_105 : decode cX2_init 105 = .ok (.iconst 5, 1) := by decide +kernel
theorem dX2_init_106 : decode cX2_init 106 = .ok (.newarray .int, 2) := by decide +kernel
theorem dX2_init_108 : decode cX2_init 108 = .ok (.putfield 51, 3) := by decide +kernel
theorem dX2_init_111 : decode cX2_init 111 = .ok (.aload_n 0, 1) := by decide +kernel
theorem dX2_init_112 : decode cX2_init 112 = .ok (.bipush 6, 2) := by decide +kernel
theorem dX2_init_114 : decode cX2_init 114 = .ok (.newarray .int, 2) := by decide +kernel
theorem dX2_init_116 : decode cX2_init 116 = .ok (.putfield 54, 3) := by decide +kernel
theorem dX2_init_119 : decode cX2_init 119 = .ok (.aload_n 0, 1) := by decide +kernel
theorem dX2_init_120 : decode cX2_init 120 = .ok (.getfield 20, 3) := by decide +kernel
theorem dX2_init_123 : decode cX2_init 123 = .ok (.iconst 0, 1) := by decide +kernel
theorem dX2_init_124 : decode cX2_init 124 = .ok (.bipush (-7), 2) := by decide +kernel
theorem dX2_init_126 : decode cX2_init 126 = .ok (.iastore, 1) := by decide +kernel
theorem dX2_init_127 : decode cX2_init 127 = .ok (.aload_n 0, 1) := by decide +kernel
theorem dX2_init_128 : decode cX2_init 128 = .ok (.getfield 23, 3) := by decide +kernel
theorem dX2_init_131 : decode cX2_init 131 = .ok (.iconst 0, 1) := by decide +kernel
theorem dX2_init_132 : decode cX2_init 132 = .ok (.bipush (-7), 2) := by decide +kernel
theorem dX2_init_134 : decode cX2_init 134 = .ok (.iastore, 1) := by decide +kernel
theorem dX2_init_135 : decode cX2_init 135 = .ok (.iconst 0, 1) := by decide +kernel
theorem dX2_init_136 : decode cX2_init 136 = .ok (.istore_n 1, 1) := by decide +kernel
theorem dX2_init_137 : decode cX2_init 137 = .ok (.iload_n 1, 1) := by decide +kernel
theorem dX2_init_138 : decode cX2_init 138 = .ok (.iconst 5, 1) := by decide +kernel
theorem dX2_init_139 : decode cX2_init 139 = .ok (.if_icmp .ge 17, 3) := by decide +kernel
theorem dX2_init_142 : decode cX2_init 142 = .ok (.aload_n 0, 1) := by decide +kernel
theorem dX2_init_143 : decode cX2_init 143 = .ok (.getfield 51, 3) := by decide +kernel
theorem dX2_init_146 : decode cX2_init 146 = .ok (.iload_n 1, 1) := by decide +kernel
theorem dX2_init_147 : decode cX2_init 147 = .ok (.bipush (-7), 2) := by decide +kernel
theorem dX2_init_149 : decode cX2_init 149 = .ok (.iastore, 1) := by decide +kernel
theorem dX2_init_150 : decode cX2_init 150 = .ok (.iinc 1 1, 3) := by decide +kernel
theorem dX2_init_153 : decode cX2_init 153 = .ok (.goto (-16), 3) := by decide +kernel
theorem dX2_init_156 : decode cX2_init 156 = .ok (.return_, 1) := by decide +kernel
theorem dX2_within_0 : decode cX2_within 0 = .ok (.iload_n 0, 1) := by decide +kernel
theorem dX2_within_1 : decode cX2_within 1 = .ok (.iload_n 1, 1) := by decide +kernel
theorem dX2_within_2 : decode cX2_within 2 = .ok (.if_icmp .lt 12, 3) := by decide +kernel
theorem dX2_within_5 : decode cX2_within 5 = .ok (.iload_n 0, 1) := by decide +kernel
theorem dX2_within_6 : decode cX2_within 6 = .ok (.iload_n 2, 1) := by decide +kernel
theorem dX2_within_7 : decode cX2_within 7 = .ok (.if_icmp .gt 7, 3) := by decide +kernel
theorem dX2_within_10 : decode cX2_within 10 = .ok (.iconst 1, 1) := by decide +kernel
theorem dX2_within_11 : decode cX2_within 11 = .ok (.goto 4, 3) := by decide +kernel
theorem dX2_within_14 : decode cX2_within 14 = .ok (.iconst 0, 1) := by decide +kernel
theorem dX2_within_15 : decode cX2_within 15 = .ok (.ireturn, 1) := by decide +kernel
theorem dX2_at_0 : decode cX2_at 0 = .ok (.bipush (-7), 2) := by decide +kernel
theorem dX2_at_2 : decode cX2_at 2 = .ok (.istore_n 2, 1) := by decide +kernel
theorem dX2_at_3 : decode cX2_at 3 = .ok (.iconst 0, 1) := by decide +kernel
theorem dX2_at_4 : decode cX2_at 4 = .ok (.istore_n 3, 1) := by decide +kernel
theorem dX2_at_5 : decode cX2_at 5 = .ok (.iload_n 3, 1) := by decide +kernel
theorem dX2_at_6 : decode cX2_at 6 = .ok (.aload_n 0, 1) := by decide +kernel
theorem dX2_at_7 : decode cX2_at 7 = .ok (.getfield 7, 3) := by decide +kernel
theorem dX2_at_10 : decode cX2_at 10 = .ok (.if_icmp .ge 25, 3) := by decide +kernel
theorem dX2_at_13 : decode cX2_at 13 = .ok (.aload_n 0, 1) := by decide +kernel
theorem dX2_at_14 : decode cX2_at 14 = .ok (.getfield 16, 3) := by decide +kernel
theorem dX2_at_17 : decode cX2_at 17 = .ok (.iload_n 3, 1) := by decide +kernel
theorem dX2_at_18 : decode cX2_at 18 = .ok (.iaload, 1) := by decide +kernel
theorem dX2_at_19 : decode cX2_at 19 = .ok (.iload_n 1, 1) := by decide +kernel
theorem dX2_at_20 : decode cX2_at 20 = .ok (.if_icmp .ne 7, 3) := by decide +kernel
theorem dX2_at_23 : decode cX2_at 23 = .ok (.iload_n 3, 1) := by decide +kernel
theorem dX2_at_24 : decode cX2_at 24 = .ok (.goto 4, 3) := by decide +kernel
theorem dX2_at_27 : decode cX2_at 27 = .ok (.iload_n 2, 1) := by decide +kernel
theorem dX2_at_28 : decode cX2_at 28 = .ok (.istore_n 2, 1) := by decide +kernel
theorem dX2_at_29 : decode cX2_at 29 = .ok (.iinc 3 1, 3) := by decide +kernel
theorem dX2_at_32 : decode cX2_at 32 = .ok (.goto (-27), 3) := by decide +kernel
theorem dX2_at_35 : decode cX2_at 35 = .ok (.iload_n 2, 1) := by decide +kernel
theorem dX2_at_36 : decode cX2_at 36 = .ok (.ireturn, 1) := by decide +kernel
theorem dX2_above_0 : decode cX2_above 0 = .ok (.aload_n 0, 1) := by decide +kernel
theorem dX2_above_1 : decode cX2_above 1 = .ok (.getfield 20, 3) := by decide +kernel
theorem dX2_above_4 : decode cX2_above 4 = .ok (.iload_n 1, 1) := by decide +kernel
theorem dX2_above_5 : decode cX2_above 5 = .ok (.iaload, 1) := by decide +kernel
theorem dX2_above_6 : decode cX2_above 6 = .ok (.bipush (-7), 2) := by decide +kernel
theorem dX2_above_8 : decode cX2_above 8 = .ok (.if_icmp .ne 8, 3) := by decide +kernel
theorem dX2_above_11 : decode cX2_above 11 = .ok (.bipush (-7), 2) := by decide +kernel
theorem dX2_above_13 : decode cX2_above 13 = .ok (.goto 13, 3) := by decide +kernel
theorem dX2_above_16 : decode cX2_above 16 = .ok (.aload_n 0, 1) := by decide +kernel
theorem dX2_above_17 : decode cX2_above 17 = .ok (.aload_n 0, 1) := by decide +kernel
theorem dX2_above_18 : decode cX2_above 18 = .ok (.getfield 20, 3) := by decide +kernel
theorem dX2_above_21 : decode cX2_above 21 = .ok (.iload_n 1, 1) := by decide +kernel
theorem dX2_above_22 : decode cX2_above 22 = .ok (.iaload, 1) := by decide +kernel
theorem dX2_above_23 : decode cX2_above 23 = .ok (.invokevirtual 57, 3) := by decide +kernel
theorem dX2_above_26 : decode cX2_above 26 = .ok (.ireturn, 1) := by decide +kernel
theorem dX2_depth_0 : decode cX2_depth 0 = .ok (.iconst 0, 1) := by decide +kernel
theorem dX2_depth_1 : decode cX2_depth 1 = .ok (.istore_n 2, 1) := by decide +kernel
theorem dX2_depth_2 : decode cX2_depth 2 = .ok (.iload_n 1, 1) := by decide +kernel
theorem dX2_depth_3 : decode cX2_depth 3 = .ok (.istore_n 3, 1) := by decide +kernel
theorem dX2_depth_4 : decode cX2_depth 4 = .ok (.aload_n 0, 1) := by decide +kernel
theorem dX2_depth_5 : decode cX2_depth 5 = .ok (.iload_n 3, 1) := by decide +kernel
theorem dX2_depth_6 : decode cX2_depth 6 = .ok (.invokevirtual 61, 3) := by decide +kernel
theorem dX2_depth_9 : decode cX2_depth 9 = .ok (.bipush (-7), 2) := by decide +kernel
theorem dX2_depth_11 : decode cX2_depth 11 = .ok (.if_icmp .eq 15, 3) := by decide +kernel
theorem dX2_depth_14 : decode cX2_depth 14 = .ok (.iinc 2 1, 3) := by decide +kernel
theorem dX2_depth_17 : decode cX2_depth 17 = .ok (.aload_n 0, 1) := by decide +kernel
theorem dX2_depth_18 : decode cX2_depth 18 = .ok (.iload_n 3, 1) := by decide +kernel
theorem dX2_depth_19 : decode cX2_depth 19 = .ok (.invokevirtual 61, 3) := by decide +kernel
theorem dX2_depth_22 : decode cX2_depth 22 = .ok (.istore_n 3, 1) := by decide +kernel
theorem dX2_depth_23 : decode cX2_depth 23 = .ok (.goto (-19), 3) := by decide +kernel
theorem dX2_depth_26 : decode cX2_depth 26 = .ok (.iload_n 2, 1) := by decide +kernel
theorem dX2_depth_27 : decode cX2_depth 27 = .ok (.ireturn, 1) := by decide +kernel
theorem dX2_isOnPath_0 : decode cX2_isOnPath 0 = .ok (.iload_n 2, 1) := by decide +kernel
theorem dX2_isOnPath_1 : decode cX2_isOnPath 1 = .ok (.istore_n 3, 1) := by decide +kernel
theorem dX2_isOnPath_2 : decode cX2_isOnPath 2 = .ok (.iload_n 3, 1) := by decide +kernel
theorem dX2_isOnPath_3 : decode cX2_isOnPath 3 = .ok (.bipush (-7), 2) := by decide +kernel
theorem dX2_isOnPath_5 : decode cX2_isOnPath 5 = .ok (.if_icmp .eq 17, 3) := by decide +kernel
theorem dX2_isOnPath_8 : decode cX2_isOnPath 8 = .ok (.iload_n 3, 1) := by decide +kernel
theorem dX2_isOnPath_9 : decode cX2_isOnPath 9 = .ok (.iload_n 1, 1) := by decide +kernel
theorem dX2_isOnPath_10 : decode cX2_isOnPath 10 = .ok (.if_icmp .eq 12, 3) := by decide +kernel
theorem dX2_isOnPath_13 : decode cX2_isOnPath 13 = .ok (.aload_n 0, 1) := by decide +kernel
theorem dX2_isOnPath_14 : decode cX2_isOnPath 14 = .ok (.iload_n 3, 1) := by decide +kernel
theorem dX2_isOnPath_15 : decode cX2_isOnPath 15 = .ok (.invokevirtual 61, 3) := by decide +kernel
theorem dX2_isOnPath_18 : decode cX2_isOnPath 18 = .ok (.istore_n 3, 1) := by decide +kernel
theorem dX2_isOnPath_19 : decode cX2_isOnPath 19 = .ok (.goto (-17), 3) := by decide +kernel
theorem dX2_isOnPath_22 : decode cX2_isOnPath 22 = .ok (.iload_n 3, 1) := by decide +kernel
theorem dX2_isOnPath_23 : decode cX2_isOnPath 23 = .ok (.iload_n 1, 1) := by decide +kernel
theorem dX2_isOnPath_24 : decode cX2_isOnPath 24 = .ok (.if_icmp .ne 7, 3) := by decide +kernel
theorem dX2_isOnPath_27 : decode cX2_isOnPath 27 = .ok (.iconst 1, 1) := by decide +kernel
theorem dX2_isOnPath_28 : decode cX2_isOnPath 28 = .ok (.goto 4, 3) := by decide +kernel
theorem dX2_isOnPath_31 : decode cX2_isOnPath 31 = .ok (.iconst 0, 1) := by decide +kernel
theorem dX2_isOnPath_32 : decode cX2_isOnPath 32 = .ok (.ireturn, 1) := by decide +kernel
theorem dX2_become_0 : decode cX2_become 0 = .ok (.aload_n 0, 1) := by decide +kernel
theorem dX2_become_1 : decode cX2_become 1 = .ok (.dup, 1) := by decide +kernel
theorem dX2_become_2 : decode cX2_become 2 = .ok (.getfield 64, 3) := by decide +kernel
theorem dX2_become_5 : decode cX2_become 5 = .ok (.iconst 1, 1) := by decide +kernel
theorem dX2_become_6 : decode cX2_become 6 = .ok (.iadd, 1) := by decide +kernel
theorem dX2_become_7 : decode cX2_become 7 = .ok (.putfield 64, 3) := by decide +kernel
theorem dX2_become_10 : decode cX2_become 10 = .ok (.aload_n 0, 1) := by decide +kernel
theorem dX2_become_11 : decode cX2_become 11 = .ok (.getfield 26, 3) := by decide +kernel
theorem dX2_become_14 : decode cX2_become 14 = .ok (.iload_n 1, 1) := by decide +kernel
theorem dX2_become_15 : decode cX2_become 15 = .ok (.aload_n 0, 1) := by decide +kernel
theorem dX2_become_16 : decode cX2_become 16 = .ok (.getfield 64, 3) := by decide +kernel
theorem dX2_become_19 : decode cX2_become 19 = .ok (.iastore, 1) := by decide +kernel
theorem dX2_become_20 : decode cX2_become 20 = .ok (.aload_n 0, 1) := by decide +kernel
theorem dX2_become_21 : decode cX2_become 21 = .ok (.iload_n 1, 1) := by decide +kernel
theorem dX2_become_22 : decode cX2_become 22 = .ok (.putfield 67, 3) := by decide +kernel
theorem dX2_become_25 : decode cX2_become 25 = .ok (.iload_n 1, 1) := by decide +kernel
theorem dX2_become_26 : decode cX2_become 26 = .ok (.istore_n 2, 1) := by decide +kernel
theorem dX2_become_27 : decode cX2_become 27 = .ok (.aload_n 0, 1) := by decide +kernel
theorem dX2_become_28 : decode cX2_become 28 = .ok (.iload_n 2, 1) := by decide +kernel
theorem dX2_become_29 : decode cX2_become 29 = .ok (.invokevirtual 61, 3) := by decide +kernel
theorem dX2_become_32 : decode cX2_become 32 = .ok (.bipush (-7), 2) := by decide +kernel
theorem dX2_become_34 : decode cX2_become 34 = .ok (.if_icmp .eq 28, 3) := by decide +kernel
theorem dX2_become_37 : decode cX2_become 37 = .ok (.aload_n 0, 1) := by decide +kernel
theorem dX2_become_38 : decode cX2_become 38 = .ok (.getfield 23, 3) := by decide +kernel
theorem dX2_become_41 : decode cX2_become 41 = .ok (.aload_n 0, 1) := by decide +kernel
theorem dX2_become_42 : decode cX2_become 42 = .ok (.iload_n 2, 1) := by decide +kernel
theorem dX2_become_43 : decode cX2_become 43 = .ok (.invokevirtual 61, 3) := by decide +kernel
theorem dX2_become_46 : decode cX2_become 46 = .ok (.aload_n 0, 1) := by decide +kernel
theorem dX2_become_47 : decode cX2_become 47 = .ok (.getfield 16, 3) := by decide +kernel
theorem dX2_become_50 : decode cX2_become 50 = .ok (.iload_n 2, 1) := by decide +kernel
theorem dX2_become_51 : decode cX2_become 51 = .ok (.iaload, 1) := by decide +kernel
theorem dX2_become_52 : decode cX2_become 52 = .ok (.iastore, 1) := by decide +kernel
theorem dX2_become_53 : decode cX2_become 53 = .ok (.aload_n 0, 1) := by decide +kernel
theorem dX2_become_54 : decode cX2_become 54 = .ok (.iload_n 2, 1) := by decide +kernel
theorem dX2_become_55 : decode cX2_become 55 = .ok (.invokevirtual 61, 3) := by decide +kernel
theorem dX2_become_58 : decode cX2_become 58 = .ok (.istore_n 2, 1) := by decide +kernel
theorem dX2_become_59 : decode cX2_become 59 = .ok (.goto (-32), 3) := by decide +kernel
theorem dX2_become_62 : decode cX2_become 62 = .ok (.aload_n 0, 1) := by decide +kernel
theorem dX2_become_63 : decode cX2_become 63 = .ok (.getfield 16, 3) := by decide +kernel
theorem dX2_become_66 : decode cX2_become 66 = .ok (.iload_n 1, 1) := by decide +kernel
theorem dX2_become_67 : decode cX2_become 67 = .ok (.iaload, 1) := by decide +kernel
theorem dX2_become_68 : decode cX2_become 68 = .ok (.ireturn, 1) := by decide +kernel
theorem dX2_append_0 : decode cX2_append 0 = .ok (.iload_n 1, 1) := by decide +kernel
theorem dX2_append_1 : decode cX2_append 1 = .ok (.bipush 32, 2) := by decide +kernel
theorem dX2_append_3 : decode cX2_append 3 = .ok (.bipush 126, 2) := by decide +kernel
theorem dX2_append_5 : decode cX2_append 5 = .ok (.invokestatic 70, 3) := by decide +kernel
theorem dX2_append_8 : decode cX2_append 8 = .ok (.ifCond .ne 5, 3) := by decide +kernel
theorem dX2_append_11 : decode cX2_append 11 = .ok (.iconst (-1), 1) := by decide +kernel
theorem dX2_append_12 : decode cX2_append 12 = .ok (.ireturn, 1) := by decide +kernel
theorem dX2_append_13 : decode cX2_append 13 = .ok (.aload_n 0, 1) := by decide +kernel
theorem dX2_append_14 : decode cX2_append 14 = .ok (.getfield 74, 3) := by decide +kernel
theorem dX2_append_17 : decode cX2_append 17 = .ok (.bipush 6, 2) := by decide +kernel
theorem dX2_append_19 : decode cX2_append 19 = .ok (.if_icmp .ne 6, 3) := by decide +kernel
theorem dX2_append_22 : decode cX2_append 22 = .ok (.bipush (-4), 2) := by decide +kernel
theorem dX2_append_24 : decode cX2_append 24 = .ok (.ireturn, 1) := by decide +kernel
theorem dX2_append_25 : decode cX2_append 25 = .ok (.aload_n 0, 1) := by decide +kernel
theorem dX2_append_26 : decode cX2_append 26 = .ok (.getfield 48, 3) := by decide +kernel
theorem dX2_append_29 : decode cX2_append 29 = .ok (.aload_n 0, 1) := by decide +kernel
theorem dX2_append_30 : decode cX2_append 30 = .ok (.getfield 74, 3) := by decide +kernel
theorem dX2_append_33 : decode cX2_append 33 = .ok (.iload_n 1, 1) := by decide +kernel
theorem dX2_append_34 : decode cX2_append 34 = .ok (.iastore, 1) := by decide +kernel
theorem dX2_append_35 : decode cX2_append 35 = .ok (.aload_n 0, 1) := by decide +kernel
theorem dX2_append_36 : decode cX2_append 36 = .ok (.dup, 1) := by decide +kernel
theorem dX2_append_37 : decode cX2_append 37 = .ok (.getfield 74, 3) := by decide +kernel
theorem dX2_append_40 : decode cX2_append 40 = .ok (.iconst 1, 1) := by decide +kernel
theorem dX2_append_41 : decode cX2_append 41 = .ok (.iadd, 1) := by decide +kernel
theorem dX2_append_42 : decode cX2_append 42 = .ok (.putfield 74, 3) := by decide +kernel
theorem dX2_append_45 : decode cX2_append 45 = .ok (.aload_n 0, 1) := by decide +kernel
theorem dX2_append_46 : decode cX2_append 46 = .ok (.getfield 74, 3) := by decide +kernel
theorem dX2_append_49 : decode cX2_append 49 = .ok (.ireturn, 1) := by decide +kernel
theorem dX2_clearClip_0 : decode cX2_clearClip 0 = .ok (.aload_n 0, 1) := by decide +kernel
theorem dX2_clearClip_1 : decode cX2_clearClip 1 = .ok (.getfield 74, 3) := by decide +kernel
theorem dX2_clearClip_4 : decode cX2_clearClip 4 = .ok (.istore_n 1, 1) := by decide +kernel
theorem dX2_clearClip_5 : decode cX2_clearClip 5 = .ok (.aload_n 0, 1) := by decide +kernel
theorem dX2_clearClip_6 : decode cX2_clearClip 6 = .ok (.iconst 0, 1) := by decide +kernel
theorem dX2_clearClip_7 : decode cX2_clearClip 7 = .ok (.putfield 74, 3) := by decide +kernel
theorem dX2_clearClip_10 : decode cX2_clearClip 10 = .ok (.iload_n 1, 1) := by decide +kernel
theorem dX2_clearClip_11 : decode cX2_clearClip 11 = .ok (.ireturn, 1) := by decide +kernel
theorem dX2_grow_0 : decode cX2_grow 0 = .ok (.aload_n 0, 1) := by decide +kernel
theorem dX2_grow_1 : decode cX2_grow 1 = .ok (.getfield 7, 3) := by decide +kernel
theorem dX2_grow_4 : decode cX2_grow 4 = .ok (.istore 4, 2) := by decide +kernel
theorem dX2_grow_6 : decode cX2_grow 6 = .ok (.aload_n 0, 1) := by decide +kernel
theorem dX2_grow_7 : decode cX2_grow 7 = .ok (.getfield 16, 3) := by decide +kernel
theorem dX2_grow_10 : decode cX2_grow 10 = .ok (.iload 4, 2) := by decide +kernel
theorem dX2_grow_12 : decode cX2_grow 12 = .ok (.aload_n 0, 1) := by decide +kernel
theorem dX2_grow_13 : decode cX2_grow 13 = .ok (.getfield 13, 3) := by decide +kernel
theorem dX2_grow_16 : decode cX2_grow 16 = .ok (.iastore, 1) := by decide +kernel
theorem dX2_grow_17 : decode cX2_grow 17 = .ok (.aload_n 0, 1) := by decide +kernel
theorem dX2_grow_18 : decode cX2_grow 18 = .ok (.dup, 1) := by decide +kernel
theorem dX2_grow_19 : decode cX2_grow 19 = .ok (.getfield 13, 3) := by decide +kernel
theorem dX2_grow_22 : decode cX2_grow 22 = .ok (.iconst 1, 1) := by decide +kernel
theorem dX2_grow_23 : decode cX2_grow 23 = .ok (.iadd, 1) := by decide +kernel
theorem dX2_grow_24 : decode cX2_grow 24 = .ok (.putfield 13, 3) := by decide +kernel
theorem dX2_grow_27 : decode cX2_grow 27 = .ok (.aload_n 0, 1) := by decide +kernel
theorem dX2_grow_28 : decode cX2_grow 28 = .ok (.getfield 20, 3) := by decide +kernel
theorem dX2_grow_31 : decode cX2_grow 31 = .ok (.iload 4, 2) := by decide +kernel
theorem dX2_grow_33 : decode cX2_grow 33 = .ok (.aload_n 0, 1) := by decide +kernel
theorem dX2_grow_34 : decode cX2_grow 34 = .ok (.getfield 16, 3) := by decide +kernel
theorem dX2_grow_37 : decode cX2_grow 37 = .ok (.aload_n 0, 1) := by decide +kernel
theorem dX2_grow_38 : decode cX2_grow 38 = .ok (.getfield 67, 3) := by decide +kernel
theorem dX2_grow_41 : decode cX2_grow 41 = .ok (.iaload, 1) := by decide +kernel
theorem dX2_grow_42 : decode cX2_grow 42 = .ok (.iastore, 1) := by decide +kernel
theorem dX2_grow_43 : decode cX2_grow 43 = .ok (.aload_n 0, 1) := by decide +kernel
theorem dX2_grow_44 : decode cX2_grow 44 = .ok (.getfield 23, 3) := by decide +kernel
theorem dX2_grow_47 : decode cX2_grow 47 = .ok (.iload 4, 2) := by decide +kernel
theorem dX2_grow_49 : decode cX2_grow 49 = .ok (.bipush (-7), 2) := by decide +kernel
theorem dX2_grow_51 : decode cX2_grow 51 = .ok (.iastore, 1) := by decide +kernel
theorem dX2_grow_52 : decode cX2_grow 52 = .ok (.aload_n 0, 1) := by decide +kernel
theorem dX2_grow_53 : decode cX2_grow 53 = .ok (.getfield 29, 3) := by decide +kernel
theorem dX2_grow_56 : decode cX2_grow 56 = .ok (.iload 4, 2) := by decide +kernel
theorem dX2_grow_58 : decode cX2_grow 58 = .ok (.iload_n 1, 1) := by decide +kernel
theorem dX2_grow_59 : decode cX2_grow 59 = .ok (.iastore, 1) := by decide +kernel
theorem dX2_grow_60 : decode cX2_grow 60 = .ok (.aload_n 0, 1) := by decide +kernel
theorem dX2_grow_61 : decode cX2_grow 61 = .ok (.getfield 32, 3) := by decide +kernel
theorem dX2_grow_64 : decode cX2_grow 64 = .ok (.iload 4, 2) := by decide +kernel
theorem dX2_grow_66 : decode cX2_grow 66 = .ok (.iload_n 2, 1) := by decide +kernel
theorem dX2_grow_67 : decode cX2_grow 67 = .ok (.iastore, 1) := by decide +kernel
theorem dX2_grow_68 : decode cX2_grow 68 = .ok (.aload_n 0, 1) := by decide +kernel
theorem dX2_grow_69 : decode cX2_grow 69 = .ok (.getfield 35, 3) := by decide +kernel
theorem dX2_grow_72 : decode cX2_grow 72 = .ok (.iload 4, 2) := by decide +kernel
theorem dX2_grow_74 : decode cX2_grow 74 = .ok (.iload_n 3, 1) := by decide +kernel
theorem dX2_grow_75 : decode cX2_grow 75 = .ok (.bastore, 1) := by decide +kernel
theorem dX2_grow_76 : decode cX2_grow 76 = .ok (.iconst 0, 1) := by decide +kernel
theorem dX2_grow_77 : decode cX2_grow 77 = .ok (.istore 5, 2) := by decide +kernel
theorem dX2_grow_79 : decode cX2_grow 79 = .ok (.iload 5, 2) := by decide +kernel
theorem dX2_grow_81 : decode cX2_grow 81 = .ok (.iload_n 2, 1) := by decide +kernel
theorem dX2_grow_82 : decode cX2_grow 82 = .ok (.if_icmp .ge 29, 3) := by decide +kernel
theorem dX2_grow_85 : decode cX2_grow 85 = .ok (.aload_n 0, 1) := by decide +kernel
theorem dX2_grow_86 : decode cX2_grow 86 = .ok (.getfield 39, 3) := by decide +kernel
theorem dX2_grow_89 : decode cX2_grow 89 = .ok (.bipush 6, 2) := by decide +kernel
theorem dX2_grow_91 : decode cX2_grow 91 = .ok (.iload 4, 2) := by decide +kernel
theorem dX2_grow_93 : decode cX2_grow 93 = .ok (.imul, 1) := by decide +kernel
theorem dX2_grow_94 : decode cX2_grow 94 = .ok (.iload 5, 2) := by decide +kernel
theorem dX2_grow_96 : decode cX2_grow 96 = .ok (.iadd, 1) := by decide +kernel
theorem dX2_grow_97 : decode cX2_grow 97 = .ok (.aload_n 0, 1) := by decide +kernel
theorem dX2_grow_98 : decode cX2_grow 98 = .ok (.getfield 54, 3) := by decide +kernel
theorem dX2_grow_101 : decode cX2_grow 101 = .ok (.iload 5, 2) := by decide +kernel
theorem dX2_grow_103 : decode cX2_grow 103 = .ok (.iaload, 1) := by decide +kernel
theorem dX2_grow_104 : decode cX2_grow 104 = .ok (.iastore, 1) := by decide +kernel
theorem dX2_grow_105 : decode cX2_grow 105 = .ok (.iinc 5 1, 3) := by decide +kernel
theorem dX2_grow_108 : decode cX2_grow 108 = .ok (.goto (-29), 3) := by decide +kernel
theorem dX2_grow_111 : decode cX2_grow 111 = .ok (.aload_n 0, 1) := by decide +kernel
theorem dX2_grow_112 : decode cX2_grow 112 = .ok (.getfield 42, 3) := by decide +kernel
theorem dX2_grow_115 : decode cX2_grow 115 = .ok (.aload_n 0, 1) := by decide +kernel
theorem dX2_grow_116 : decode cX2_grow 116 = .ok (.getfield 67, 3) := by decide +kernel
theorem dX2_grow_119 : decode cX2_grow 119 = .ok (.iaload, 1) := by decide +kernel
theorem dX2_grow_120 : decode cX2_grow 120 = .ok (.istore 5, 2) := by decide +kernel
theorem dX2_grow_122 : decode cX2_grow 122 = .ok (.aload_n 0, 1) := by decide +kernel
theorem dX2_grow_123 : decode cX2_grow 123 = .ok (.getfield 42, 3) := by decide +kernel
theorem dX2_grow_126 : decode cX2_grow 126 = .ok (.iload 4, 2) := by decide +kernel
theorem dX2_grow_128 : decode cX2_grow 128 = .ok (.iload_n 3, 1) := by decide +kernel
theorem dX2_grow_129 : decode cX2_grow 129 = .ok (.ifCond .eq 10, 3) := by decide +kernel
theorem dX2_grow_132 : decode cX2_grow 132 = .ok (.iload 5, 2) := by decide +kernel
theorem dX2_grow_134 : decode cX2_grow 134 = .ok (.iload_n 2, 1) := by decide +kernel
theorem dX2_grow_135 : decode cX2_grow 135 = .ok (.isub, 1) := by decide +kernel
theorem dX2_grow_136 : decode cX2_grow 136 = .ok (.goto 7, 3) := by decide +kernel
theorem dX2_grow_139 : decode cX2_grow 139 = .ok (.iload 5, 2) := by decide +kernel
theorem dX2_grow_141 : decode cX2_grow 141 = .ok (.iload_n 2, 1) := by decide +kernel
theorem dX2_grow_142 : decode cX2_grow 142 = .ok (.iadd, 1) := by decide +kernel
theorem dX2_grow_143 : decode cX2_grow 143 = .ok (.iastore, 1) := by decide +kernel
theorem dX2_grow_144 : decode cX2_grow 144 = .ok (.iconst 0, 1) := by decide +kernel
theorem dX2_grow_145 : decode cX2_grow 145 = .ok (.istore 6, 2) := by decide +kernel
theorem dX2_grow_147 : decode cX2_grow 147 = .ok (.iload 6, 2) := by decide +kernel
theorem dX2_grow_149 : decode cX2_grow 149 = .ok (.aload_n 0, 1) := by decide +kernel
theorem dX2_grow_150 : decode cX2_grow 150 = .ok (.getfield 42, 3) := by decide +kernel
theorem dX2_grow_153 : decode cX2_grow 153 = .ok (.iload 4, 2) := by decide +kernel
theorem dX2_grow_155 : decode cX2_grow 155 = .ok (.iaload, 1) := by decide +kernel
theorem dX2_grow_156 : decode cX2_grow 156 = .ok (.if_icmp .ge 128, 3) := by decide +kernel
theorem dX2_grow_159 : decode cX2_grow 159 = .ok (.iload_n 3, 1) := by decide +kernel
theorem dX2_grow_160 : decode cX2_grow 160 = .ok (.ifCond .eq 47, 3) := by decide +kernel
theorem dX2_grow_163 : decode cX2_grow 163 = .ok (.aload_n 0, 1) := by decide +kernel
theorem dX2_grow_164 : decode cX2_grow 164 = .ok (.getfield 45, 3) := by decide +kernel
theorem dX2_grow_167 : decode cX2_grow 167 = .ok (.bipush 40, 2) := by decide +kernel
theorem dX2_grow_169 : decode cX2_grow 169 = .ok (.iload 4, 2) := by decide +kernel
theorem dX2_grow_171 : decode cX2_grow 171 = .ok (.imul, 1) := by decide +kernel
theorem dX2_grow_172 : decode cX2_grow 172 = .ok (.iload 6, 2) := by decide +kernel
theorem dX2_grow_174 : decode cX2_grow 174 = .ok (.iadd, 1) := by decide +kernel
theorem dX2_grow_175 : decode cX2_grow 175 = .ok (.aload_n 0, 1) := by decide +kernel
theorem dX2_grow_176 : decode cX2_grow 176 = .ok (.getfield 45, 3) := by decide +kernel
theorem dX2_grow_179 : decode cX2_grow 179 = .ok (.bipush 40, 2) := by decide +kernel
theorem dX2_grow_181 : decode cX2_grow 181 = .ok (.aload_n 0, 1) := by decide +kernel
theorem dX2_grow_182 : decode cX2_grow 182 = .ok (.getfield 67, 3) := by decide +kernel
theorem dX2_grow_185 : decode cX2_grow 185 = .ok (.imul, 1) := by decide +kernel
theorem dX2_grow_186 : decode cX2_grow 186 = .ok (.iload 6, 2) := by decide +kernel
theorem dX2_grow_188 : decode cX2_grow 188 = .ok (.iload_n 1, 1) := by decide +kernel
theorem dX2_grow_189 : decode cX2_grow 189 = .ok (.if_icmp .ge 8, 3) := by decide +kernel
theorem dX2_grow_192 : decode cX2_grow 192 = .ok (.iload 6, 2) := by decide +kernel
theorem dX2_grow_194 : decode cX2_grow 194 = .ok (.goto 7, 3) := by decide +kernel
theorem dX2_grow_197 : decode cX2_grow 197 = .ok (.iload 6, 2) := by decide +kernel
theorem dX2_grow_199 : decode cX2_grow 199 = .ok (.iload_n 2, 1) := by decide +kernel
theorem dX2_grow_200 : decode cX2_grow 200 = .ok (.iadd, 1) := by decide +kernel
theorem dX2_grow_201 : decode cX2_grow 201 = .ok (.iadd, 1) := by decide +kernel
theorem dX2_grow_202 : decode cX2_grow 202 = .ok (.iaload, 1) := by decide +kernel
theorem dX2_grow_203 : decode cX2_grow 203 = .ok (.iastore, 1) := by decide +kernel
theorem dX2_grow_204 : decode cX2_grow 204 = .ok (.goto 74, 3) := by decide +kernel
theorem dX2_grow_207 : decode cX2_grow 207 = .ok (.iload 6, 2) := by decide +kernel
theorem dX2_grow_209 : decode cX2_grow 209 = .ok (.iload_n 1, 1) := by decide +kernel
theorem dX2_grow_210 : decode cX2_grow 210 = .ok (.iload_n 1, 1) := by decide +kernel
theorem dX2_grow_211 : decode cX2_grow 211 = .ok (.iload_n 2, 1) := by decide +kernel
theorem dX2_grow_212 : decode cX2_grow 212 = .ok (.iadd, 1) := by decide +kernel
theorem dX2_grow_213 : decode cX2_grow 213 = .ok (.iconst 1, 1) := by decide +kernel
theorem dX2_grow_214 : decode cX2_grow 214 = .ok (.isub, 1) := by decide +kernel
theorem dX2_grow_215 : decode cX2_grow 215 = .ok (.invokestatic 70, 3) := by decide +kernel
theorem dX2_grow_218 : decode cX2_grow 218 = .ok (.istore 7, 2) := by decide +kernel
theorem dX2_grow_220 : decode cX2_grow 220 = .ok (.aload_n 0, 1) := by decide +kernel
theorem dX2_grow_221 : decode cX2_grow 221 = .ok (.getfield 45, 3) := by decide +kernel
theorem dX2_grow_224 : decode cX2_grow 224 = .ok (.bipush 40, 2) := by decide +kernel
theorem dX2_grow_226 : decode cX2_grow 226 = .ok (.iload 4, 2) := by decide +kernel
theorem dX2_grow_228 : decode cX2_grow 228 = .ok (.imul, 1) := by decide +kernel
theorem dX2_grow_229 : decode cX2_grow 229 = .ok (.iload 6, 2) := by decide +kernel
theorem dX2_grow_231 : decode cX2_grow 231 = .ok (.iadd, 1) := by decide +kernel
theorem dX2_grow_232 : decode cX2_grow 232 = .ok (.iload 7, 2) := by decide +kernel
theorem dX2_grow_234 : decode cX2_grow 234 = .ok (.ifCond .eq 15, 3) := by decide +kernel
theorem dX2_grow_237 : decode cX2_grow 237 = .ok (.aload_n 0, 1) := by decide +kernel
theorem dX2_grow_238 : decode cX2_grow 238 = .ok (.getfield 54, 3) := by decide +kernel
theorem dX2_grow_241 : decode cX2_grow 241 = .ok (.iload 6, 2) := by decide +kernel
theorem dX2_grow_243 : decode cX2_grow 243 = .ok (.iload_n 1, 1) := by decide +kernel
theorem dX2_grow_244 : decode cX2_grow 244 = .ok (.isub, 1) := by decide +kernel
theorem dX2_grow_245 : decode cX2_grow 245 = .ok (.iaload, 1) := by decide +kernel
theorem dX2_grow_246 : decode cX2_grow 246 = .ok (.goto 31, 3) := by decide +kernel
theorem dX2_grow_249 : decode cX2_grow 249 = .ok (.aload_n 0, 1) := by decide +kernel
theorem dX2_grow_250 : decode cX2_grow 250 = .ok (.getfield 45, 3) := by decide +kernel
theorem dX2_grow_253 : decode cX2_grow 253 = .ok (.bipush 40, 2) := by decide +kernel
theorem dX2_grow_255 : decode cX2_grow 255 = .ok (.aload_n 0, 1) := by decide +kernel
theorem dX2_grow_256 : decode cX2_grow 256 = .ok (.getfield 67, 3) := by decide +kernel
theorem dX2_grow_259 : decode cX2_grow 259 = .ok (.imul, 1) := by decide +kernel
theorem dX2_grow_260 : decode cX2_grow 260 = .ok (.iload 6, 2) := by decide +kernel
theorem dX2_grow_262 : decode cX2_grow 262 = .ok (.iload_n 1, 1) := by decide +kernel
theorem dX2_grow_263 : decode cX2_grow 263 = .ok (.if_icmp .ge 8, 3) := by decide +kernel
theorem dX2_grow_266 : decode cX2_grow 266 = .ok (.iload 6, 2) := by decide +kernel
theorem dX2_grow_268 : decode cX2_grow 268 = .ok (.goto 7, 3) := by decide +kernel
theorem dX2_grow_271 : decode cX2_grow 271 = .ok (.iload 6, 2) := by decide +kernel
theorem dX2_grow_273 : decode cX2_grow 273 = .ok (.iload_n 2, 1) := by decide +kernel
theorem dX2_grow_274 : decode cX2_grow 274 = .ok (.isub, 1) := by decide +kernel
theorem dX2_grow_275 : decode cX2_grow 275 = .ok (.iadd, 1) := by decide +kernel
theorem dX2_grow_276 : decode cX2_grow 276 = .ok (.iaload, 1) := by decide +kernel
theorem dX2_grow_277 : decode cX2_grow 277 = .ok (.iastore, 1) := by decide +kernel
theorem dX2_grow_278 : decode cX2_grow 278 = .ok (.iinc 6 1, 3) := by decide +kernel
theorem dX2_grow_281 : decode cX2_grow 281 = .ok (.goto (-134), 3) := by decide +kernel
theorem dX2_grow_284 : decode cX2_grow 284 = .ok (.aload_n 0, 1) := by decide +kernel
theorem dX2_grow_285 : decode cX2_grow 285 = .ok (.dup, 1) := by decide +kernel
theorem dX2_grow_286 : decode cX2_grow 286 = .ok (.getfield 7, 3) := by decide +kernel
theorem dX2_grow_289 : decode cX2_grow 289 = .ok (.iconst 1, 1) := by decide +kernel
theorem dX2_grow_290 : decode cX2_grow 290 = .ok (.iadd, 1) := by decide +kernel
theorem dX2_grow_291 : decode cX2_grow 291 = .ok (.putfield 7, 3) := by decide +kernel
theorem dX2_grow_294 : decode cX2_grow 294 = .ok (.aload_n 0, 1) := by decide +kernel
theorem dX2_grow_295 : decode cX2_grow 295 = .ok (.iload 4, 2) := by decide +kernel
theorem dX2_grow_297 : decode cX2_grow 297 = .ok (.invokevirtual 77, 3) := by decide +kernel
theorem dX2_grow_300 : decode cX2_grow 300 = .ok (.ireturn, 1) := by decide +kernel
theorem dX2_insert_0 : decode cX2_insert 0 = .ok (.aload_n 0, 1) := by decide +kernel
theorem dX2_insert_1 : decode cX2_insert 1 = .ok (.getfield 74, 3) := by decide +kernel
theorem dX2_insert_4 : decode cX2_insert 4 = .ok (.ifCond .ne 6, 3) := by decide +kernel
theorem dX2_insert_7 : decode cX2_insert 7 = .ok (.bipush (-7), 2) := by decide +kernel
theorem dX2_insert_9 : decode cX2_insert 9 = .ok (.ireturn, 1) := by decide +kernel
theorem dX2_insert_10 : decode cX2_insert 10 = .ok (.iload_n 1, 1) := by decide +kernel
theorem dX2_insert_11 : decode cX2_insert 11 = .ok (.iconst 0, 1) := by decide +kernel
theorem dX2_insert_12 : decode cX2_insert 12 = .ok (.aload_n 0, 1) := by decide +kernel
theorem dX2_insert_13 : decode cX2_insert 13 = .ok (.getfield 42, 3) := by decide +kernel
theorem dX2_insert_16 : decode cX2_insert 16 = .ok (.aload_n 0, 1) := by decide +kernel
theorem dX2_insert_17 : decode cX2_insert 17 = .ok (.getfield 67, 3) := by decide +kernel
theorem dX2_insert_20 : decode cX2_insert 20 = .ok (.iaload, 1) := by decide +kernel
theorem dX2_insert_21 : decode cX2_insert 21 = .ok (.invokestatic 70, 3) := by decide +kernel
theorem dX2_insert_24 : decode cX2_insert 24 = .ok (.ifCond .ne 5, 3) := by decide +kernel
theorem dX2_insert_27 : decode cX2_insert 27 = .ok (.iconst (-1), 1) := by decide +kernel
theorem dX2_insert_28 : decode cX2_insert 28 = .ok (.ireturn, 1) := by decide +kernel
theorem dX2_insert_29 : decode cX2_insert 29 = .ok (.aload_n 0, 1) := by decide +kernel
theorem dX2_insert_30 : decode cX2_insert 30 = .ok (.getfield 42, 3) := by decide +kernel
theorem dX2_insert_33 : decode cX2_insert 33 = .ok (.aload_n 0, 1) := by decide +kernel
theorem dX2_insert_34 : decode cX2_insert 34 = .ok (.getfield 67, 3) := by decide +kernel
theorem dX2_insert_37 : decode cX2_insert 37 = .ok (.iaload, 1) := by decide +kernel
theorem dX2_insert_38 : decode cX2_insert 38 = .ok (.aload_n 0, 1) := by decide +kernel
theorem dX2_insert_39 : decode cX2_insert 39 = .ok (.getfield 74, 3) := by decide +kernel
theorem dX2_insert_42 : decode cX2_insert 42 = .ok (.iadd, 1) := by decide +kernel
theorem dX2_insert_43 : decode cX2_insert 43 = .ok (.bipush 40, 2) := by decide +kernel
theorem dX2_insert_45 : decode cX2_insert 45 = .ok (.if_icmp .le 6, 3) := by decide +kernel
theorem dX2_insert_48 : decode cX2_insert 48 = .ok (.bipush (-4), 2) := by decide +kernel
theorem dX2_insert_50 : decode cX2_insert 50 = .ok (.ireturn, 1) := by decide +kernel
theorem dX2_insert_51 : decode cX2_insert 51 = .ok (.aload_n 0, 1) := by decide +kernel
theorem dX2_insert_52 : decode cX2_insert 52 = .ok (.getfield 7, 3) := by decide +kernel
theorem dX2_insert_55 : decode cX2_insert 55 = .ok (.bipush 24, 2) := by decide +kernel
theorem dX2_insert_57 : decode cX2_insert 57 = .ok (.if_icmp .ne 6, 3) := by decide +kernel
theorem dX2_insert_60 : decode cX2_insert 60 = .ok (.bipush (-3), 2) := by decide +kernel
theorem dX2_insert_62 : decode cX2_insert 62 = .ok (.ireturn, 1) := by decide +kernel
theorem dX2_insert_63 : decode cX2_insert 63 = .ok (.aload_n 0, 1) := by decide +kernel
theorem dX2_insert_64 : decode cX2_insert 64 = .ok (.getfield 74, 3) := by decide +kernel
theorem dX2_insert_67 : decode cX2_insert 67 = .ok (.istore_n 2, 1) := by decide +kernel
theorem dX2_insert_68 : decode cX2_insert 68 = .ok (.iconst 0, 1) := by decide +kernel
theorem dX2_insert_69 : decode cX2_insert 69 = .ok (.istore_n 3, 1) := by decide +kernel
theorem dX2_insert_70 : decode cX2_insert 70 = .ok (.iload_n 3, 1) := by decide +kernel
theorem dX2_insert_71 : decode cX2_insert 71 = .ok (.iload_n 2, 1) := by decide +kernel
theorem dX2_insert_72 : decode cX2_insert 72 = .ok (.if_icmp .ge 21, 3) := by decide +kernel
theorem dX2_insert_75 : decode cX2_insert 75 = .ok (.aload_n 0, 1) := by decide +kernel
theorem dX2_insert_76 : decode cX2_insert 76 = .ok (.getfield 54, 3) := by decide +kernel
theorem dX2_insert_79 : decode cX2_insert 79 = .ok (.iload_n 3, 1) := by decide +kernel
theorem dX2_insert_80 : decode cX2_insert 80 = .ok (.aload_n 0, 1) := by decide +kernel
theorem dX2_insert_81 : decode cX2_insert 81 = .ok (.getfield 48, 3) := by decide +kernel
theorem dX2_insert_84 : decode cX2_insert 84 = .ok (.iload_n 3, 1) := by decide +kernel
theorem dX2_insert_85 : decode cX2_insert 85 = .ok (.iaload, 1) := by decide +kernel
theorem dX2_insert_86 : decode cX2_insert 86 = .ok (.iastore, 1) := by decide +kernel
theorem dX2_insert_87 : decode cX2_insert 87 = .ok (.iinc 3 1, 3) := by decide +kernel
theorem dX2_insert_90 : decode cX2_insert 90 = .ok (.goto (-20), 3) := by decide +kernel
theorem dX2_insert_93 : decode cX2_insert 93 = .ok (.aload_n 0, 1) := by decide +kernel
theorem dX2_insert_94 : decode cX2_insert 94 = .ok (.iconst 0, 1) := by decide +kernel
theorem dX2_insert_95 : decode cX2_insert 95 = .ok (.putfield 74, 3) := by decide +kernel
theorem dX2_insert_98 : decode cX2_insert 98 = .ok (.aload_n 0, 1) := by decide +kernel
theorem dX2_insert_99 : decode cX2_insert 99 = .ok (.iload_n 1, 1) := by decide +kernel
theorem dX2_insert_100 : decode cX2_insert 100 = .ok (.iload_n 2, 1) := by decide +kernel
theorem dX2_insert_101 : decode cX2_insert 101 = .ok (.iconst 0, 1) := by decide +kernel
theorem dX2_insert_102 : decode cX2_insert 102 = .ok (.invokevirtual 80, 3) := by decide +kernel
theorem dX2_insert_105 : decode cX2_insert 105 = .ok (.ireturn, 1) := by decide +kernel
theorem dX2_cut_0 : decode cX2_cut 0 = .ok (.iconst 0, 1) := by decide +kernel
theorem dX2_cut_1 : decode cX2_cut 1 = .ok (.istore_n 3, 1) := by decide +kernel
theorem dX2_cut_2 : decode cX2_cut 2 = .ok (.iload_n 3, 1) := by decide +kernel
theorem dX2_cut_3 : decode cX2_cut 3 = .ok (.iload_n 2, 1) := by decide +kernel
theorem dX2_cut_4 : decode cX2_cut 4 = .ok (.if_icmp .ge 31, 3) := by decide +kernel
theorem dX2_cut_7 : decode cX2_cut 7 = .ok (.aload_n 0, 1) := by decide +kernel
theorem dX2_cut_8 : decode cX2_cut 8 = .ok (.getfield 54, 3) := by decide +kernel
theorem dX2_cut_11 : decode cX2_cut 11 = .ok (.iload_n 3, 1) := by decide +kernel
theorem dX2_cut_12 : decode cX2_cut 12 = .ok (.aload_n 0, 1) := by decide +kernel
theorem dX2_cut_13 : decode cX2_cut 13 = .ok (.getfield 45, 3) := by decide +kernel
theorem dX2_cut_16 : decode cX2_cut 16 = .ok (.bipush 40, 2) := by decide +kernel
theorem dX2_cut_18 : decode cX2_cut 18 = .ok (.aload_n 0, 1) := by decide +kernel
theorem dX2_cut_19 : decode cX2_cut 19 = .ok (.getfield 67, 3) := by decide +kernel
theorem dX2_cut_22 : decode cX2_cut 22 = .ok (.imul, 1) := by decide +kernel
theorem dX2_cut_23 : decode cX2_cut 23 = .ok (.iload_n 1, 1) := by decide +kernel
theorem dX2_cut_24 : decode cX2_cut 24 = .ok (.iadd, 1) := by decide +kernel
theorem dX2_cut_25 : decode cX2_cut 25 = .ok (.iload_n 3, 1) := by decide +kernel
theorem dX2_cut_26 : decode cX2_cut 26 = .ok (.iadd, 1) := by decide +kernel
theorem dX2_cut_27 : decode cX2_cut 27 = .ok (.iaload, 1) := by decide +kernel
theorem dX2_cut_28 : decode cX2_cut 28 = .ok (.iastore, 1) := by decide +kernel

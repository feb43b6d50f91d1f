theorem dX1_forget_15 : decode cX1_forget 15 = .ok (.invokevirtual 124, 3) := by decide +kernel
theorem dX1_forget_18 : decode cX1_forget 18 = .ok (.ifCond .ne 6, 3) := by decide +kernel
theorem dX1_forget_21 : decode cX1_forget 21 = .ok (.bipush (-6), 2) := by decide +kernel
theorem dX1_forget_23 : decode cX1_forget 23 = .ok (.ireturn, 1) := by decide +kernel
theorem dX1_forget_24 : decode cX1_forget 24 = .ok (.aload_n 2, 1) := by decide +kernel
theorem dX1_forget_25 : decode cX1_forget 25 = .ok (.getfield 62, 3) := by decide +kernel
theorem dX1_forget_28 : decode cX1_forget 28 = .ok (.astore_n 3, 1) := by decide +kernel
theorem dX1_forget_29 : decode cX1_forget 29 = .ok (.aload_n 0, 1) := by decide +kernel
theorem dX1_forget_30 : decode cX1_forget 30 = .ok (.aload_n 2, 1) := by decide +kernel
theorem dX1_forget_31 : decode cX1_forget 31 = .ok (.invokevirtual 128, 3) := by decide +kernel
theorem dX1_forget_34 : decode cX1_forget 34 = .ok (.aload_n 3, 1) := by decide +kernel
theorem dX1_forget_35 : decode cX1_forget 35 = .ok (.ifnull 20, 3) := by decide +kernel
theorem dX1_forget_38 : decode cX1_forget 38 = .ok (.aload_n 3, 1) := by decide +kernel
theorem dX1_forget_39 : decode cX1_forget 39 = .ok (.getfield 69, 3) := by decide +kernel
theorem dX1_forget_42 : decode cX1_forget 42 = .ok (.aload_n 2, 1) := by decide +kernel
theorem dX1_forget_43 : decode cX1_forget 43 = .ok (.if_acmp .ne 12, 3) := by decide +kernel
theorem dX1_forget_46 : decode cX1_forget 46 = .ok (.aload_n 3, 1) := by decide +kernel
theorem dX1_forget_47 : decode cX1_forget 47 = .ok (.aload_n 0, 1) := by decide +kernel
theorem dX1_forget_48 : decode cX1_forget 48 = .ok (.aload_n 3, 1) := by decide +kernel
theorem dX1_forget_49 : decode cX1_forget 49 = .ok (.invokevirtual 131, 3) := by decide +kernel
theorem dX1_forget_52 : decode cX1_forget 52 = .ok (.putfield 69, 3) := by decide +kernel
theorem dX1_forget_55 : decode cX1_forget 55 = .ok (.aload_n 0, 1) := by decide +kernel
theorem dX1_forget_56 : decode cX1_forget 56 = .ok (.getfield 15, 3) := by decide +kernel
theorem dX1_forget_59 : decode cX1_forget 59 = .ok (.ireturn, 1) := by decide +kernel
theorem dX1_digest_0 : decode cX1_digest 0 = .ok (.ldc2_w 134, 3) := by decide +kernel
theorem dX1_digest_3 : decode cX1_digest 3 = .ok (.aload_n 0, 1) := by decide +kernel
theorem dX1_digest_4 : decode cX1_digest 4 = .ok (.getfield 15, 3) := by decide +kernel
theorem dX1_digest_7 : decode cX1_digest 7 = .ok (.i2l, 1) := by decide +kernel
theorem dX1_digest_8 : decode cX1_digest 8 = .ok (.invokestatic 136, 3) := by decide +kernel
theorem dX1_digest_11 : decode cX1_digest 11 = .ok (.lstore_n 1, 1) := by decide +kernel
theorem dX1_digest_12 : decode cX1_digest 12 = .ok (.iconst 0, 1) := by decide +kernel
theorem dX1_digest_13 : decode cX1_digest 13 = .ok (.istore_n 3, 1) := by decide +kernel
theorem dX1_digest_14 : decode cX1_digest 14 = .ok (.iload_n 3, 1) := by decide +kernel
theorem dX1_digest_15 : decode cX1_digest 15 = .ok (.aload_n 0, 1) := by decide +kernel
theorem dX1_digest_16 : decode cX1_digest 16 = .ok (.getfield 15, 3) := by decide +kernel
theorem dX1_digest_19 : decode cX1_digest 19 = .ok (.if_icmp .ge 20, 3) := by decide +kernel
theorem dX1_digest_22 : decode cX1_digest 22 = .ok (.lload_n 1, 1) := by decide +kernel
theorem dX1_digest_23 : decode cX1_digest 23 = .ok (.aload_n 0, 1) := by decide +kernel
theorem dX1_digest_24 : decode cX1_digest 24 = .ok (.getfield 11, 3) := by decide +kernel
theorem dX1_digest_27 : decode cX1_digest 27 = .ok (.iload_n 3, 1) := by decide +kernel
theorem dX1_digest_28 : decode cX1_digest 28 = .ok (.aaload, 1) := by decide +kernel
theorem dX1_digest_29 : decode cX1_digest 29 = .ok (.invokestatic 140, 3) := by decide +kernel
theorem dX1_digest_32 : decode cX1_digest 32 = .ok (.lstore_n 1, 1) := by decide +kernel
theorem dX1_digest_33 : decode cX1_digest 33 = .ok (.iinc 3 1, 3) := by decide +kernel
theorem dX1_digest_36 : decode cX1_digest 36 = .ok (.goto (-22), 3) := by decide +kernel
theorem dX1_digest_39 : decode cX1_digest 39 = .ok (.lload_n 1, 1) := by decide +kernel
theorem dX1_digest_40 : decode cX1_digest 40 = .ok (.aload_n 0, 1) := by decide +kernel
theorem dX1_digest_41 : decode cX1_digest 41 = .ok (.getfield 36, 3) := by decide +kernel
theorem dX1_digest_44 : decode cX1_digest 44 = .ok (.getfield 55, 3) := by decide +kernel
theorem dX1_digest_47 : decode cX1_digest 47 = .ok (.i2l, 1) := by decide +kernel
theorem dX1_digest_48 : decode cX1_digest 48 = .ok (.invokestatic 136, 3) := by decide +kernel
theorem dX1_digest_51 : decode cX1_digest 51 = .ok (.lstore_n 1, 1) := by decide +kernel
theorem dX1_digest_52 : decode cX1_digest 52 = .ok (.lload_n 1, 1) := by decide +kernel
theorem dX1_digest_53 : decode cX1_digest 53 = .ok (.aload_n 0, 1) := by decide +kernel
theorem dX1_digest_54 : decode cX1_digest 54 = .ok (.invokevirtual 144, 3) := by decide +kernel
theorem dX1_digest_57 : decode cX1_digest 57 = .ok (.i2l, 1) := by decide +kernel
theorem dX1_digest_58 : decode cX1_digest 58 = .ok (.invokestatic 136, 3) := by decide +kernel
theorem dX1_digest_61 : decode cX1_digest 61 = .ok (.lstore_n 1, 1) := by decide +kernel
theorem dX1_digest_62 : decode cX1_digest 62 = .ok (.iconst 0, 1) := by decide +kernel
theorem dX1_digest_63 : decode cX1_digest 63 = .ok (.istore_n 3, 1) := by decide +kernel
theorem dX1_digest_64 : decode cX1_digest 64 = .ok (.iload_n 3, 1) := by decide +kernel
theorem dX1_digest_65 : decode cX1_digest 65 = .ok (.iconst 5, 1) := by decide +kernel
theorem dX1_digest_66 : decode cX1_digest 66 = .ok (.if_icmp .ge 24, 3) := by decide +kernel
theorem dX1_digest_69 : decode cX1_digest 69 = .ok (.lload_n 1, 1) := by decide +kernel
theorem dX1_digest_70 : decode cX1_digest 70 = .ok (.aload_n 0, 1) := by decide +kernel
theorem dX1_digest_71 : decode cX1_digest 71 = .ok (.getfield 32, 3) := by decide +kernel
theorem dX1_digest_74 : decode cX1_digest 74 = .ok (.iload_n 3, 1) := by decide +kernel
theorem dX1_digest_75 : decode cX1_digest 75 = .ok (.aaload, 1) := by decide +kernel
theorem dX1_digest_76 : decode cX1_digest 76 = .ok (.invokestatic 105, 3) := by decide +kernel
theorem dX1_digest_79 : decode cX1_digest 79 = .ok (.i2l, 1) := by decide +kernel
theorem dX1_digest_80 : decode cX1_digest 80 = .ok (.invokestatic 136, 3) := by decide +kernel
theorem dX1_digest_83 : decode cX1_digest 83 = .ok (.lstore_n 1, 1) := by decide +kernel
theorem dX1_digest_84 : decode cX1_digest 84 = .ok (.iinc 3 1, 3) := by decide +kernel
theorem dX1_digest_87 : decode cX1_digest 87 = .ok (.goto (-23), 3) := by decide +kernel
theorem dX1_digest_90 : decode cX1_digest 90 = .ok (.lload_n 1, 1) := by decide +kernel
theorem dX1_digest_91 : decode cX1_digest 91 = .ok (.aload_n 0, 1) := by decide +kernel
theorem dX1_digest_92 : decode cX1_digest 92 = .ok (.getfield 22, 3) := by decide +kernel
theorem dX1_digest_95 : decode cX1_digest 95 = .ok (.i2l, 1) := by decide +kernel
theorem dX1_digest_96 : decode cX1_digest 96 = .ok (.invokestatic 136, 3) := by decide +kernel
theorem dX1_digest_99 : decode cX1_digest 99 = .ok (.lstore_n 1, 1) := by decide +kernel
theorem dX1_digest_100 : decode cX1_digest 100 = .ok (.lload_n 1, 1) := by decide +kernel
theorem dX1_digest_101 : decode cX1_digest 101 = .ok (.aload_n 0, 1) := by decide +kernel
theorem dX1_digest_102 : decode cX1_digest 102 = .ok (.getfield 25, 3) := by decide +kernel
theorem dX1_digest_105 : decode cX1_digest 105 = .ok (.aload_n 0, 1) := by decide +kernel
theorem dX1_digest_106 : decode cX1_digest 106 = .ok (.getfield 29, 3) := by decide +kernel
theorem dX1_digest_109 : decode cX1_digest 109 = .ok (.invokestatic 148, 3) := by decide +kernel
theorem dX1_digest_112 : decode cX1_digest 112 = .ok (.lreturn, 1) := by decide +kernel
theorem dX1_find_0 : decode cX1_find 0 = .ok (.iconst 0, 1) := by decide +kernel
theorem dX1_find_1 : decode cX1_find 1 = .ok (.istore_n 2, 1) := by decide +kernel
theorem dX1_find_2 : decode cX1_find 2 = .ok (.iload_n 2, 1) := by decide +kernel
theorem dX1_find_3 : decode cX1_find 3 = .ok (.aload_n 0, 1) := by decide +kernel
theorem dX1_find_4 : decode cX1_find 4 = .ok (.getfield 15, 3) := by decide +kernel
theorem dX1_find_7 : decode cX1_find 7 = .ok (.if_icmp .ge 29, 3) := by decide +kernel
theorem dX1_find_10 : decode cX1_find 10 = .ok (.aload_n 0, 1) := by decide +kernel
theorem dX1_find_11 : decode cX1_find 11 = .ok (.getfield 11, 3) := by decide +kernel
theorem dX1_find_14 : decode cX1_find 14 = .ok (.iload_n 2, 1) := by decide +kernel
theorem dX1_find_15 : decode cX1_find 15 = .ok (.aaload, 1) := by decide +kernel
theorem dX1_find_16 : decode cX1_find 16 = .ok (.getfield 55, 3) := by decide +kernel
theorem dX1_find_19 : decode cX1_find 19 = .ok (.iload_n 1, 1) := by decide +kernel
theorem dX1_find_20 : decode cX1_find 20 = .ok (.if_icmp .ne 10, 3) := by decide +kernel
theorem dX1_find_23 : decode cX1_find 23 = .ok (.aload_n 0, 1) := by decide +kernel
theorem dX1_find_24 : decode cX1_find 24 = .ok (.getfield 11, 3) := by decide +kernel
theorem dX1_find_27 : decode cX1_find 27 = .ok (.iload_n 2, 1) := by decide +kernel
theorem dX1_find_28 : decode cX1_find 28 = .ok (.aaload, 1) := by decide +kernel
theorem dX1_find_29 : decode cX1_find 29 = .ok (.areturn, 1) := by decide +kernel
theorem dX1_find_30 : decode cX1_find 30 = .ok (.iinc 2 1, 3) := by decide +kernel
theorem dX1_find_33 : decode cX1_find 33 = .ok (.goto (-31), 3) := by decide +kernel
theorem dX1_find_36 : decode cX1_find 36 = .ok (.aconst_null, 1) := by decide +kernel
theorem dX1_find_37 : decode cX1_find 37 = .ok (.areturn, 1) := by decide +kernel
theorem dX1_newestChild_0 : decode cX1_newestChild 0 = .ok (.aload_n 0, 1) := by decide +kernel
theorem dX1_newestChild_1 : decode cX1_newestChild 1 = .ok (.getfield 15, 3) := by decide +kernel
theorem dX1_newestChild_4 : decode cX1_newestChild 4 = .ok (.iconst 1, 1) := by decide +kernel
theorem dX1_newestChild_5 : decode cX1_newestChild 5 = .ok (.isub, 1) := by decide +kernel
theorem dX1_newestChild_6 : decode cX1_newestChild 6 = .ok (.istore_n 2, 1) := by decide +kernel
theorem dX1_newestChild_7 : decode cX1_newestChild 7 = .ok (.iload_n 2, 1) := by decide +kernel
theorem dX1_newestChild_8 : decode cX1_newestChild 8 = .ok (.ifCond .lt 29, 3) := by decide +kernel
theorem dX1_newestChild_11 : decode cX1_newestChild 11 = .ok (.aload_n 0, 1) := by decide +kernel
theorem dX1_newestChild_12 : decode cX1_newestChild 12 = .ok (.getfield 11, 3) := by decide +kernel
theorem dX1_newestChild_15 : decode cX1_newestChild 15 = .ok (.iload_n 2, 1) := by decide +kernel
theorem dX1_newestChild_16 : decode cX1_newestChild 16 = .ok (.aaload, 1) := by decide +kernel
theorem dX1_newestChild_17 : decode cX1_newestChild 17 = .ok (.getfield 62, 3) := by decide +kernel
theorem dX1_newestChild_20 : decode cX1_newestChild 20 = .ok (.aload_n 1, 1) := by decide +kernel
theorem dX1_newestChild_21 : decode cX1_newestChild 21 = .ok (.if_acmp .ne 10, 3) := by decide +kernel
theorem dX1_newestChild_24 : decode cX1_newestChild 24 = .ok (.aload_n 0, 1) := by decide +kernel
theorem dX1_newestChild_25 : decode cX1_newestChild 25 = .ok (.getfield 11, 3) := by decide +kernel
theorem dX1_newestChild_28 : decode cX1_newestChild 28 = .ok (.iload_n 2, 1) := by decide +kernel
theorem dX1_newestChild_29 : decode cX1_newestChild 29 = .ok (.aaload, 1) := by decide +kernel
theorem dX1_newestChild_30 : decode cX1_newestChild 30 = .ok (.areturn, 1) := by decide +kernel
theorem dX1_newestChild_31 : decode cX1_newestChild 31 = .ok (.iinc 2 (-1), 3) := by decide +kernel
theorem dX1_newestChild_34 : decode cX1_newestChild 34 = .ok (.goto (-27), 3) := by decide +kernel
theorem dX1_newestChild_37 : decode cX1_newestChild 37 = .ok (.aconst_null, 1) := by decide +kernel
theorem dX1_newestChild_38 : decode cX1_newestChild 38 = .ok (.areturn, 1) := by decide +kernel
theorem dX1_isAncestor_0 : decode cX1_isAncestor 0 = .ok (.aload_n 1, 1) := by decide +kernel
theorem dX1_isAncestor_1 : decode cX1_isAncestor 1 = .ok (.astore_n 2, 1) := by decide +kernel
theorem dX1_isAncestor_2 : decode cX1_isAncestor 2 = .ok (.aload_n 2, 1) := by decide +kernel
theorem dX1_isAncestor_3 : decode cX1_isAncestor 3 = .ok (.ifnull 18, 3) := by decide +kernel
theorem dX1_isAncestor_6 : decode cX1_isAncestor 6 = .ok (.aload_n 2, 1) := by decide +kernel
theorem dX1_isAncestor_7 : decode cX1_isAncestor 7 = .ok (.aload_n 0, 1) := by decide +kernel
theorem dX1_isAncestor_8 : decode cX1_isAncestor 8 = .ok (.if_acmp .ne 5, 3) := by decide +kernel
theorem dX1_isAncestor_11 : decode cX1_isAncestor 11 = .ok (.iconst 1, 1) := by decide +kernel
theorem dX1_isAncestor_12 : decode cX1_isAncestor 12 = .ok (.ireturn, 1) := by decide +kernel
theorem dX1_isAncestor_13 : decode cX1_isAncestor 13 = .ok (.aload_n 2, 1) := by decide +kernel
theorem dX1_isAncestor_14 : decode cX1_isAncestor 14 = .ok (.getfield 62, 3) := by decide +kernel
theorem dX1_isAncestor_17 : decode cX1_isAncestor 17 = .ok (.astore_n 2, 1) := by decide +kernel
theorem dX1_isAncestor_18 : decode cX1_isAncestor 18 = .ok (.goto (-16), 3) := by decide +kernel
theorem dX1_isAncestor_21 : decode cX1_isAncestor 21 = .ok (.iconst 0, 1) := by decide +kernel
theorem dX1_isAncestor_22 : decode cX1_isAncestor 22 = .ok (.ireturn, 1) := by decide +kernel
theorem dX1_lowestCommon_0 : decode cX1_lowestCommon 0 = .ok (.aload_n 0, 1) := by decide +kernel
theorem dX1_lowestCommon_1 : decode cX1_lowestCommon 1 = .ok (.astore_n 2, 1) := by decide +kernel
theorem dX1_lowestCommon_2 : decode cX1_lowestCommon 2 = .ok (.aload_n 2, 1) := by decide +kernel
theorem dX1_lowestCommon_3 : decode cX1_lowestCommon 3 = .ok (.getfield 62, 3) := by decide +kernel
theorem dX1_lowestCommon_6 : decode cX1_lowestCommon 6 = .ok (.ifnull 19, 3) := by decide +kernel
theorem dX1_lowestCommon_9 : decode cX1_lowestCommon 9 = .ok (.aload_n 2, 1) := by decide +kernel
theorem dX1_lowestCommon_10 : decode cX1_lowestCommon 10 = .ok (.aload_n 1, 1) := by decide +kernel
theorem dX1_lowestCommon_11 : decode cX1_lowestCommon 11 = .ok (.invokestatic 80, 3) := by decide +kernel
theorem dX1_lowestCommon_14 : decode cX1_lowestCommon 14 = .ok (.ifCond .ne 11, 3) := by decide +kernel
theorem dX1_lowestCommon_17 : decode cX1_lowestCommon 17 = .ok (.aload_n 2, 1) := by decide +kernel
theorem dX1_lowestCommon_18 : decode cX1_lowestCommon 18 = .ok (.getfield 62, 3) := by decide +kernel
theorem dX1_lowestCommon_21 : decode cX1_lowestCommon 21 = .ok (.astore_n 2, 1) := by decide +kernel
theorem dX1_lowestCommon_22 : decode cX1_lowestCommon 22 = .ok (.goto (-20), 3) := by decide +kernel
theorem dX1_lowestCommon_25 : decode cX1_lowestCommon 25 = .ok (.aload_n 2, 1) := by decide +kernel
theorem dX1_lowestCommon_26 : decode cX1_lowestCommon 26 = .ok (.areturn, 1) := by decide +kernel
theorem dX1_depthOf_0 : decode cX1_depthOf 0 = .ok (.iconst 0, 1) := by decide +kernel
theorem dX1_depthOf_1 : decode cX1_depthOf 1 = .ok (.istore_n 1, 1) := by decide +kernel
theorem dX1_depthOf_2 : decode cX1_depthOf 2 = .ok (.aload_n 0, 1) := by decide +kernel
theorem dX1_depthOf_3 : decode cX1_depthOf 3 = .ok (.getfield 62, 3) := by decide +kernel
theorem dX1_depthOf_6 : decode cX1_depthOf 6 = .ok (.astore_n 2, 1) := by decide +kernel
theorem dX1_depthOf_7 : decode cX1_depthOf 7 = .ok (.aload_n 2, 1) := by decide +kernel
theorem dX1_depthOf_8 : decode cX1_depthOf 8 = .ok (.ifnull 14, 3) := by decide +kernel
theorem dX1_depthOf_11 : decode cX1_depthOf 11 = .ok (.iinc 1 1, 3) := by decide +kernel
theorem dX1_depthOf_14 : decode cX1_depthOf 14 = .ok (.aload_n 2, 1) := by decide +kernel
theorem dX1_depthOf_15 : decode cX1_depthOf 15 = .ok (.getfield 62, 3) := by decide +kernel
theorem dX1_depthOf_18 : decode cX1_depthOf 18 = .ok (.astore_n 2, 1) := by decide +kernel
theorem dX1_depthOf_19 : decode cX1_depthOf 19 = .ok (.goto (-12), 3) := by decide +kernel
theorem dX1_depthOf_22 : decode cX1_depthOf 22 = .ok (.iload_n 1, 1) := by decide +kernel
theorem dX1_depthOf_23 : decode cX1_depthOf 23 = .ok (.ireturn, 1) := by decide +kernel
theorem dX1_stepsBetween_0 : decode cX1_stepsBetween 0 = .ok (.aload_n 0, 1) := by decide +kernel
theorem dX1_stepsBetween_1 : decode cX1_stepsBetween 1 = .ok (.aload_n 1, 1) := by decide +kernel
theorem dX1_stepsBetween_2 : decode cX1_stepsBetween 2 = .ok (.invokestatic 114, 3) := by decide +kernel
theorem dX1_stepsBetween_5 : decode cX1_stepsBetween 5 = .ok (.astore_n 2, 1) := by decide +kernel
theorem dX1_stepsBetween_6 : decode cX1_stepsBetween 6 = .ok (.aload_n 0, 1) := by decide +kernel
theorem dX1_stepsBetween_7 : decode cX1_stepsBetween 7 = .ok (.invokestatic 152, 3) := by decide +kernel
theorem dX1_stepsBetween_10 : decode cX1_stepsBetween 10 = .ok (.aload_n 1, 1) := by decide +kernel
theorem dX1_stepsBetween_11 : decode cX1_stepsBetween 11 = .ok (.invokestatic 152, 3) := by decide +kernel
theorem dX1_stepsBetween_14 : decode cX1_stepsBetween 14 = .ok (.iadd, 1) := by decide +kernel
theorem dX1_stepsBetween_15 : decode cX1_stepsBetween 15 = .ok (.iconst 2, 1) := by decide +kernel
theorem dX1_stepsBetween_16 : decode cX1_stepsBetween 16 = .ok (.aload_n 2, 1) := by decide +kernel
theorem dX1_stepsBetween_17 : decode cX1_stepsBetween 17 = .ok (.invokestatic 152, 3) := by decide +kernel
theorem dX1_stepsBetween_20 : decode cX1_stepsBetween 20 = .ok (.imul, 1) := by decide +kernel
theorem dX1_stepsBetween_21 : decode cX1_stepsBetween 21 = .ok (.isub, 1) := by decide +kernel
theorem dX1_stepsBetween_22 : decode cX1_stepsBetween 22 = .ok (.ireturn, 1) := by decide +kernel
theorem dX1_numberOrNone_0 : decode cX1_numberOrNone 0 = .ok (.aload_n 0, 1) := by decide +kernel
theorem dX1_numberOrNone_1 : decode cX1_numberOrNone 1 = .ok (.ifnonnull 8, 3) := by decide +kernel
theorem dX1_numberOrNone_4 : decode cX1_numberOrNone 4 = .ok (.bipush (-7), 2) := by decide +kernel
theorem dX1_numberOrNone_6 : decode cX1_numberOrNone 6 = .ok (.goto 7, 3) := by decide +kernel
theorem dX1_numberOrNone_9 : decode cX1_numberOrNone 9 = .ok (.aload_n 0, 1) := by decide +kernel
theorem dX1_numberOrNone_10 : decode cX1_numberOrNone 10 = .ok (.getfield 55, 3) := by decide +kernel
theorem dX1_numberOrNone_13 : decode cX1_numberOrNone 13 = .ok (.ireturn, 1) := by decide +kernel
theorem dX1_editCode_0 : decode cX1_editCode 0 = .ok (.sipush 1000, 3) := by decide +kernel
theorem dX1_editCode_3 : decode cX1_editCode 3 = .ok (.aload_n 0, 1) := by decide +kernel
theorem dX1_editCode_4 : decode cX1_editCode 4 = .ok (.getfield 98, 3) := by decide +kernel
theorem dX1_editCode_7 : decode cX1_editCode 7 = .ok (.imul, 1) := by decide +kernel
theorem dX1_editCode_8 : decode cX1_editCode 8 = .ok (.bipush 10, 2) := by decide +kernel
theorem dX1_editCode_10 : decode cX1_editCode 10 = .ok (.aload_n 0, 1) := by decide +kernel
theorem dX1_editCode_11 : decode cX1_editCode 11 = .ok (.getfield 92, 3) := by decide +kernel
theorem dX1_editCode_14 : decode cX1_editCode 14 = .ok (.imul, 1) := by decide +kernel
theorem dX1_editCode_15 : decode cX1_editCode 15 = .ok (.iadd, 1) := by decide +kernel
theorem dX1_editCode_16 : decode cX1_editCode 16 = .ok (.aload_n 0, 1) := by decide +kernel
theorem dX1_editCode_17 : decode cX1_editCode 17 = .ok (.getfield 88, 3) := by decide +kernel
theorem dX1_editCode_20 : decode cX1_editCode 20 = .ok (.ifCond .eq 7, 3) := by decide +kernel
theorem dX1_editCode_23 : decode cX1_editCode 23 = .ok (.iconst 1, 1) := by decide +kernel
theorem dX1_editCode_24 : decode cX1_editCode 24 = .ok (.goto 4, 3) := by decide +kernel
theorem dX1_editCode_27 : decode cX1_editCode 27 = .ok (.iconst 0, 1) := by decide +kernel
theorem dX1_editCode_28 : decode cX1_editCode 28 = .ok (.iadd, 1) := by decide +kernel
theorem dX1_editCode_29 : decode cX1_editCode 29 = .ok (.ireturn, 1) := by decide +kernel
theorem dX1_isTreeFull_0 : decode cX1_isTreeFull 0 = .ok (.aload_n 0, 1) := by decide +kernel
theorem dX1_isTreeFull_1 : decode cX1_isTreeFull 1 = .ok (.getfield 15, 3) := by decide +kernel
theorem dX1_isTreeFull_4 : decode cX1_isTreeFull 4 = .ok (.bipush 24, 2) := by decide +kernel
theorem dX1_isTreeFull_6 : decode cX1_isTreeFull 6 = .ok (.if_icmp .lt 7, 3) := by decide +kernel
theorem dX1_isTreeFull_9 : decode cX1_isTreeFull 9 = .ok (.iconst 1, 1) := by decide +kernel
theorem dX1_isTreeFull_10 : decode cX1_isTreeFull 10 = .ok (.goto 4, 3) := by decide +kernel
theorem dX1_isTreeFull_13 : decode cX1_isTreeFull 13 = .ok (.iconst 0, 1) := by decide +kernel
theorem dX1_isTreeFull_14 : decode cX1_isTreeFull 14 = .ok (.ireturn, 1) := by decide +kernel
theorem dX1_hasRoomFor_0 : decode cX1_hasRoomFor 0 = .ok (.iload_n 1, 1) := by decide +kernel
theorem dX1_hasRoomFor_1 : decode cX1_hasRoomFor 1 = .ok (.bipush 40, 2) := by decide +kernel
theorem dX1_hasRoomFor_3 : decode cX1_hasRoomFor 3 = .ok (.aload_n 0, 1) := by decide +kernel
theorem dX1_hasRoomFor_4 : decode cX1_hasRoomFor 4 = .ok (.getfield 36, 3) := by decide +kernel
theorem dX1_hasRoomFor_7 : decode cX1_hasRoomFor 7 = .ok (.getfield 40, 3) := by decide +kernel
theorem dX1_hasRoomFor_10 : decode cX1_hasRoomFor 10 = .ok (.isub, 1) := by decide +kernel
theorem dX1_hasRoomFor_11 : decode cX1_hasRoomFor 11 = .ok (.if_icmp .gt 7, 3) := by decide +kernel
theorem dX1_hasRoomFor_14 : decode cX1_hasRoomFor 14 = .ok (.iconst 1, 1) := by decide +kernel
theorem dX1_hasRoomFor_15 : decode cX1_hasRoomFor 15 = .ok (.goto 4, 3) := by decide +kernel
theorem dX1_hasRoomFor_18 : decode cX1_hasRoomFor 18 = .ok (.iconst 0, 1) := by decide +kernel
theorem dX1_hasRoomFor_19 : decode cX1_hasRoomFor 19 = .ok (.ireturn, 1) := by decide +kernel
theorem dX1_addInsertion_0 : decode cX1_addInsertion 0 = .ok (.aload_n 0, 1) := by decide +kernel
theorem dX1_addInsertion_1 : decode cX1_addInsertion 1 = .ok (.getfield 36, 3) := by decide +kernel
theorem dX1_addInsertion_4 : decode cX1_addInsertion 4 = .ok (.astore 5, 2) := by decide +kernel
theorem dX1_addInsertion_6 : decode cX1_addInsertion 6 = .ok (.aload_n 0, 1) := by decide +kernel
theorem dX1_addInsertion_7 : decode cX1_addInsertion 7 = .ok (.iload_n 1, 1) := by decide +kernel
theorem dX1_addInsertion_8 : decode cX1_addInsertion 8 = .ok (.iload 4, 2) := by decide +kernel
theorem dX1_addInsertion_10 : decode cX1_addInsertion 10 = .ok (.invokevirtual 155, 3) := by decide +kernel
theorem dX1_addInsertion_13 : decode cX1_addInsertion 13 = .ok (.astore 6, 2) := by decide +kernel
theorem dX1_addInsertion_15 : decode cX1_addInsertion 15 = .ok (.aload 5, 2) := by decide +kernel
theorem dX1_addInsertion_17 : decode cX1_addInsertion 17 = .ok (.getfield 40, 3) := by decide +kernel
theorem dX1_addInsertion_20 : decode cX1_addInsertion 20 = .ok (.iload_n 1, 1) := by decide +kernel
theorem dX1_addInsertion_21 : decode cX1_addInsertion 21 = .ok (.isub, 1) := by decide +kernel
theorem dX1_addInsertion_22 : decode cX1_addInsertion 22 = .ok (.istore 7, 2) := by decide +kernel
theorem dX1_addInsertion_24 : decode cX1_addInsertion 24 = .ok (.aload 5, 2) := by decide +kernel
theorem dX1_addInsertion_26 : decode cX1_addInsertion 26 = .ok (.getfield 95, 3) := by decide +kernel
theorem dX1_addInsertion_29 : decode cX1_addInsertion 29 = .ok (.iconst 0, 1) := by decide +kernel
theorem dX1_addInsertion_30 : decode cX1_addInsertion 30 = .ok (.aload 6, 2) := by decide +kernel
theorem dX1_addInsertion_32 : decode cX1_addInsertion 32 = .ok (.getfield 95, 3) := by decide +kernel
theorem dX1_addInsertion_35 : decode cX1_addInsertion 35 = .ok (.iconst 0, 1) := by decide +kernel
theorem dX1_addInsertion_36 : decode cX1_addInsertion 36 = .ok (.iload_n 1, 1) := by decide +kernel
theorem dX1_addInsertion_37 : decode cX1_addInsertion 37 = .ok (.invokestatic 159, 3) := by decide +kernel
theorem dX1_addInsertion_40 : decode cX1_addInsertion 40 = .ok (.aload_n 2, 1) := by decide +kernel
theorem dX1_addInsertion_41 : decode cX1_addInsertion 41 = .ok (.iload_n 3, 1) := by decide +kernel
theorem dX1_addInsertion_42 : decode cX1_addInsertion 42 = .ok (.aload 6, 2) := by decide +kernel
theorem dX1_addInsertion_44 : decode cX1_addInsertion 44 = .ok (.getfield 95, 3) := by decide +kernel
theorem dX1_addInsertion_47 : decode cX1_addInsertion 47 = .ok (.iload_n 1, 1) := by decide +kernel
theorem dX1_addInsertion_48 : decode cX1_addInsertion 48 = .ok (.iload 4, 2) := by decide +kernel
theorem dX1_addInsertion_50 : decode cX1_addInsertion 50 = .ok (.invokestatic 159, 3) := by decide +kernel
theorem dX1_addInsertion_53 : decode cX1_addInsertion 53 = .ok (.aload 5, 2) := by decide +kernel
theorem dX1_addInsertion_55 : decode cX1_addInsertion 55 = .ok (.getfield 95, 3) := by decide +kernel
theorem dX1_addInsertion_58 : decode cX1_addInsertion 58 = .ok (.iload_n 1, 1) := by decide +kernel
theorem dX1_addInsertion_59 : decode cX1_addInsertion 59 = .ok (.aload 6, 2) := by decide +kernel
theorem dX1_addInsertion_61 : decode cX1_addInsertion 61 = .ok (.getfield 95, 3) := by decide +kernel
theorem dX1_addInsertion_64 : decode cX1_addInsertion 64 = .ok (.iload_n 1, 1) := by decide +kernel
theorem dX1_addInsertion_65 : decode cX1_addInsertion 65 = .ok (.iload 4, 2) := by decide +kernel
theorem dX1_addInsertion_67 : decode cX1_addInsertion 67 = .ok (.iadd, 1) := by decide +kernel
theorem dX1_addInsertion_68 : decode cX1_addInsertion 68 = .ok (.iload 7, 2) := by decide +kernel
theorem dX1_addInsertion_70 : decode cX1_addInsertion 70 = .ok (.invokestatic 159, 3) := by decide +kernel
theorem dX1_addInsertion_73 : decode cX1_addInsertion 73 = .ok (.aload 6, 2) := by decide +kernel
theorem dX1_addInsertion_75 : decode cX1_addInsertion 75 = .ok (.aload 5, 2) := by decide +kernel
theorem dX1_addInsertion_77 : decode cX1_addInsertion 77 = .ok (.getfield 40, 3) := by decide +kernel
theorem dX1_addInsertion_80 : decode cX1_addInsertion 80 = .ok (.iload 4, 2) := by decide +kernel
theorem dX1_addInsertion_82 : decode cX1_addInsertion 82 = .ok (.iadd, 1) := by decide +kernel
theorem dX1_addInsertion_83 : decode cX1_addInsertion 83 = .ok (.putfield 40, 3) := by decide +kernel
theorem dX1_addInsertion_86 : decode cX1_addInsertion 86 = .ok (.aload 6, 2) := by decide +kernel
theorem dX1_addInsertion_88 : decode cX1_addInsertion 88 = .ok (.iconst 0, 1) := by decide +kernel
theorem dX1_addInsertion_89 : decode cX1_addInsertion 89 = .ok (.putfield 88, 3) := by decide +kernel
theorem dX1_addInsertion_92 : decode cX1_addInsertion 92 = .ok (.aload_n 0, 1) := by decide +kernel
theorem dX1_addInsertion_93 : decode cX1_addInsertion 93 = .ok (.aload 6, 2) := by decide +kernel
theorem dX1_addInsertion_95 : decode cX1_addInsertion 95 = .ok (.invokevirtual 65, 3) := by decide +kernel
theorem dX1_addInsertion_98 : decode cX1_addInsertion 98 = .ok (.return_, 1) := by decide +kernel
theorem dX1_addDeletion_0 : decode cX1_addDeletion 0 = .ok (.aload_n 0, 1) := by decide +kernel
theorem dX1_addDeletion_1 : decode cX1_addDeletion 1 = .ok (.getfield 36, 3) := by decide +kernel
theorem dX1_addDeletion_4 : decode cX1_addDeletion 4 = .ok (.astore_n 3, 1) := by decide +kernel
theorem dX1_addDeletion_5 : decode cX1_addDeletion 5 = .ok (.aload_n 0, 1) := by decide +kernel
theorem dX1_addDeletion_6 : decode cX1_addDeletion 6 = .ok (.iload_n 1, 1) := by decide +kernel
theorem dX1_addDeletion_7 : decode cX1_addDeletion 7 = .ok (.iload_n 2, 1) := by decide +kernel
theorem dX1_addDeletion_8 : decode cX1_addDeletion 8 = .ok (.invokevirtual 155, 3) := by decide +kernel
theorem dX1_addDeletion_11 : decode cX1_addDeletion 11 = .ok (.astore 4, 2) := by decide +kernel
theorem dX1_addDeletion_13 : decode cX1_addDeletion 13 = .ok (.aload_n 3, 1) := by decide +kernel
theorem dX1_addDeletion_14 : decode cX1_addDeletion 14 = .ok (.getfield 40, 3) := by decide +kernel
theorem dX1_addDeletion_17 : decode cX1_addDeletion 17 = .ok (.iload_n 1, 1) := by decide +kernel
theorem dX1_addDeletion_18 : decode cX1_addDeletion 18 = .ok (.isub, 1) := by decide +kernel
theorem dX1_addDeletion_19 : decode cX1_addDeletion 19 = .ok (.iload_n 2, 1) := by decide +kernel
theorem dX1_addDeletion_20 : decode cX1_addDeletion 20 = .ok (.isub, 1) := by decide +kernel
theorem dX1_addDeletion_21 : decode cX1_addDeletion 21 = .ok (.istore 5, 2) := by decide +kernel
theorem dX1_addDeletion_23 : decode cX1_addDeletion 23 = .ok (.aload_n 3, 1) := by decide +kernel
theorem dX1_addDeletion_24 : decode cX1_addDeletion 24 = .ok (.getfield 95, 3) := by decide +kernel
theorem dX1_addDeletion_27 : decode cX1_addDeletion 27 = .ok (.iconst 0, 1) := by decide +kernel
theorem dX1_addDeletion_28 : decode cX1_addDeletion 28 = .ok (.aload 4, 2) := by decide +kernel
theorem dX1_addDeletion_30 : decode cX1_addDeletion 30 = .ok (.getfield 95, 3) := by decide +kernel
theorem dX1_addDeletion_33 : decode cX1_addDeletion 33 = .ok (.iconst 0, 1) := by decide +kernel
theorem dX1_addDeletion_34 : decode cX1_addDeletion 34 = .ok (.iload_n 1, 1) := by decide +kernel
theorem dX1_addDeletion_35 : decode cX1_addDeletion 35 = .ok (.invokestatic 159, 3) := by decide +kernel
theorem dX1_addDeletion_38 : decode cX1_addDeletion 38 = .ok (.aload_n 3, 1) := by decide +kernel
theorem dX1_addDeletion_39 : decode cX1_addDeletion 39 = .ok (.getfield 95, 3) := by decide +kernel
theorem dX1_addDeletion_42 : decode cX1_addDeletion 42 = .ok (.iload_n 1, 1) := by decide +kernel
theorem dX1_addDeletion_43 : decode cX1_addDeletion 43 = .ok (.iload_n 2, 1) := by decide +kernel
theorem dX1_addDeletion_44 : decode cX1_addDeletion 44 = .ok (.iadd, 1) := by decide +kernel
theorem dX1_addDeletion_45 : decode cX1_addDeletion 45 = .ok (.aload 4, 2) := by decide +kernel
theorem dX1_addDeletion_47 : decode cX1_addDeletion 47 = .ok (.getfield 95, 3) := by decide +kernel
theorem dX1_addDeletion_50 : decode cX1_addDeletion 50 = .ok (.iload_n 1, 1) := by decide +kernel
theorem dX1_addDeletion_51 : decode cX1_addDeletion 51 = .ok (.iload 5, 2) := by decide +kernel
theorem dX1_addDeletion_53 : decode cX1_addDeletion 53 = .ok (.invokestatic 159, 3) := by decide +kernel
theorem dX1_addDeletion_56 : decode cX1_addDeletion 56 = .ok (.aload 4, 2) := by decide +kernel
theorem dX1_addDeletion_58 : decode cX1_addDeletion 58 = .ok (.aload_n 3, 1) := by decide +kernel
theorem dX1_addDeletion_59 : decode cX1_addDeletion 59 = .ok (.getfield 40, 3) := by decide +kernel
theorem dX1_addDeletion_62 : decode cX1_addDeletion 62 = .ok (.iload_n 2, 1) := by decide +kernel
theorem dX1_addDeletion_63 : decode cX1_addDeletion 63 = .ok (.isub, 1) := by decide +kernel
theorem dX1_addDeletion_64 : decode cX1_addDeletion 64 = .ok (.putfield 40, 3) := by decide +kernel
theorem dX1_addDeletion_67 : decode cX1_addDeletion 67 = .ok (.aload 4, 2) := by decide +kernel
theorem dX1_addDeletion_69 : decode cX1_addDeletion 69 = .ok (.iconst 1, 1) := by decide +kernel
theorem dX1_addDeletion_70 : decode cX1_addDeletion 70 = .ok (.putfield 88, 3) := by decide +kernel
theorem dX1_addDeletion_73 : decode cX1_addDeletion 73 = .ok (.aload_n 0, 1) := by decide +kernel
theorem dX1_addDeletion_74 : decode cX1_addDeletion 74 = .ok (.aload 4, 2) := by decide +kernel
theorem dX1_addDeletion_76 : decode cX1_addDeletion 76 = .ok (.invokevirtual 65, 3) := by decide +kernel
theorem dX1_addDeletion_79 : decode cX1_addDeletion 79 = .ok (.return_, 1) := by decide +kernel
theorem dX1_addChild_0 : decode cX1_addChild 0 = .ok (.aload_n 0, 1) := by decide +kernel
theorem dX1_addChild_1 : decode cX1_addChild 1 = .ok (.getfield 11, 3) := by decide +kernel
theorem dX1_addChild_4 : decode cX1_addChild 4 = .ok (.aload_n 0, 1) := by decide +kernel
theorem dX1_addChild_5 : decode cX1_addChild 5 = .ok (.getfield 15, 3) := by decide +kernel
theorem dX1_addChild_8 : decode cX1_addChild 8 = .ok (.aaload, 1) := by decide +kernel
theorem dX1_addChild_9 : decode cX1_addChild 9 = .ok (.astore_n 3, 1) := by decide +kernel
theorem dX1_addChild_10 : decode cX1_addChild 10 = .ok (.aload_n 0, 1) := by decide +kernel
theorem dX1_addChild_11 : decode cX1_addChild 11 = .ok (.dup, 1) := by decide +kernel
theorem dX1_addChild_12 : decode cX1_addChild 12 = .ok (.getfield 15, 3) := by decide +kernel
theorem dX1_addChild_15 : decode cX1_addChild 15 = .ok (.iconst 1, 1) := by decide +kernel
theorem dX1_addChild_16 : decode cX1_addChild 16 = .ok (.iadd, 1) := by decide +kernel
theorem dX1_addChild_17 : decode cX1_addChild 17 = .ok (.putfield 15, 3) := by decide +kernel
theorem dX1_addChild_20 : decode cX1_addChild 20 = .ok (.aload_n 0, 1) := by decide +kernel
theorem dX1_addChild_21 : decode cX1_addChild 21 = .ok (.dup, 1) := by decide +kernel
theorem dX1_addChild_22 : decode cX1_addChild 22 = .ok (.getfield 19, 3) := by decide +kernel
theorem dX1_addChild_25 : decode cX1_addChild 25 = .ok (.iconst 1, 1) := by decide +kernel
theorem dX1_addChild_26 : decode cX1_addChild 26 = .ok (.iadd, 1) := by decide +kernel
theorem dX1_addChild_27 : decode cX1_addChild 27 = .ok (.putfield 19, 3) := by decide +kernel
theorem dX1_addChild_30 : decode cX1_addChild 30 = .ok (.aload_n 3, 1) := by decide +kernel
theorem dX1_addChild_31 : decode cX1_addChild 31 = .ok (.aload_n 0, 1) := by decide +kernel
theorem dX1_addChild_32 : decode cX1_addChild 32 = .ok (.getfield 19, 3) := by decide +kernel
theorem dX1_addChild_35 : decode cX1_addChild 35 = .ok (.putfield 55, 3) := by decide +kernel
theorem dX1_addChild_38 : decode cX1_addChild 38 = .ok (.aload_n 3, 1) := by decide +kernel
theorem dX1_addChild_39 : decode cX1_addChild 39 = .ok (.aload_n 0, 1) := by decide +kernel
theorem dX1_addChild_40 : decode cX1_addChild 40 = .ok (.getfield 36, 3) := by decide +kernel
theorem dX1_addChild_43 : decode cX1_addChild 43 = .ok (.putfield 62, 3) := by decide +kernel
theorem dX1_addChild_46 : decode cX1_addChild 46 = .ok (.aload_n 3, 1) := by decide +kernel
theorem dX1_addChild_47 : decode cX1_addChild 47 = .ok (.aconst_null, 1) := by decide +kernel
theorem dX1_addChild_48 : decode cX1_addChild 48 = .ok (.putfield 69, 3) := by decide +kernel
theorem dX1_addChild_51 : decode cX1_addChild 51 = .ok (.aload_n 3, 1) := by decide +kernel
theorem dX1_addChild_52 : decode cX1_addChild 52 = .ok (.iload_n 1, 1) := by decide +kernel
theorem dX1_addChild_53 : decode cX1_addChild 53 = .ok (.putfield 98, 3) := by decide +kernel
theorem dX1_addChild_56 : decode cX1_addChild 56 = .ok (.aload_n 3, 1) := by decide +kernel
theorem dX1_addChild_57 : decode cX1_addChild 57 = .ok (.iload_n 2, 1) := by decide +kernel
theorem dX1_addChild_58 : decode cX1_addChild 58 = .ok (.putfield 92, 3) := by decide +kernel
theorem dX1_addChild_61 : decode cX1_addChild 61 = .ok (.aload_n 3, 1) := by decide +kernel
theorem dX1_addChild_62 : decode cX1_addChild 62 = .ok (.areturn, 1) := by decide +kernel
theorem dX1_makeCurrent_0 : decode cX1_makeCurrent 0 = .ok (.aload_n 0, 1) := by decide +kernel
theorem dX1_makeCurrent_1 : decode cX1_makeCurrent 1 = .ok (.dup, 1) := by decide +kernel
theorem dX1_makeCurrent_2 : decode cX1_makeCurrent 2 = .ok (.getfield 22, 3) := by decide +kernel
theorem dX1_makeCurrent_5 : decode cX1_makeCurrent 5 = .ok (.iconst 1, 1) := by decide +kernel
theorem dX1_makeCurrent_6 : decode cX1_makeCurrent 6 = .ok (.iadd, 1) := by decide +kernel
theorem dX1_makeCurrent_7 : decode cX1_makeCurrent 7 = .ok (.putfield 22, 3) := by decide +kernel
theorem dX1_makeCurrent_10 : decode cX1_makeCurrent 10 = .ok (.aload_n 1, 1) := by decide +kernel
theorem dX1_makeCurrent_11 : decode cX1_makeCurrent 11 = .ok (.aload_n 0, 1) := by decide +kernel
theorem dX1_makeCurrent_12 : decode cX1_makeCurrent 12 = .ok (.getfield 22, 3) := by decide +kernel
theorem dX1_makeCurrent_15 : decode cX1_makeCurrent 15 = .ok (.putfield 111, 3) := by decide +kernel
theorem dX1_makeCurrent_18 : decode cX1_makeCurrent 18 = .ok (.aload_n 0, 1) := by decide +kernel
theorem dX1_makeCurrent_19 : decode cX1_makeCurrent 19 = .ok (.aload_n 1, 1) := by decide +kernel
theorem dX1_makeCurrent_20 : decode cX1_makeCurrent 20 = .ok (.putfield 36, 3) := by decide +kernel
theorem dX1_makeCurrent_23 : decode cX1_makeCurrent 23 = .ok (.aload_n 1, 1) := by decide +kernel
theorem dX1_makeCurrent_24 : decode cX1_makeCurrent 24 = .ok (.astore_n 2, 1) := by decide +kernel
theorem dX1_makeCurrent_25 : decode cX1_makeCurrent 25 = .ok (.aload_n 2, 1) := by decide +kernel
theorem dX1_makeCurrent_26 : decode cX1_makeCurrent 26 = .ok (.getfield 62, 3) := by decide +kernel
theorem dX1_makeCurrent_29 : decode cX1_makeCurrent 29 = .ok (.ifnull 19, 3) := by decide +kernel
theorem dX1_makeCurrent_32 : decode cX1_makeCurrent 32 = .ok (.aload_n 2, 1) := by decide +kernel
theorem dX1_makeCurrent_33 : decode cX1_makeCurrent 33 = .ok (.getfield 62, 3) := by decide +kernel
theorem dX1_makeCurrent_36 : decode cX1_makeCurrent 36 = .ok (.aload_n 2, 1) := by decide +kernel
theorem dX1_makeCurrent_37 : decode cX1_makeCurrent 37 = .ok (.putfield 69, 3) := by decide +kernel
theorem dX1_makeCurrent_40 : decode cX1_makeCurrent 40 = .ok (.aload_n 2, 1) := by decide +kernel
theorem dX1_makeCurrent_41 : decode cX1_makeCurrent 41 = .ok (.getfield 62, 3) := by decide +kernel
theorem dX1_makeCurrent_44 : decode cX1_makeCurrent 44 = .ok (.astore_n 2, 1) := by decide +kernel
theorem dX1_makeCurrent_45 : decode cX1_makeCurrent 45 = .ok (.goto (-20), 3) := by decide +kernel
theorem dX1_makeCurrent_48 : decode cX1_makeCurrent 48 = .ok (.return_, 1) := by decide +kernel
theorem dX1_takeOut_0 : decode cX1_takeOut 0 = .ok (.iconst 0, 1) := by decide +kernel
theorem dX1_takeOut_1 : decode cX1_takeOut 1 = .ok (.istore_n 2, 1) := by decide +kernel
theorem dX1_takeOut_2 : decode cX1_takeOut 2 = .ok (.iconst 0, 1) := by decide +kernel
theorem dX1_takeOut_3 : decode cX1_takeOut 3 = .ok (.istore_n 3, 1) := by decide +kernel
theorem dX1_takeOut_4 : decode cX1_takeOut 4 = .ok (.iload_n 3, 1) := by decide +kernel
theorem dX1_takeOut_5 : decode cX1_takeOut 5 = .ok (.aload_n 0, 1) := by decide +kernel
theorem dX1_takeOut_6 : decode cX1_takeOut 6 = .ok (.getfield 15, 3) := by decide +kernel
theorem dX1_takeOut_9 : decode cX1_takeOut 9 = .ok (.if_icmp .ge 34, 3) := by decide +kernel
theorem dX1_takeOut_12 : decode cX1_takeOut 12 = .ok (.aload_n 0, 1) := by decide +kernel
theorem dX1_takeOut_13 : decode cX1_takeOut 13 = .ok (.getfield 11, 3) := by decide +kernel
theorem dX1_takeOut_16 : decode cX1_takeOut 16 = .ok (.iload_n 3, 1) := by decide +kernel
theorem dX1_takeOut_17 : decode cX1_takeOut 17 = .ok (.aaload, 1) := by decide +kernel
theorem dX1_takeOut_18 : decode cX1_takeOut 18 = .ok (.astore 4, 2) := by decide +kernel
theorem dX1_takeOut_20 : decode cX1_takeOut 20 = .ok (.aload 4, 2) := by decide +kernel
theorem dX1_takeOut_22 : decode cX1_takeOut 22 = .ok (.aload_n 1, 1) := by decide +kernel
theorem dX1_takeOut_23 : decode cX1_takeOut 23 = .ok (.if_acmp .eq 14, 3) := by decide +kernel
theorem dX1_takeOut_26 : decode cX1_takeOut 26 = .ok (.aload_n 0, 1) := by decide +kernel
theorem dX1_takeOut_27 : decode cX1_takeOut 27 = .ok (.getfield 11, 3) := by decide +kernel
theorem dX1_takeOut_30 : decode cX1_takeOut 30 = .ok (.iload_n 2, 1) := by decide +kernel
theorem dX1_takeOut_31 : decode cX1_takeOut 31 = .ok (.aload 4, 2) := by decide +kernel
theorem dX1_takeOut_33 : decode cX1_takeOut 33 = .ok (.aastore, 1) := by decide +kernel
theorem dX1_takeOut_34 : decode cX1_takeOut 34 = .ok (.iinc 2 1, 3) := by decide +kernel
theorem dX1_takeOut_37 : decode cX1_takeOut 37 = .ok (.iinc 3 1, 3) := by decide +kernel
theorem dX1_takeOut_40 : decode cX1_takeOut 40 = .ok (.goto (-36), 3) := by decide +kernel
theorem dX1_takeOut_43 : decode cX1_takeOut 43 = .ok (.aload_n 0, 1) := by decide +kernel
theorem dX1_takeOut_44 : decode cX1_takeOut 44 = .ok (.dup, 1) := by decide +kernel
theorem dX1_takeOut_45 : decode cX1_takeOut 45 = .ok (.getfield 15, 3) := by decide +kernel
theorem dX1_takeOut_48 : decode cX1_takeOut 48 = .ok (.iconst 1, 1) := by decide +kernel
theorem dX1_takeOut_49 : decode cX1_takeOut 49 = .ok (.isub, 1) := by decide +kernel
theorem dX1_takeOut_50 : decode cX1_takeOut 50 = .ok (.putfield 15, 3) := by decide +kernel
theorem dX1_takeOut_53 : decode cX1_takeOut 53 = .ok (.aload_n 0, 1) := by decide +kernel
theorem dX1_takeOut_54 : decode cX1_takeOut 54 = .ok (.getfield 11, 3) := by decide +kernel
theorem dX1_takeOut_57 : decode cX1_takeOut 57 = .ok (.aload_n 0, 1) := by decide +kernel
theorem dX1_takeOut_58 : decode cX1_takeOut 58 = .ok (.getfield 15, 3) := by decide +kernel
theorem dX1_takeOut_61 : decode cX1_takeOut 61 = .ok (.aload_n 1, 1) := by decide +kernel
theorem dX1_takeOut_62 : decode cX1_takeOut 62 = .ok (.aastore, 1) := by decide +kernel
theorem dX1_takeOut_63 : decode cX1_takeOut 63 = .ok (.return_, 1) := by decide +kernel
theorem dX1_firstConflict_0 : decode cX1_firstConflict 0 = .ok (.aload_n 1, 1) := by decide +kernel
theorem dX1_firstConflict_1 : decode cX1_firstConflict 1 = .ok (.getfield 98, 3) := by decide +kernel
theorem dX1_firstConflict_4 : decode cX1_firstConflict 4 = .ok (.istore_n 2, 1) := by decide +kernel
theorem dX1_firstConflict_5 : decode cX1_firstConflict 5 = .ok (.aload_n 1, 1) := by decide +kernel
theorem dX1_firstConflict_6 : decode cX1_firstConflict 6 = .ok (.astore_n 3, 1) := by decide +kernel
theorem dX1_firstConflict_7 : decode cX1_firstConflict 7 = .ok (.aload_n 3, 1) := by decide +kernel
theorem dX1_firstConflict_8 : decode cX1_firstConflict 8 = .ok (.aload_n 0, 1) := by decide +kernel
theorem dX1_firstConflict_9 : decode cX1_firstConflict 9 = .ok (.getfield 36, 3) := by decide +kernel
theorem dX1_firstConflict_12 : decode cX1_firstConflict 12 = .ok (.if_acmp .eq 37, 3) := by decide +kernel
theorem dX1_firstConflict_15 : decode cX1_firstConflict 15 = .ok (.aload_n 3, 1) := by decide +kernel
theorem dX1_firstConflict_16 : decode cX1_firstConflict 16 = .ok (.getfield 69, 3) := by decide +kernel
theorem dX1_firstConflict_19 : decode cX1_firstConflict 19 = .ok (.ifnull 30, 3) := by decide +kernel
theorem dX1_firstConflict_22 : decode cX1_firstConflict 22 = .ok (.aload_n 1, 1) := by decide +kernel
theorem dX1_firstConflict_23 : decode cX1_firstConflict 23 = .ok (.iload_n 2, 1) := by decide +kernel
theorem dX1_firstConflict_24 : decode cX1_firstConflict 24 = .ok (.aload_n 3, 1) := by decide +kernel
theorem dX1_firstConflict_25 : decode cX1_firstConflict 25 = .ok (.getfield 69, 3) := by decide +kernel
theorem dX1_firstConflict_28 : decode cX1_firstConflict 28 = .ok (.invokestatic 165, 3) := by decide +kernel
theorem dX1_firstConflict_31 : decode cX1_firstConflict 31 = .ok (.istore_n 2, 1) := by decide +kernel
theorem dX1_firstConflict_32 : decode cX1_firstConflict 32 = .ok (.iload_n 2, 1) := by decide +kernel
theorem dX1_firstConflict_33 : decode cX1_firstConflict 33 = .ok (.ifCond .ge 8, 3) := by decide +kernel
theorem dX1_firstConflict_36 : decode cX1_firstConflict 36 = .ok (.aload_n 3, 1) := by decide +kernel
theorem dX1_firstConflict_37 : decode cX1_firstConflict 37 = .ok (.getfield 69, 3) := by decide +kernel
theorem dX1_firstConflict_40 : decode cX1_firstConflict 40 = .ok (.areturn, 1) := by decide +kernel
theorem dX1_firstConflict_41 : decode cX1_firstConflict 41 = .ok (.aload_n 3, 1) := by decide +kernel
theorem dX1_firstConflict_42 : decode cX1_firstConflict 42 = .ok (.getfield 69, 3) := by decide +kernel
theorem dX1_firstConflict_45 : decode cX1_firstConflict 45 = .ok (.astore_n 3, 1) := by decide +kernel
theorem dX1_firstConflict_46 : decode cX1_firstConflict 46 = .ok (.goto (-39), 3) := by decide +kernel
theorem dX1_firstConflict_49 : decode cX1_firstConflict 49 = .ok (.aconst_null, 1) := by decide +kernel
theorem dX1_firstConflict_50 : decode cX1_firstConflict 50 = .ok (.areturn, 1) := by decide +kernel
theorem dX1_placeNow_0 : decode cX1_placeNow 0 = .ok (.aload_n 1, 1) := by decide +kernel
theorem dX1_placeNow_1 : decode cX1_placeNow 1 = .ok (.getfield 98, 3) := by decide +kernel
theorem dX1_placeNow_4 : decode cX1_placeNow 4 = .ok (.istore_n 2, 1) := by decide +kernel
theorem dX1_placeNow_5 : decode cX1_placeNow 5 = .ok (.aload_n 1, 1) := by decide +kernel
theorem dX1_placeNow_6 : decode cX1_placeNow 6 = .ok (.astore_n 3, 1) := by decide +kernel
theorem dX1_placeNow_7 : decode cX1_placeNow 7 = .ok (.aload_n 3, 1) := by decide +kernel
theorem dX1_placeNow_8 : decode cX1_placeNow 8 = .ok (.aload_n 0, 1) := by decide +kernel
theorem dX1_placeNow_9 : decode cX1_placeNow 9 = .ok (.getfield 36, 3) := by decide +kernel
theorem dX1_placeNow_12 : decode cX1_placeNow 12 = .ok (.if_acmp .eq 35, 3) := by decide +kernel
theorem dX1_placeNow_15 : decode cX1_placeNow 15 = .ok (.aload_n 3, 1) := by decide +kernel
theorem dX1_placeNow_16 : decode cX1_placeNow 16 = .ok (.getfield 69, 3) := by decide +kernel
theorem dX1_placeNow_19 : decode cX1_placeNow 19 = .ok (.ifnull 28, 3) := by decide +kernel
theorem dX1_placeNow_22 : decode cX1_placeNow 22 = .ok (.aload_n 1, 1) := by decide +kernel
theorem dX1_placeNow_23 : decode cX1_placeNow 23 = .ok (.iload_n 2, 1) := by decide +kernel
theorem dX1_placeNow_24 : decode cX1_placeNow 24 = .ok (.aload_n 3, 1) := by decide +kernel
theorem dX1_placeNow_25 : decode cX1_placeNow 25 = .ok (.getfield 69, 3) := by decide +kernel
theorem dX1_placeNow_28 : decode cX1_placeNow 28 = .ok (.invokestatic 165, 3) := by decide +kernel
theorem dX1_placeNow_31 : decode cX1_placeNow 31 = .ok (.istore_n 2, 1) := by decide +kernel
theorem dX1_placeNow_32 : decode cX1_placeNow 32 = .ok (.iload_n 2, 1) := by decide +kernel
theorem dX1_placeNow_33 : decode cX1_placeNow 33 = .ok (.ifCond .ge 6, 3) := by decide +kernel
theorem dX1_placeNow_36 : decode cX1_placeNow 36 = .ok (.bipush (-5), 2) := by decide +kernel
theorem dX1_placeNow_38 : decode cX1_placeNow 38 = .ok (.ireturn, 1) := by decide +kernel
theorem dX1_placeNow_39 : decode cX1_placeNow 39 = .ok (.aload_n 3, 1) := by decide +kernel
theorem dX1_placeNow_40 : decode cX1_placeNow 40 = .ok (.getfield 69, 3) := by decide +kernel
theorem dX1_placeNow_43 : decode cX1_placeNow 43 = .ok (.astore_n 3, 1) := by decide +kernel
theorem dX1_placeNow_44 : decode cX1_placeNow 44 = .ok (.goto (-37), 3) := by decide +kernel
theorem dX1_placeNow_47 : decode cX1_placeNow 47 = .ok (.iload_n 2, 1) := by decide +kernel
theorem dX1_placeNow_48 : decode cX1_placeNow 48 = .ok (.ireturn, 1) := by decide +kernel
theorem dX1_shifted_0 : decode cX1_shifted 0 = .ok (.aload_n 0, 1) := by decide +kernel
theorem dX1_shifted_1 : decode cX1_shifted 1 = .ok (.getfield 88, 3) := by decide +kernel
theorem dX1_shifted_4 : decode cX1_shifted 4 = .ok (.ifCond .eq 11, 3) := by decide +kernel
theorem dX1_shifted_7 : decode cX1_shifted 7 = .ok (.iload_n 1, 1) := by decide +kernel
theorem dX1_shifted_8 : decode cX1_shifted 8 = .ok (.aload_n 2, 1) := by decide +kernel
theorem dX1_shifted_9 : decode cX1_shifted 9 = .ok (.invokestatic 169, 3) := by decide +kernel
theorem dX1_shifted_12 : decode cX1_shifted 12 = .ok (.goto 12, 3) := by decide +kernel
theorem dX1_shifted_15 : decode cX1_shifted 15 = .ok (.iload_n 1, 1) := by decide +kernel
theorem dX1_shifted_16 : decode cX1_shifted 16 = .ok (.aload_n 0, 1) := by decide +kernel
theorem dX1_shifted_17 : decode cX1_shifted 17 = .ok (.getfield 92, 3) := by decide +kernel
theorem dX1_shifted_20 : decode cX1_shifted 20 = .ok (.aload_n 2, 1) := by decide +kernel
theorem dX1_shifted_21 : decode cX1_shifted 21 = .ok (.invokestatic 173, 3) := by decide +kernel
theorem dX1_shifted_24 : decode cX1_shifted 24 = .ok (.ireturn, 1) := by decide +kernel
theorem dX1_shiftedString_0 : decode cX1_shiftedString 0 = .ok (.aload_n 2, 1) := by decide +kernel
theorem dX1_shiftedString_1 : decode cX1_shiftedString 1 = .ok (.getfield 98, 3) := by decide +kernel
theorem dX1_shiftedString_4 : decode cX1_shiftedString 4 = .ok (.iload_n 0, 1) := by decide +kernel
theorem dX1_shiftedString_5 : decode cX1_shiftedString 5 = .ok (.iload_n 1, 1) := by decide +kernel
theorem dX1_shiftedString_6 : decode cX1_shiftedString 6 = .ok (.iadd, 1) := by decide +kernel
theorem dX1_shiftedString_7 : decode cX1_shiftedString 7 = .ok (.if_icmp .lt 5, 3) := by decide +kernel
theorem dX1_shiftedString_10 : decode cX1_shiftedString 10 = .ok (.iload_n 0, 1) := by decide +kernel
theorem dX1_shiftedString_11 : decode cX1_shiftedString 11 = .ok (.ireturn, 1) := by decide +kernel
theorem dX1_shiftedString_12 : decode cX1_shiftedString 12 = .ok (.aload_n 2, 1) := by decide +kernel
theorem dX1_shiftedString_13 : decode cX1_shiftedString 13 = .ok (.getfield 88, 3) := by decide +kernel
theorem dX1_shiftedString_16 : decode cX1_shiftedString 16 = .ok (.ifCond .eq 38, 3) := by decide +kernel
theorem dX1_shiftedString_19 : decode cX1_shiftedString 19 = .ok (.aload_n 2, 1) := by decide +kernel
theorem dX1_shiftedString_20 : decode cX1_shiftedString 20 = .ok (.getfield 98, 3) := by decide +kernel
theorem dX1_shiftedString_23 : decode cX1_shiftedString 23 = .ok (.aload_n 2, 1) := by decide +kernel
theorem dX1_shiftedString_24 : decode cX1_shiftedString 24 = .ok (.getfield 92, 3) := by decide +kernel
theorem dX1_shiftedString_27 : decode cX1_shiftedString 27 = .ok (.iadd, 1) := by decide +kernel
theorem dX1_shiftedString_28 : decode cX1_shiftedString 28 = .ok (.iload_n 0, 1) := by decide +kernel
theorem dX1_shiftedString_29 : decode cX1_shiftedString 29 = .ok (.if_icmp .gt 7, 3) := by decide +kernel
theorem dX1_shiftedString_32 : decode cX1_shiftedString 32 = .ok (.iconst 1, 1) := by decide +kernel
theorem dX1_shiftedString_33 : decode cX1_shiftedString 33 = .ok (.goto 4, 3) := by decide +kernel
theorem dX1_shiftedString_36 : decode cX1_shiftedString 36 = .ok (.iconst 0, 1) := by decide +kernel
theorem dX1_shiftedString_37 : decode cX1_shiftedString 37 = .ok (.istore_n 3, 1) := by decide +kernel
theorem dX1_shiftedString_38 : decode cX1_shiftedString 38 = .ok (.iload_n 3, 1) := by decide +kernel
theorem dX1_shiftedString_39 : decode cX1_shiftedString 39 = .ok (.ifCond .eq 12, 3) := by decide +kernel
theorem dX1_shiftedString_42 : decode cX1_shiftedString 42 = .ok (.iload_n 0, 1) := by decide +kernel
theorem dX1_shiftedString_43 : decode cX1_shiftedString 43 = .ok (.aload_n 2, 1) := by decide +kernel
theorem dX1_shiftedString_44 : decode cX1_shiftedString 44 = .ok (.getfield 92, 3) := by decide +kernel
theorem dX1_shiftedString_47 : decode cX1_shiftedString 47 = .ok (.isub, 1) := by decide +kernel
theorem dX1_shiftedString_48 : decode cX1_shiftedString 48 = .ok (.goto 5, 3) := by decide +kernel
theorem dX1_shiftedString_51 : decode cX1_shiftedString 51 = .ok (.bipush (-5), 2) := by decide +kernel
theorem dX1_shiftedString_53 : decode cX1_shiftedString 53 = .ok (.ireturn, 1) := by decide +kernel
theorem dX1_shiftedString_54 : decode cX1_shiftedString 54 = .ok (.aload_n 2, 1) := by decide +kernel
theorem dX1_shiftedString_55 : decode cX1_shiftedString 55 = .ok (.getfield 98, 3) := by decide +kernel
theorem dX1_shiftedString_58 : decode cX1_shiftedString 58 = .ok (.iload_n 0, 1) := by decide +kernel
theorem dX1_shiftedString_59 : decode cX1_shiftedString 59 = .ok (.if_icmp .gt 12, 3) := by decide +kernel
theorem dX1_shiftedString_62 : decode cX1_shiftedString 62 = .ok (.iload_n 0, 1) := by decide +kernel
theorem dX1_shiftedString_63 : decode cX1_shiftedString 63 = .ok (.aload_n 2, 1) := by decide +kernel
theorem dX1_shiftedString_64 : decode cX1_shiftedString 64 = .ok (.getfield 92, 3) := by decide +kernel
theorem dX1_shiftedString_67 : decode cX1_shiftedString 67 = .ok (.iadd, 1) := by decide +kernel
theorem dX1_shiftedString_68 : decode cX1_shiftedString 68 = .ok (.goto 5, 3) := by decide +kernel
theorem dX1_shiftedString_71 : decode cX1_shiftedString 71 = .ok (.bipush (-5), 2) := by decide +kernel
theorem dX1_shiftedString_73 : decode cX1_shiftedString 73 = .ok (.ireturn, 1) := by decide +kernel
theorem dX1_shiftedGap_0 : decode cX1_shiftedGap 0 = .ok (.aload_n 1, 1) := by decide +kernel
theorem dX1_shiftedGap_1 : decode cX1_shiftedGap 1 = .ok (.getfield 98, 3) := by decide +kernel
theorem dX1_shiftedGap_4 : decode cX1_shiftedGap 4 = .ok (.iload_n 0, 1) := by decide +kernel
theorem dX1_shiftedGap_5 : decode cX1_shiftedGap 5 = .ok (.if_icmp .lt 5, 3) := by decide +kernel
theorem dX1_shiftedGap_8 : decode cX1_shiftedGap 8 = .ok (.iload_n 0, 1) := by decide +kernel
theorem dX1_shiftedGap_9 : decode cX1_shiftedGap 9 = .ok (.ireturn, 1) := by decide +kernel
theorem dX1_shiftedGap_10 : decode cX1_shiftedGap 10 = .ok (.aload_n 1, 1) := by decide +kernel
theorem dX1_shiftedGap_11 : decode cX1_shiftedGap 11 = .ok (.getfield 88, 3) := by decide +kernel
theorem dX1_shiftedGap_14 : decode cX1_shiftedGap 14 = .ok (.ifCond .eq 38, 3) := by decide +kernel
theorem dX1_shiftedGap_17 : decode cX1_shiftedGap 17 = .ok (.aload_n 1, 1) := by decide +kernel
theorem dX1_shiftedGap_18 : decode cX1_shiftedGap 18 = .ok (.getfield 98, 3) := by decide +kernel
theorem dX1_shiftedGap_21 : decode cX1_shiftedGap 21 = .ok (.aload_n 1, 1) := by decide +kernel
theorem dX1_shiftedGap_22 : decode cX1_shiftedGap 22 = .ok (.getfield 92, 3) := by decide +kernel
theorem dX1_shiftedGap_25 : decode cX1_shiftedGap 25 = .ok (.iadd, 1) := by decide +kernel
theorem dX1_shiftedGap_26 : decode cX1_shiftedGap 26 = .ok (.iload_n 0, 1) := by decide +kernel
theorem dX1_shiftedGap_27 : decode cX1_shiftedGap 27 = .ok (.if_icmp .gt 7, 3) := by decide +kernel
theorem dX1_shiftedGap_30 : decode cX1_shiftedGap 30 = .ok (.iconst 1, 1) := by decide +kernel
theorem dX1_shiftedGap_31 : decode cX1_shiftedGap 31 = .ok (.goto 4, 3) := by decide +kernel
theorem dX1_shiftedGap_34 : decode cX1_shiftedGap 34 = .ok (.iconst 0, 1) := by decide +kernel
theorem dX1_shiftedGap_35 : decode cX1_shiftedGap 35 = .ok (.istore_n 2, 1) := by decide +kernel
theorem dX1_shiftedGap_36 : decode cX1_shiftedGap 36 = .ok (.iload_n 2, 1) := by decide +kernel
theorem dX1_shiftedGap_37 : decode cX1_shiftedGap 37 = .ok (.ifCond .eq 12, 3) := by decide +kernel
theorem dX1_shiftedGap_40 : decode cX1_shiftedGap 40 = .ok (.iload_n 0, 1) := by decide +kernel
theorem dX1_shiftedGap_41 : decode cX1_shiftedGap 41 = .ok (.aload_n 1, 1) := by decide +kernel
theorem dX1_shiftedGap_42 : decode cX1_shiftedGap 42 = .ok (.getfield 92, 3) := by decide +kernel
theorem dX1_shiftedGap_45 : decode cX1_shiftedGap 45 = .ok (.isub, 1) := by decide +kernel
theorem dX1_shiftedGap_46 : decode cX1_shiftedGap 46 = .ok (.goto 5, 3) := by decide +kernel
theorem dX1_shiftedGap_49 : decode cX1_shiftedGap 49 = .ok (.bipush (-5), 2) := by decide +kernel
theorem dX1_shiftedGap_51 : decode cX1_shiftedGap 51 = .ok (.ireturn, 1) := by decide +kernel
theorem dX1_shiftedGap_52 : decode cX1_shiftedGap 52 = .ok (.iload_n 0, 1) := by decide +kernel
theorem dX1_shiftedGap_53 : decode cX1_shiftedGap 53 = .ok (.aload_n 1, 1) := by decide +kernel
theorem dX1_shiftedGap_54 : decode cX1_shiftedGap 54 = .ok (.getfield 92, 3) := by decide +kernel
theorem dX1_shiftedGap_57 : decode cX1_shiftedGap 57 = .ok (.iadd, 1) := by decide +kernel
theorem dX1_shiftedGap_58 : decode cX1_shiftedGap 58 = .ok (.ireturn, 1) := by decide +kernel
theorem dX1_isMark_0 : decode cX1_isMark 0 = .ok (.iload_n 0, 1) := by decide +kernel
theorem dX1_isMark_1 : decode cX1_isMark 1 = .ok (.ifCond .lt 12, 3) := by decide +kernel
theorem dX1_isMark_4 : decode cX1_isMark 4 = .ok (.iload_n 0, 1) := by decide +kernel
theorem dX1_isMark_5 : decode cX1_isMark 5 = .ok (.iconst 5, 1) := by decide +kernel
theorem dX1_isMark_6 : decode cX1_isMark 6 = .ok (.if_icmp .ge 7, 3) := by decide +kernel
theorem dX1_isMark_9 : decode cX1_isMark 9 = .ok (.iconst 1, 1) := by decide +kernel
theorem dX1_isMark_10 : decode cX1_isMark 10 = .ok (.goto 4, 3) := by decide +kernel
theorem dX1_isMark_13 : decode cX1_isMark 13 = .ok (.iconst 0, 1) := by decide +kernel
theorem dX1_isMark_14 : decode cX1_isMark 14 = .ok (.ireturn, 1) := by decide +kernel
theorem dX1_marksOn_0 : decode cX1_marksOn 0 = .ok (.iconst 0, 1) := by decide +kernel
theorem dX1_marksOn_1 : decode cX1_marksOn 1 = .ok (.istore_n 2, 1) := by decide +kernel
theorem dX1_marksOn_2 : decode cX1_marksOn 2 = .ok (.iconst 0, 1) := by decide +kernel
theorem dX1_marksOn_3 : decode cX1_marksOn 3 = .ok (.istore_n 3, 1) := by decide +kernel
theorem dX1_marksOn_4 : decode cX1_marksOn 4 = .ok (.iload_n 3, 1) := by decide +kernel
theorem dX1_marksOn_5 : decode cX1_marksOn 5 = .ok (.iconst 5, 1) := by decide +kernel
theorem dX1_marksOn_6 : decode cX1_marksOn 6 = .ok (.if_icmp .ge 22, 3) := by decide +kernel
theorem dX1_marksOn_9 : decode cX1_marksOn 9 = .ok (.aload_n 0, 1) := by decide +kernel
theorem dX1_marksOn_10 : decode cX1_marksOn 10 = .ok (.getfield 32, 3) := by decide +kernel
theorem dX1_marksOn_13 : decode cX1_marksOn 13 = .ok (.iload_n 3, 1) := by decide +kernel
theorem dX1_marksOn_14 : decode cX1_marksOn 14 = .ok (.aaload, 1) := by decide +kernel
theorem dX1_marksOn_15 : decode cX1_marksOn 15 = .ok (.aload_n 1, 1) := by decide +kernel
theorem dX1_marksOn_16 : decode cX1_marksOn 16 = .ok (.if_acmp .ne 6, 3) := by decide +kernel

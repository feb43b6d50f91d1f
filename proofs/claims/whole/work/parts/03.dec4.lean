theorem dX2_timeOf_0 : decode cX2_timeOf 0 = .ok (.aload_n 0, 1) := by decide +kernel
theorem dX2_timeOf_1 : decode cX2_timeOf 1 = .ok (.iload_n 1, 1) := by decide +kernel
theorem dX2_timeOf_2 : decode cX2_timeOf 2 = .ok (.invokevirtual 57, 3) := by decide +kernel
theorem dX2_timeOf_5 : decode cX2_timeOf 5 = .ok (.istore_n 2, 1) := by decide +kernel
theorem dX2_timeOf_6 : decode cX2_timeOf 6 = .ok (.iload_n 2, 1) := by decide +kernel
theorem dX2_timeOf_7 : decode cX2_timeOf 7 = .ok (.bipush (-7), 2) := by decide +kernel
theorem dX2_timeOf_9 : decode cX2_timeOf 9 = .ok (.if_icmp .ne 8, 3) := by decide +kernel
theorem dX2_timeOf_12 : decode cX2_timeOf 12 = .ok (.bipush (-2), 2) := by decide +kernel
theorem dX2_timeOf_14 : decode cX2_timeOf 14 = .ok (.goto 9, 3) := by decide +kernel
theorem dX2_timeOf_17 : decode cX2_timeOf 17 = .ok (.aload_n 0, 1) := by decide +kernel
theorem dX2_timeOf_18 : decode cX2_timeOf 18 = .ok (.getfield 26, 3) := by decide +kernel
theorem dX2_timeOf_21 : decode cX2_timeOf 21 = .ok (.iload_n 2, 1) := by decide +kernel
theorem dX2_timeOf_22 : decode cX2_timeOf 22 = .ok (.iaload, 1) := by decide +kernel
theorem dX2_timeOf_23 : decode cX2_timeOf 23 = .ok (.ireturn, 1) := by decide +kernel
theorem dX2_commonAncestor_0 : decode cX2_commonAncestor 0 = .ok (.aload_n 0, 1) := by decide +kernel
theorem dX2_commonAncestor_1 : decode cX2_commonAncestor 1 = .ok (.iload_n 1, 1) := by decide +kernel
theorem dX2_commonAncestor_2 : decode cX2_commonAncestor 2 = .ok (.invokevirtual 57, 3) := by decide +kernel
theorem dX2_commonAncestor_5 : decode cX2_commonAncestor 5 = .ok (.istore_n 3, 1) := by decide +kernel
theorem dX2_commonAncestor_6 : decode cX2_commonAncestor 6 = .ok (.aload_n 0, 1) := by decide +kernel
theorem dX2_commonAncestor_7 : decode cX2_commonAncestor 7 = .ok (.iload_n 2, 1) := by decide +kernel
theorem dX2_commonAncestor_8 : decode cX2_commonAncestor 8 = .ok (.invokevirtual 57, 3) := by decide +kernel
theorem dX2_commonAncestor_11 : decode cX2_commonAncestor 11 = .ok (.istore 4, 2) := by decide +kernel
theorem dX2_commonAncestor_13 : decode cX2_commonAncestor 13 = .ok (.iload_n 3, 1) := by decide +kernel
theorem dX2_commonAncestor_14 : decode cX2_commonAncestor 14 = .ok (.bipush (-7), 2) := by decide +kernel
theorem dX2_commonAncestor_16 : decode cX2_commonAncestor 16 = .ok (.if_icmp .eq 10, 3) := by decide +kernel
theorem dX2_commonAncestor_19 : decode cX2_commonAncestor 19 = .ok (.iload 4, 2) := by decide +kernel
theorem dX2_commonAncestor_21 : decode cX2_commonAncestor 21 = .ok (.bipush (-7), 2) := by decide +kernel
theorem dX2_commonAncestor_23 : decode cX2_commonAncestor 23 = .ok (.if_icmp .ne 8, 3) := by decide +kernel
theorem dX2_commonAncestor_26 : decode cX2_commonAncestor 26 = .ok (.bipush (-2), 2) := by decide +kernel
theorem dX2_commonAncestor_28 : decode cX2_commonAncestor 28 = .ok (.goto 15, 3) := by decide +kernel
theorem dX2_commonAncestor_31 : decode cX2_commonAncestor 31 = .ok (.aload_n 0, 1) := by decide +kernel
theorem dX2_commonAncestor_32 : decode cX2_commonAncestor 32 = .ok (.getfield 16, 3) := by decide +kernel
theorem dX2_commonAncestor_35 : decode cX2_commonAncestor 35 = .ok (.aload_n 0, 1) := by decide +kernel
theorem dX2_commonAncestor_36 : decode cX2_commonAncestor 36 = .ok (.iload_n 3, 1) := by decide +kernel
theorem dX2_commonAncestor_37 : decode cX2_commonAncestor 37 = .ok (.iload 4, 2) := by decide +kernel
theorem dX2_commonAncestor_39 : decode cX2_commonAncestor 39 = .ok (.invokevirtual 95, 3) := by decide +kernel
theorem dX2_commonAncestor_42 : decode cX2_commonAncestor 42 = .ok (.iaload, 1) := by decide +kernel
theorem dX2_commonAncestor_43 : decode cX2_commonAncestor 43 = .ok (.ireturn, 1) := by decide +kernel
theorem dX2_distance_0 : decode cX2_distance 0 = .ok (.aload_n 0, 1) := by decide +kernel
theorem dX2_distance_1 : decode cX2_distance 1 = .ok (.iload_n 1, 1) := by decide +kernel
theorem dX2_distance_2 : decode cX2_distance 2 = .ok (.invokevirtual 57, 3) := by decide +kernel
theorem dX2_distance_5 : decode cX2_distance 5 = .ok (.istore_n 3, 1) := by decide +kernel
theorem dX2_distance_6 : decode cX2_distance 6 = .ok (.aload_n 0, 1) := by decide +kernel
theorem dX2_distance_7 : decode cX2_distance 7 = .ok (.iload_n 2, 1) := by decide +kernel
theorem dX2_distance_8 : decode cX2_distance 8 = .ok (.invokevirtual 57, 3) := by decide +kernel
theorem dX2_distance_11 : decode cX2_distance 11 = .ok (.istore 4, 2) := by decide +kernel
theorem dX2_distance_13 : decode cX2_distance 13 = .ok (.iload_n 3, 1) := by decide +kernel
theorem dX2_distance_14 : decode cX2_distance 14 = .ok (.bipush (-7), 2) := by decide +kernel
theorem dX2_distance_16 : decode cX2_distance 16 = .ok (.if_icmp .eq 10, 3) := by decide +kernel
theorem dX2_distance_19 : decode cX2_distance 19 = .ok (.iload 4, 2) := by decide +kernel
theorem dX2_distance_21 : decode cX2_distance 21 = .ok (.bipush (-7), 2) := by decide +kernel
theorem dX2_distance_23 : decode cX2_distance 23 = .ok (.if_icmp .ne 8, 3) := by decide +kernel
theorem dX2_distance_26 : decode cX2_distance 26 = .ok (.bipush (-2), 2) := by decide +kernel
theorem dX2_distance_28 : decode cX2_distance 28 = .ok (.goto 10, 3) := by decide +kernel
theorem dX2_distance_31 : decode cX2_distance 31 = .ok (.aload_n 0, 1) := by decide +kernel
theorem dX2_distance_32 : decode cX2_distance 32 = .ok (.iload_n 3, 1) := by decide +kernel
theorem dX2_distance_33 : decode cX2_distance 33 = .ok (.iload 4, 2) := by decide +kernel
theorem dX2_distance_35 : decode cX2_distance 35 = .ok (.invokevirtual 99, 3) := by decide +kernel
theorem dX2_distance_38 : decode cX2_distance 38 = .ok (.ireturn, 1) := by decide +kernel
theorem dX2_isMark_0 : decode cX2_isMark 0 = .ok (.iload_n 0, 1) := by decide +kernel
theorem dX2_isMark_1 : decode cX2_isMark 1 = .ok (.iconst 0, 1) := by decide +kernel
theorem dX2_isMark_2 : decode cX2_isMark 2 = .ok (.iconst 4, 1) := by decide +kernel
theorem dX2_isMark_3 : decode cX2_isMark 3 = .ok (.invokestatic 70, 3) := by decide +kernel
theorem dX2_isMark_6 : decode cX2_isMark 6 = .ok (.ireturn, 1) := by decide +kernel
theorem dX2_marksOn_0 : decode cX2_marksOn 0 = .ok (.iconst 0, 1) := by decide +kernel
theorem dX2_marksOn_1 : decode cX2_marksOn 1 = .ok (.istore_n 2, 1) := by decide +kernel
theorem dX2_marksOn_2 : decode cX2_marksOn 2 = .ok (.iconst 0, 1) := by decide +kernel
theorem dX2_marksOn_3 : decode cX2_marksOn 3 = .ok (.istore_n 3, 1) := by decide +kernel
theorem dX2_marksOn_4 : decode cX2_marksOn 4 = .ok (.iload_n 3, 1) := by decide +kernel
theorem dX2_marksOn_5 : decode cX2_marksOn 5 = .ok (.iconst 5, 1) := by decide +kernel
theorem dX2_marksOn_6 : decode cX2_marksOn 6 = .ok (.if_icmp .ge 27, 3) := by decide +kernel
theorem dX2_marksOn_9 : decode cX2_marksOn 9 = .ok (.iload_n 2, 1) := by decide +kernel
theorem dX2_marksOn_10 : decode cX2_marksOn 10 = .ok (.aload_n 0, 1) := by decide +kernel
theorem dX2_marksOn_11 : decode cX2_marksOn 11 = .ok (.getfield 51, 3) := by decide +kernel
theorem dX2_marksOn_14 : decode cX2_marksOn 14 = .ok (.iload_n 3, 1) := by decide +kernel
theorem dX2_marksOn_15 : decode cX2_marksOn 15 = .ok (.iaload, 1) := by decide +kernel
theorem dX2_marksOn_16 : decode cX2_marksOn 16 = .ok (.iload_n 1, 1) := by decide +kernel
theorem dX2_marksOn_17 : decode cX2_marksOn 17 = .ok (.if_icmp .ne 7, 3) := by decide +kernel
theorem dX2_marksOn_20 : decode cX2_marksOn 20 = .ok (.iconst 1, 1) := by decide +kernel
theorem dX2_marksOn_21 : decode cX2_marksOn 21 = .ok (.goto 4, 3) := by decide +kernel
theorem dX2_marksOn_24 : decode cX2_marksOn 24 = .ok (.iconst 0, 1) := by decide +kernel
theorem dX2_marksOn_25 : decode cX2_marksOn 25 = .ok (.iadd, 1) := by decide +kernel
theorem dX2_marksOn_26 : decode cX2_marksOn 26 = .ok (.istore_n 2, 1) := by decide +kernel
theorem dX2_marksOn_27 : decode cX2_marksOn 27 = .ok (.iinc 3 1, 3) := by decide +kernel
theorem dX2_marksOn_30 : decode cX2_marksOn 30 = .ok (.goto (-26), 3) := by decide +kernel
theorem dX2_marksOn_33 : decode cX2_marksOn 33 = .ok (.iload_n 2, 1) := by decide +kernel
theorem dX2_marksOn_34 : decode cX2_marksOn 34 = .ok (.ireturn, 1) := by decide +kernel
theorem dX2_setMark_0 : decode cX2_setMark 0 = .ok (.iload_n 1, 1) := by decide +kernel
theorem dX2_setMark_1 : decode cX2_setMark 1 = .ok (.invokestatic 120, 3) := by decide +kernel
theorem dX2_setMark_4 : decode cX2_setMark 4 = .ok (.ifCond .ne 5, 3) := by decide +kernel
theorem dX2_setMark_7 : decode cX2_setMark 7 = .ok (.iconst (-1), 1) := by decide +kernel
theorem dX2_setMark_8 : decode cX2_setMark 8 = .ok (.ireturn, 1) := by decide +kernel
theorem dX2_setMark_9 : decode cX2_setMark 9 = .ok (.aload_n 0, 1) := by decide +kernel
theorem dX2_setMark_10 : decode cX2_setMark 10 = .ok (.iload_n 2, 1) := by decide +kernel
theorem dX2_setMark_11 : decode cX2_setMark 11 = .ok (.invokevirtual 57, 3) := by decide +kernel
theorem dX2_setMark_14 : decode cX2_setMark 14 = .ok (.bipush (-7), 2) := by decide +kernel
theorem dX2_setMark_16 : decode cX2_setMark 16 = .ok (.if_icmp .ne 6, 3) := by decide +kernel
theorem dX2_setMark_19 : decode cX2_setMark 19 = .ok (.bipush (-2), 2) := by decide +kernel
theorem dX2_setMark_21 : decode cX2_setMark 21 = .ok (.ireturn, 1) := by decide +kernel
theorem dX2_setMark_22 : decode cX2_setMark 22 = .ok (.aload_n 0, 1) := by decide +kernel
theorem dX2_setMark_23 : decode cX2_setMark 23 = .ok (.getfield 51, 3) := by decide +kernel
theorem dX2_setMark_26 : decode cX2_setMark 26 = .ok (.iload_n 1, 1) := by decide +kernel
theorem dX2_setMark_27 : decode cX2_setMark 27 = .ok (.iload_n 2, 1) := by decide +kernel
theorem dX2_setMark_28 : decode cX2_setMark 28 = .ok (.iastore, 1) := by decide +kernel
theorem dX2_setMark_29 : decode cX2_setMark 29 = .ok (.aload_n 0, 1) := by decide +kernel
theorem dX2_setMark_30 : decode cX2_setMark 30 = .ok (.iload_n 2, 1) := by decide +kernel
theorem dX2_setMark_31 : decode cX2_setMark 31 = .ok (.invokevirtual 124, 3) := by decide +kernel
theorem dX2_setMark_34 : decode cX2_setMark 34 = .ok (.ireturn, 1) := by decide +kernel
theorem dX2_clearMark_0 : decode cX2_clearMark 0 = .ok (.iload_n 1, 1) := by decide +kernel
theorem dX2_clearMark_1 : decode cX2_clearMark 1 = .ok (.invokestatic 120, 3) := by decide +kernel
theorem dX2_clearMark_4 : decode cX2_clearMark 4 = .ok (.ifCond .ne 5, 3) := by decide +kernel
theorem dX2_clearMark_7 : decode cX2_clearMark 7 = .ok (.iconst (-1), 1) := by decide +kernel
theorem dX2_clearMark_8 : decode cX2_clearMark 8 = .ok (.ireturn, 1) := by decide +kernel
theorem dX2_clearMark_9 : decode cX2_clearMark 9 = .ok (.aload_n 0, 1) := by decide +kernel
theorem dX2_clearMark_10 : decode cX2_clearMark 10 = .ok (.getfield 51, 3) := by decide +kernel
theorem dX2_clearMark_13 : decode cX2_clearMark 13 = .ok (.iload_n 1, 1) := by decide +kernel
theorem dX2_clearMark_14 : decode cX2_clearMark 14 = .ok (.iaload, 1) := by decide +kernel
theorem dX2_clearMark_15 : decode cX2_clearMark 15 = .ok (.istore_n 2, 1) := by decide +kernel
theorem dX2_clearMark_16 : decode cX2_clearMark 16 = .ok (.aload_n 0, 1) := by decide +kernel
theorem dX2_clearMark_17 : decode cX2_clearMark 17 = .ok (.getfield 51, 3) := by decide +kernel
theorem dX2_clearMark_20 : decode cX2_clearMark 20 = .ok (.iload_n 1, 1) := by decide +kernel
theorem dX2_clearMark_21 : decode cX2_clearMark 21 = .ok (.bipush (-7), 2) := by decide +kernel
theorem dX2_clearMark_23 : decode cX2_clearMark 23 = .ok (.iastore, 1) := by decide +kernel
theorem dX2_clearMark_24 : decode cX2_clearMark 24 = .ok (.iload_n 2, 1) := by decide +kernel
theorem dX2_clearMark_25 : decode cX2_clearMark 25 = .ok (.ireturn, 1) := by decide +kernel
theorem dX2_goToMark_0 : decode cX2_goToMark 0 = .ok (.iload_n 1, 1) := by decide +kernel
theorem dX2_goToMark_1 : decode cX2_goToMark 1 = .ok (.invokestatic 120, 3) := by decide +kernel
theorem dX2_goToMark_4 : decode cX2_goToMark 4 = .ok (.ifCond .ne 5, 3) := by decide +kernel
theorem dX2_goToMark_7 : decode cX2_goToMark 7 = .ok (.iconst (-1), 1) := by decide +kernel
theorem dX2_goToMark_8 : decode cX2_goToMark 8 = .ok (.ireturn, 1) := by decide +kernel
theorem dX2_goToMark_9 : decode cX2_goToMark 9 = .ok (.aload_n 0, 1) := by decide +kernel
theorem dX2_goToMark_10 : decode cX2_goToMark 10 = .ok (.getfield 51, 3) := by decide +kernel
theorem dX2_goToMark_13 : decode cX2_goToMark 13 = .ok (.iload_n 1, 1) := by decide +kernel
theorem dX2_goToMark_14 : decode cX2_goToMark 14 = .ok (.iaload, 1) := by decide +kernel
theorem dX2_goToMark_15 : decode cX2_goToMark 15 = .ok (.bipush (-7), 2) := by decide +kernel
theorem dX2_goToMark_17 : decode cX2_goToMark 17 = .ok (.if_icmp .ne 8, 3) := by decide +kernel
theorem dX2_goToMark_20 : decode cX2_goToMark 20 = .ok (.bipush (-7), 2) := by decide +kernel
theorem dX2_goToMark_22 : decode cX2_goToMark 22 = .ok (.goto 17, 3) := by decide +kernel
theorem dX2_goToMark_25 : decode cX2_goToMark 25 = .ok (.aload_n 0, 1) := by decide +kernel
theorem dX2_goToMark_26 : decode cX2_goToMark 26 = .ok (.aload_n 0, 1) := by decide +kernel
theorem dX2_goToMark_27 : decode cX2_goToMark 27 = .ok (.aload_n 0, 1) := by decide +kernel
theorem dX2_goToMark_28 : decode cX2_goToMark 28 = .ok (.getfield 51, 3) := by decide +kernel
theorem dX2_goToMark_31 : decode cX2_goToMark 31 = .ok (.iload_n 1, 1) := by decide +kernel
theorem dX2_goToMark_32 : decode cX2_goToMark 32 = .ok (.iaload, 1) := by decide +kernel
theorem dX2_goToMark_33 : decode cX2_goToMark 33 = .ok (.invokevirtual 57, 3) := by decide +kernel
theorem dX2_goToMark_36 : decode cX2_goToMark 36 = .ok (.invokevirtual 77, 3) := by decide +kernel
theorem dX2_goToMark_39 : decode cX2_goToMark 39 = .ok (.ireturn, 1) := by decide +kernel
theorem dX2_isLoose_0 : decode cX2_isLoose 0 = .ok (.iload_n 1, 1) := by decide +kernel
theorem dX2_isLoose_1 : decode cX2_isLoose 1 = .ok (.ifCond .le 36, 3) := by decide +kernel
theorem dX2_isLoose_4 : decode cX2_isLoose 4 = .ok (.iload_n 1, 1) := by decide +kernel
theorem dX2_isLoose_5 : decode cX2_isLoose 5 = .ok (.aload_n 0, 1) := by decide +kernel
theorem dX2_isLoose_6 : decode cX2_isLoose 6 = .ok (.getfield 67, 3) := by decide +kernel
theorem dX2_isLoose_9 : decode cX2_isLoose 9 = .ok (.if_icmp .eq 28, 3) := by decide +kernel
theorem dX2_isLoose_12 : decode cX2_isLoose 12 = .ok (.aload_n 0, 1) := by decide +kernel
theorem dX2_isLoose_13 : decode cX2_isLoose 13 = .ok (.iload_n 1, 1) := by decide +kernel
theorem dX2_isLoose_14 : decode cX2_isLoose 14 = .ok (.invokevirtual 127, 3) := by decide +kernel
theorem dX2_isLoose_17 : decode cX2_isLoose 17 = .ok (.ifCond .ne 20, 3) := by decide +kernel
theorem dX2_isLoose_20 : decode cX2_isLoose 20 = .ok (.aload_n 0, 1) := by decide +kernel
theorem dX2_isLoose_21 : decode cX2_isLoose 21 = .ok (.aload_n 0, 1) := by decide +kernel
theorem dX2_isLoose_22 : decode cX2_isLoose 22 = .ok (.getfield 16, 3) := by decide +kernel
theorem dX2_isLoose_25 : decode cX2_isLoose 25 = .ok (.iload_n 1, 1) := by decide +kernel
theorem dX2_isLoose_26 : decode cX2_isLoose 26 = .ok (.iaload, 1) := by decide +kernel
theorem dX2_isLoose_27 : decode cX2_isLoose 27 = .ok (.invokevirtual 124, 3) := by decide +kernel
theorem dX2_isLoose_30 : decode cX2_isLoose 30 = .ok (.ifCond .ne 7, 3) := by decide +kernel
theorem dX2_isLoose_33 : decode cX2_isLoose 33 = .ok (.iconst 1, 1) := by decide +kernel
theorem dX2_isLoose_34 : decode cX2_isLoose 34 = .ok (.goto 4, 3) := by decide +kernel
theorem dX2_isLoose_37 : decode cX2_isLoose 37 = .ok (.iconst 0, 1) := by decide +kernel
theorem dX2_isLoose_38 : decode cX2_isLoose 38 = .ok (.ireturn, 1) := by decide +kernel
theorem dX2_oldest_0 : decode cX2_oldest 0 = .ok (.bipush (-7), 2) := by decide +kernel
theorem dX2_oldest_2 : decode cX2_oldest 2 = .ok (.istore_n 1, 1) := by decide +kernel
theorem dX2_oldest_3 : decode cX2_oldest 3 = .ok (.iconst 0, 1) := by decide +kernel
theorem dX2_oldest_4 : decode cX2_oldest 4 = .ok (.istore_n 2, 1) := by decide +kernel
theorem dX2_oldest_5 : decode cX2_oldest 5 = .ok (.iload_n 2, 1) := by decide +kernel
theorem dX2_oldest_6 : decode cX2_oldest 6 = .ok (.aload_n 0, 1) := by decide +kernel
theorem dX2_oldest_7 : decode cX2_oldest 7 = .ok (.getfield 7, 3) := by decide +kernel
theorem dX2_oldest_10 : decode cX2_oldest 10 = .ok (.if_icmp .ge 44, 3) := by decide +kernel
theorem dX2_oldest_13 : decode cX2_oldest 13 = .ok (.aload_n 0, 1) := by decide +kernel
theorem dX2_oldest_14 : decode cX2_oldest 14 = .ok (.iload_n 2, 1) := by decide +kernel
theorem dX2_oldest_15 : decode cX2_oldest 15 = .ok (.invokevirtual 130, 3) := by decide +kernel
theorem dX2_oldest_18 : decode cX2_oldest 18 = .ok (.ifCond .eq 28, 3) := by decide +kernel
theorem dX2_oldest_21 : decode cX2_oldest 21 = .ok (.iload_n 1, 1) := by decide +kernel
theorem dX2_oldest_22 : decode cX2_oldest 22 = .ok (.bipush (-7), 2) := by decide +kernel
theorem dX2_oldest_24 : decode cX2_oldest 24 = .ok (.if_icmp .eq 18, 3) := by decide +kernel
theorem dX2_oldest_27 : decode cX2_oldest 27 = .ok (.aload_n 0, 1) := by decide +kernel
theorem dX2_oldest_28 : decode cX2_oldest 28 = .ok (.getfield 26, 3) := by decide +kernel
theorem dX2_oldest_31 : decode cX2_oldest 31 = .ok (.iload_n 2, 1) := by decide +kernel
theorem dX2_oldest_32 : decode cX2_oldest 32 = .ok (.iaload, 1) := by decide +kernel
theorem dX2_oldest_33 : decode cX2_oldest 33 = .ok (.aload_n 0, 1) := by decide +kernel
theorem dX2_oldest_34 : decode cX2_oldest 34 = .ok (.getfield 26, 3) := by decide +kernel
theorem dX2_oldest_37 : decode cX2_oldest 37 = .ok (.iload_n 1, 1) := by decide +kernel
theorem dX2_oldest_38 : decode cX2_oldest 38 = .ok (.iaload, 1) := by decide +kernel
theorem dX2_oldest_39 : decode cX2_oldest 39 = .ok (.if_icmp .ge 7, 3) := by decide +kernel
theorem dX2_oldest_42 : decode cX2_oldest 42 = .ok (.iload_n 2, 1) := by decide +kernel
theorem dX2_oldest_43 : decode cX2_oldest 43 = .ok (.goto 4, 3) := by decide +kernel
theorem dX2_oldest_46 : decode cX2_oldest 46 = .ok (.iload_n 1, 1) := by decide +kernel
theorem dX2_oldest_47 : decode cX2_oldest 47 = .ok (.istore_n 1, 1) := by decide +kernel
theorem dX2_oldest_48 : decode cX2_oldest 48 = .ok (.iinc 2 1, 3) := by decide +kernel
theorem dX2_oldest_51 : decode cX2_oldest 51 = .ok (.goto (-46), 3) := by decide +kernel
theorem dX2_oldest_54 : decode cX2_oldest 54 = .ok (.iload_n 1, 1) := by decide +kernel
theorem dX2_oldest_55 : decode cX2_oldest 55 = .ok (.bipush (-7), 2) := by decide +kernel
theorem dX2_oldest_57 : decode cX2_oldest 57 = .ok (.if_icmp .ne 8, 3) := by decide +kernel
theorem dX2_oldest_60 : decode cX2_oldest 60 = .ok (.bipush (-7), 2) := by decide +kernel
theorem dX2_oldest_62 : decode cX2_oldest 62 = .ok (.goto 9, 3) := by decide +kernel
theorem dX2_oldest_65 : decode cX2_oldest 65 = .ok (.aload_n 0, 1) := by decide +kernel
theorem dX2_oldest_66 : decode cX2_oldest 66 = .ok (.getfield 16, 3) := by decide +kernel
theorem dX2_oldest_69 : decode cX2_oldest 69 = .ok (.iload_n 1, 1) := by decide +kernel
theorem dX2_oldest_70 : decode cX2_oldest 70 = .ok (.iaload, 1) := by decide +kernel
theorem dX2_oldest_71 : decode cX2_oldest 71 = .ok (.ireturn, 1) := by decide +kernel
theorem dX2_oldestLeaf_0 : decode cX2_oldestLeaf 0 = .ok (.aload_n 0, 1) := by decide +kernel
theorem dX2_oldestLeaf_1 : decode cX2_oldestLeaf 1 = .ok (.invokevirtual 133, 3) := by decide +kernel
theorem dX2_oldestLeaf_4 : decode cX2_oldestLeaf 4 = .ok (.ireturn, 1) := by decide +kernel
theorem dX2_close_0 : decode cX2_close 0 = .ok (.aload_n 0, 1) := by decide +kernel
theorem dX2_close_1 : decode cX2_close 1 = .ok (.dup, 1) := by decide +kernel
theorem dX2_close_2 : decode cX2_close 2 = .ok (.getfield 7, 3) := by decide +kernel
theorem dX2_close_5 : decode cX2_close 5 = .ok (.iconst 1, 1) := by decide +kernel
theorem dX2_close_6 : decode cX2_close 6 = .ok (.isub, 1) := by decide +kernel
theorem dX2_close_7 : decode cX2_close 7 = .ok (.putfield 7, 3) := by decide +kernel
theorem dX2_close_10 : decode cX2_close 10 = .ok (.iload_n 1, 1) := by decide +kernel
theorem dX2_close_11 : decode cX2_close 11 = .ok (.istore_n 2, 1) := by decide +kernel
theorem dX2_close_12 : decode cX2_close 12 = .ok (.iload_n 2, 1) := by decide +kernel
theorem dX2_close_13 : decode cX2_close 13 = .ok (.aload_n 0, 1) := by decide +kernel
theorem dX2_close_14 : decode cX2_close 14 = .ok (.getfield 7, 3) := by decide +kernel
theorem dX2_close_17 : decode cX2_close 17 = .ok (.if_icmp .ge 121, 3) := by decide +kernel
theorem dX2_close_20 : decode cX2_close 20 = .ok (.aload_n 0, 1) := by decide +kernel
theorem dX2_close_21 : decode cX2_close 21 = .ok (.getfield 16, 3) := by decide +kernel
theorem dX2_close_24 : decode cX2_close 24 = .ok (.iload_n 2, 1) := by decide +kernel
theorem dX2_close_25 : decode cX2_close 25 = .ok (.aload_n 0, 1) := by decide +kernel
theorem dX2_close_26 : decode cX2_close 26 = .ok (.getfield 16, 3) := by decide +kernel
theorem dX2_close_29 : decode cX2_close 29 = .ok (.iload_n 2, 1) := by decide +kernel
theorem dX2_close_30 : decode cX2_close 30 = .ok (.iconst 1, 1) := by decide +kernel
theorem dX2_close_31 : decode cX2_close 31 = .ok (.iadd, 1) := by decide +kernel
theorem dX2_close_32 : decode cX2_close 32 = .ok (.iaload, 1) := by decide +kernel
theorem dX2_close_33 : decode cX2_close 33 = .ok (.iastore, 1) := by decide +kernel
theorem dX2_close_34 : decode cX2_close 34 = .ok (.aload_n 0, 1) := by decide +kernel
theorem dX2_close_35 : decode cX2_close 35 = .ok (.getfield 20, 3) := by decide +kernel
theorem dX2_close_38 : decode cX2_close 38 = .ok (.iload_n 2, 1) := by decide +kernel
theorem dX2_close_39 : decode cX2_close 39 = .ok (.aload_n 0, 1) := by decide +kernel
theorem dX2_close_40 : decode cX2_close 40 = .ok (.getfield 20, 3) := by decide +kernel
theorem dX2_close_43 : decode cX2_close 43 = .ok (.iload_n 2, 1) := by decide +kernel
theorem dX2_close_44 : decode cX2_close 44 = .ok (.iconst 1, 1) := by decide +kernel
theorem dX2_close_45 : decode cX2_close 45 = .ok (.iadd, 1) := by decide +kernel
theorem dX2_close_46 : decode cX2_close 46 = .ok (.iaload, 1) := by decide +kernel
theorem dX2_close_47 : decode cX2_close 47 = .ok (.iastore, 1) := by decide +kernel
theorem dX2_close_48 : decode cX2_close 48 = .ok (.aload_n 0, 1) := by decide +kernel
theorem dX2_close_49 : decode cX2_close 49 = .ok (.getfield 23, 3) := by decide +kernel
theorem dX2_close_52 : decode cX2_close 52 = .ok (.iload_n 2, 1) := by decide +kernel
theorem dX2_close_53 : decode cX2_close 53 = .ok (.aload_n 0, 1) := by decide +kernel
theorem dX2_close_54 : decode cX2_close 54 = .ok (.getfield 23, 3) := by decide +kernel
theorem dX2_close_57 : decode cX2_close 57 = .ok (.iload_n 2, 1) := by decide +kernel
theorem dX2_close_58 : decode cX2_close 58 = .ok (.iconst 1, 1) := by decide +kernel
theorem dX2_close_59 : decode cX2_close 59 = .ok (.iadd, 1) := by decide +kernel
theorem dX2_close_60 : decode cX2_close 60 = .ok (.iaload, 1) := by decide +kernel
theorem dX2_close_61 : decode cX2_close 61 = .ok (.iastore, 1) := by decide +kernel
theorem dX2_close_62 : decode cX2_close 62 = .ok (.aload_n 0, 1) := by decide +kernel
theorem dX2_close_63 : decode cX2_close 63 = .ok (.getfield 26, 3) := by decide +kernel
theorem dX2_close_66 : decode cX2_close 66 = .ok (.iload_n 2, 1) := by decide +kernel
theorem dX2_close_67 : decode cX2_close 67 = .ok (.aload_n 0, 1) := by decide +kernel
theorem dX2_close_68 : decode cX2_close 68 = .ok (.getfield 26, 3) := by decide +kernel
theorem dX2_close_71 : decode cX2_close 71 = .ok (.iload_n 2, 1) := by decide +kernel
theorem dX2_close_72 : decode cX2_close 72 = .ok (.iconst 1, 1) := by decide +kernel
theorem dX2_close_73 : decode cX2_close 73 = .ok (.iadd, 1) := by decide +kernel
theorem dX2_close_74 : decode cX2_close 74 = .ok (.iaload, 1) := by decide +kernel
theorem dX2_close_75 : decode cX2_close 75 = .ok (.iastore, 1) := by decide +kernel
theorem dX2_close_76 : decode cX2_close 76 = .ok (.aload_n 0, 1) := by decide +kernel
theorem dX2_close_77 : decode cX2_close 77 = .ok (.getfield 29, 3) := by decide +kernel
theorem dX2_close_80 : decode cX2_close 80 = .ok (.iload_n 2, 1) := by decide +kernel
theorem dX2_close_81 : decode cX2_close 81 = .ok (.aload_n 0, 1) := by decide +kernel
theorem dX2_close_82 : decode cX2_close 82 = .ok (.getfield 29, 3) := by decide +kernel
theorem dX2_close_85 : decode cX2_close 85 = .ok (.iload_n 2, 1) := by decide +kernel
theorem dX2_close_86 : decode cX2_close 86 = .ok (.iconst 1, 1) := by decide +kernel
theorem dX2_close_87 : decode cX2_close 87 = .ok (.iadd, 1) := by decide +kernel
theorem dX2_close_88 : decode cX2_close 88 = .ok (.iaload, 1) := by decide +kernel
theorem dX2_close_89 : decode cX2_close 89 = .ok (.iastore, 1) := by decide +kernel
theorem dX2_close_90 : decode cX2_close 90 = .ok (.aload_n 0, 1) := by decide +kernel
theorem dX2_close_91 : decode cX2_close 91 = .ok (.getfield 32, 3) := by decide +kernel
theorem dX2_close_94 : decode cX2_close 94 = .ok (.iload_n 2, 1) := by decide +kernel
theorem dX2_close_95 : decode cX2_close 95 = .ok (.aload_n 0, 1) := by decide +kernel
theorem dX2_close_96 : decode cX2_close 96 = .ok (.getfield 32, 3) := by decide +kernel
theorem dX2_close_99 : decode cX2_close 99 = .ok (.iload_n 2, 1) := by decide +kernel
theorem dX2_close_100 : decode cX2_close 100 = .ok (.iconst 1, 1) := by decide +kernel
theorem dX2_close_101 : decode cX2_close 101 = .ok (.iadd, 1) := by decide +kernel
theorem dX2_close_102 : decode cX2_close 102 = .ok (.iaload, 1) := by decide +kernel
theorem dX2_close_103 : decode cX2_close 103 = .ok (.iastore, 1) := by decide +kernel
theorem dX2_close_104 : decode cX2_close 104 = .ok (.aload_n 0, 1) := by decide +kernel
theorem dX2_close_105 : decode cX2_close 105 = .ok (.getfield 35, 3) := by decide +kernel
theorem dX2_close_108 : decode cX2_close 108 = .ok (.iload_n 2, 1) := by decide +kernel
theorem dX2_close_109 : decode cX2_close 109 = .ok (.aload_n 0, 1) := by decide +kernel
theorem dX2_close_110 : decode cX2_close 110 = .ok (.getfield 35, 3) := by decide +kernel
theorem dX2_close_113 : decode cX2_close 113 = .ok (.iload_n 2, 1) := by decide +kernel
theorem dX2_close_114 : decode cX2_close 114 = .ok (.iconst 1, 1) := by decide +kernel
theorem dX2_close_115 : decode cX2_close 115 = .ok (.iadd, 1) := by decide +kernel
theorem dX2_close_116 : decode cX2_close 116 = .ok (.baload, 1) := by decide +kernel
theorem dX2_close_117 : decode cX2_close 117 = .ok (.bastore, 1) := by decide +kernel
theorem dX2_close_118 : decode cX2_close 118 = .ok (.aload_n 0, 1) := by decide +kernel
theorem dX2_close_119 : decode cX2_close 119 = .ok (.getfield 42, 3) := by decide +kernel
theorem dX2_close_122 : decode cX2_close 122 = .ok (.iload_n 2, 1) := by decide +kernel
theorem dX2_close_123 : decode cX2_close 123 = .ok (.aload_n 0, 1) := by decide +kernel
theorem dX2_close_124 : decode cX2_close 124 = .ok (.getfield 42, 3) := by decide +kernel
theorem dX2_close_127 : decode cX2_close 127 = .ok (.iload_n 2, 1) := by decide +kernel
theorem dX2_close_128 : decode cX2_close 128 = .ok (.iconst 1, 1) := by decide +kernel
theorem dX2_close_129 : decode cX2_close 129 = .ok (.iadd, 1) := by decide +kernel
theorem dX2_close_130 : decode cX2_close 130 = .ok (.iaload, 1) := by decide +kernel
theorem dX2_close_131 : decode cX2_close 131 = .ok (.iastore, 1) := by decide +kernel
theorem dX2_close_132 : decode cX2_close 132 = .ok (.iinc 2 1, 3) := by decide +kernel
theorem dX2_close_135 : decode cX2_close 135 = .ok (.goto (-123), 3) := by decide +kernel
theorem dX2_close_138 : decode cX2_close 138 = .ok (.bipush 6, 2) := by decide +kernel
theorem dX2_close_140 : decode cX2_close 140 = .ok (.iload_n 1, 1) := by decide +kernel
theorem dX2_close_141 : decode cX2_close 141 = .ok (.imul, 1) := by decide +kernel
theorem dX2_close_142 : decode cX2_close 142 = .ok (.istore_n 2, 1) := by decide +kernel
theorem dX2_close_143 : decode cX2_close 143 = .ok (.iload_n 2, 1) := by decide +kernel
theorem dX2_close_144 : decode cX2_close 144 = .ok (.bipush 6, 2) := by decide +kernel
theorem dX2_close_146 : decode cX2_close 146 = .ok (.aload_n 0, 1) := by decide +kernel
theorem dX2_close_147 : decode cX2_close 147 = .ok (.getfield 7, 3) := by decide +kernel
theorem dX2_close_150 : decode cX2_close 150 = .ok (.imul, 1) := by decide +kernel
theorem dX2_close_151 : decode cX2_close 151 = .ok (.if_icmp .ge 24, 3) := by decide +kernel
theorem dX2_close_154 : decode cX2_close 154 = .ok (.aload_n 0, 1) := by decide +kernel
theorem dX2_close_155 : decode cX2_close 155 = .ok (.getfield 39, 3) := by decide +kernel
theorem dX2_close_158 : decode cX2_close 158 = .ok (.iload_n 2, 1) := by decide +kernel
theorem dX2_close_159 : decode cX2_close 159 = .ok (.aload_n 0, 1) := by decide +kernel
theorem dX2_close_160 : decode cX2_close 160 = .ok (.getfield 39, 3) := by decide +kernel
theorem dX2_close_163 : decode cX2_close 163 = .ok (.iload_n 2, 1) := by decide +kernel
theorem dX2_close_164 : decode cX2_close 164 = .ok (.bipush 6, 2) := by decide +kernel
theorem dX2_close_166 : decode cX2_close 166 = .ok (.iadd, 1) := by decide +kernel
theorem dX2_close_167 : decode cX2_close 167 = .ok (.iaload, 1) := by decide +kernel
theorem dX2_close_168 : decode cX2_close 168 = .ok (.iastore, 1) := by decide +kernel
theorem dX2_close_169 : decode cX2_close 169 = .ok (.iinc 2 1, 3) := by decide +kernel
theorem dX2_close_172 : decode cX2_close 172 = .ok (.goto (-29), 3) := by decide +kernel
theorem dX2_close_175 : decode cX2_close 175 = .ok (.bipush 40, 2) := by decide +kernel
theorem dX2_close_177 : decode cX2_close 177 = .ok (.iload_n 1, 1) := by decide +kernel
theorem dX2_close_178 : decode cX2_close 178 = .ok (.imul, 1) := by decide +kernel
theorem dX2_close_179 : decode cX2_close 179 = .ok (.istore_n 2, 1) := by decide +kernel
theorem dX2_close_180 : decode cX2_close 180 = .ok (.iload_n 2, 1) := by decide +kernel
theorem dX2_close_181 : decode cX2_close 181 = .ok (.bipush 40, 2) := by decide +kernel
theorem dX2_close_183 : decode cX2_close 183 = .ok (.aload_n 0, 1) := by decide +kernel
theorem dX2_close_184 : decode cX2_close 184 = .ok (.getfield 7, 3) := by decide +kernel
theorem dX2_close_187 : decode cX2_close 187 = .ok (.imul, 1) := by decide +kernel
theorem dX2_close_188 : decode cX2_close 188 = .ok (.if_icmp .ge 24, 3) := by decide +kernel
theorem dX2_close_191 : decode cX2_close 191 = .ok (.aload_n 0, 1) := by decide +kernel
theorem dX2_close_192 : decode cX2_close 192 = .ok (.getfield 45, 3) := by decide +kernel
theorem dX2_close_195 : decode cX2_close 195 = .ok (.iload_n 2, 1) := by decide +kernel
theorem dX2_close_196 : decode cX2_close 196 = .ok (.aload_n 0, 1) := by decide +kernel
theorem dX2_close_197 : decode cX2_close 197 = .ok (.getfield 45, 3) := by decide +kernel
theorem dX2_close_200 : decode cX2_close 200 = .ok (.iload_n 2, 1) := by decide +kernel
theorem dX2_close_201 : decode cX2_close 201 = .ok (.bipush 40, 2) := by decide +kernel
theorem dX2_close_203 : decode cX2_close 203 = .ok (.iadd, 1) := by decide +kernel
theorem dX2_close_204 : decode cX2_close 204 = .ok (.iaload, 1) := by decide +kernel
theorem dX2_close_205 : decode cX2_close 205 = .ok (.iastore, 1) := by decide +kernel
theorem dX2_close_206 : decode cX2_close 206 = .ok (.iinc 2 1, 3) := by decide +kernel
theorem dX2_close_209 : decode cX2_close 209 = .ok (.goto (-29), 3) := by decide +kernel
theorem dX2_close_212 : decode cX2_close 212 = .ok (.aload_n 0, 1) := by decide +kernel
theorem dX2_close_213 : decode cX2_close 213 = .ok (.dup, 1) := by decide +kernel
theorem dX2_close_214 : decode cX2_close 214 = .ok (.getfield 67, 3) := by decide +kernel
theorem dX2_close_217 : decode cX2_close 217 = .ok (.aload_n 0, 1) := by decide +kernel
theorem dX2_close_218 : decode cX2_close 218 = .ok (.getfield 67, 3) := by decide +kernel
theorem dX2_close_221 : decode cX2_close 221 = .ok (.iload_n 1, 1) := by decide +kernel
theorem dX2_close_222 : decode cX2_close 222 = .ok (.if_icmp .le 7, 3) := by decide +kernel
theorem dX2_close_225 : decode cX2_close 225 = .ok (.iconst 1, 1) := by decide +kernel
theorem dX2_close_226 : decode cX2_close 226 = .ok (.goto 4, 3) := by decide +kernel
theorem dX2_close_229 : decode cX2_close 229 = .ok (.iconst 0, 1) := by decide +kernel
theorem dX2_close_230 : decode cX2_close 230 = .ok (.isub, 1) := by decide +kernel
theorem dX2_close_231 : decode cX2_close 231 = .ok (.putfield 67, 3) := by decide +kernel
theorem dX2_close_234 : decode cX2_close 234 = .ok (.return_, 1) := by decide +kernel
theorem dX2_forget_0 : decode cX2_forget 0 = .ok (.aload_n 0, 1) := by decide +kernel
theorem dX2_forget_1 : decode cX2_forget 1 = .ok (.iload_n 1, 1) := by decide +kernel
theorem dX2_forget_2 : decode cX2_forget 2 = .ok (.invokevirtual 57, 3) := by decide +kernel
theorem dX2_forget_5 : decode cX2_forget 5 = .ok (.istore_n 2, 1) := by decide +kernel
theorem dX2_forget_6 : decode cX2_forget 6 = .ok (.iload_n 2, 1) := by decide +kernel
theorem dX2_forget_7 : decode cX2_forget 7 = .ok (.bipush (-7), 2) := by decide +kernel
theorem dX2_forget_9 : decode cX2_forget 9 = .ok (.if_icmp .ne 6, 3) := by decide +kernel
theorem dX2_forget_12 : decode cX2_forget 12 = .ok (.bipush (-2), 2) := by decide +kernel
theorem dX2_forget_14 : decode cX2_forget 14 = .ok (.ireturn, 1) := by decide +kernel
theorem dX2_forget_15 : decode cX2_forget 15 = .ok (.aload_n 0, 1) := by decide +kernel
theorem dX2_forget_16 : decode cX2_forget 16 = .ok (.iload_n 2, 1) := by decide +kernel
theorem dX2_forget_17 : decode cX2_forget 17 = .ok (.invokevirtual 130, 3) := by decide +kernel
theorem dX2_forget_20 : decode cX2_forget 20 = .ok (.ifCond .ne 6, 3) := by decide +kernel
theorem dX2_forget_23 : decode cX2_forget 23 = .ok (.bipush (-6), 2) := by decide +kernel
theorem dX2_forget_25 : decode cX2_forget 25 = .ok (.ireturn, 1) := by decide +kernel
theorem dX2_forget_26 : decode cX2_forget 26 = .ok (.aload_n 0, 1) := by decide +kernel
theorem dX2_forget_27 : decode cX2_forget 27 = .ok (.getfield 20, 3) := by decide +kernel
theorem dX2_forget_30 : decode cX2_forget 30 = .ok (.iload_n 2, 1) := by decide +kernel
theorem dX2_forget_31 : decode cX2_forget 31 = .ok (.iaload, 1) := by decide +kernel
theorem dX2_forget_32 : decode cX2_forget 32 = .ok (.istore_n 3, 1) := by decide +kernel
theorem dX2_forget_33 : decode cX2_forget 33 = .ok (.aload_n 0, 1) := by decide +kernel
theorem dX2_forget_34 : decode cX2_forget 34 = .ok (.iload_n 2, 1) := by decide +kernel
theorem dX2_forget_35 : decode cX2_forget 35 = .ok (.invokevirtual 137, 3) := by decide +kernel
theorem dX2_forget_38 : decode cX2_forget 38 = .ok (.aload_n 0, 1) := by decide +kernel
theorem dX2_forget_39 : decode cX2_forget 39 = .ok (.iload_n 3, 1) := by decide +kernel
theorem dX2_forget_40 : decode cX2_forget 40 = .ok (.invokevirtual 57, 3) := by decide +kernel
theorem dX2_forget_43 : decode cX2_forget 43 = .ok (.istore 4, 2) := by decide +kernel
theorem dX2_forget_45 : decode cX2_forget 45 = .ok (.aload_n 0, 1) := by decide +kernel
theorem dX2_forget_46 : decode cX2_forget 46 = .ok (.getfield 23, 3) := by decide +kernel
theorem dX2_forget_49 : decode cX2_forget 49 = .ok (.iload 4, 2) := by decide +kernel
theorem dX2_forget_51 : decode cX2_forget 51 = .ok (.iaload, 1) := by decide +kernel
theorem dX2_forget_52 : decode cX2_forget 52 = .ok (.iload_n 1, 1) := by decide +kernel
theorem dX2_forget_53 : decode cX2_forget 53 = .ok (.if_icmp .ne 24, 3) := by decide +kernel
theorem dX2_forget_56 : decode cX2_forget 56 = .ok (.aload_n 0, 1) := by decide +kernel
theorem dX2_forget_57 : decode cX2_forget 57 = .ok (.getfield 23, 3) := by decide +kernel
theorem dX2_forget_60 : decode cX2_forget 60 = .ok (.iload 4, 2) := by decide +kernel
theorem dX2_forget_62 : decode cX2_forget 62 = .ok (.aload_n 0, 1) := by decide +kernel
theorem dX2_forget_63 : decode cX2_forget 63 = .ok (.iload 4, 2) := by decide +kernel
theorem dX2_forget_65 : decode cX2_forget 65 = .ok (.aload_n 0, 1) := by decide +kernel
theorem dX2_forget_66 : decode cX2_forget 66 = .ok (.iload 4, 2) := by decide +kernel
theorem dX2_forget_68 : decode cX2_forget 68 = .ok (.invokevirtual 127, 3) := by decide +kernel
theorem dX2_forget_71 : decode cX2_forget 71 = .ok (.iconst 1, 1) := by decide +kernel
theorem dX2_forget_72 : decode cX2_forget 72 = .ok (.isub, 1) := by decide +kernel
theorem dX2_forget_73 : decode cX2_forget 73 = .ok (.invokevirtual 117, 3) := by decide +kernel
theorem dX2_forget_76 : decode cX2_forget 76 = .ok (.iastore, 1) := by decide +kernel
theorem dX2_forget_77 : decode cX2_forget 77 = .ok (.aload_n 0, 1) := by decide +kernel
theorem dX2_forget_78 : decode cX2_forget 78 = .ok (.getfield 7, 3) := by decide +kernel
theorem dX2_forget_81 : decode cX2_forget 81 = .ok (.ireturn, 1) := by decide +kernel
theorem dX2_mix_0 : decode cX2_mix 0 = .ok (.aload_n 0, 1) := by decide +kernel
theorem dX2_mix_1 : decode cX2_mix 1 = .ok (.ldc2_w 141, 3) := by decide +kernel
theorem dX2_mix_4 : decode cX2_mix 4 = .ok (.aload_n 0, 1) := by decide +kernel
theorem dX2_mix_5 : decode cX2_mix 5 = .ok (.getfield 143, 3) := by decide +kernel
theorem dX2_mix_8 : decode cX2_mix 8 = .ok (.lmul, 1) := by decide +kernel
theorem dX2_mix_9 : decode cX2_mix 9 = .ok (.lload_n 1, 1) := by decide +kernel
theorem dX2_mix_10 : decode cX2_mix 10 = .ok (.ladd, 1) := by decide +kernel
theorem dX2_mix_11 : decode cX2_mix 11 = .ok (.putfield 143, 3) := by decide +kernel
theorem dX2_mix_14 : decode cX2_mix 14 = .ok (.return_, 1) := by decide +kernel
theorem dX2_digest_0 : decode cX2_digest 0 = .ok (.aload_n 0, 1) := by decide +kernel
theorem dX2_digest_1 : decode cX2_digest 1 = .ok (.ldc2_w 147, 3) := by decide +kernel
theorem dX2_digest_4 : decode cX2_digest 4 = .ok (.putfield 143, 3) := by decide +kernel
theorem dX2_digest_7 : decode cX2_digest 7 = .ok (.aload_n 0, 1) := by decide +kernel
theorem dX2_digest_8 : decode cX2_digest 8 = .ok (.aload_n 0, 1) := by decide +kernel
theorem dX2_digest_9 : decode cX2_digest 9 = .ok (.getfield 7, 3) := by decide +kernel
theorem dX2_digest_12 : decode cX2_digest 12 = .ok (.i2l, 1) := by decide +kernel
theorem dX2_digest_13 : decode cX2_digest 13 = .ok (.invokevirtual 149, 3) := by decide +kernel
theorem dX2_digest_16 : decode cX2_digest 16 = .ok (.iconst 0, 1) := by decide +kernel
theorem dX2_digest_17 : decode cX2_digest 17 = .ok (.istore_n 1, 1) := by decide +kernel
theorem dX2_digest_18 : decode cX2_digest 18 = .ok (.iload_n 1, 1) := by decide +kernel
theorem dX2_digest_19 : decode cX2_digest 19 = .ok (.aload_n 0, 1) := by decide +kernel
theorem dX2_digest_20 : decode cX2_digest 20 = .ok (.getfield 7, 3) := by decide +kernel
theorem dX2_digest_23 : decode cX2_digest 23 = .ok (.if_icmp .ge 124, 3) := by decide +kernel
theorem dX2_digest_26 : decode cX2_digest 26 = .ok (.aload_n 0, 1) := by decide +kernel
theorem dX2_digest_27 : decode cX2_digest 27 = .ok (.aload_n 0, 1) := by decide +kernel
theorem dX2_digest_28 : decode cX2_digest 28 = .ok (.getfield 16, 3) := by decide +kernel
theorem dX2_digest_31 : decode cX2_digest 31 = .ok (.iload_n 1, 1) := by decide +kernel
theorem dX2_digest_32 : decode cX2_digest 32 = .ok (.iaload, 1) := by decide +kernel
theorem dX2_digest_33 : decode cX2_digest 33 = .ok (.i2l, 1) := by decide +kernel
theorem dX2_digest_34 : decode cX2_digest 34 = .ok (.invokevirtual 149, 3) := by decide +kernel
theorem dX2_digest_37 : decode cX2_digest 37 = .ok (.aload_n 0, 1) := by decide +kernel
theorem dX2_digest_38 : decode cX2_digest 38 = .ok (.iload_n 1, 1) := by decide +kernel
theorem dX2_digest_39 : decode cX2_digest 39 = .ok (.ifCond .ne 7, 3) := by decide +kernel
theorem dX2_digest_42 : decode cX2_digest 42 = .ok (.lconst 0, 1) := by decide +kernel
theorem dX2_digest_43 : decode cX2_digest 43 = .ok (.goto 10, 3) := by decide +kernel
theorem dX2_digest_46 : decode cX2_digest 46 = .ok (.aload_n 0, 1) := by decide +kernel
theorem dX2_digest_47 : decode cX2_digest 47 = .ok (.getfield 20, 3) := by decide +kernel
theorem dX2_digest_50 : decode cX2_digest 50 = .ok (.iload_n 1, 1) := by decide +kernel
theorem dX2_digest_51 : decode cX2_digest 51 = .ok (.iaload, 1) := by decide +kernel
theorem dX2_digest_52 : decode cX2_digest 52 = .ok (.i2l, 1) := by decide +kernel
theorem dX2_digest_53 : decode cX2_digest 53 = .ok (.invokevirtual 149, 3) := by decide +kernel
theorem dX2_digest_56 : decode cX2_digest 56 = .ok (.aload_n 0, 1) := by decide +kernel
theorem dX2_digest_57 : decode cX2_digest 57 = .ok (.iload_n 1, 1) := by decide +kernel
theorem dX2_digest_58 : decode cX2_digest 58 = .ok (.ifCond .ne 7, 3) := by decide +kernel
theorem dX2_digest_61 : decode cX2_digest 61 = .ok (.lconst 0, 1) := by decide +kernel
theorem dX2_digest_62 : decode cX2_digest 62 = .ok (.goto 9, 3) := by decide +kernel
theorem dX2_digest_65 : decode cX2_digest 65 = .ok (.aload_n 0, 1) := by decide +kernel
theorem dX2_digest_66 : decode cX2_digest 66 = .ok (.iload_n 1, 1) := by decide +kernel
theorem dX2_digest_67 : decode cX2_digest 67 = .ok (.invokevirtual 114, 3) := by decide +kernel
theorem dX2_digest_70 : decode cX2_digest 70 = .ok (.i2l, 1) := by decide +kernel
theorem dX2_digest_71 : decode cX2_digest 71 = .ok (.invokevirtual 149, 3) := by decide +kernel
theorem dX2_digest_74 : decode cX2_digest 74 = .ok (.aload_n 0, 1) := by decide +kernel
theorem dX2_digest_75 : decode cX2_digest 75 = .ok (.aload_n 0, 1) := by decide +kernel
theorem dX2_digest_76 : decode cX2_digest 76 = .ok (.getfield 42, 3) := by decide +kernel
theorem dX2_digest_79 : decode cX2_digest 79 = .ok (.iload_n 1, 1) := by decide +kernel
theorem dX2_digest_80 : decode cX2_digest 80 = .ok (.iaload, 1) := by decide +kernel
theorem dX2_digest_81 : decode cX2_digest 81 = .ok (.i2l, 1) := by decide +kernel
theorem dX2_digest_82 : decode cX2_digest 82 = .ok (.invokevirtual 149, 3) := by decide +kernel
theorem dX2_digest_85 : decode cX2_digest 85 = .ok (.iconst 0, 1) := by decide +kernel
theorem dX2_digest_86 : decode cX2_digest 86 = .ok (.istore_n 2, 1) := by decide +kernel
theorem dX2_digest_87 : decode cX2_digest 87 = .ok (.iload_n 2, 1) := by decide +kernel
theorem dX2_digest_88 : decode cX2_digest 88 = .ok (.aload_n 0, 1) := by decide +kernel
theorem dX2_digest_89 : decode cX2_digest 89 = .ok (.getfield 42, 3) := by decide +kernel
theorem dX2_digest_92 : decode cX2_digest 92 = .ok (.iload_n 1, 1) := by decide +kernel
theorem dX2_digest_93 : decode cX2_digest 93 = .ok (.iaload, 1) := by decide +kernel
theorem dX2_digest_94 : decode cX2_digest 94 = .ok (.if_icmp .ge 25, 3) := by decide +kernel
theorem dX2_digest_97 : decode cX2_digest 97 = .ok (.aload_n 0, 1) := by decide +kernel
theorem dX2_digest_98 : decode cX2_digest 98 = .ok (.aload_n 0, 1) := by decide +kernel
theorem dX2_digest_99 : decode cX2_digest 99 = .ok (.getfield 45, 3) := by decide +kernel
theorem dX2_digest_102 : decode cX2_digest 102 = .ok (.bipush 40, 2) := by decide +kernel
theorem dX2_digest_104 : decode cX2_digest 104 = .ok (.iload_n 1, 1) := by decide +kernel
theorem dX2_digest_105 : decode cX2_digest 105 = .ok (.imul, 1) := by decide +kernel
theorem dX2_digest_106 : decode cX2_digest 106 = .ok (.iload_n 2, 1) := by decide +kernel
theorem dX2_digest_107 : decode cX2_digest 107 = .ok (.iadd, 1) := by decide +kernel
theorem dX2_digest_108 : decode cX2_digest 108 = .ok (.iaload, 1) := by decide +kernel
theorem dX2_digest_109 : decode cX2_digest 109 = .ok (.i2l, 1) := by decide +kernel
theorem dX2_digest_110 : decode cX2_digest 110 = .ok (.invokevirtual 149, 3) := by decide +kernel
theorem dX2_digest_113 : decode cX2_digest 113 = .ok (.iinc 2 1, 3) := by decide +kernel
theorem dX2_digest_116 : decode cX2_digest 116 = .ok (.goto (-29), 3) := by decide +kernel
theorem dX2_digest_119 : decode cX2_digest 119 = .ok (.aload_n 0, 1) := by decide +kernel
theorem dX2_digest_120 : decode cX2_digest 120 = .ok (.aload_n 0, 1) := by decide +kernel
theorem dX2_digest_121 : decode cX2_digest 121 = .ok (.getfield 23, 3) := by decide +kernel
theorem dX2_digest_124 : decode cX2_digest 124 = .ok (.iload_n 1, 1) := by decide +kernel
theorem dX2_digest_125 : decode cX2_digest 125 = .ok (.iaload, 1) := by decide +kernel
theorem dX2_digest_126 : decode cX2_digest 126 = .ok (.i2l, 1) := by decide +kernel
theorem dX2_digest_127 : decode cX2_digest 127 = .ok (.invokevirtual 149, 3) := by decide +kernel
theorem dX2_digest_130 : decode cX2_digest 130 = .ok (.aload_n 0, 1) := by decide +kernel
theorem dX2_digest_131 : decode cX2_digest 131 = .ok (.aload_n 0, 1) := by decide +kernel
theorem dX2_digest_132 : decode cX2_digest 132 = .ok (.getfield 26, 3) := by decide +kernel
theorem dX2_digest_135 : decode cX2_digest 135 = .ok (.iload_n 1, 1) := by decide +kernel
theorem dX2_digest_136 : decode cX2_digest 136 = .ok (.iaload, 1) := by decide +kernel
theorem dX2_digest_137 : decode cX2_digest 137 = .ok (.i2l, 1) := by decide +kernel
theorem dX2_digest_138 : decode cX2_digest 138 = .ok (.invokevirtual 149, 3) := by decide +kernel
theorem dX2_digest_141 : decode cX2_digest 141 = .ok (.iinc 1 1, 3) := by decide +kernel
theorem dX2_digest_144 : decode cX2_digest 144 = .ok (.goto (-126), 3) := by decide +kernel
theorem dX2_digest_147 : decode cX2_digest 147 = .ok (.aload_n 0, 1) := by decide +kernel
theorem dX2_digest_148 : decode cX2_digest 148 = .ok (.aload_n 0, 1) := by decide +kernel
theorem dX2_digest_149 : decode cX2_digest 149 = .ok (.getfield 16, 3) := by decide +kernel
theorem dX2_digest_152 : decode cX2_digest 152 = .ok (.aload_n 0, 1) := by decide +kernel
theorem dX2_digest_153 : decode cX2_digest 153 = .ok (.getfield 67, 3) := by decide +kernel
theorem dX2_digest_156 : decode cX2_digest 156 = .ok (.iaload, 1) := by decide +kernel
theorem dX2_digest_157 : decode cX2_digest 157 = .ok (.i2l, 1) := by decide +kernel
theorem dX2_digest_158 : decode cX2_digest 158 = .ok (.invokevirtual 149, 3) := by decide +kernel
theorem dX2_digest_161 : decode cX2_digest 161 = .ok (.aload_n 0, 1) := by decide +kernel
theorem dX2_digest_162 : decode cX2_digest 162 = .ok (.aload_n 0, 1) := by decide +kernel
theorem dX2_digest_163 : decode cX2_digest 163 = .ok (.invokevirtual 133, 3) := by decide +kernel
theorem dX2_digest_166 : decode cX2_digest 166 = .ok (.i2l, 1) := by decide +kernel
theorem dX2_digest_167 : decode cX2_digest 167 = .ok (.invokevirtual 149, 3) := by decide +kernel
theorem dX2_digest_170 : decode cX2_digest 170 = .ok (.iconst 0, 1) := by decide +kernel
theorem dX2_digest_171 : decode cX2_digest 171 = .ok (.istore_n 1, 1) := by decide +kernel
theorem dX2_digest_172 : decode cX2_digest 172 = .ok (.iload_n 1, 1) := by decide +kernel
theorem dX2_digest_173 : decode cX2_digest 173 = .ok (.iconst 5, 1) := by decide +kernel
theorem dX2_digest_174 : decode cX2_digest 174 = .ok (.if_icmp .ge 20, 3) := by decide +kernel
theorem dX2_digest_177 : decode cX2_digest 177 = .ok (.aload_n 0, 1) := by decide +kernel
theorem dX2_digest_178 : decode cX2_digest 178 = .ok (.aload_n 0, 1) := by decide +kernel
theorem dX2_digest_179 : decode cX2_digest 179 = .ok (.getfield 51, 3) := by decide +kernel
theorem dX2_digest_182 : decode cX2_digest 182 = .ok (.iload_n 1, 1) := by decide +kernel
theorem dX2_digest_183 : decode cX2_digest 183 = .ok (.iaload, 1) := by decide +kernel
theorem dX2_digest_184 : decode cX2_digest 184 = .ok (.i2l, 1) := by decide +kernel
theorem dX2_digest_185 : decode cX2_digest 185 = .ok (.invokevirtual 149, 3) := by decide +kernel
theorem dX2_digest_188 : decode cX2_digest 188 = .ok (.iinc 1 1, 3) := by decide +kernel
theorem dX2_digest_191 : decode cX2_digest 191 = .ok (.goto (-19), 3) := by decide +kernel
theorem dX2_digest_194 : decode cX2_digest 194 = .ok (.aload_n 0, 1) := by decide +kernel
theorem dX2_digest_195 : decode cX2_digest 195 = .ok (.aload_n 0, 1) := by decide +kernel
theorem dX2_digest_196 : decode cX2_digest 196 = .ok (.getfield 64, 3) := by decide +kernel
theorem dX2_digest_199 : decode cX2_digest 199 = .ok (.i2l, 1) := by decide +kernel
theorem dX2_digest_200 : decode cX2_digest 200 = .ok (.invokevirtual 149, 3) := by decide +kernel
theorem dX2_digest_203 : decode cX2_digest 203 = .ok (.aload_n 0, 1) := by decide +kernel
theorem dX2_digest_204 : decode cX2_digest 204 = .ok (.aload_n 0, 1) := by decide +kernel
theorem dX2_digest_205 : decode cX2_digest 205 = .ok (.getfield 74, 3) := by decide +kernel
theorem dX2_digest_208 : decode cX2_digest 208 = .ok (.i2l, 1) := by decide +kernel
theorem dX2_digest_209 : decode cX2_digest 209 = .ok (.invokevirtual 149, 3) := by decide +kernel
theorem dX2_digest_212 : decode cX2_digest 212 = .ok (.iconst 0, 1) := by decide +kernel
theorem dX2_digest_213 : decode cX2_digest 213 = .ok (.istore_n 1, 1) := by decide +kernel
theorem dX2_digest_214 : decode cX2_digest 214 = .ok (.iload_n 1, 1) := by decide +kernel
theorem dX2_digest_215 : decode cX2_digest 215 = .ok (.aload_n 0, 1) := by decide +kernel
theorem dX2_digest_216 : decode cX2_digest 216 = .ok (.getfield 74, 3) := by decide +kernel
theorem dX2_digest_219 : decode cX2_digest 219 = .ok (.if_icmp .ge 20, 3) := by decide +kernel
theorem dX2_digest_222 : decode cX2_digest 222 = .ok (.aload_n 0, 1) := by decide +kernel
theorem dX2_digest_223 : decode cX2_digest 223 = .ok (.aload_n 0, 1) := by decide +kernel
theorem dX2_digest_224 : decode cX2_digest 224 = .ok (.getfield 48, 3) := by decide +kernel
theorem dX2_digest_227 : decode cX2_digest 227 = .ok (.iload_n 1, 1) := by decide +kernel
theorem dX2_digest_228 : decode cX2_digest 228 = .ok (.iaload, 1) := by decide +kernel
theorem dX2_digest_229 : decode cX2_digest 229 = .ok (.i2l, 1) := by decide +kernel
theorem dX2_digest_230 : decode cX2_digest 230 = .ok (.invokevirtual 149, 3) := by decide +kernel
theorem dX2_digest_233 : decode cX2_digest 233 = .ok (.iinc 1 1, 3) := by decide +kernel
theorem dX2_digest_236 : decode cX2_digest 236 = .ok (.goto (-22), 3) := by decide +kernel
theorem dX2_digest_239 : decode cX2_digest 239 = .ok (.aload_n 0, 1) := by decide +kernel
theorem dX2_digest_240 : decode cX2_digest 240 = .ok (.getfield 143, 3) := by decide +kernel
theorem dX2_digest_243 : decode cX2_digest 243 = .ok (.lreturn, 1) := by decide +kernel
theorem dL_law_0 : decode cL_law 0 = .ok (.new 7, 3) := by decide +kernel
theorem dL_law_3 : decode cL_law 3 = .ok (.dup, 1) := by decide +kernel
theorem dL_law_4 : decode cL_law 4 = .ok (.invokespecial 9, 3) := by decide +kernel
theorem dL_law_7 : decode cL_law 7 = .ok (.astore_n 1, 1) := by decide +kernel
theorem dL_law_8 : decode cL_law 8 = .ok (.new 10, 3) := by decide +kernel
theorem dL_law_11 : decode cL_law 11 = .ok (.dup, 1) := by decide +kernel
theorem dL_law_12 : decode cL_law 12 = .ok (.invokespecial 12, 3) := by decide +kernel
theorem dL_law_15 : decode cL_law 15 = .ok (.astore_n 2, 1) := by decide +kernel
theorem dL_law_16 : decode cL_law 16 = .ok (.iconst 0, 1) := by decide +kernel
theorem dL_law_17 : decode cL_law 17 = .ok (.istore_n 3, 1) := by decide +kernel
theorem dL_law_18 : decode cL_law 18 = .ok (.iload_n 3, 1) := by decide +kernel
theorem dL_law_19 : decode cL_law 19 = .ok (.aload_n 0, 1) := by decide +kernel
theorem dL_law_20 : decode cL_law 20 = .ok (.arraylength, 1) := by decide +kernel
theorem dL_law_21 : decode cL_law 21 = .ok (.iconst 3, 1) := by decide +kernel
theorem dL_law_22 : decode cL_law 22 = .ok (.isub, 1) := by decide +kernel
theorem dL_law_23 : decode cL_law 23 = .ok (.if_icmp .gt 724, 3) := by decide +kernel
theorem dL_law_26 : decode cL_law 26 = .ok (.aload_n 0, 1) := by decide +kernel
theorem dL_law_27 : decode cL_law 27 = .ok (.iload_n 3, 1) := by decide +kernel
theorem dL_law_28 : decode cL_law 28 = .ok (.iaload, 1) := by decide +kernel
theorem dL_law_29 : decode cL_law 29 = .ok (.bipush 31, 2) := by decide +kernel
theorem dL_law_31 : decode cL_law 31 = .ok (.iand, 1) := by decide +kernel
theorem dL_law_32 : decode cL_law 32 = .ok (.tableswitch 709 0 25 #[120, 143, 156, 179, 212, 225, 238, 261, 284, 307, 320, 333, 356, 389, 412, 435, 468, 491, 514, 547, 580, 613, 636, 659, 672, 695], 120) := by decide +kernel
theorem dL_law_152 : decode cL_law 152 = .ok (.aload_n 1, 1) := by decide +kernel
theorem dL_law_153 : decode cL_law 153 = .ok (.aload_n 0, 1) := by decide +kernel
theorem dL_law_154 : decode cL_law 154 = .ok (.iload_n 3, 1) := by decide +kernel
theorem dL_law_155 : decode cL_law 155 = .ok (.iconst 1, 1) := by decide +kernel
theorem dL_law_156 : decode cL_law 156 = .ok (.iadd, 1) := by decide +kernel
theorem dL_law_157 : decode cL_law 157 = .ok (.iaload, 1) := by decide +kernel
theorem dL_law_158 : decode cL_law 158 = .ok (.invokevirtual 13, 3) := by decide +kernel
theorem dL_law_161 : decode cL_law 161 = .ok (.aload_n 2, 1) := by decide +kernel
theorem dL_law_162 : decode cL_law 162 = .ok (.aload_n 0, 1) := by decide +kernel
theorem dL_law_163 : decode cL_law 163 = .ok (.iload_n 3, 1) := by decide +kernel
theorem dL_law_164 : decode cL_law 164 = .ok (.iconst 1, 1) := by decide +kernel
theorem dL_law_165 : decode cL_law 165 = .ok (.iadd, 1) := by decide +kernel
theorem dL_law_166 : decode cL_law 166 = .ok (.iaload, 1) := by decide +kernel
theorem dL_law_167 : decode cL_law 167 = .ok (.invokevirtual 17, 3) := by decide +kernel
theorem dL_law_170 : decode cL_law 170 = .ok (.if_icmp .eq 571, 3) := by decide +kernel
theorem dL_law_173 : decode cL_law 173 = .ok (.iconst 0, 1) := by decide +kernel
theorem dL_law_174 : decode cL_law 174 = .ok (.ireturn, 1) := by decide +kernel
theorem dL_law_175 : decode cL_law 175 = .ok (.aload_n 1, 1) := by decide +kernel

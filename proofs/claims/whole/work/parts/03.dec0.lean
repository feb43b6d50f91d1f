theorem dX0_init_0 : decode cX0_init 0 = .ok (.aload_n 0, 1) := by decide +kernel
theorem dX0_init_1 : decode cX0_init 1 = .ok (.invokespecial 3, 3) := by decide +kernel
theorem dX0_init_4 : decode cX0_init 4 = .ok (.aload_n 0, 1) := by decide +kernel
theorem dX0_init_5 : decode cX0_init 5 = .ok (.bipush 40, 2) := by decide +kernel
theorem dX0_init_7 : decode cX0_init 7 = .ok (.newarray .char, 2) := by decide +kernel
theorem dX0_init_9 : decode cX0_init 9 = .ok (.putfield 9, 3) := by decide +kernel
theorem dX0_init_12 : decode cX0_init 12 = .ok (.aload_n 0, 1) := by decide +kernel
theorem dX0_init_13 : decode cX0_init 13 = .ok (.iconst 0, 1) := by decide +kernel
theorem dX0_init_14 : decode cX0_init 14 = .ok (.putfield 15, 3) := by decide +kernel
theorem dX0_init_17 : decode cX0_init 17 = .ok (.aload_n 0, 1) := by decide +kernel
theorem dX0_init_18 : decode cX0_init 18 = .ok (.iconst 0, 1) := by decide +kernel
theorem dX0_init_19 : decode cX0_init 19 = .ok (.putfield 19, 3) := by decide +kernel
theorem dX0_init_22 : decode cX0_init 22 = .ok (.aload_n 0, 1) := by decide +kernel
theorem dX0_init_23 : decode cX0_init 23 = .ok (.iconst 0, 1) := by decide +kernel
theorem dX0_init_24 : decode cX0_init 24 = .ok (.putfield 22, 3) := by decide +kernel
theorem dX0_init_27 : decode cX0_init 27 = .ok (.aload_n 0, 1) := by decide +kernel
theorem dX0_init_28 : decode cX0_init 28 = .ok (.aconst_null, 1) := by decide +kernel
theorem dX0_init_29 : decode cX0_init 29 = .ok (.putfield 25, 3) := by decide +kernel
theorem dX0_init_32 : decode cX0_init 32 = .ok (.aload_n 0, 1) := by decide +kernel
theorem dX0_init_33 : decode cX0_init 33 = .ok (.aconst_null, 1) := by decide +kernel
theorem dX0_init_34 : decode cX0_init 34 = .ok (.putfield 29, 3) := by decide +kernel
theorem dX0_init_37 : decode cX0_init 37 = .ok (.aload_n 0, 1) := by decide +kernel
theorem dX0_init_38 : decode cX0_init 38 = .ok (.iconst 0, 1) := by decide +kernel
theorem dX0_init_39 : decode cX0_init 39 = .ok (.putfield 32, 3) := by decide +kernel
theorem dX0_init_42 : decode cX0_init 42 = .ok (.aload_n 0, 1) := by decide +kernel
theorem dX0_init_43 : decode cX0_init 43 = .ok (.iconst 0, 1) := by decide +kernel
theorem dX0_init_44 : decode cX0_init 44 = .ok (.putfield 35, 3) := by decide +kernel
theorem dX0_init_47 : decode cX0_init 47 = .ok (.aload_n 0, 1) := by decide +kernel
theorem dX0_init_48 : decode cX0_init 48 = .ok (.iconst 0, 1) := by decide +kernel
theorem dX0_init_49 : decode cX0_init 49 = .ok (.putfield 38, 3) := by decide +kernel
theorem dX0_init_52 : decode cX0_init 52 = .ok (.return_, 1) := by decide +kernel
theorem dX1_init_0 : decode cX1_init 0 = .ok (.aload_n 0, 1) := by decide +kernel
theorem dX1_init_1 : decode cX1_init 1 = .ok (.invokespecial 1, 3) := by decide +kernel
theorem dX1_init_4 : decode cX1_init 4 = .ok (.aload_n 0, 1) := by decide +kernel
theorem dX1_init_5 : decode cX1_init 5 = .ok (.bipush 24, 2) := by decide +kernel
theorem dX1_init_7 : decode cX1_init 7 = .ok (.anewarray 9, 3) := by decide +kernel
theorem dX1_init_10 : decode cX1_init 10 = .ok (.putfield 11, 3) := by decide +kernel
theorem dX1_init_13 : decode cX1_init 13 = .ok (.aload_n 0, 1) := by decide +kernel
theorem dX1_init_14 : decode cX1_init 14 = .ok (.iconst 1, 1) := by decide +kernel
theorem dX1_init_15 : decode cX1_init 15 = .ok (.putfield 15, 3) := by decide +kernel
theorem dX1_init_18 : decode cX1_init 18 = .ok (.aload_n 0, 1) := by decide +kernel
theorem dX1_init_19 : decode cX1_init 19 = .ok (.iconst 0, 1) := by decide +kernel
theorem dX1_init_20 : decode cX1_init 20 = .ok (.putfield 19, 3) := by decide +kernel
theorem dX1_init_23 : decode cX1_init 23 = .ok (.aload_n 0, 1) := by decide +kernel
theorem dX1_init_24 : decode cX1_init 24 = .ok (.iconst 0, 1) := by decide +kernel
theorem dX1_init_25 : decode cX1_init 25 = .ok (.putfield 22, 3) := by decide +kernel
theorem dX1_init_28 : decode cX1_init 28 = .ok (.aload_n 0, 1) := by decide +kernel
theorem dX1_init_29 : decode cX1_init 29 = .ok (.bipush 6, 2) := by decide +kernel
theorem dX1_init_31 : decode cX1_init 31 = .ok (.newarray .char, 2) := by decide +kernel
theorem dX1_init_33 : decode cX1_init 33 = .ok (.putfield 25, 3) := by decide +kernel
theorem dX1_init_36 : decode cX1_init 36 = .ok (.aload_n 0, 1) := by decide +kernel
theorem dX1_init_37 : decode cX1_init 37 = .ok (.iconst 0, 1) := by decide +kernel
theorem dX1_init_38 : decode cX1_init 38 = .ok (.putfield 29, 3) := by decide +kernel
theorem dX1_init_41 : decode cX1_init 41 = .ok (.aload_n 0, 1) := by decide +kernel
theorem dX1_init_42 : decode cX1_init 42 = .ok (.iconst 5, 1) := by decide +kernel
theorem dX1_init_43 : decode cX1_init 43 = .ok (.anewarray 9, 3) := by decide +kernel
theorem dX1_init_46 : decode cX1_init 46 = .ok (.putfield 32, 3) := by decide +kernel
theorem dX1_init_49 : decode cX1_init 49 = .ok (.new 9, 3) := by decide +kernel
theorem dX1_init_52 : decode cX1_init 52 = .ok (.dup, 1) := by decide +kernel
theorem dX1_init_53 : decode cX1_init 53 = .ok (.invokespecial 35, 3) := by decide +kernel
theorem dX1_init_56 : decode cX1_init 56 = .ok (.astore_n 1, 1) := by decide +kernel
theorem dX1_init_57 : decode cX1_init 57 = .ok (.aload_n 0, 1) := by decide +kernel
theorem dX1_init_58 : decode cX1_init 58 = .ok (.getfield 11, 3) := by decide +kernel
theorem dX1_init_61 : decode cX1_init 61 = .ok (.iconst 0, 1) := by decide +kernel
theorem dX1_init_62 : decode cX1_init 62 = .ok (.aload_n 1, 1) := by decide +kernel
theorem dX1_init_63 : decode cX1_init 63 = .ok (.aastore, 1) := by decide +kernel
theorem dX1_init_64 : decode cX1_init 64 = .ok (.iconst 1, 1) := by decide +kernel
theorem dX1_init_65 : decode cX1_init 65 = .ok (.istore_n 2, 1) := by decide +kernel
theorem dX1_init_66 : decode cX1_init 66 = .ok (.iload_n 2, 1) := by decide +kernel
theorem dX1_init_67 : decode cX1_init 67 = .ok (.bipush 24, 2) := by decide +kernel
theorem dX1_init_69 : decode cX1_init 69 = .ok (.if_icmp .ge 22, 3) := by decide +kernel
theorem dX1_init_72 : decode cX1_init 72 = .ok (.aload_n 0, 1) := by decide +kernel
theorem dX1_init_73 : decode cX1_init 73 = .ok (.getfield 11, 3) := by decide +kernel
theorem dX1_init_76 : decode cX1_init 76 = .ok (.iload_n 2, 1) := by decide +kernel
theorem dX1_init_77 : decode cX1_init 77 = .ok (.new 9, 3) := by decide +kernel
theorem dX1_init_80 : decode cX1_init 80 = .ok (.dup, 1) := by decide +kernel
theorem dX1_init_81 : decode cX1_init 81 = .ok (.invokespecial 35, 3) := by decide +kernel
theorem dX1_init_84 : decode cX1_init 84 = .ok (.aastore, 1) := by decide +kernel
theorem dX1_init_85 : decode cX1_init 85 = .ok (.iinc 2 1, 3) := by decide +kernel
theorem dX1_init_88 : decode cX1_init 88 = .ok (.goto (-22), 3) := by decide +kernel
theorem dX1_init_91 : decode cX1_init 91 = .ok (.aload_n 0, 1) := by decide +kernel
theorem dX1_init_92 : decode cX1_init 92 = .ok (.aload_n 1, 1) := by decide +kernel
theorem dX1_init_93 : decode cX1_init 93 = .ok (.putfield 36, 3) := by decide +kernel
theorem dX1_init_96 : decode cX1_init 96 = .ok (.return_, 1) := by decide +kernel
theorem dX1_append_0 : decode cX1_append 0 = .ok (.iload_n 1, 1) := by decide +kernel
theorem dX1_append_1 : decode cX1_append 1 = .ok (.bipush 32, 2) := by decide +kernel
theorem dX1_append_3 : decode cX1_append 3 = .ok (.if_icmp .lt 9, 3) := by decide +kernel
theorem dX1_append_6 : decode cX1_append 6 = .ok (.iload_n 1, 1) := by decide +kernel
theorem dX1_append_7 : decode cX1_append 7 = .ok (.bipush 126, 2) := by decide +kernel
theorem dX1_append_9 : decode cX1_append 9 = .ok (.if_icmp .le 5, 3) := by decide +kernel
theorem dX1_append_12 : decode cX1_append 12 = .ok (.iconst (-1), 1) := by decide +kernel
theorem dX1_append_13 : decode cX1_append 13 = .ok (.ireturn, 1) := by decide +kernel
theorem dX1_append_14 : decode cX1_append 14 = .ok (.aload_n 0, 1) := by decide +kernel
theorem dX1_append_15 : decode cX1_append 15 = .ok (.getfield 29, 3) := by decide +kernel
theorem dX1_append_18 : decode cX1_append 18 = .ok (.bipush 6, 2) := by decide +kernel
theorem dX1_append_20 : decode cX1_append 20 = .ok (.if_icmp .lt 6, 3) := by decide +kernel
theorem dX1_append_23 : decode cX1_append 23 = .ok (.bipush (-4), 2) := by decide +kernel
theorem dX1_append_25 : decode cX1_append 25 = .ok (.ireturn, 1) := by decide +kernel
theorem dX1_append_26 : decode cX1_append 26 = .ok (.aload_n 0, 1) := by decide +kernel
theorem dX1_append_27 : decode cX1_append 27 = .ok (.getfield 25, 3) := by decide +kernel
theorem dX1_append_30 : decode cX1_append 30 = .ok (.aload_n 0, 1) := by decide +kernel
theorem dX1_append_31 : decode cX1_append 31 = .ok (.getfield 29, 3) := by decide +kernel
theorem dX1_append_34 : decode cX1_append 34 = .ok (.iload_n 1, 1) := by decide +kernel
theorem dX1_append_35 : decode cX1_append 35 = .ok (.i2c, 1) := by decide +kernel
theorem dX1_append_36 : decode cX1_append 36 = .ok (.castore, 1) := by decide +kernel
theorem dX1_append_37 : decode cX1_append 37 = .ok (.aload_n 0, 1) := by decide +kernel
theorem dX1_append_38 : decode cX1_append 38 = .ok (.dup, 1) := by decide +kernel
theorem dX1_append_39 : decode cX1_append 39 = .ok (.getfield 29, 3) := by decide +kernel
theorem dX1_append_42 : decode cX1_append 42 = .ok (.iconst 1, 1) := by decide +kernel
theorem dX1_append_43 : decode cX1_append 43 = .ok (.iadd, 1) := by decide +kernel
theorem dX1_append_44 : decode cX1_append 44 = .ok (.putfield 29, 3) := by decide +kernel
theorem dX1_append_47 : decode cX1_append 47 = .ok (.aload_n 0, 1) := by decide +kernel
theorem dX1_append_48 : decode cX1_append 48 = .ok (.getfield 29, 3) := by decide +kernel
theorem dX1_append_51 : decode cX1_append 51 = .ok (.ireturn, 1) := by decide +kernel
theorem dX1_clearClip_0 : decode cX1_clearClip 0 = .ok (.aload_n 0, 1) := by decide +kernel
theorem dX1_clearClip_1 : decode cX1_clearClip 1 = .ok (.getfield 29, 3) := by decide +kernel
theorem dX1_clearClip_4 : decode cX1_clearClip 4 = .ok (.istore_n 1, 1) := by decide +kernel
theorem dX1_clearClip_5 : decode cX1_clearClip 5 = .ok (.aload_n 0, 1) := by decide +kernel
theorem dX1_clearClip_6 : decode cX1_clearClip 6 = .ok (.iconst 0, 1) := by decide +kernel
theorem dX1_clearClip_7 : decode cX1_clearClip 7 = .ok (.putfield 29, 3) := by decide +kernel
theorem dX1_clearClip_10 : decode cX1_clearClip 10 = .ok (.iload_n 1, 1) := by decide +kernel
theorem dX1_clearClip_11 : decode cX1_clearClip 11 = .ok (.ireturn, 1) := by decide +kernel
theorem dX1_insert_0 : decode cX1_insert 0 = .ok (.aload_n 0, 1) := by decide +kernel
theorem dX1_insert_1 : decode cX1_insert 1 = .ok (.getfield 29, 3) := by decide +kernel
theorem dX1_insert_4 : decode cX1_insert 4 = .ok (.ifCond .ne 6, 3) := by decide +kernel
theorem dX1_insert_7 : decode cX1_insert 7 = .ok (.bipush (-7), 2) := by decide +kernel
theorem dX1_insert_9 : decode cX1_insert 9 = .ok (.ireturn, 1) := by decide +kernel
theorem dX1_insert_10 : decode cX1_insert 10 = .ok (.iload_n 1, 1) := by decide +kernel
theorem dX1_insert_11 : decode cX1_insert 11 = .ok (.ifCond .lt 14, 3) := by decide +kernel
theorem dX1_insert_14 : decode cX1_insert 14 = .ok (.iload_n 1, 1) := by decide +kernel
theorem dX1_insert_15 : decode cX1_insert 15 = .ok (.aload_n 0, 1) := by decide +kernel
theorem dX1_insert_16 : decode cX1_insert 16 = .ok (.getfield 36, 3) := by decide +kernel
theorem dX1_insert_19 : decode cX1_insert 19 = .ok (.getfield 40, 3) := by decide +kernel
theorem dX1_insert_22 : decode cX1_insert 22 = .ok (.if_icmp .le 5, 3) := by decide +kernel
theorem dX1_insert_25 : decode cX1_insert 25 = .ok (.iconst (-1), 1) := by decide +kernel
theorem dX1_insert_26 : decode cX1_insert 26 = .ok (.ireturn, 1) := by decide +kernel
theorem dX1_insert_27 : decode cX1_insert 27 = .ok (.aload_n 0, 1) := by decide +kernel
theorem dX1_insert_28 : decode cX1_insert 28 = .ok (.aload_n 0, 1) := by decide +kernel
theorem dX1_insert_29 : decode cX1_insert 29 = .ok (.getfield 29, 3) := by decide +kernel
theorem dX1_insert_32 : decode cX1_insert 32 = .ok (.invokevirtual 43, 3) := by decide +kernel
theorem dX1_insert_35 : decode cX1_insert 35 = .ok (.ifCond .ne 6, 3) := by decide +kernel
theorem dX1_insert_38 : decode cX1_insert 38 = .ok (.bipush (-4), 2) := by decide +kernel
theorem dX1_insert_40 : decode cX1_insert 40 = .ok (.ireturn, 1) := by decide +kernel
theorem dX1_insert_41 : decode cX1_insert 41 = .ok (.aload_n 0, 1) := by decide +kernel
theorem dX1_insert_42 : decode cX1_insert 42 = .ok (.invokevirtual 47, 3) := by decide +kernel
theorem dX1_insert_45 : decode cX1_insert 45 = .ok (.ifCond .eq 6, 3) := by decide +kernel
theorem dX1_insert_48 : decode cX1_insert 48 = .ok (.bipush (-3), 2) := by decide +kernel
theorem dX1_insert_50 : decode cX1_insert 50 = .ok (.ireturn, 1) := by decide +kernel
theorem dX1_insert_51 : decode cX1_insert 51 = .ok (.aload_n 0, 1) := by decide +kernel
theorem dX1_insert_52 : decode cX1_insert 52 = .ok (.iload_n 1, 1) := by decide +kernel
theorem dX1_insert_53 : decode cX1_insert 53 = .ok (.aload_n 0, 1) := by decide +kernel
theorem dX1_insert_54 : decode cX1_insert 54 = .ok (.getfield 25, 3) := by decide +kernel
theorem dX1_insert_57 : decode cX1_insert 57 = .ok (.iconst 0, 1) := by decide +kernel
theorem dX1_insert_58 : decode cX1_insert 58 = .ok (.aload_n 0, 1) := by decide +kernel
theorem dX1_insert_59 : decode cX1_insert 59 = .ok (.getfield 29, 3) := by decide +kernel
theorem dX1_insert_62 : decode cX1_insert 62 = .ok (.invokevirtual 51, 3) := by decide +kernel
theorem dX1_insert_65 : decode cX1_insert 65 = .ok (.aload_n 0, 1) := by decide +kernel
theorem dX1_insert_66 : decode cX1_insert 66 = .ok (.iconst 0, 1) := by decide +kernel
theorem dX1_insert_67 : decode cX1_insert 67 = .ok (.putfield 29, 3) := by decide +kernel
theorem dX1_insert_70 : decode cX1_insert 70 = .ok (.aload_n 0, 1) := by decide +kernel
theorem dX1_insert_71 : decode cX1_insert 71 = .ok (.getfield 36, 3) := by decide +kernel
theorem dX1_insert_74 : decode cX1_insert 74 = .ok (.getfield 55, 3) := by decide +kernel
theorem dX1_insert_77 : decode cX1_insert 77 = .ok (.ireturn, 1) := by decide +kernel
theorem dX1_delete_0 : decode cX1_delete 0 = .ok (.iload_n 1, 1) := by decide +kernel
theorem dX1_delete_1 : decode cX1_delete 1 = .ok (.ifCond .lt 14, 3) := by decide +kernel
theorem dX1_delete_4 : decode cX1_delete 4 = .ok (.iload_n 2, 1) := by decide +kernel
theorem dX1_delete_5 : decode cX1_delete 5 = .ok (.iconst 1, 1) := by decide +kernel
theorem dX1_delete_6 : decode cX1_delete 6 = .ok (.if_icmp .lt 9, 3) := by decide +kernel
theorem dX1_delete_9 : decode cX1_delete 9 = .ok (.iload_n 2, 1) := by decide +kernel
theorem dX1_delete_10 : decode cX1_delete 10 = .ok (.bipush 6, 2) := by decide +kernel
theorem dX1_delete_12 : decode cX1_delete 12 = .ok (.if_icmp .le 5, 3) := by decide +kernel
theorem dX1_delete_15 : decode cX1_delete 15 = .ok (.iconst (-1), 1) := by decide +kernel
theorem dX1_delete_16 : decode cX1_delete 16 = .ok (.ireturn, 1) := by decide +kernel
theorem dX1_delete_17 : decode cX1_delete 17 = .ok (.iload_n 1, 1) := by decide +kernel
theorem dX1_delete_18 : decode cX1_delete 18 = .ok (.aload_n 0, 1) := by decide +kernel
theorem dX1_delete_19 : decode cX1_delete 19 = .ok (.getfield 36, 3) := by decide +kernel
theorem dX1_delete_22 : decode cX1_delete 22 = .ok (.getfield 40, 3) := by decide +kernel
theorem dX1_delete_25 : decode cX1_delete 25 = .ok (.iload_n 2, 1) := by decide +kernel
theorem dX1_delete_26 : decode cX1_delete 26 = .ok (.isub, 1) := by decide +kernel
theorem dX1_delete_27 : decode cX1_delete 27 = .ok (.if_icmp .le 5, 3) := by decide +kernel
theorem dX1_delete_30 : decode cX1_delete 30 = .ok (.iconst (-1), 1) := by decide +kernel
theorem dX1_delete_31 : decode cX1_delete 31 = .ok (.ireturn, 1) := by decide +kernel
theorem dX1_delete_32 : decode cX1_delete 32 = .ok (.aload_n 0, 1) := by decide +kernel
theorem dX1_delete_33 : decode cX1_delete 33 = .ok (.invokevirtual 47, 3) := by decide +kernel
theorem dX1_delete_36 : decode cX1_delete 36 = .ok (.ifCond .eq 6, 3) := by decide +kernel
theorem dX1_delete_39 : decode cX1_delete 39 = .ok (.bipush (-3), 2) := by decide +kernel
theorem dX1_delete_41 : decode cX1_delete 41 = .ok (.ireturn, 1) := by decide +kernel
theorem dX1_delete_42 : decode cX1_delete 42 = .ok (.aload_n 0, 1) := by decide +kernel
theorem dX1_delete_43 : decode cX1_delete 43 = .ok (.iload_n 1, 1) := by decide +kernel
theorem dX1_delete_44 : decode cX1_delete 44 = .ok (.iload_n 2, 1) := by decide +kernel
theorem dX1_delete_45 : decode cX1_delete 45 = .ok (.invokevirtual 58, 3) := by decide +kernel
theorem dX1_delete_48 : decode cX1_delete 48 = .ok (.aload_n 0, 1) := by decide +kernel
theorem dX1_delete_49 : decode cX1_delete 49 = .ok (.getfield 36, 3) := by decide +kernel
theorem dX1_delete_52 : decode cX1_delete 52 = .ok (.getfield 55, 3) := by decide +kernel
theorem dX1_delete_55 : decode cX1_delete 55 = .ok (.ireturn, 1) := by decide +kernel
theorem dX1_undo_0 : decode cX1_undo 0 = .ok (.aload_n 0, 1) := by decide +kernel
theorem dX1_undo_1 : decode cX1_undo 1 = .ok (.getfield 36, 3) := by decide +kernel
theorem dX1_undo_4 : decode cX1_undo 4 = .ok (.getfield 62, 3) := by decide +kernel
theorem dX1_undo_7 : decode cX1_undo 7 = .ok (.astore_n 1, 1) := by decide +kernel
theorem dX1_undo_8 : decode cX1_undo 8 = .ok (.aload_n 1, 1) := by decide +kernel
theorem dX1_undo_9 : decode cX1_undo 9 = .ok (.ifnonnull 6, 3) := by decide +kernel
theorem dX1_undo_12 : decode cX1_undo 12 = .ok (.bipush (-7), 2) := by decide +kernel
theorem dX1_undo_14 : decode cX1_undo 14 = .ok (.ireturn, 1) := by decide +kernel
theorem dX1_undo_15 : decode cX1_undo 15 = .ok (.aload_n 0, 1) := by decide +kernel
theorem dX1_undo_16 : decode cX1_undo 16 = .ok (.aload_n 1, 1) := by decide +kernel
theorem dX1_undo_17 : decode cX1_undo 17 = .ok (.invokevirtual 65, 3) := by decide +kernel
theorem dX1_undo_20 : decode cX1_undo 20 = .ok (.aload_n 1, 1) := by decide +kernel
theorem dX1_undo_21 : decode cX1_undo 21 = .ok (.getfield 55, 3) := by decide +kernel
theorem dX1_undo_24 : decode cX1_undo 24 = .ok (.ireturn, 1) := by decide +kernel
theorem dX1_redo_0 : decode cX1_redo 0 = .ok (.aload_n 0, 1) := by decide +kernel
theorem dX1_redo_1 : decode cX1_redo 1 = .ok (.getfield 36, 3) := by decide +kernel
theorem dX1_redo_4 : decode cX1_redo 4 = .ok (.getfield 69, 3) := by decide +kernel
theorem dX1_redo_7 : decode cX1_redo 7 = .ok (.astore_n 1, 1) := by decide +kernel
theorem dX1_redo_8 : decode cX1_redo 8 = .ok (.aload_n 1, 1) := by decide +kernel
theorem dX1_redo_9 : decode cX1_redo 9 = .ok (.ifnonnull 6, 3) := by decide +kernel
theorem dX1_redo_12 : decode cX1_redo 12 = .ok (.bipush (-7), 2) := by decide +kernel
theorem dX1_redo_14 : decode cX1_redo 14 = .ok (.ireturn, 1) := by decide +kernel
theorem dX1_redo_15 : decode cX1_redo 15 = .ok (.aload_n 0, 1) := by decide +kernel
theorem dX1_redo_16 : decode cX1_redo 16 = .ok (.aload_n 1, 1) := by decide +kernel
theorem dX1_redo_17 : decode cX1_redo 17 = .ok (.invokevirtual 65, 3) := by decide +kernel
theorem dX1_redo_20 : decode cX1_redo 20 = .ok (.aload_n 1, 1) := by decide +kernel
theorem dX1_redo_21 : decode cX1_redo 21 = .ok (.getfield 55, 3) := by decide +kernel
theorem dX1_redo_24 : decode cX1_redo 24 = .ok (.ireturn, 1) := by decide +kernel
theorem dX1_jump_0 : decode cX1_jump 0 = .ok (.aload_n 0, 1) := by decide +kernel
theorem dX1_jump_1 : decode cX1_jump 1 = .ok (.iload_n 1, 1) := by decide +kernel
theorem dX1_jump_2 : decode cX1_jump 2 = .ok (.invokevirtual 72, 3) := by decide +kernel
theorem dX1_jump_5 : decode cX1_jump 5 = .ok (.astore_n 2, 1) := by decide +kernel
theorem dX1_jump_6 : decode cX1_jump 6 = .ok (.aload_n 2, 1) := by decide +kernel
theorem dX1_jump_7 : decode cX1_jump 7 = .ok (.ifnonnull 6, 3) := by decide +kernel
theorem dX1_jump_10 : decode cX1_jump 10 = .ok (.bipush (-2), 2) := by decide +kernel
theorem dX1_jump_12 : decode cX1_jump 12 = .ok (.ireturn, 1) := by decide +kernel
theorem dX1_jump_13 : decode cX1_jump 13 = .ok (.aload_n 0, 1) := by decide +kernel
theorem dX1_jump_14 : decode cX1_jump 14 = .ok (.getfield 36, 3) := by decide +kernel
theorem dX1_jump_17 : decode cX1_jump 17 = .ok (.aload_n 2, 1) := by decide +kernel
theorem dX1_jump_18 : decode cX1_jump 18 = .ok (.invokestatic 76, 3) := by decide +kernel
theorem dX1_jump_21 : decode cX1_jump 21 = .ok (.istore_n 3, 1) := by decide +kernel
theorem dX1_jump_22 : decode cX1_jump 22 = .ok (.aload_n 0, 1) := by decide +kernel
theorem dX1_jump_23 : decode cX1_jump 23 = .ok (.aload_n 2, 1) := by decide +kernel
theorem dX1_jump_24 : decode cX1_jump 24 = .ok (.invokevirtual 65, 3) := by decide +kernel
theorem dX1_jump_27 : decode cX1_jump 27 = .ok (.iload_n 3, 1) := by decide +kernel
theorem dX1_jump_28 : decode cX1_jump 28 = .ok (.ireturn, 1) := by decide +kernel
theorem dX1_undoEdit_0 : decode cX1_undoEdit 0 = .ok (.aload_n 0, 1) := by decide +kernel
theorem dX1_undoEdit_1 : decode cX1_undoEdit 1 = .ok (.iload_n 1, 1) := by decide +kernel
theorem dX1_undoEdit_2 : decode cX1_undoEdit 2 = .ok (.invokevirtual 72, 3) := by decide +kernel
theorem dX1_undoEdit_5 : decode cX1_undoEdit 5 = .ok (.astore_n 2, 1) := by decide +kernel
theorem dX1_undoEdit_6 : decode cX1_undoEdit 6 = .ok (.aload_n 2, 1) := by decide +kernel
theorem dX1_undoEdit_7 : decode cX1_undoEdit 7 = .ok (.ifnonnull 6, 3) := by decide +kernel
theorem dX1_undoEdit_10 : decode cX1_undoEdit 10 = .ok (.bipush (-2), 2) := by decide +kernel
theorem dX1_undoEdit_12 : decode cX1_undoEdit 12 = .ok (.ireturn, 1) := by decide +kernel
theorem dX1_undoEdit_13 : decode cX1_undoEdit 13 = .ok (.aload_n 2, 1) := by decide +kernel
theorem dX1_undoEdit_14 : decode cX1_undoEdit 14 = .ok (.getfield 62, 3) := by decide +kernel
theorem dX1_undoEdit_17 : decode cX1_undoEdit 17 = .ok (.astore_n 3, 1) := by decide +kernel
theorem dX1_undoEdit_18 : decode cX1_undoEdit 18 = .ok (.aload_n 3, 1) := by decide +kernel
theorem dX1_undoEdit_19 : decode cX1_undoEdit 19 = .ok (.ifnull 14, 3) := by decide +kernel
theorem dX1_undoEdit_22 : decode cX1_undoEdit 22 = .ok (.aload_n 2, 1) := by decide +kernel
theorem dX1_undoEdit_23 : decode cX1_undoEdit 23 = .ok (.aload_n 0, 1) := by decide +kernel
theorem dX1_undoEdit_24 : decode cX1_undoEdit 24 = .ok (.getfield 36, 3) := by decide +kernel
theorem dX1_undoEdit_27 : decode cX1_undoEdit 27 = .ok (.invokestatic 80, 3) := by decide +kernel
theorem dX1_undoEdit_30 : decode cX1_undoEdit 30 = .ok (.ifCond .ne 6, 3) := by decide +kernel
theorem dX1_undoEdit_33 : decode cX1_undoEdit 33 = .ok (.bipush (-6), 2) := by decide +kernel
theorem dX1_undoEdit_35 : decode cX1_undoEdit 35 = .ok (.ireturn, 1) := by decide +kernel
theorem dX1_undoEdit_36 : decode cX1_undoEdit 36 = .ok (.aload_n 0, 1) := by decide +kernel
theorem dX1_undoEdit_37 : decode cX1_undoEdit 37 = .ok (.aload_n 2, 1) := by decide +kernel
theorem dX1_undoEdit_38 : decode cX1_undoEdit 38 = .ok (.invokevirtual 84, 3) := by decide +kernel
theorem dX1_undoEdit_41 : decode cX1_undoEdit 41 = .ok (.istore 4, 2) := by decide +kernel
theorem dX1_undoEdit_43 : decode cX1_undoEdit 43 = .ok (.iload 4, 2) := by decide +kernel
theorem dX1_undoEdit_45 : decode cX1_undoEdit 45 = .ok (.ifCond .ge 6, 3) := by decide +kernel
theorem dX1_undoEdit_48 : decode cX1_undoEdit 48 = .ok (.bipush (-5), 2) := by decide +kernel
theorem dX1_undoEdit_50 : decode cX1_undoEdit 50 = .ok (.ireturn, 1) := by decide +kernel
theorem dX1_undoEdit_51 : decode cX1_undoEdit 51 = .ok (.aload_n 2, 1) := by decide +kernel
theorem dX1_undoEdit_52 : decode cX1_undoEdit 52 = .ok (.getfield 88, 3) := by decide +kernel
theorem dX1_undoEdit_55 : decode cX1_undoEdit 55 = .ok (.ifCond .eq 17, 3) := by decide +kernel
theorem dX1_undoEdit_58 : decode cX1_undoEdit 58 = .ok (.aload_n 0, 1) := by decide +kernel
theorem dX1_undoEdit_59 : decode cX1_undoEdit 59 = .ok (.aload_n 2, 1) := by decide +kernel
theorem dX1_undoEdit_60 : decode cX1_undoEdit 60 = .ok (.getfield 92, 3) := by decide +kernel
theorem dX1_undoEdit_63 : decode cX1_undoEdit 63 = .ok (.invokevirtual 43, 3) := by decide +kernel
theorem dX1_undoEdit_66 : decode cX1_undoEdit 66 = .ok (.ifCond .ne 6, 3) := by decide +kernel
theorem dX1_undoEdit_69 : decode cX1_undoEdit 69 = .ok (.bipush (-4), 2) := by decide +kernel
theorem dX1_undoEdit_71 : decode cX1_undoEdit 71 = .ok (.ireturn, 1) := by decide +kernel
theorem dX1_undoEdit_72 : decode cX1_undoEdit 72 = .ok (.aload_n 0, 1) := by decide +kernel
theorem dX1_undoEdit_73 : decode cX1_undoEdit 73 = .ok (.invokevirtual 47, 3) := by decide +kernel
theorem dX1_undoEdit_76 : decode cX1_undoEdit 76 = .ok (.ifCond .eq 6, 3) := by decide +kernel
theorem dX1_undoEdit_79 : decode cX1_undoEdit 79 = .ok (.bipush (-3), 2) := by decide +kernel
theorem dX1_undoEdit_81 : decode cX1_undoEdit 81 = .ok (.ireturn, 1) := by decide +kernel
theorem dX1_undoEdit_82 : decode cX1_undoEdit 82 = .ok (.aload_n 2, 1) := by decide +kernel
theorem dX1_undoEdit_83 : decode cX1_undoEdit 83 = .ok (.getfield 88, 3) := by decide +kernel
theorem dX1_undoEdit_86 : decode cX1_undoEdit 86 = .ok (.ifCond .eq 24, 3) := by decide +kernel
theorem dX1_undoEdit_89 : decode cX1_undoEdit 89 = .ok (.aload_n 0, 1) := by decide +kernel
theorem dX1_undoEdit_90 : decode cX1_undoEdit 90 = .ok (.iload 4, 2) := by decide +kernel
theorem dX1_undoEdit_92 : decode cX1_undoEdit 92 = .ok (.aload_n 3, 1) := by decide +kernel
theorem dX1_undoEdit_93 : decode cX1_undoEdit 93 = .ok (.getfield 95, 3) := by decide +kernel
theorem dX1_undoEdit_96 : decode cX1_undoEdit 96 = .ok (.aload_n 2, 1) := by decide +kernel
theorem dX1_undoEdit_97 : decode cX1_undoEdit 97 = .ok (.getfield 98, 3) := by decide +kernel
theorem dX1_undoEdit_100 : decode cX1_undoEdit 100 = .ok (.aload_n 2, 1) := by decide +kernel
theorem dX1_undoEdit_101 : decode cX1_undoEdit 101 = .ok (.getfield 92, 3) := by decide +kernel
theorem dX1_undoEdit_104 : decode cX1_undoEdit 104 = .ok (.invokevirtual 51, 3) := by decide +kernel
theorem dX1_undoEdit_107 : decode cX1_undoEdit 107 = .ok (.goto 13, 3) := by decide +kernel
theorem dX1_undoEdit_110 : decode cX1_undoEdit 110 = .ok (.aload_n 0, 1) := by decide +kernel
theorem dX1_undoEdit_111 : decode cX1_undoEdit 111 = .ok (.iload 4, 2) := by decide +kernel
theorem dX1_undoEdit_113 : decode cX1_undoEdit 113 = .ok (.aload_n 2, 1) := by decide +kernel
theorem dX1_undoEdit_114 : decode cX1_undoEdit 114 = .ok (.getfield 92, 3) := by decide +kernel
theorem dX1_undoEdit_117 : decode cX1_undoEdit 117 = .ok (.invokevirtual 58, 3) := by decide +kernel
theorem dX1_undoEdit_120 : decode cX1_undoEdit 120 = .ok (.aload_n 0, 1) := by decide +kernel
theorem dX1_undoEdit_121 : decode cX1_undoEdit 121 = .ok (.getfield 36, 3) := by decide +kernel
theorem dX1_undoEdit_124 : decode cX1_undoEdit 124 = .ok (.getfield 55, 3) := by decide +kernel
theorem dX1_undoEdit_127 : decode cX1_undoEdit 127 = .ok (.ireturn, 1) := by decide +kernel
theorem dX1_conflictWith_0 : decode cX1_conflictWith 0 = .ok (.aload_n 0, 1) := by decide +kernel
theorem dX1_conflictWith_1 : decode cX1_conflictWith 1 = .ok (.iload_n 1, 1) := by decide +kernel
theorem dX1_conflictWith_2 : decode cX1_conflictWith 2 = .ok (.invokevirtual 72, 3) := by decide +kernel
theorem dX1_conflictWith_5 : decode cX1_conflictWith 5 = .ok (.astore_n 2, 1) := by decide +kernel
theorem dX1_conflictWith_6 : decode cX1_conflictWith 6 = .ok (.aload_n 2, 1) := by decide +kernel
theorem dX1_conflictWith_7 : decode cX1_conflictWith 7 = .ok (.ifnonnull 6, 3) := by decide +kernel
theorem dX1_conflictWith_10 : decode cX1_conflictWith 10 = .ok (.bipush (-2), 2) := by decide +kernel
theorem dX1_conflictWith_12 : decode cX1_conflictWith 12 = .ok (.ireturn, 1) := by decide +kernel
theorem dX1_conflictWith_13 : decode cX1_conflictWith 13 = .ok (.aload_n 2, 1) := by decide +kernel
theorem dX1_conflictWith_14 : decode cX1_conflictWith 14 = .ok (.getfield 62, 3) := by decide +kernel
theorem dX1_conflictWith_17 : decode cX1_conflictWith 17 = .ok (.ifnull 14, 3) := by decide +kernel
theorem dX1_conflictWith_20 : decode cX1_conflictWith 20 = .ok (.aload_n 2, 1) := by decide +kernel
theorem dX1_conflictWith_21 : decode cX1_conflictWith 21 = .ok (.aload_n 0, 1) := by decide +kernel
theorem dX1_conflictWith_22 : decode cX1_conflictWith 22 = .ok (.getfield 36, 3) := by decide +kernel
theorem dX1_conflictWith_25 : decode cX1_conflictWith 25 = .ok (.invokestatic 80, 3) := by decide +kernel
theorem dX1_conflictWith_28 : decode cX1_conflictWith 28 = .ok (.ifCond .ne 6, 3) := by decide +kernel
theorem dX1_conflictWith_31 : decode cX1_conflictWith 31 = .ok (.bipush (-6), 2) := by decide +kernel
theorem dX1_conflictWith_33 : decode cX1_conflictWith 33 = .ok (.ireturn, 1) := by decide +kernel
theorem dX1_conflictWith_34 : decode cX1_conflictWith 34 = .ok (.aload_n 0, 1) := by decide +kernel
theorem dX1_conflictWith_35 : decode cX1_conflictWith 35 = .ok (.aload_n 2, 1) := by decide +kernel
theorem dX1_conflictWith_36 : decode cX1_conflictWith 36 = .ok (.invokevirtual 101, 3) := by decide +kernel
theorem dX1_conflictWith_39 : decode cX1_conflictWith 39 = .ok (.invokestatic 105, 3) := by decide +kernel
theorem dX1_conflictWith_42 : decode cX1_conflictWith 42 = .ok (.ireturn, 1) := by decide +kernel
theorem dX1_current_0 : decode cX1_current 0 = .ok (.aload_n 0, 1) := by decide +kernel
theorem dX1_current_1 : decode cX1_current 1 = .ok (.getfield 36, 3) := by decide +kernel
theorem dX1_current_4 : decode cX1_current 4 = .ok (.getfield 55, 3) := by decide +kernel
theorem dX1_current_7 : decode cX1_current 7 = .ok (.ireturn, 1) := by decide +kernel
theorem dX1_nodeCount_0 : decode cX1_nodeCount 0 = .ok (.aload_n 0, 1) := by decide +kernel
theorem dX1_nodeCount_1 : decode cX1_nodeCount 1 = .ok (.getfield 15, 3) := by decide +kernel
theorem dX1_nodeCount_4 : decode cX1_nodeCount 4 = .ok (.ireturn, 1) := by decide +kernel
theorem dX1_lengthOf_0 : decode cX1_lengthOf 0 = .ok (.aload_n 0, 1) := by decide +kernel
theorem dX1_lengthOf_1 : decode cX1_lengthOf 1 = .ok (.iload_n 1, 1) := by decide +kernel
theorem dX1_lengthOf_2 : decode cX1_lengthOf 2 = .ok (.invokevirtual 72, 3) := by decide +kernel
theorem dX1_lengthOf_5 : decode cX1_lengthOf 5 = .ok (.astore_n 2, 1) := by decide +kernel
theorem dX1_lengthOf_6 : decode cX1_lengthOf 6 = .ok (.aload_n 2, 1) := by decide +kernel
theorem dX1_lengthOf_7 : decode cX1_lengthOf 7 = .ok (.ifnonnull 8, 3) := by decide +kernel
theorem dX1_lengthOf_10 : decode cX1_lengthOf 10 = .ok (.bipush (-2), 2) := by decide +kernel
theorem dX1_lengthOf_12 : decode cX1_lengthOf 12 = .ok (.goto 7, 3) := by decide +kernel
theorem dX1_lengthOf_15 : decode cX1_lengthOf 15 = .ok (.aload_n 2, 1) := by decide +kernel
theorem dX1_lengthOf_16 : decode cX1_lengthOf 16 = .ok (.getfield 40, 3) := by decide +kernel
theorem dX1_lengthOf_19 : decode cX1_lengthOf 19 = .ok (.ireturn, 1) := by decide +kernel
theorem dX1_characterOf_0 : decode cX1_characterOf 0 = .ok (.aload_n 0, 1) := by decide +kernel
theorem dX1_characterOf_1 : decode cX1_characterOf 1 = .ok (.iload_n 1, 1) := by decide +kernel
theorem dX1_characterOf_2 : decode cX1_characterOf 2 = .ok (.invokevirtual 72, 3) := by decide +kernel
theorem dX1_characterOf_5 : decode cX1_characterOf 5 = .ok (.astore_n 3, 1) := by decide +kernel
theorem dX1_characterOf_6 : decode cX1_characterOf 6 = .ok (.aload_n 3, 1) := by decide +kernel
theorem dX1_characterOf_7 : decode cX1_characterOf 7 = .ok (.ifnonnull 6, 3) := by decide +kernel
theorem dX1_characterOf_10 : decode cX1_characterOf 10 = .ok (.bipush (-2), 2) := by decide +kernel
theorem dX1_characterOf_12 : decode cX1_characterOf 12 = .ok (.ireturn, 1) := by decide +kernel
theorem dX1_characterOf_13 : decode cX1_characterOf 13 = .ok (.iload_n 2, 1) := by decide +kernel
theorem dX1_characterOf_14 : decode cX1_characterOf 14 = .ok (.ifCond .lt 11, 3) := by decide +kernel
theorem dX1_characterOf_17 : decode cX1_characterOf 17 = .ok (.iload_n 2, 1) := by decide +kernel
theorem dX1_characterOf_18 : decode cX1_characterOf 18 = .ok (.aload_n 3, 1) := by decide +kernel
theorem dX1_characterOf_19 : decode cX1_characterOf 19 = .ok (.getfield 40, 3) := by decide +kernel
theorem dX1_characterOf_22 : decode cX1_characterOf 22 = .ok (.if_icmp .lt 5, 3) := by decide +kernel
theorem dX1_characterOf_25 : decode cX1_characterOf 25 = .ok (.iconst (-1), 1) := by decide +kernel
theorem dX1_characterOf_26 : decode cX1_characterOf 26 = .ok (.ireturn, 1) := by decide +kernel
theorem dX1_characterOf_27 : decode cX1_characterOf 27 = .ok (.aload_n 3, 1) := by decide +kernel
theorem dX1_characterOf_28 : decode cX1_characterOf 28 = .ok (.getfield 95, 3) := by decide +kernel
theorem dX1_characterOf_31 : decode cX1_characterOf 31 = .ok (.iload_n 2, 1) := by decide +kernel
theorem dX1_characterOf_32 : decode cX1_characterOf 32 = .ok (.caload, 1) := by decide +kernel
theorem dX1_characterOf_33 : decode cX1_characterOf 33 = .ok (.ireturn, 1) := by decide +kernel
theorem dX1_editOf_0 : decode cX1_editOf 0 = .ok (.aload_n 0, 1) := by decide +kernel
theorem dX1_editOf_1 : decode cX1_editOf 1 = .ok (.iload_n 1, 1) := by decide +kernel
theorem dX1_editOf_2 : decode cX1_editOf 2 = .ok (.invokevirtual 72, 3) := by decide +kernel
theorem dX1_editOf_5 : decode cX1_editOf 5 = .ok (.astore_n 2, 1) := by decide +kernel
theorem dX1_editOf_6 : decode cX1_editOf 6 = .ok (.aload_n 2, 1) := by decide +kernel
theorem dX1_editOf_7 : decode cX1_editOf 7 = .ok (.ifnonnull 6, 3) := by decide +kernel
theorem dX1_editOf_10 : decode cX1_editOf 10 = .ok (.bipush (-2), 2) := by decide +kernel
theorem dX1_editOf_12 : decode cX1_editOf 12 = .ok (.ireturn, 1) := by decide +kernel
theorem dX1_editOf_13 : decode cX1_editOf 13 = .ok (.aload_n 2, 1) := by decide +kernel
theorem dX1_editOf_14 : decode cX1_editOf 14 = .ok (.getfield 62, 3) := by decide +kernel
theorem dX1_editOf_17 : decode cX1_editOf 17 = .ok (.ifnonnull 8, 3) := by decide +kernel
theorem dX1_editOf_20 : decode cX1_editOf 20 = .ok (.bipush (-6), 2) := by decide +kernel
theorem dX1_editOf_22 : decode cX1_editOf 22 = .ok (.goto 7, 3) := by decide +kernel
theorem dX1_editOf_25 : decode cX1_editOf 25 = .ok (.aload_n 2, 1) := by decide +kernel
theorem dX1_editOf_26 : decode cX1_editOf 26 = .ok (.invokestatic 108, 3) := by decide +kernel
theorem dX1_editOf_29 : decode cX1_editOf 29 = .ok (.ireturn, 1) := by decide +kernel
theorem dX1_parentOf_0 : decode cX1_parentOf 0 = .ok (.aload_n 0, 1) := by decide +kernel
theorem dX1_parentOf_1 : decode cX1_parentOf 1 = .ok (.iload_n 1, 1) := by decide +kernel
theorem dX1_parentOf_2 : decode cX1_parentOf 2 = .ok (.invokevirtual 72, 3) := by decide +kernel
theorem dX1_parentOf_5 : decode cX1_parentOf 5 = .ok (.astore_n 2, 1) := by decide +kernel
theorem dX1_parentOf_6 : decode cX1_parentOf 6 = .ok (.aload_n 2, 1) := by decide +kernel
theorem dX1_parentOf_7 : decode cX1_parentOf 7 = .ok (.ifnonnull 6, 3) := by decide +kernel
theorem dX1_parentOf_10 : decode cX1_parentOf 10 = .ok (.bipush (-2), 2) := by decide +kernel
theorem dX1_parentOf_12 : decode cX1_parentOf 12 = .ok (.ireturn, 1) := by decide +kernel
theorem dX1_parentOf_13 : decode cX1_parentOf 13 = .ok (.aload_n 2, 1) := by decide +kernel
theorem dX1_parentOf_14 : decode cX1_parentOf 14 = .ok (.getfield 62, 3) := by decide +kernel
theorem dX1_parentOf_17 : decode cX1_parentOf 17 = .ok (.astore_n 3, 1) := by decide +kernel
theorem dX1_parentOf_18 : decode cX1_parentOf 18 = .ok (.aload_n 3, 1) := by decide +kernel
theorem dX1_parentOf_19 : decode cX1_parentOf 19 = .ok (.ifnonnull 8, 3) := by decide +kernel
theorem dX1_parentOf_22 : decode cX1_parentOf 22 = .ok (.bipush (-6), 2) := by decide +kernel
theorem dX1_parentOf_24 : decode cX1_parentOf 24 = .ok (.goto 7, 3) := by decide +kernel
theorem dX1_parentOf_27 : decode cX1_parentOf 27 = .ok (.aload_n 3, 1) := by decide +kernel
theorem dX1_parentOf_28 : decode cX1_parentOf 28 = .ok (.getfield 55, 3) := by decide +kernel
theorem dX1_parentOf_31 : decode cX1_parentOf 31 = .ok (.ireturn, 1) := by decide +kernel
theorem dX1_childOf_0 : decode cX1_childOf 0 = .ok (.aload_n 0, 1) := by decide +kernel
theorem dX1_childOf_1 : decode cX1_childOf 1 = .ok (.iload_n 1, 1) := by decide +kernel
theorem dX1_childOf_2 : decode cX1_childOf 2 = .ok (.invokevirtual 72, 3) := by decide +kernel
theorem dX1_childOf_5 : decode cX1_childOf 5 = .ok (.astore_n 3, 1) := by decide +kernel
theorem dX1_childOf_6 : decode cX1_childOf 6 = .ok (.aload_n 3, 1) := by decide +kernel
theorem dX1_childOf_7 : decode cX1_childOf 7 = .ok (.ifnonnull 6, 3) := by decide +kernel
theorem dX1_childOf_10 : decode cX1_childOf 10 = .ok (.bipush (-2), 2) := by decide +kernel
theorem dX1_childOf_12 : decode cX1_childOf 12 = .ok (.ireturn, 1) := by decide +kernel
theorem dX1_childOf_13 : decode cX1_childOf 13 = .ok (.iconst 0, 1) := by decide +kernel
theorem dX1_childOf_14 : decode cX1_childOf 14 = .ok (.istore 4, 2) := by decide +kernel
theorem dX1_childOf_16 : decode cX1_childOf 16 = .ok (.iconst 0, 1) := by decide +kernel
theorem dX1_childOf_17 : decode cX1_childOf 17 = .ok (.istore 5, 2) := by decide +kernel
theorem dX1_childOf_19 : decode cX1_childOf 19 = .ok (.iload 5, 2) := by decide +kernel
theorem dX1_childOf_21 : decode cX1_childOf 21 = .ok (.aload_n 0, 1) := by decide +kernel
theorem dX1_childOf_22 : decode cX1_childOf 22 = .ok (.getfield 15, 3) := by decide +kernel
theorem dX1_childOf_25 : decode cX1_childOf 25 = .ok (.if_icmp .ge 43, 3) := by decide +kernel
theorem dX1_childOf_28 : decode cX1_childOf 28 = .ok (.aload_n 0, 1) := by decide +kernel
theorem dX1_childOf_29 : decode cX1_childOf 29 = .ok (.getfield 11, 3) := by decide +kernel
theorem dX1_childOf_32 : decode cX1_childOf 32 = .ok (.iload 5, 2) := by decide +kernel
theorem dX1_childOf_34 : decode cX1_childOf 34 = .ok (.aaload, 1) := by decide +kernel
theorem dX1_childOf_35 : decode cX1_childOf 35 = .ok (.getfield 62, 3) := by decide +kernel
theorem dX1_childOf_38 : decode cX1_childOf 38 = .ok (.aload_n 3, 1) := by decide +kernel
theorem dX1_childOf_39 : decode cX1_childOf 39 = .ok (.if_acmp .ne 23, 3) := by decide +kernel
theorem dX1_childOf_42 : decode cX1_childOf 42 = .ok (.iload 4, 2) := by decide +kernel
theorem dX1_childOf_44 : decode cX1_childOf 44 = .ok (.iload_n 2, 1) := by decide +kernel
theorem dX1_childOf_45 : decode cX1_childOf 45 = .ok (.if_icmp .ne 14, 3) := by decide +kernel
theorem dX1_childOf_48 : decode cX1_childOf 48 = .ok (.aload_n 0, 1) := by decide +kernel
theorem dX1_childOf_49 : decode cX1_childOf 49 = .ok (.getfield 11, 3) := by decide +kernel
theorem dX1_childOf_52 : decode cX1_childOf 52 = .ok (.iload 5, 2) := by decide +kernel
theorem dX1_childOf_54 : decode cX1_childOf 54 = .ok (.aaload, 1) := by decide +kernel
theorem dX1_childOf_55 : decode cX1_childOf 55 = .ok (.getfield 55, 3) := by decide +kernel
theorem dX1_childOf_58 : decode cX1_childOf 58 = .ok (.ireturn, 1) := by decide +kernel
theorem dX1_childOf_59 : decode cX1_childOf 59 = .ok (.iinc 4 1, 3) := by decide +kernel
theorem dX1_childOf_62 : decode cX1_childOf 62 = .ok (.iinc 5 1, 3) := by decide +kernel
theorem dX1_childOf_65 : decode cX1_childOf 65 = .ok (.goto (-46), 3) := by decide +kernel
theorem dX1_childOf_68 : decode cX1_childOf 68 = .ok (.bipush (-7), 2) := by decide +kernel
theorem dX1_childOf_70 : decode cX1_childOf 70 = .ok (.ireturn, 1) := by decide +kernel
theorem dX1_favouriteOf_0 : decode cX1_favouriteOf 0 = .ok (.aload_n 0, 1) := by decide +kernel
theorem dX1_favouriteOf_1 : decode cX1_favouriteOf 1 = .ok (.iload_n 1, 1) := by decide +kernel
theorem dX1_favouriteOf_2 : decode cX1_favouriteOf 2 = .ok (.invokevirtual 72, 3) := by decide +kernel
theorem dX1_favouriteOf_5 : decode cX1_favouriteOf 5 = .ok (.astore_n 2, 1) := by decide +kernel
theorem dX1_favouriteOf_6 : decode cX1_favouriteOf 6 = .ok (.aload_n 2, 1) := by decide +kernel
theorem dX1_favouriteOf_7 : decode cX1_favouriteOf 7 = .ok (.ifnonnull 8, 3) := by decide +kernel
theorem dX1_favouriteOf_10 : decode cX1_favouriteOf 10 = .ok (.bipush (-2), 2) := by decide +kernel
theorem dX1_favouriteOf_12 : decode cX1_favouriteOf 12 = .ok (.goto 10, 3) := by decide +kernel
theorem dX1_favouriteOf_15 : decode cX1_favouriteOf 15 = .ok (.aload_n 2, 1) := by decide +kernel
theorem dX1_favouriteOf_16 : decode cX1_favouriteOf 16 = .ok (.getfield 69, 3) := by decide +kernel
theorem dX1_favouriteOf_19 : decode cX1_favouriteOf 19 = .ok (.invokestatic 105, 3) := by decide +kernel
theorem dX1_favouriteOf_22 : decode cX1_favouriteOf 22 = .ok (.ireturn, 1) := by decide +kernel
theorem dX1_timeOf_0 : decode cX1_timeOf 0 = .ok (.aload_n 0, 1) := by decide +kernel
theorem dX1_timeOf_1 : decode cX1_timeOf 1 = .ok (.iload_n 1, 1) := by decide +kernel
theorem dX1_timeOf_2 : decode cX1_timeOf 2 = .ok (.invokevirtual 72, 3) := by decide +kernel
theorem dX1_timeOf_5 : decode cX1_timeOf 5 = .ok (.astore_n 2, 1) := by decide +kernel
theorem dX1_timeOf_6 : decode cX1_timeOf 6 = .ok (.aload_n 2, 1) := by decide +kernel
theorem dX1_timeOf_7 : decode cX1_timeOf 7 = .ok (.ifnonnull 8, 3) := by decide +kernel
theorem dX1_timeOf_10 : decode cX1_timeOf 10 = .ok (.bipush (-2), 2) := by decide +kernel
theorem dX1_timeOf_12 : decode cX1_timeOf 12 = .ok (.goto 7, 3) := by decide +kernel
theorem dX1_timeOf_15 : decode cX1_timeOf 15 = .ok (.aload_n 2, 1) := by decide +kernel
theorem dX1_timeOf_16 : decode cX1_timeOf 16 = .ok (.getfield 111, 3) := by decide +kernel
theorem dX1_timeOf_19 : decode cX1_timeOf 19 = .ok (.ireturn, 1) := by decide +kernel
theorem dX1_commonAncestor_0 : decode cX1_commonAncestor 0 = .ok (.aload_n 0, 1) := by decide +kernel
theorem dX1_commonAncestor_1 : decode cX1_commonAncestor 1 = .ok (.iload_n 1, 1) := by decide +kernel
theorem dX1_commonAncestor_2 : decode cX1_commonAncestor 2 = .ok (.invokevirtual 72, 3) := by decide +kernel
theorem dX1_commonAncestor_5 : decode cX1_commonAncestor 5 = .ok (.astore_n 3, 1) := by decide +kernel
theorem dX1_commonAncestor_6 : decode cX1_commonAncestor 6 = .ok (.aload_n 0, 1) := by decide +kernel
theorem dX1_commonAncestor_7 : decode cX1_commonAncestor 7 = .ok (.iload_n 2, 1) := by decide +kernel
theorem dX1_commonAncestor_8 : decode cX1_commonAncestor 8 = .ok (.invokevirtual 72, 3) := by decide +kernel
theorem dX1_commonAncestor_11 : decode cX1_commonAncestor 11 = .ok (.astore 4, 2) := by decide +kernel
theorem dX1_commonAncestor_13 : decode cX1_commonAncestor 13 = .ok (.aload_n 3, 1) := by decide +kernel
theorem dX1_commonAncestor_14 : decode cX1_commonAncestor 14 = .ok (.ifnull 8, 3) := by decide +kernel
theorem dX1_commonAncestor_17 : decode cX1_commonAncestor 17 = .ok (.aload 4, 2) := by decide +kernel
theorem dX1_commonAncestor_19 : decode cX1_commonAncestor 19 = .ok (.ifnonnull 6, 3) := by decide +kernel
theorem dX1_commonAncestor_22 : decode cX1_commonAncestor 22 = .ok (.bipush (-2), 2) := by decide +kernel
theorem dX1_commonAncestor_24 : decode cX1_commonAncestor 24 = .ok (.ireturn, 1) := by decide +kernel
theorem dX1_commonAncestor_25 : decode cX1_commonAncestor 25 = .ok (.aload_n 3, 1) := by decide +kernel
theorem dX1_commonAncestor_26 : decode cX1_commonAncestor 26 = .ok (.aload 4, 2) := by decide +kernel
theorem dX1_commonAncestor_28 : decode cX1_commonAncestor 28 = .ok (.invokestatic 114, 3) := by decide +kernel
theorem dX1_commonAncestor_31 : decode cX1_commonAncestor 31 = .ok (.getfield 55, 3) := by decide +kernel
theorem dX1_commonAncestor_34 : decode cX1_commonAncestor 34 = .ok (.ireturn, 1) := by decide +kernel
theorem dX1_distance_0 : decode cX1_distance 0 = .ok (.aload_n 0, 1) := by decide +kernel
theorem dX1_distance_1 : decode cX1_distance 1 = .ok (.iload_n 1, 1) := by decide +kernel
theorem dX1_distance_2 : decode cX1_distance 2 = .ok (.invokevirtual 72, 3) := by decide +kernel
theorem dX1_distance_5 : decode cX1_distance 5 = .ok (.astore_n 3, 1) := by decide +kernel
theorem dX1_distance_6 : decode cX1_distance 6 = .ok (.aload_n 0, 1) := by decide +kernel
theorem dX1_distance_7 : decode cX1_distance 7 = .ok (.iload_n 2, 1) := by decide +kernel
theorem dX1_distance_8 : decode cX1_distance 8 = .ok (.invokevirtual 72, 3) := by decide +kernel
theorem dX1_distance_11 : decode cX1_distance 11 = .ok (.astore 4, 2) := by decide +kernel
theorem dX1_distance_13 : decode cX1_distance 13 = .ok (.aload_n 3, 1) := by decide +kernel
theorem dX1_distance_14 : decode cX1_distance 14 = .ok (.ifnull 8, 3) := by decide +kernel
theorem dX1_distance_17 : decode cX1_distance 17 = .ok (.aload 4, 2) := by decide +kernel
theorem dX1_distance_19 : decode cX1_distance 19 = .ok (.ifnonnull 6, 3) := by decide +kernel
theorem dX1_distance_22 : decode cX1_distance 22 = .ok (.bipush (-2), 2) := by decide +kernel
theorem dX1_distance_24 : decode cX1_distance 24 = .ok (.ireturn, 1) := by decide +kernel
theorem dX1_distance_25 : decode cX1_distance 25 = .ok (.aload_n 3, 1) := by decide +kernel
theorem dX1_distance_26 : decode cX1_distance 26 = .ok (.aload 4, 2) := by decide +kernel
theorem dX1_distance_28 : decode cX1_distance 28 = .ok (.invokestatic 76, 3) := by decide +kernel
theorem dX1_distance_31 : decode cX1_distance 31 = .ok (.ireturn, 1) := by decide +kernel
theorem dX1_setMark_0 : decode cX1_setMark 0 = .ok (.iload_n 1, 1) := by decide +kernel
theorem dX1_setMark_1 : decode cX1_setMark 1 = .ok (.invokestatic 118, 3) := by decide +kernel
theorem dX1_setMark_4 : decode cX1_setMark 4 = .ok (.ifCond .ne 5, 3) := by decide +kernel
theorem dX1_setMark_7 : decode cX1_setMark 7 = .ok (.iconst (-1), 1) := by decide +kernel
theorem dX1_setMark_8 : decode cX1_setMark 8 = .ok (.ireturn, 1) := by decide +kernel
theorem dX1_setMark_9 : decode cX1_setMark 9 = .ok (.aload_n 0, 1) := by decide +kernel
theorem dX1_setMark_10 : decode cX1_setMark 10 = .ok (.iload_n 2, 1) := by decide +kernel
theorem dX1_setMark_11 : decode cX1_setMark 11 = .ok (.invokevirtual 72, 3) := by decide +kernel
theorem dX1_setMark_14 : decode cX1_setMark 14 = .ok (.astore_n 3, 1) := by decide +kernel
theorem dX1_setMark_15 : decode cX1_setMark 15 = .ok (.aload_n 3, 1) := by decide +kernel
theorem dX1_setMark_16 : decode cX1_setMark 16 = .ok (.ifnonnull 6, 3) := by decide +kernel
theorem dX1_setMark_19 : decode cX1_setMark 19 = .ok (.bipush (-2), 2) := by decide +kernel
theorem dX1_setMark_21 : decode cX1_setMark 21 = .ok (.ireturn, 1) := by decide +kernel
theorem dX1_setMark_22 : decode cX1_setMark 22 = .ok (.aload_n 0, 1) := by decide +kernel
theorem dX1_setMark_23 : decode cX1_setMark 23 = .ok (.getfield 32, 3) := by decide +kernel
theorem dX1_setMark_26 : decode cX1_setMark 26 = .ok (.iload_n 1, 1) := by decide +kernel
theorem dX1_setMark_27 : decode cX1_setMark 27 = .ok (.aload_n 3, 1) := by decide +kernel
theorem dX1_setMark_28 : decode cX1_setMark 28 = .ok (.aastore, 1) := by decide +kernel
theorem dX1_setMark_29 : decode cX1_setMark 29 = .ok (.aload_n 0, 1) := by decide +kernel
theorem dX1_setMark_30 : decode cX1_setMark 30 = .ok (.aload_n 3, 1) := by decide +kernel
theorem dX1_setMark_31 : decode cX1_setMark 31 = .ok (.invokevirtual 121, 3) := by decide +kernel
theorem dX1_setMark_34 : decode cX1_setMark 34 = .ok (.ireturn, 1) := by decide +kernel
theorem dX1_clearMark_0 : decode cX1_clearMark 0 = .ok (.iload_n 1, 1) := by decide +kernel
theorem dX1_clearMark_1 : decode cX1_clearMark 1 = .ok (.invokestatic 118, 3) := by decide +kernel
theorem dX1_clearMark_4 : decode cX1_clearMark 4 = .ok (.ifCond .ne 5, 3) := by decide +kernel
theorem dX1_clearMark_7 : decode cX1_clearMark 7 = .ok (.iconst (-1), 1) := by decide +kernel
theorem dX1_clearMark_8 : decode cX1_clearMark 8 = .ok (.ireturn, 1) := by decide +kernel
theorem dX1_clearMark_9 : decode cX1_clearMark 9 = .ok (.aload_n 0, 1) := by decide +kernel
theorem dX1_clearMark_10 : decode cX1_clearMark 10 = .ok (.getfield 32, 3) := by decide +kernel
theorem dX1_clearMark_13 : decode cX1_clearMark 13 = .ok (.iload_n 1, 1) := by decide +kernel
theorem dX1_clearMark_14 : decode cX1_clearMark 14 = .ok (.aaload, 1) := by decide +kernel
theorem dX1_clearMark_15 : decode cX1_clearMark 15 = .ok (.invokestatic 105, 3) := by decide +kernel
theorem dX1_clearMark_18 : decode cX1_clearMark 18 = .ok (.istore_n 2, 1) := by decide +kernel
theorem dX1_clearMark_19 : decode cX1_clearMark 19 = .ok (.aload_n 0, 1) := by decide +kernel
theorem dX1_clearMark_20 : decode cX1_clearMark 20 = .ok (.getfield 32, 3) := by decide +kernel
theorem dX1_clearMark_23 : decode cX1_clearMark 23 = .ok (.iload_n 1, 1) := by decide +kernel
theorem dX1_clearMark_24 : decode cX1_clearMark 24 = .ok (.aconst_null, 1) := by decide +kernel
theorem dX1_clearMark_25 : decode cX1_clearMark 25 = .ok (.aastore, 1) := by decide +kernel
theorem dX1_clearMark_26 : decode cX1_clearMark 26 = .ok (.iload_n 2, 1) := by decide +kernel
theorem dX1_clearMark_27 : decode cX1_clearMark 27 = .ok (.ireturn, 1) := by decide +kernel
theorem dX1_goToMark_0 : decode cX1_goToMark 0 = .ok (.iload_n 1, 1) := by decide +kernel
theorem dX1_goToMark_1 : decode cX1_goToMark 1 = .ok (.invokestatic 118, 3) := by decide +kernel
theorem dX1_goToMark_4 : decode cX1_goToMark 4 = .ok (.ifCond .ne 5, 3) := by decide +kernel
theorem dX1_goToMark_7 : decode cX1_goToMark 7 = .ok (.iconst (-1), 1) := by decide +kernel
theorem dX1_goToMark_8 : decode cX1_goToMark 8 = .ok (.ireturn, 1) := by decide +kernel
theorem dX1_goToMark_9 : decode cX1_goToMark 9 = .ok (.aload_n 0, 1) := by decide +kernel
theorem dX1_goToMark_10 : decode cX1_goToMark 10 = .ok (.getfield 32, 3) := by decide +kernel
theorem dX1_goToMark_13 : decode cX1_goToMark 13 = .ok (.iload_n 1, 1) := by decide +kernel
theorem dX1_goToMark_14 : decode cX1_goToMark 14 = .ok (.aaload, 1) := by decide +kernel
theorem dX1_goToMark_15 : decode cX1_goToMark 15 = .ok (.astore_n 2, 1) := by decide +kernel
theorem dX1_goToMark_16 : decode cX1_goToMark 16 = .ok (.aload_n 2, 1) := by decide +kernel
theorem dX1_goToMark_17 : decode cX1_goToMark 17 = .ok (.ifnonnull 6, 3) := by decide +kernel
theorem dX1_goToMark_20 : decode cX1_goToMark 20 = .ok (.bipush (-7), 2) := by decide +kernel
theorem dX1_goToMark_22 : decode cX1_goToMark 22 = .ok (.ireturn, 1) := by decide +kernel
theorem dX1_goToMark_23 : decode cX1_goToMark 23 = .ok (.aload_n 0, 1) := by decide +kernel
theorem dX1_goToMark_24 : decode cX1_goToMark 24 = .ok (.aload_n 2, 1) := by decide +kernel
theorem dX1_goToMark_25 : decode cX1_goToMark 25 = .ok (.invokevirtual 65, 3) := by decide +kernel
theorem dX1_goToMark_28 : decode cX1_goToMark 28 = .ok (.aload_n 2, 1) := by decide +kernel
theorem dX1_goToMark_29 : decode cX1_goToMark 29 = .ok (.getfield 55, 3) := by decide +kernel
theorem dX1_goToMark_32 : decode cX1_goToMark 32 = .ok (.ireturn, 1) := by decide +kernel
theorem dX1_oldestLeaf_0 : decode cX1_oldestLeaf 0 = .ok (.aconst_null, 1) := by decide +kernel
theorem dX1_oldestLeaf_1 : decode cX1_oldestLeaf 1 = .ok (.astore_n 1, 1) := by decide +kernel
theorem dX1_oldestLeaf_2 : decode cX1_oldestLeaf 2 = .ok (.iconst 0, 1) := by decide +kernel
theorem dX1_oldestLeaf_3 : decode cX1_oldestLeaf 3 = .ok (.istore_n 2, 1) := by decide +kernel
theorem dX1_oldestLeaf_4 : decode cX1_oldestLeaf 4 = .ok (.iload_n 2, 1) := by decide +kernel
theorem dX1_oldestLeaf_5 : decode cX1_oldestLeaf 5 = .ok (.aload_n 0, 1) := by decide +kernel
theorem dX1_oldestLeaf_6 : decode cX1_oldestLeaf 6 = .ok (.getfield 15, 3) := by decide +kernel
theorem dX1_oldestLeaf_9 : decode cX1_oldestLeaf 9 = .ok (.if_icmp .ge 41, 3) := by decide +kernel
theorem dX1_oldestLeaf_12 : decode cX1_oldestLeaf 12 = .ok (.aload_n 0, 1) := by decide +kernel
theorem dX1_oldestLeaf_13 : decode cX1_oldestLeaf 13 = .ok (.getfield 11, 3) := by decide +kernel
theorem dX1_oldestLeaf_16 : decode cX1_oldestLeaf 16 = .ok (.iload_n 2, 1) := by decide +kernel
theorem dX1_oldestLeaf_17 : decode cX1_oldestLeaf 17 = .ok (.aaload, 1) := by decide +kernel
theorem dX1_oldestLeaf_18 : decode cX1_oldestLeaf 18 = .ok (.astore_n 3, 1) := by decide +kernel
theorem dX1_oldestLeaf_19 : decode cX1_oldestLeaf 19 = .ok (.aload_n 0, 1) := by decide +kernel
theorem dX1_oldestLeaf_20 : decode cX1_oldestLeaf 20 = .ok (.aload_n 3, 1) := by decide +kernel
theorem dX1_oldestLeaf_21 : decode cX1_oldestLeaf 21 = .ok (.invokevirtual 124, 3) := by decide +kernel
theorem dX1_oldestLeaf_24 : decode cX1_oldestLeaf 24 = .ok (.ifCond .eq 20, 3) := by decide +kernel
theorem dX1_oldestLeaf_27 : decode cX1_oldestLeaf 27 = .ok (.aload_n 1, 1) := by decide +kernel
theorem dX1_oldestLeaf_28 : decode cX1_oldestLeaf 28 = .ok (.ifnull 14, 3) := by decide +kernel
theorem dX1_oldestLeaf_31 : decode cX1_oldestLeaf 31 = .ok (.aload_n 3, 1) := by decide +kernel
theorem dX1_oldestLeaf_32 : decode cX1_oldestLeaf 32 = .ok (.getfield 111, 3) := by decide +kernel
theorem dX1_oldestLeaf_35 : decode cX1_oldestLeaf 35 = .ok (.aload_n 1, 1) := by decide +kernel
theorem dX1_oldestLeaf_36 : decode cX1_oldestLeaf 36 = .ok (.getfield 111, 3) := by decide +kernel
theorem dX1_oldestLeaf_39 : decode cX1_oldestLeaf 39 = .ok (.if_icmp .ge 5, 3) := by decide +kernel
theorem dX1_oldestLeaf_42 : decode cX1_oldestLeaf 42 = .ok (.aload_n 3, 1) := by decide +kernel
theorem dX1_oldestLeaf_43 : decode cX1_oldestLeaf 43 = .ok (.astore_n 1, 1) := by decide +kernel
theorem dX1_oldestLeaf_44 : decode cX1_oldestLeaf 44 = .ok (.iinc 2 1, 3) := by decide +kernel
theorem dX1_oldestLeaf_47 : decode cX1_oldestLeaf 47 = .ok (.goto (-43), 3) := by decide +kernel
theorem dX1_oldestLeaf_50 : decode cX1_oldestLeaf 50 = .ok (.aload_n 1, 1) := by decide +kernel
theorem dX1_oldestLeaf_51 : decode cX1_oldestLeaf 51 = .ok (.invokestatic 105, 3) := by decide +kernel
theorem dX1_oldestLeaf_54 : decode cX1_oldestLeaf 54 = .ok (.ireturn, 1) := by decide +kernel
theorem dX1_forget_0 : decode cX1_forget 0 = .ok (.aload_n 0, 1) := by decide +kernel
theorem dX1_forget_1 : decode cX1_forget 1 = .ok (.iload_n 1, 1) := by decide +kernel
theorem dX1_forget_2 : decode cX1_forget 2 = .ok (.invokevirtual 72, 3) := by decide +kernel
theorem dX1_forget_5 : decode cX1_forget 5 = .ok (.astore_n 2, 1) := by decide +kernel
theorem dX1_forget_6 : decode cX1_forget 6 = .ok (.aload_n 2, 1) := by decide +kernel
theorem dX1_forget_7 : decode cX1_forget 7 = .ok (.ifnonnull 6, 3) := by decide +kernel
theorem dX1_forget_10 : decode cX1_forget 10 = .ok (.bipush (-2), 2) := by decide +kernel
theorem dX1_forget_12 : decode cX1_forget 12 = .ok (.ireturn, 1) := by decide +kernel
theorem dX1_forget_13 : decode cX1_forget 13 = .ok (.aload_n 0, 1) := by decide +kernel
theorem dX1_forget_14 : decode cX1_forget 14 = .ok (.aload_n 2, 1) := by decide +kernel

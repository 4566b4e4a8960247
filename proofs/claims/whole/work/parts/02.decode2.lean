theorem d_M_bound_40 : decode b_M_bound 40 = .ok (.ireturn, 1) := by decide +kernel
theorem d_M_holds_0 : decode b_M_holds 0 = .ok (.iconst 0, 1) := by decide +kernel
theorem d_M_holds_1 : decode b_M_holds 1 = .ok (.istore_n 1, 1) := by decide +kernel
theorem d_M_holds_2 : decode b_M_holds 2 = .ok (.iconst 0, 1) := by decide +kernel
theorem d_M_holds_3 : decode b_M_holds 3 = .ok (.istore_n 2, 1) := by decide +kernel
theorem d_M_holds_4 : decode b_M_holds 4 = .ok (.iload_n 2, 1) := by decide +kernel
theorem d_M_holds_5 : decode b_M_holds 5 = .ok (.bipush 66, 2) := by decide +kernel
theorem d_M_holds_7 : decode b_M_holds 7 = .ok (.if_icmp .ge 26, 3) := by decide +kernel
theorem d_M_holds_10 : decode b_M_holds 10 = .ok (.iload_n 1, 1) := by decide +kernel
theorem d_M_holds_11 : decode b_M_holds 11 = .ok (.aload_n 0, 1) := by decide +kernel
theorem d_M_holds_12 : decode b_M_holds 12 = .ok (.getfield 37, 3) := by decide +kernel
theorem d_M_holds_15 : decode b_M_holds 15 = .ok (.iload_n 2, 1) := by decide +kernel
theorem d_M_holds_16 : decode b_M_holds 16 = .ok (.baload, 1) := by decide +kernel
theorem d_M_holds_17 : decode b_M_holds 17 = .ok (.ifCond .eq 7, 3) := by decide +kernel
theorem d_M_holds_20 : decode b_M_holds 20 = .ok (.iconst 1, 1) := by decide +kernel
theorem d_M_holds_21 : decode b_M_holds 21 = .ok (.goto 4, 3) := by decide +kernel
theorem d_M_holds_24 : decode b_M_holds 24 = .ok (.iconst 0, 1) := by decide +kernel
theorem d_M_holds_25 : decode b_M_holds 25 = .ok (.iadd, 1) := by decide +kernel
theorem d_M_holds_26 : decode b_M_holds 26 = .ok (.istore_n 1, 1) := by decide +kernel
theorem d_M_holds_27 : decode b_M_holds 27 = .ok (.iinc 2 1, 3) := by decide +kernel
theorem d_M_holds_30 : decode b_M_holds 30 = .ok (.goto (-26), 3) := by decide +kernel
theorem d_M_holds_33 : decode b_M_holds 33 = .ok (.iload_n 1, 1) := by decide +kernel
theorem d_M_holds_34 : decode b_M_holds 34 = .ok (.ireturn, 1) := by decide +kernel
theorem d_M_archive_0 : decode b_M_archive 0 = .ok (.aload_n 0, 1) := by decide +kernel
theorem d_M_archive_1 : decode b_M_archive 1 = .ok (.getfield 74, 3) := by decide +kernel
theorem d_M_archive_4 : decode b_M_archive 4 = .ok (.bipush 8, 2) := by decide +kernel
theorem d_M_archive_6 : decode b_M_archive 6 = .ok (.aload_n 0, 1) := by decide +kernel
theorem d_M_archive_7 : decode b_M_archive 7 = .ok (.getfield 90, 3) := by decide +kernel
theorem d_M_archive_10 : decode b_M_archive 10 = .ok (.imul, 1) := by decide +kernel
theorem d_M_archive_11 : decode b_M_archive 11 = .ok (.bipush 8, 2) := by decide +kernel
theorem d_M_archive_13 : decode b_M_archive 13 = .ok (.iadd, 1) := by decide +kernel
theorem d_M_archive_14 : decode b_M_archive 14 = .ok (.if_icmp .ge 6, 3) := by decide +kernel
theorem d_M_archive_17 : decode b_M_archive 17 = .ok (.bipush (-3), 2) := by decide +kernel
theorem d_M_archive_19 : decode b_M_archive 19 = .ok (.ireturn, 1) := by decide +kernel
theorem d_M_archive_20 : decode b_M_archive 20 = .ok (.aload_n 0, 1) := by decide +kernel
theorem d_M_archive_21 : decode b_M_archive 21 = .ok (.invokevirtual 93, 3) := by decide +kernel
theorem d_M_archive_24 : decode b_M_archive 24 = .ok (.bipush 10, 2) := by decide +kernel
theorem d_M_archive_26 : decode b_M_archive 26 = .ok (.if_icmp .ne 6, 3) := by decide +kernel
theorem d_M_archive_29 : decode b_M_archive 29 = .ok (.bipush (-2), 2) := by decide +kernel
theorem d_M_archive_31 : decode b_M_archive 31 = .ok (.ireturn, 1) := by decide +kernel
theorem d_M_archive_32 : decode b_M_archive 32 = .ok (.aload_n 0, 1) := by decide +kernel
theorem d_M_archive_33 : decode b_M_archive 33 = .ok (.getfield 37, 3) := by decide +kernel
theorem d_M_archive_36 : decode b_M_archive 36 = .ok (.aload_n 0, 1) := by decide +kernel
theorem d_M_archive_37 : decode b_M_archive 37 = .ok (.getfield 90, 3) := by decide +kernel
theorem d_M_archive_40 : decode b_M_archive 40 = .ok (.iconst 1, 1) := by decide +kernel
theorem d_M_archive_41 : decode b_M_archive 41 = .ok (.bastore, 1) := by decide +kernel
theorem d_M_archive_42 : decode b_M_archive 42 = .ok (.aload_n 0, 1) := by decide +kernel
theorem d_M_archive_43 : decode b_M_archive 43 = .ok (.dup, 1) := by decide +kernel
theorem d_M_archive_44 : decode b_M_archive 44 = .ok (.getfield 90, 3) := by decide +kernel
theorem d_M_archive_47 : decode b_M_archive 47 = .ok (.iconst 1, 1) := by decide +kernel
theorem d_M_archive_48 : decode b_M_archive 48 = .ok (.iadd, 1) := by decide +kernel
theorem d_M_archive_49 : decode b_M_archive 49 = .ok (.putfield 90, 3) := by decide +kernel
theorem d_M_archive_52 : decode b_M_archive 52 = .ok (.aload_n 0, 1) := by decide +kernel
theorem d_M_archive_53 : decode b_M_archive 53 = .ok (.getfield 90, 3) := by decide +kernel
theorem d_M_archive_56 : decode b_M_archive 56 = .ok (.iconst 1, 1) := by decide +kernel
theorem d_M_archive_57 : decode b_M_archive 57 = .ok (.isub, 1) := by decide +kernel
theorem d_M_archive_58 : decode b_M_archive 58 = .ok (.ireturn, 1) := by decide +kernel
theorem d_M_drop_0 : decode b_M_drop 0 = .ok (.iload_n 1, 1) := by decide +kernel
theorem d_M_drop_1 : decode b_M_drop 1 = .ok (.ifCond .lt 18, 3) := by decide +kernel
theorem d_M_drop_4 : decode b_M_drop 4 = .ok (.iload_n 1, 1) := by decide +kernel
theorem d_M_drop_5 : decode b_M_drop 5 = .ok (.bipush 66, 2) := by decide +kernel
theorem d_M_drop_7 : decode b_M_drop 7 = .ok (.if_icmp .ge 12, 3) := by decide +kernel
theorem d_M_drop_10 : decode b_M_drop 10 = .ok (.aload_n 0, 1) := by decide +kernel
theorem d_M_drop_11 : decode b_M_drop 11 = .ok (.getfield 37, 3) := by decide +kernel
theorem d_M_drop_14 : decode b_M_drop 14 = .ok (.iload_n 1, 1) := by decide +kernel
theorem d_M_drop_15 : decode b_M_drop 15 = .ok (.baload, 1) := by decide +kernel
theorem d_M_drop_16 : decode b_M_drop 16 = .ok (.ifCond .ne 5, 3) := by decide +kernel
theorem d_M_drop_19 : decode b_M_drop 19 = .ok (.iconst 0, 1) := by decide +kernel
theorem d_M_drop_20 : decode b_M_drop 20 = .ok (.ireturn, 1) := by decide +kernel
theorem d_M_drop_21 : decode b_M_drop 21 = .ok (.aload_n 0, 1) := by decide +kernel
theorem d_M_drop_22 : decode b_M_drop 22 = .ok (.getfield 37, 3) := by decide +kernel
theorem d_M_drop_25 : decode b_M_drop 25 = .ok (.iload_n 1, 1) := by decide +kernel
theorem d_M_drop_26 : decode b_M_drop 26 = .ok (.iconst 0, 1) := by decide +kernel
theorem d_M_drop_27 : decode b_M_drop 27 = .ok (.bastore, 1) := by decide +kernel
theorem d_M_drop_28 : decode b_M_drop 28 = .ok (.iconst 1, 1) := by decide +kernel
theorem d_M_drop_29 : decode b_M_drop 29 = .ok (.ireturn, 1) := by decide +kernel
theorem d_M_answer_0 : decode b_M_answer 0 = .ok (.aload_n 0, 1) := by decide +kernel
theorem d_M_answer_1 : decode b_M_answer 1 = .ok (.iload_n 1, 1) := by decide +kernel
theorem d_M_answer_2 : decode b_M_answer 2 = .ok (.invokevirtual 87, 3) := by decide +kernel
theorem d_M_answer_5 : decode b_M_answer 5 = .ok (.ifCond .eq 7, 3) := by decide +kernel
theorem d_M_answer_8 : decode b_M_answer 8 = .ok (.iload_n 2, 1) := by decide +kernel
theorem d_M_answer_9 : decode b_M_answer 9 = .ok (.ifCond .ge 5, 3) := by decide +kernel
theorem d_M_answer_12 : decode b_M_answer 12 = .ok (.iconst (-1), 1) := by decide +kernel
theorem d_M_answer_13 : decode b_M_answer 13 = .ok (.ireturn, 1) := by decide +kernel
theorem d_M_answer_14 : decode b_M_answer 14 = .ok (.iload_n 2, 1) := by decide +kernel
theorem d_M_answer_15 : decode b_M_answer 15 = .ok (.aload_n 0, 1) := by decide +kernel
theorem d_M_answer_16 : decode b_M_answer 16 = .ok (.getfield 34, 3) := by decide +kernel
theorem d_M_answer_19 : decode b_M_answer 19 = .ok (.iload_n 1, 1) := by decide +kernel
theorem d_M_answer_20 : decode b_M_answer 20 = .ok (.iaload, 1) := by decide +kernel
theorem d_M_answer_21 : decode b_M_answer 21 = .ok (.if_icmp .ge 6, 3) := by decide +kernel
theorem d_M_answer_24 : decode b_M_answer 24 = .ok (.bipush (-4), 2) := by decide +kernel
theorem d_M_answer_26 : decode b_M_answer 26 = .ok (.ireturn, 1) := by decide +kernel
theorem d_M_answer_27 : decode b_M_answer 27 = .ok (.aload_n 0, 1) := by decide +kernel
theorem d_M_answer_28 : decode b_M_answer 28 = .ok (.getfield 31, 3) := by decide +kernel
theorem d_M_answer_31 : decode b_M_answer 31 = .ok (.iload_n 1, 1) := by decide +kernel
theorem d_M_answer_32 : decode b_M_answer 32 = .ok (.iaload, 1) := by decide +kernel
theorem d_M_answer_33 : decode b_M_answer 33 = .ok (.bipush 8, 2) := by decide +kernel
theorem d_M_answer_35 : decode b_M_answer 35 = .ok (.idiv, 1) := by decide +kernel
theorem d_M_answer_36 : decode b_M_answer 36 = .ok (.istore_n 3, 1) := by decide +kernel
theorem d_M_answer_37 : decode b_M_answer 37 = .ok (.iload_n 3, 1) := by decide +kernel
theorem d_M_answer_38 : decode b_M_answer 38 = .ok (.bipush 66, 2) := by decide +kernel
theorem d_M_answer_40 : decode b_M_answer 40 = .ok (.if_icmp .ge 39, 3) := by decide +kernel
theorem d_M_answer_43 : decode b_M_answer 43 = .ok (.bipush 8, 2) := by decide +kernel
theorem d_M_answer_45 : decode b_M_answer 45 = .ok (.iload_n 3, 1) := by decide +kernel
theorem d_M_answer_46 : decode b_M_answer 46 = .ok (.imul, 1) := by decide +kernel
theorem d_M_answer_47 : decode b_M_answer 47 = .ok (.iload_n 2, 1) := by decide +kernel
theorem d_M_answer_48 : decode b_M_answer 48 = .ok (.if_icmp .ge 31, 3) := by decide +kernel
theorem d_M_answer_51 : decode b_M_answer 51 = .ok (.iload_n 2, 1) := by decide +kernel
theorem d_M_answer_52 : decode b_M_answer 52 = .ok (.aload_n 0, 1) := by decide +kernel
theorem d_M_answer_53 : decode b_M_answer 53 = .ok (.getfield 31, 3) := by decide +kernel
theorem d_M_answer_56 : decode b_M_answer 56 = .ok (.iload_n 1, 1) := by decide +kernel
theorem d_M_answer_57 : decode b_M_answer 57 = .ok (.iaload, 1) := by decide +kernel
theorem d_M_answer_58 : decode b_M_answer 58 = .ok (.if_icmp .le 15, 3) := by decide +kernel
theorem d_M_answer_61 : decode b_M_answer 61 = .ok (.aload_n 0, 1) := by decide +kernel
theorem d_M_answer_62 : decode b_M_answer 62 = .ok (.getfield 37, 3) := by decide +kernel
theorem d_M_answer_65 : decode b_M_answer 65 = .ok (.iload_n 3, 1) := by decide +kernel
theorem d_M_answer_66 : decode b_M_answer 66 = .ok (.baload, 1) := by decide +kernel
theorem d_M_answer_67 : decode b_M_answer 67 = .ok (.ifCond .ne 6, 3) := by decide +kernel
theorem d_M_answer_70 : decode b_M_answer 70 = .ok (.bipush (-6), 2) := by decide +kernel
theorem d_M_answer_72 : decode b_M_answer 72 = .ok (.ireturn, 1) := by decide +kernel
theorem d_M_answer_73 : decode b_M_answer 73 = .ok (.iinc 3 1, 3) := by decide +kernel
theorem d_M_answer_76 : decode b_M_answer 76 = .ok (.goto (-39), 3) := by decide +kernel
theorem d_M_answer_79 : decode b_M_answer 79 = .ok (.bipush 8, 2) := by decide +kernel
theorem d_M_answer_81 : decode b_M_answer 81 = .ok (.iload_n 3, 1) := by decide +kernel
theorem d_M_answer_82 : decode b_M_answer 82 = .ok (.imul, 1) := by decide +kernel
theorem d_M_answer_83 : decode b_M_answer 83 = .ok (.iload_n 2, 1) := by decide +kernel
theorem d_M_answer_84 : decode b_M_answer 84 = .ok (.if_icmp .ge 6, 3) := by decide +kernel
theorem d_M_answer_87 : decode b_M_answer 87 = .ok (.bipush (-6), 2) := by decide +kernel
theorem d_M_answer_89 : decode b_M_answer 89 = .ok (.ireturn, 1) := by decide +kernel
theorem d_M_answer_90 : decode b_M_answer 90 = .ok (.iload_n 2, 1) := by decide +kernel
theorem d_M_answer_91 : decode b_M_answer 91 = .ok (.aload_n 0, 1) := by decide +kernel
theorem d_M_answer_92 : decode b_M_answer 92 = .ok (.getfield 31, 3) := by decide +kernel
theorem d_M_answer_95 : decode b_M_answer 95 = .ok (.iload_n 1, 1) := by decide +kernel
theorem d_M_answer_96 : decode b_M_answer 96 = .ok (.iaload, 1) := by decide +kernel
theorem d_M_answer_97 : decode b_M_answer 97 = .ok (.if_icmp .eq 15, 3) := by decide +kernel
theorem d_M_answer_100 : decode b_M_answer 100 = .ok (.aload_n 0, 1) := by decide +kernel
theorem d_M_answer_101 : decode b_M_answer 101 = .ok (.getfield 7, 3) := by decide +kernel
theorem d_M_answer_104 : decode b_M_answer 104 = .ok (.iload_n 2, 1) := by decide +kernel
theorem d_M_answer_105 : decode b_M_answer 105 = .ok (.iconst 1, 1) := by decide +kernel
theorem d_M_answer_106 : decode b_M_answer 106 = .ok (.isub, 1) := by decide +kernel
theorem d_M_answer_107 : decode b_M_answer 107 = .ok (.iaload, 1) := by decide +kernel
theorem d_M_answer_108 : decode b_M_answer 108 = .ok (.iconst 1, 1) := by decide +kernel
theorem d_M_answer_109 : decode b_M_answer 109 = .ok (.if_icmp .ne 7, 3) := by decide +kernel
theorem d_M_answer_112 : decode b_M_answer 112 = .ok (.iconst 0, 1) := by decide +kernel
theorem d_M_answer_113 : decode b_M_answer 113 = .ok (.goto 5, 3) := by decide +kernel
theorem d_M_answer_116 : decode b_M_answer 116 = .ok (.bipush (-5), 2) := by decide +kernel
theorem d_M_answer_118 : decode b_M_answer 118 = .ok (.ireturn, 1) := by decide +kernel
theorem d_M_restore_0 : decode b_M_restore 0 = .ok (.aload_n 0, 1) := by decide +kernel
theorem d_M_restore_1 : decode b_M_restore 1 = .ok (.iload_n 1, 1) := by decide +kernel
theorem d_M_restore_2 : decode b_M_restore 2 = .ok (.iload_n 2, 1) := by decide +kernel
theorem d_M_restore_3 : decode b_M_restore 3 = .ok (.invokevirtual 96, 3) := by decide +kernel
theorem d_M_restore_6 : decode b_M_restore 6 = .ok (.istore_n 3, 1) := by decide +kernel
theorem d_M_restore_7 : decode b_M_restore 7 = .ok (.iload_n 3, 1) := by decide +kernel
theorem d_M_restore_8 : decode b_M_restore 8 = .ok (.ifCond .ne 25, 3) := by decide +kernel
theorem d_M_restore_11 : decode b_M_restore 11 = .ok (.aload_n 0, 1) := by decide +kernel
theorem d_M_restore_12 : decode b_M_restore 12 = .ok (.iconst 1, 1) := by decide +kernel
theorem d_M_restore_13 : decode b_M_restore 13 = .ok (.putfield 99, 3) := by decide +kernel
theorem d_M_restore_16 : decode b_M_restore 16 = .ok (.aload_n 0, 1) := by decide +kernel
theorem d_M_restore_17 : decode b_M_restore 17 = .ok (.iload_n 2, 1) := by decide +kernel
theorem d_M_restore_18 : decode b_M_restore 18 = .ok (.putfield 103, 3) := by decide +kernel
theorem d_M_restore_21 : decode b_M_restore 21 = .ok (.aload_n 0, 1) := by decide +kernel
theorem d_M_restore_22 : decode b_M_restore 22 = .ok (.iload_n 2, 1) := by decide +kernel
theorem d_M_restore_23 : decode b_M_restore 23 = .ok (.aload_n 0, 1) := by decide +kernel
theorem d_M_restore_24 : decode b_M_restore 24 = .ok (.getfield 31, 3) := by decide +kernel
theorem d_M_restore_27 : decode b_M_restore 27 = .ok (.iload_n 1, 1) := by decide +kernel
theorem d_M_restore_28 : decode b_M_restore 28 = .ok (.iaload, 1) := by decide +kernel
theorem d_M_restore_29 : decode b_M_restore 29 = .ok (.isub, 1) := by decide +kernel
theorem d_M_restore_30 : decode b_M_restore 30 = .ok (.putfield 106, 3) := by decide +kernel
theorem d_M_restore_33 : decode b_M_restore 33 = .ok (.iload_n 3, 1) := by decide +kernel
theorem d_M_restore_34 : decode b_M_restore 34 = .ok (.ireturn, 1) := by decide +kernel
theorem d_M_restored_0 : decode b_M_restored 0 = .ok (.aload_n 0, 1) := by decide +kernel
theorem d_M_restored_1 : decode b_M_restored 1 = .ok (.getfield 99, 3) := by decide +kernel
theorem d_M_restored_4 : decode b_M_restored 4 = .ok (.ifCond .eq 13, 3) := by decide +kernel
theorem d_M_restored_7 : decode b_M_restored 7 = .ok (.iload_n 1, 1) := by decide +kernel
theorem d_M_restored_8 : decode b_M_restored 8 = .ok (.ifCond .lt 9, 3) := by decide +kernel
theorem d_M_restored_11 : decode b_M_restored 11 = .ok (.iload_n 1, 1) := by decide +kernel
theorem d_M_restored_12 : decode b_M_restored 12 = .ok (.bipush 31, 2) := by decide +kernel
theorem d_M_restored_14 : decode b_M_restored 14 = .ok (.if_icmp .le 7, 3) := by decide +kernel
theorem d_M_restored_17 : decode b_M_restored 17 = .ok (.iconst 0, 1) := by decide +kernel
theorem d_M_restored_18 : decode b_M_restored 18 = .ok (.goto 12, 3) := by decide +kernel
theorem d_M_restored_21 : decode b_M_restored 21 = .ok (.aload_n 0, 1) := by decide +kernel
theorem d_M_restored_22 : decode b_M_restored 22 = .ok (.iload_n 1, 1) := by decide +kernel
theorem d_M_restored_23 : decode b_M_restored 23 = .ok (.aload_n 0, 1) := by decide +kernel
theorem d_M_restored_24 : decode b_M_restored 24 = .ok (.getfield 103, 3) := by decide +kernel
theorem d_M_restored_27 : decode b_M_restored 27 = .ok (.invokevirtual 71, 3) := by decide +kernel
theorem d_M_restored_30 : decode b_M_restored 30 = .ok (.ireturn, 1) := by decide +kernel
theorem d_M_replayed_0 : decode b_M_replayed 0 = .ok (.aload_n 0, 1) := by decide +kernel
theorem d_M_replayed_1 : decode b_M_replayed 1 = .ok (.getfield 99, 3) := by decide +kernel
theorem d_M_replayed_4 : decode b_M_replayed 4 = .ok (.ifCond .eq 10, 3) := by decide +kernel
theorem d_M_replayed_7 : decode b_M_replayed 7 = .ok (.aload_n 0, 1) := by decide +kernel
theorem d_M_replayed_8 : decode b_M_replayed 8 = .ok (.getfield 106, 3) := by decide +kernel
theorem d_M_replayed_11 : decode b_M_replayed 11 = .ok (.goto 4, 3) := by decide +kernel
theorem d_M_replayed_14 : decode b_M_replayed 14 = .ok (.iconst 0, 1) := by decide +kernel
theorem d_M_replayed_15 : decode b_M_replayed 15 = .ok (.ireturn, 1) := by decide +kernel
theorem d_M_reach_0 : decode b_M_reach 0 = .ok (.sipush 528, 3) := by decide +kernel
theorem d_M_reach_3 : decode b_M_reach 3 = .ok (.istore_n 2, 1) := by decide +kernel
theorem d_M_reach_4 : decode b_M_reach 4 = .ok (.iload_n 2, 1) := by decide +kernel
theorem d_M_reach_5 : decode b_M_reach 5 = .ok (.ifCond .lt 20, 3) := by decide +kernel
theorem d_M_reach_8 : decode b_M_reach 8 = .ok (.aload_n 0, 1) := by decide +kernel
theorem d_M_reach_9 : decode b_M_reach 9 = .ok (.iload_n 1, 1) := by decide +kernel
theorem d_M_reach_10 : decode b_M_reach 10 = .ok (.iload_n 2, 1) := by decide +kernel
theorem d_M_reach_11 : decode b_M_reach 11 = .ok (.invokevirtual 96, 3) := by decide +kernel
theorem d_M_reach_14 : decode b_M_reach 14 = .ok (.ifCond .ne 5, 3) := by decide +kernel
theorem d_M_reach_17 : decode b_M_reach 17 = .ok (.iload_n 2, 1) := by decide +kernel
theorem d_M_reach_18 : decode b_M_reach 18 = .ok (.ireturn, 1) := by decide +kernel
theorem d_M_reach_19 : decode b_M_reach 19 = .ok (.iinc 2 (-1), 3) := by decide +kernel
theorem d_M_reach_22 : decode b_M_reach 22 = .ok (.goto (-18), 3) := by decide +kernel
theorem d_M_reach_25 : decode b_M_reach 25 = .ok (.iconst (-1), 1) := by decide +kernel
theorem d_M_reach_26 : decode b_M_reach 26 = .ok (.ireturn, 1) := by decide +kernel
theorem d_M_position_0 : decode b_M_position 0 = .ok (.aload_n 0, 1) := by decide +kernel
theorem d_M_position_1 : decode b_M_position 1 = .ok (.getfield 41, 3) := by decide +kernel
theorem d_M_position_4 : decode b_M_position 4 = .ok (.ireturn, 1) := by decide +kernel
theorem d_M_dirty_0 : decode b_M_dirty 0 = .ok (.iconst 0, 1) := by decide +kernel
theorem d_M_dirty_1 : decode b_M_dirty 1 = .ok (.istore_n 1, 1) := by decide +kernel
theorem d_M_dirty_2 : decode b_M_dirty 2 = .ok (.iconst 0, 1) := by decide +kernel
theorem d_M_dirty_3 : decode b_M_dirty 3 = .ok (.istore_n 2, 1) := by decide +kernel
theorem d_M_dirty_4 : decode b_M_dirty 4 = .ok (.iload_n 2, 1) := by decide +kernel
theorem d_M_dirty_5 : decode b_M_dirty 5 = .ok (.bipush 8, 2) := by decide +kernel
theorem d_M_dirty_7 : decode b_M_dirty 7 = .ok (.if_icmp .ge 25, 3) := by decide +kernel
theorem d_M_dirty_10 : decode b_M_dirty 10 = .ok (.iload_n 1, 1) := by decide +kernel
theorem d_M_dirty_11 : decode b_M_dirty 11 = .ok (.aload_n 0, 1) := by decide +kernel
theorem d_M_dirty_12 : decode b_M_dirty 12 = .ok (.iload_n 2, 1) := by decide +kernel
theorem d_M_dirty_13 : decode b_M_dirty 13 = .ok (.invokevirtual 77, 3) := by decide +kernel
theorem d_M_dirty_16 : decode b_M_dirty 16 = .ok (.ifCond .le 7, 3) := by decide +kernel
theorem d_M_dirty_19 : decode b_M_dirty 19 = .ok (.iconst 1, 1) := by decide +kernel
theorem d_M_dirty_20 : decode b_M_dirty 20 = .ok (.goto 4, 3) := by decide +kernel
theorem d_M_dirty_23 : decode b_M_dirty 23 = .ok (.iconst 0, 1) := by decide +kernel
theorem d_M_dirty_24 : decode b_M_dirty 24 = .ok (.iadd, 1) := by decide +kernel
theorem d_M_dirty_25 : decode b_M_dirty 25 = .ok (.istore_n 1, 1) := by decide +kernel
theorem d_M_dirty_26 : decode b_M_dirty 26 = .ok (.iinc 2 1, 3) := by decide +kernel
theorem d_M_dirty_29 : decode b_M_dirty 29 = .ok (.goto (-25), 3) := by decide +kernel
theorem d_M_dirty_32 : decode b_M_dirty 32 = .ok (.iload_n 1, 1) := by decide +kernel
theorem d_M_dirty_33 : decode b_M_dirty 33 = .ok (.ireturn, 1) := by decide +kernel
theorem d_Ar_init_0 : decode b_Ar_init 0 = .ok (.aload_n 0, 1) := by decide +kernel
theorem d_Ar_init_1 : decode b_Ar_init 1 = .ok (.invokespecial 3, 3) := by decide +kernel
theorem d_Ar_init_4 : decode b_Ar_init 4 = .ok (.aload_n 0, 1) := by decide +kernel
theorem d_Ar_init_5 : decode b_Ar_init 5 = .ok (.bipush 64, 2) := by decide +kernel
theorem d_Ar_init_7 : decode b_Ar_init 7 = .ok (.newarray .boolean, 2) := by decide +kernel
theorem d_Ar_init_9 : decode b_Ar_init 9 = .ok (.putfield 9, 3) := by decide +kernel
theorem d_Ar_init_12 : decode b_Ar_init 12 = .ok (.return_, 1) := by decide +kernel
theorem d_Ar_nextIsWithin_0 : decode b_Ar_nextIsWithin 0 = .ok (.aload_n 0, 1) := by decide +kernel
theorem d_Ar_nextIsWithin_1 : decode b_Ar_nextIsWithin 1 = .ok (.getfield 15, 3) := by decide +kernel
theorem d_Ar_nextIsWithin_4 : decode b_Ar_nextIsWithin 4 = .ok (.bipush 64, 2) := by decide +kernel
theorem d_Ar_nextIsWithin_6 : decode b_Ar_nextIsWithin 6 = .ok (.if_icmp .ge 20, 3) := by decide +kernel
theorem d_Ar_nextIsWithin_9 : decode b_Ar_nextIsWithin 9 = .ok (.aload_n 0, 1) := by decide +kernel
theorem d_Ar_nextIsWithin_10 : decode b_Ar_nextIsWithin 10 = .ok (.getfield 15, 3) := by decide +kernel
theorem d_Ar_nextIsWithin_13 : decode b_Ar_nextIsWithin 13 = .ok (.iconst 1, 1) := by decide +kernel
theorem d_Ar_nextIsWithin_14 : decode b_Ar_nextIsWithin 14 = .ok (.iadd, 1) := by decide +kernel
theorem d_Ar_nextIsWithin_15 : decode b_Ar_nextIsWithin 15 = .ok (.bipush 8, 2) := by decide +kernel
theorem d_Ar_nextIsWithin_17 : decode b_Ar_nextIsWithin 17 = .ok (.imul, 1) := by decide +kernel
theorem d_Ar_nextIsWithin_18 : decode b_Ar_nextIsWithin 18 = .ok (.iload_n 1, 1) := by decide +kernel
theorem d_Ar_nextIsWithin_19 : decode b_Ar_nextIsWithin 19 = .ok (.if_icmp .gt 7, 3) := by decide +kernel
theorem d_Ar_nextIsWithin_22 : decode b_Ar_nextIsWithin 22 = .ok (.iconst 1, 1) := by decide +kernel
theorem d_Ar_nextIsWithin_23 : decode b_Ar_nextIsWithin 23 = .ok (.goto 4, 3) := by decide +kernel
theorem d_Ar_nextIsWithin_26 : decode b_Ar_nextIsWithin 26 = .ok (.iconst 0, 1) := by decide +kernel
theorem d_Ar_nextIsWithin_27 : decode b_Ar_nextIsWithin 27 = .ok (.ireturn, 1) := by decide +kernel
theorem d_Ar_isFull_0 : decode b_Ar_isFull 0 = .ok (.aload_n 0, 1) := by decide +kernel
theorem d_Ar_isFull_1 : decode b_Ar_isFull 1 = .ok (.getfield 19, 3) := by decide +kernel
theorem d_Ar_isFull_4 : decode b_Ar_isFull 4 = .ok (.bipush 10, 2) := by decide +kernel
theorem d_Ar_isFull_6 : decode b_Ar_isFull 6 = .ok (.if_icmp .lt 7, 3) := by decide +kernel
theorem d_Ar_isFull_9 : decode b_Ar_isFull 9 = .ok (.iconst 1, 1) := by decide +kernel
theorem d_Ar_isFull_10 : decode b_Ar_isFull 10 = .ok (.goto 4, 3) := by decide +kernel
theorem d_Ar_isFull_13 : decode b_Ar_isFull 13 = .ok (.iconst 0, 1) := by decide +kernel
theorem d_Ar_isFull_14 : decode b_Ar_isFull 14 = .ok (.ireturn, 1) := by decide +kernel
theorem d_Ar_holdNext_0 : decode b_Ar_holdNext 0 = .ok (.aload_n 0, 1) := by decide +kernel
theorem d_Ar_holdNext_1 : decode b_Ar_holdNext 1 = .ok (.getfield 15, 3) := by decide +kernel
theorem d_Ar_holdNext_4 : decode b_Ar_holdNext 4 = .ok (.istore_n 1, 1) := by decide +kernel
theorem d_Ar_holdNext_5 : decode b_Ar_holdNext 5 = .ok (.aload_n 0, 1) := by decide +kernel
theorem d_Ar_holdNext_6 : decode b_Ar_holdNext 6 = .ok (.getfield 9, 3) := by decide +kernel
theorem d_Ar_holdNext_9 : decode b_Ar_holdNext 9 = .ok (.iload_n 1, 1) := by decide +kernel
theorem d_Ar_holdNext_10 : decode b_Ar_holdNext 10 = .ok (.iconst 1, 1) := by decide +kernel
theorem d_Ar_holdNext_11 : decode b_Ar_holdNext 11 = .ok (.bastore, 1) := by decide +kernel
theorem d_Ar_holdNext_12 : decode b_Ar_holdNext 12 = .ok (.aload_n 0, 1) := by decide +kernel
theorem d_Ar_holdNext_13 : decode b_Ar_holdNext 13 = .ok (.dup, 1) := by decide +kernel
theorem d_Ar_holdNext_14 : decode b_Ar_holdNext 14 = .ok (.getfield 19, 3) := by decide +kernel
theorem d_Ar_holdNext_17 : decode b_Ar_holdNext 17 = .ok (.iconst 1, 1) := by decide +kernel
theorem d_Ar_holdNext_18 : decode b_Ar_holdNext 18 = .ok (.iadd, 1) := by decide +kernel
theorem d_Ar_holdNext_19 : decode b_Ar_holdNext 19 = .ok (.putfield 19, 3) := by decide +kernel
theorem d_Ar_holdNext_22 : decode b_Ar_holdNext 22 = .ok (.aload_n 0, 1) := by decide +kernel
theorem d_Ar_holdNext_23 : decode b_Ar_holdNext 23 = .ok (.dup, 1) := by decide +kernel
theorem d_Ar_holdNext_24 : decode b_Ar_holdNext 24 = .ok (.getfield 15, 3) := by decide +kernel
theorem d_Ar_holdNext_27 : decode b_Ar_holdNext 27 = .ok (.iconst 1, 1) := by decide +kernel
theorem d_Ar_holdNext_28 : decode b_Ar_holdNext 28 = .ok (.iadd, 1) := by decide +kernel
theorem d_Ar_holdNext_29 : decode b_Ar_holdNext 29 = .ok (.putfield 15, 3) := by decide +kernel
theorem d_Ar_holdNext_32 : decode b_Ar_holdNext 32 = .ok (.iload_n 1, 1) := by decide +kernel
theorem d_Ar_holdNext_33 : decode b_Ar_holdNext 33 = .ok (.ireturn, 1) := by decide +kernel
theorem d_Ar_holds_0 : decode b_Ar_holds 0 = .ok (.iload_n 1, 1) := by decide +kernel
theorem d_Ar_holds_1 : decode b_Ar_holds 1 = .ok (.ifCond .lt 24, 3) := by decide +kernel
theorem d_Ar_holds_4 : decode b_Ar_holds 4 = .ok (.iload_n 1, 1) := by decide +kernel
theorem d_Ar_holds_5 : decode b_Ar_holds 5 = .ok (.aload_n 0, 1) := by decide +kernel
theorem d_Ar_holds_6 : decode b_Ar_holds 6 = .ok (.getfield 15, 3) := by decide +kernel
theorem d_Ar_holds_9 : decode b_Ar_holds 9 = .ok (.if_icmp .ge 16, 3) := by decide +kernel
theorem d_Ar_holds_12 : decode b_Ar_holds 12 = .ok (.aload_n 0, 1) := by decide +kernel
theorem d_Ar_holds_13 : decode b_Ar_holds 13 = .ok (.getfield 9, 3) := by decide +kernel
theorem d_Ar_holds_16 : decode b_Ar_holds 16 = .ok (.iload_n 1, 1) := by decide +kernel
theorem d_Ar_holds_17 : decode b_Ar_holds 17 = .ok (.baload, 1) := by decide +kernel
theorem d_Ar_holds_18 : decode b_Ar_holds 18 = .ok (.ifCond .eq 7, 3) := by decide +kernel
theorem d_Ar_holds_21 : decode b_Ar_holds 21 = .ok (.iconst 1, 1) := by decide +kernel
theorem d_Ar_holds_22 : decode b_Ar_holds 22 = .ok (.goto 4, 3) := by decide +kernel
theorem d_Ar_holds_25 : decode b_Ar_holds 25 = .ok (.iconst 0, 1) := by decide +kernel
theorem d_Ar_holds_26 : decode b_Ar_holds 26 = .ok (.ireturn, 1) := by decide +kernel
theorem d_Ar_release_0 : decode b_Ar_release 0 = .ok (.aload_n 0, 1) := by decide +kernel
theorem d_Ar_release_1 : decode b_Ar_release 1 = .ok (.iload_n 1, 1) := by decide +kernel
theorem d_Ar_release_2 : decode b_Ar_release 2 = .ok (.invokevirtual 22, 3) := by decide +kernel
theorem d_Ar_release_5 : decode b_Ar_release 5 = .ok (.ifCond .ne 5, 3) := by decide +kernel
theorem d_Ar_release_8 : decode b_Ar_release 8 = .ok (.iconst 0, 1) := by decide +kernel
theorem d_Ar_release_9 : decode b_Ar_release 9 = .ok (.ireturn, 1) := by decide +kernel
theorem d_Ar_release_10 : decode b_Ar_release 10 = .ok (.aload_n 0, 1) := by decide +kernel
theorem d_Ar_release_11 : decode b_Ar_release 11 = .ok (.getfield 9, 3) := by decide +kernel
theorem d_Ar_release_14 : decode b_Ar_release 14 = .ok (.iload_n 1, 1) := by decide +kernel
theorem d_Ar_release_15 : decode b_Ar_release 15 = .ok (.iconst 0, 1) := by decide +kernel
theorem d_Ar_release_16 : decode b_Ar_release 16 = .ok (.bastore, 1) := by decide +kernel
theorem d_Ar_release_17 : decode b_Ar_release 17 = .ok (.aload_n 0, 1) := by decide +kernel
theorem d_Ar_release_18 : decode b_Ar_release 18 = .ok (.dup, 1) := by decide +kernel
theorem d_Ar_release_19 : decode b_Ar_release 19 = .ok (.getfield 19, 3) := by decide +kernel
theorem d_Ar_release_22 : decode b_Ar_release 22 = .ok (.iconst 1, 1) := by decide +kernel
theorem d_Ar_release_23 : decode b_Ar_release 23 = .ok (.isub, 1) := by decide +kernel
theorem d_Ar_release_24 : decode b_Ar_release 24 = .ok (.putfield 19, 3) := by decide +kernel
theorem d_Ar_release_27 : decode b_Ar_release 27 = .ok (.iconst 1, 1) := by decide +kernel
theorem d_Ar_release_28 : decode b_Ar_release 28 = .ok (.ireturn, 1) := by decide +kernel
theorem d_Ar_heldWithoutGapFrom_0 : decode b_Ar_heldWithoutGapFrom 0 = .ok (.iload_n 1, 1) := by decide +kernel
theorem d_Ar_heldWithoutGapFrom_1 : decode b_Ar_heldWithoutGapFrom 1 = .ok (.bipush 8, 2) := by decide +kernel
theorem d_Ar_heldWithoutGapFrom_3 : decode b_Ar_heldWithoutGapFrom 3 = .ok (.idiv, 1) := by decide +kernel
theorem d_Ar_heldWithoutGapFrom_4 : decode b_Ar_heldWithoutGapFrom 4 = .ok (.istore_n 2, 1) := by decide +kernel
theorem d_Ar_heldWithoutGapFrom_5 : decode b_Ar_heldWithoutGapFrom 5 = .ok (.iload_n 2, 1) := by decide +kernel
theorem d_Ar_heldWithoutGapFrom_6 : decode b_Ar_heldWithoutGapFrom 6 = .ok (.bipush 64, 2) := by decide +kernel
theorem d_Ar_heldWithoutGapFrom_8 : decode b_Ar_heldWithoutGapFrom 8 = .ok (.if_icmp .ge 17, 3) := by decide +kernel
theorem d_Ar_heldWithoutGapFrom_11 : decode b_Ar_heldWithoutGapFrom 11 = .ok (.aload_n 0, 1) := by decide +kernel
theorem d_Ar_heldWithoutGapFrom_12 : decode b_Ar_heldWithoutGapFrom 12 = .ok (.iload_n 2, 1) := by decide +kernel
theorem d_Ar_heldWithoutGapFrom_13 : decode b_Ar_heldWithoutGapFrom 13 = .ok (.invokevirtual 22, 3) := by decide +kernel
theorem d_Ar_heldWithoutGapFrom_16 : decode b_Ar_heldWithoutGapFrom 16 = .ok (.ifCond .eq 9, 3) := by decide +kernel
theorem d_Ar_heldWithoutGapFrom_19 : decode b_Ar_heldWithoutGapFrom 19 = .ok (.iinc 2 1, 3) := by decide +kernel
theorem d_Ar_heldWithoutGapFrom_22 : decode b_Ar_heldWithoutGapFrom 22 = .ok (.goto (-17), 3) := by decide +kernel
theorem d_Ar_heldWithoutGapFrom_25 : decode b_Ar_heldWithoutGapFrom 25 = .ok (.iload_n 2, 1) := by decide +kernel
theorem d_Ar_heldWithoutGapFrom_26 : decode b_Ar_heldWithoutGapFrom 26 = .ok (.bipush 8, 2) := by decide +kernel
theorem d_Ar_heldWithoutGapFrom_28 : decode b_Ar_heldWithoutGapFrom 28 = .ok (.imul, 1) := by decide +kernel
theorem d_Ar_heldWithoutGapFrom_29 : decode b_Ar_heldWithoutGapFrom 29 = .ok (.ireturn, 1) := by decide +kernel
theorem d_Ar_holdsRecords_0 : decode b_Ar_holdsRecords 0 = .ok (.iload_n 2, 1) := by decide +kernel
theorem d_Ar_holdsRecords_1 : decode b_Ar_holdsRecords 1 = .ok (.aload_n 0, 1) := by decide +kernel
theorem d_Ar_holdsRecords_2 : decode b_Ar_holdsRecords 2 = .ok (.iload_n 1, 1) := by decide +kernel
theorem d_Ar_holdsRecords_3 : decode b_Ar_holdsRecords 3 = .ok (.invokevirtual 26, 3) := by decide +kernel
theorem d_Ar_holdsRecords_6 : decode b_Ar_holdsRecords 6 = .ok (.if_icmp .gt 7, 3) := by decide +kernel
theorem d_Ar_holdsRecords_9 : decode b_Ar_holdsRecords 9 = .ok (.iconst 1, 1) := by decide +kernel
theorem d_Ar_holdsRecords_10 : decode b_Ar_holdsRecords 10 = .ok (.goto 4, 3) := by decide +kernel
theorem d_Ar_holdsRecords_13 : decode b_Ar_holdsRecords 13 = .ok (.iconst 0, 1) := by decide +kernel
theorem d_Ar_holdsRecords_14 : decode b_Ar_holdsRecords 14 = .ok (.ireturn, 1) := by decide +kernel
theorem d_Bk_init_0 : decode b_Bk_init 0 = .ok (.aload_n 0, 1) := by decide +kernel
theorem d_Bk_init_1 : decode b_Bk_init 1 = .ok (.invokespecial 3, 3) := by decide +kernel
theorem d_Bk_init_4 : decode b_Bk_init 4 = .ok (.aload_n 0, 1) := by decide +kernel
theorem d_Bk_init_5 : decode b_Bk_init 5 = .ok (.bipush 32, 2) := by decide +kernel
theorem d_Bk_init_7 : decode b_Bk_init 7 = .ok (.newarray .int, 2) := by decide +kernel
theorem d_Bk_init_9 : decode b_Bk_init 9 = .ok (.putfield 9, 3) := by decide +kernel
theorem d_Bk_init_12 : decode b_Bk_init 12 = .ok (.return_, 1) := by decide +kernel
theorem d_Bk_begin_0 : decode b_Bk_begin 0 = .ok (.aload_n 0, 1) := by decide +kernel
theorem d_Bk_begin_1 : decode b_Bk_begin 1 = .ok (.iconst 1, 1) := by decide +kernel
theorem d_Bk_begin_2 : decode b_Bk_begin 2 = .ok (.putfield 15, 3) := by decide +kernel
theorem d_Bk_begin_5 : decode b_Bk_begin 5 = .ok (.aload_n 0, 1) := by decide +kernel
theorem d_Bk_begin_6 : decode b_Bk_begin 6 = .ok (.iconst 0, 1) := by decide +kernel
theorem d_Bk_begin_7 : decode b_Bk_begin 7 = .ok (.putfield 19, 3) := by decide +kernel
theorem d_Bk_begin_10 : decode b_Bk_begin 10 = .ok (.aload_n 0, 1) := by decide +kernel
theorem d_Bk_begin_11 : decode b_Bk_begin 11 = .ok (.iload_n 1, 1) := by decide +kernel
theorem d_Bk_begin_12 : decode b_Bk_begin 12 = .ok (.putfield 22, 3) := by decide +kernel
theorem d_Bk_begin_15 : decode b_Bk_begin 15 = .ok (.aload_n 0, 1) := by decide +kernel
theorem d_Bk_begin_16 : decode b_Bk_begin 16 = .ok (.iload_n 2, 1) := by decide +kernel
theorem d_Bk_begin_17 : decode b_Bk_begin 17 = .ok (.putfield 26, 3) := by decide +kernel
theorem d_Bk_begin_20 : decode b_Bk_begin 20 = .ok (.aload_n 0, 1) := by decide +kernel
theorem d_Bk_begin_21 : decode b_Bk_begin 21 = .ok (.iconst 0, 1) := by decide +kernel
theorem d_Bk_begin_22 : decode b_Bk_begin 22 = .ok (.putfield 29, 3) := by decide +kernel
theorem d_Bk_begin_25 : decode b_Bk_begin 25 = .ok (.return_, 1) := by decide +kernel
theorem d_Bk_takeNextPage_0 : decode b_Bk_takeNextPage 0 = .ok (.aload_n 0, 1) := by decide +kernel
theorem d_Bk_takeNextPage_1 : decode b_Bk_takeNextPage 1 = .ok (.getfield 29, 3) := by decide +kernel
theorem d_Bk_takeNextPage_4 : decode b_Bk_takeNextPage 4 = .ok (.iconst 4, 1) := by decide +kernel
theorem d_Bk_takeNextPage_5 : decode b_Bk_takeNextPage 5 = .ok (.imul, 1) := by decide +kernel
theorem d_Bk_takeNextPage_6 : decode b_Bk_takeNextPage 6 = .ok (.istore_n 2, 1) := by decide +kernel
theorem d_Bk_takeNextPage_7 : decode b_Bk_takeNextPage 7 = .ok (.aload_n 1, 1) := by decide +kernel
theorem d_Bk_takeNextPage_8 : decode b_Bk_takeNextPage 8 = .ok (.iload_n 2, 1) := by decide +kernel
theorem d_Bk_takeNextPage_9 : decode b_Bk_takeNextPage 9 = .ok (.aload_n 0, 1) := by decide +kernel
theorem d_Bk_takeNextPage_10 : decode b_Bk_takeNextPage 10 = .ok (.getfield 9, 3) := by decide +kernel
theorem d_Bk_takeNextPage_13 : decode b_Bk_takeNextPage 13 = .ok (.iload_n 2, 1) := by decide +kernel
theorem d_Bk_takeNextPage_14 : decode b_Bk_takeNextPage 14 = .ok (.iconst 4, 1) := by decide +kernel
theorem d_Bk_takeNextPage_15 : decode b_Bk_takeNextPage 15 = .ok (.invokestatic 32, 3) := by decide +kernel
theorem d_Bk_takeNextPage_18 : decode b_Bk_takeNextPage 18 = .ok (.aload_n 0, 1) := by decide +kernel
theorem d_Bk_takeNextPage_19 : decode b_Bk_takeNextPage 19 = .ok (.dup, 1) := by decide +kernel
theorem d_Bk_takeNextPage_20 : decode b_Bk_takeNextPage 20 = .ok (.getfield 29, 3) := by decide +kernel
theorem d_Bk_takeNextPage_23 : decode b_Bk_takeNextPage 23 = .ok (.iconst 1, 1) := by decide +kernel
theorem d_Bk_takeNextPage_24 : decode b_Bk_takeNextPage 24 = .ok (.iadd, 1) := by decide +kernel
theorem d_Bk_takeNextPage_25 : decode b_Bk_takeNextPage 25 = .ok (.putfield 29, 3) := by decide +kernel
theorem d_Bk_takeNextPage_28 : decode b_Bk_takeNextPage 28 = .ok (.bipush 8, 2) := by decide +kernel
theorem d_Bk_takeNextPage_30 : decode b_Bk_takeNextPage 30 = .ok (.aload_n 0, 1) := by decide +kernel
theorem d_Bk_takeNextPage_31 : decode b_Bk_takeNextPage 31 = .ok (.getfield 29, 3) := by decide +kernel
theorem d_Bk_takeNextPage_34 : decode b_Bk_takeNextPage 34 = .ok (.isub, 1) := by decide +kernel
theorem d_Bk_takeNextPage_35 : decode b_Bk_takeNextPage 35 = .ok (.ireturn, 1) := by decide +kernel
theorem d_Bk_finish_0 : decode b_Bk_finish 0 = .ok (.aload_n 0, 1) := by decide +kernel
theorem d_Bk_finish_1 : decode b_Bk_finish 1 = .ok (.iconst 1, 1) := by decide +kernel
theorem d_Bk_finish_2 : decode b_Bk_finish 2 = .ok (.putfield 19, 3) := by decide +kernel
theorem d_Bk_finish_5 : decode b_Bk_finish 5 = .ok (.aload_n 0, 1) := by decide +kernel
theorem d_Bk_finish_6 : decode b_Bk_finish 6 = .ok (.iload_n 1, 1) := by decide +kernel
theorem d_Bk_finish_7 : decode b_Bk_finish 7 = .ok (.putfield 38, 3) := by decide +kernel
theorem d_Bk_finish_10 : decode b_Bk_finish 10 = .ok (.return_, 1) := by decide +kernel
theorem d_Bk_remove_0 : decode b_Bk_remove 0 = .ok (.aload_n 0, 1) := by decide +kernel
theorem d_Bk_remove_1 : decode b_Bk_remove 1 = .ok (.iconst 0, 1) := by decide +kernel
theorem d_Bk_remove_2 : decode b_Bk_remove 2 = .ok (.putfield 15, 3) := by decide +kernel
theorem d_Bk_remove_5 : decode b_Bk_remove 5 = .ok (.aload_n 0, 1) := by decide +kernel
theorem d_Bk_remove_6 : decode b_Bk_remove 6 = .ok (.iconst 0, 1) := by decide +kernel
theorem d_Bk_remove_7 : decode b_Bk_remove 7 = .ok (.putfield 19, 3) := by decide +kernel
theorem d_Bk_remove_10 : decode b_Bk_remove 10 = .ok (.return_, 1) := by decide +kernel
theorem d_Log_init_0 : decode b_Log_init 0 = .ok (.aload_n 0, 1) := by decide +kernel
theorem d_Log_init_1 : decode b_Log_init 1 = .ok (.invokespecial 3, 3) := by decide +kernel
theorem d_Log_init_4 : decode b_Log_init 4 = .ok (.aload_n 0, 1) := by decide +kernel
theorem d_Log_init_5 : decode b_Log_init 5 = .ok (.sipush 512, 3) := by decide +kernel
theorem d_Log_init_8 : decode b_Log_init 8 = .ok (.newarray .int, 2) := by decide +kernel
theorem d_Log_init_10 : decode b_Log_init 10 = .ok (.putfield 9, 3) := by decide +kernel
theorem d_Log_init_13 : decode b_Log_init 13 = .ok (.aload_n 0, 1) := by decide +kernel
theorem d_Log_init_14 : decode b_Log_init 14 = .ok (.sipush 512, 3) := by decide +kernel
theorem d_Log_init_17 : decode b_Log_init 17 = .ok (.newarray .int, 2) := by decide +kernel
theorem d_Log_init_19 : decode b_Log_init 19 = .ok (.putfield 15, 3) := by decide +kernel
theorem d_Log_init_22 : decode b_Log_init 22 = .ok (.aload_n 0, 1) := by decide +kernel
theorem d_Log_init_23 : decode b_Log_init 23 = .ok (.sipush 512, 3) := by decide +kernel
theorem d_Log_init_26 : decode b_Log_init 26 = .ok (.newarray .int, 2) := by decide +kernel
theorem d_Log_init_28 : decode b_Log_init 28 = .ok (.putfield 18, 3) := by decide +kernel
theorem d_Log_init_31 : decode b_Log_init 31 = .ok (.aload_n 0, 1) := by decide +kernel
theorem d_Log_init_32 : decode b_Log_init 32 = .ok (.sipush 512, 3) := by decide +kernel
theorem d_Log_init_35 : decode b_Log_init 35 = .ok (.newarray .int, 2) := by decide +kernel
theorem d_Log_init_37 : decode b_Log_init 37 = .ok (.putfield 21, 3) := by decide +kernel
theorem d_Log_init_40 : decode b_Log_init 40 = .ok (.return_, 1) := by decide +kernel
theorem d_Log_isFull_0 : decode b_Log_isFull 0 = .ok (.aload_n 0, 1) := by decide +kernel
theorem d_Log_isFull_1 : decode b_Log_isFull 1 = .ok (.getfield 24, 3) := by decide +kernel
theorem d_Log_isFull_4 : decode b_Log_isFull 4 = .ok (.sipush 512, 3) := by decide +kernel
theorem d_Log_isFull_7 : decode b_Log_isFull 7 = .ok (.if_icmp .lt 7, 3) := by decide +kernel
theorem d_Log_isFull_10 : decode b_Log_isFull 10 = .ok (.iconst 1, 1) := by decide +kernel
theorem d_Log_isFull_11 : decode b_Log_isFull 11 = .ok (.goto 4, 3) := by decide +kernel
theorem d_Log_isFull_14 : decode b_Log_isFull 14 = .ok (.iconst 0, 1) := by decide +kernel
theorem d_Log_isFull_15 : decode b_Log_isFull 15 = .ok (.ireturn, 1) := by decide +kernel
theorem d_Log_append_0 : decode b_Log_append 0 = .ok (.aload_n 0, 1) := by decide +kernel
theorem d_Log_append_1 : decode b_Log_append 1 = .ok (.getfield 9, 3) := by decide +kernel
theorem d_Log_append_4 : decode b_Log_append 4 = .ok (.aload_n 0, 1) := by decide +kernel
theorem d_Log_append_5 : decode b_Log_append 5 = .ok (.getfield 24, 3) := by decide +kernel
theorem d_Log_append_8 : decode b_Log_append 8 = .ok (.iload_n 1, 1) := by decide +kernel
theorem d_Log_append_9 : decode b_Log_append 9 = .ok (.iastore, 1) := by decide +kernel
theorem d_Log_append_10 : decode b_Log_append 10 = .ok (.aload_n 0, 1) := by decide +kernel
theorem d_Log_append_11 : decode b_Log_append 11 = .ok (.getfield 15, 3) := by decide +kernel
theorem d_Log_append_14 : decode b_Log_append 14 = .ok (.aload_n 0, 1) := by decide +kernel
theorem d_Log_append_15 : decode b_Log_append 15 = .ok (.getfield 24, 3) := by decide +kernel
theorem d_Log_append_18 : decode b_Log_append 18 = .ok (.iload_n 2, 1) := by decide +kernel
theorem d_Log_append_19 : decode b_Log_append 19 = .ok (.iastore, 1) := by decide +kernel
theorem d_Log_append_20 : decode b_Log_append 20 = .ok (.aload_n 0, 1) := by decide +kernel
theorem d_Log_append_21 : decode b_Log_append 21 = .ok (.getfield 18, 3) := by decide +kernel
theorem d_Log_append_24 : decode b_Log_append 24 = .ok (.aload_n 0, 1) := by decide +kernel
theorem d_Log_append_25 : decode b_Log_append 25 = .ok (.getfield 24, 3) := by decide +kernel
theorem d_Log_append_28 : decode b_Log_append 28 = .ok (.iload_n 3, 1) := by decide +kernel
theorem d_Log_append_29 : decode b_Log_append 29 = .ok (.iastore, 1) := by decide +kernel
theorem d_Log_append_30 : decode b_Log_append 30 = .ok (.aload_n 0, 1) := by decide +kernel
theorem d_Log_append_31 : decode b_Log_append 31 = .ok (.getfield 21, 3) := by decide +kernel
theorem d_Log_append_34 : decode b_Log_append 34 = .ok (.aload_n 0, 1) := by decide +kernel
theorem d_Log_append_35 : decode b_Log_append 35 = .ok (.getfield 24, 3) := by decide +kernel
theorem d_Log_append_38 : decode b_Log_append 38 = .ok (.iload 4, 2) := by decide +kernel
theorem d_Log_append_40 : decode b_Log_append 40 = .ok (.iastore, 1) := by decide +kernel
theorem d_Log_append_41 : decode b_Log_append 41 = .ok (.aload_n 0, 1) := by decide +kernel
theorem d_Log_append_42 : decode b_Log_append 42 = .ok (.dup, 1) := by decide +kernel
theorem d_Log_append_43 : decode b_Log_append 43 = .ok (.getfield 24, 3) := by decide +kernel
theorem d_Log_append_46 : decode b_Log_append 46 = .ok (.iconst 1, 1) := by decide +kernel
theorem d_Log_append_47 : decode b_Log_append 47 = .ok (.iadd, 1) := by decide +kernel
theorem d_Log_append_48 : decode b_Log_append 48 = .ok (.putfield 24, 3) := by decide +kernel
theorem d_Log_append_51 : decode b_Log_append 51 = .ok (.aload_n 0, 1) := by decide +kernel
theorem d_Log_append_52 : decode b_Log_append 52 = .ok (.getfield 24, 3) := by decide +kernel
theorem d_Log_append_55 : decode b_Log_append 55 = .ok (.ireturn, 1) := by decide +kernel
theorem d_Log_syncAll_0 : decode b_Log_syncAll 0 = .ok (.aload_n 0, 1) := by decide +kernel
theorem d_Log_syncAll_1 : decode b_Log_syncAll 1 = .ok (.getfield 28, 3) := by decide +kernel
theorem d_Log_syncAll_4 : decode b_Log_syncAll 4 = .ok (.istore_n 1, 1) := by decide +kernel
theorem d_Log_syncAll_5 : decode b_Log_syncAll 5 = .ok (.aload_n 0, 1) := by decide +kernel
theorem d_Log_syncAll_6 : decode b_Log_syncAll 6 = .ok (.aload_n 0, 1) := by decide +kernel
theorem d_Log_syncAll_7 : decode b_Log_syncAll 7 = .ok (.getfield 24, 3) := by decide +kernel
theorem d_Log_syncAll_10 : decode b_Log_syncAll 10 = .ok (.putfield 28, 3) := by decide +kernel
theorem d_Log_syncAll_13 : decode b_Log_syncAll 13 = .ok (.aload_n 0, 1) := by decide +kernel
theorem d_Log_syncAll_14 : decode b_Log_syncAll 14 = .ok (.getfield 24, 3) := by decide +kernel
theorem d_Log_syncAll_17 : decode b_Log_syncAll 17 = .ok (.iload_n 1, 1) := by decide +kernel
theorem d_Log_syncAll_18 : decode b_Log_syncAll 18 = .ok (.isub, 1) := by decide +kernel
theorem d_Log_syncAll_19 : decode b_Log_syncAll 19 = .ok (.ireturn, 1) := by decide +kernel
theorem d_Log_loseUnsynced_0 : decode b_Log_loseUnsynced 0 = .ok (.aload_n 0, 1) := by decide +kernel
theorem d_Log_loseUnsynced_1 : decode b_Log_loseUnsynced 1 = .ok (.getfield 24, 3) := by decide +kernel
theorem d_Log_loseUnsynced_4 : decode b_Log_loseUnsynced 4 = .ok (.aload_n 0, 1) := by decide +kernel
theorem d_Log_loseUnsynced_5 : decode b_Log_loseUnsynced 5 = .ok (.getfield 28, 3) := by decide +kernel
theorem d_Log_loseUnsynced_8 : decode b_Log_loseUnsynced 8 = .ok (.isub, 1) := by decide +kernel
theorem d_Log_loseUnsynced_9 : decode b_Log_loseUnsynced 9 = .ok (.istore_n 1, 1) := by decide +kernel
theorem d_Log_loseUnsynced_10 : decode b_Log_loseUnsynced 10 = .ok (.aload_n 0, 1) := by decide +kernel
theorem d_Log_loseUnsynced_11 : decode b_Log_loseUnsynced 11 = .ok (.aload_n 0, 1) := by decide +kernel
theorem d_Log_loseUnsynced_12 : decode b_Log_loseUnsynced 12 = .ok (.getfield 28, 3) := by decide +kernel
theorem d_Log_loseUnsynced_15 : decode b_Log_loseUnsynced 15 = .ok (.putfield 24, 3) := by decide +kernel
theorem d_Log_loseUnsynced_18 : decode b_Log_loseUnsynced 18 = .ok (.iload_n 1, 1) := by decide +kernel
theorem d_Log_loseUnsynced_19 : decode b_Log_loseUnsynced 19 = .ok (.ireturn, 1) := by decide +kernel
theorem d_Log_hasCommitDoneAt_0 : decode b_Log_hasCommitDoneAt 0 = .ok (.iload_n 1, 1) := by decide +kernel
theorem d_Log_hasCommitDoneAt_1 : decode b_Log_hasCommitDoneAt 1 = .ok (.ifCond .le 27, 3) := by decide +kernel
theorem d_Log_hasCommitDoneAt_4 : decode b_Log_hasCommitDoneAt 4 = .ok (.iload_n 1, 1) := by decide +kernel
theorem d_Log_hasCommitDoneAt_5 : decode b_Log_hasCommitDoneAt 5 = .ok (.aload_n 0, 1) := by decide +kernel
theorem d_Log_hasCommitDoneAt_6 : decode b_Log_hasCommitDoneAt 6 = .ok (.getfield 24, 3) := by decide +kernel
theorem d_Log_hasCommitDoneAt_9 : decode b_Log_hasCommitDoneAt 9 = .ok (.if_icmp .gt 19, 3) := by decide +kernel
theorem d_Log_hasCommitDoneAt_12 : decode b_Log_hasCommitDoneAt 12 = .ok (.aload_n 0, 1) := by decide +kernel
theorem d_Log_hasCommitDoneAt_13 : decode b_Log_hasCommitDoneAt 13 = .ok (.getfield 9, 3) := by decide +kernel
theorem d_Log_hasCommitDoneAt_16 : decode b_Log_hasCommitDoneAt 16 = .ok (.iload_n 1, 1) := by decide +kernel
theorem d_Log_hasCommitDoneAt_17 : decode b_Log_hasCommitDoneAt 17 = .ok (.iconst 1, 1) := by decide +kernel
theorem d_Log_hasCommitDoneAt_18 : decode b_Log_hasCommitDoneAt 18 = .ok (.isub, 1) := by decide +kernel
theorem d_Log_hasCommitDoneAt_19 : decode b_Log_hasCommitDoneAt 19 = .ok (.iaload, 1) := by decide +kernel
theorem d_Log_hasCommitDoneAt_20 : decode b_Log_hasCommitDoneAt 20 = .ok (.iconst 1, 1) := by decide +kernel
theorem d_Log_hasCommitDoneAt_21 : decode b_Log_hasCommitDoneAt 21 = .ok (.if_icmp .ne 7, 3) := by decide +kernel
theorem d_Log_hasCommitDoneAt_24 : decode b_Log_hasCommitDoneAt 24 = .ok (.iconst 1, 1) := by decide +kernel
theorem d_Log_hasCommitDoneAt_25 : decode b_Log_hasCommitDoneAt 25 = .ok (.goto 4, 3) := by decide +kernel
theorem d_Log_hasCommitDoneAt_28 : decode b_Log_hasCommitDoneAt 28 = .ok (.iconst 0, 1) := by decide +kernel
theorem d_Log_hasCommitDoneAt_29 : decode b_Log_hasCommitDoneAt 29 = .ok (.ireturn, 1) := by decide +kernel
theorem d_Pg_init_0 : decode b_Pg_init 0 = .ok (.aload_n 0, 1) := by decide +kernel
theorem d_Pg_init_1 : decode b_Pg_init 1 = .ok (.invokespecial 3, 3) := by decide +kernel
theorem d_Pg_init_4 : decode b_Pg_init 4 = .ok (.aload_n 0, 1) := by decide +kernel
theorem d_Pg_init_5 : decode b_Pg_init 5 = .ok (.bipush 32, 2) := by decide +kernel
theorem d_Pg_init_7 : decode b_Pg_init 7 = .ok (.newarray .int, 2) := by decide +kernel
theorem d_Pg_init_9 : decode b_Pg_init 9 = .ok (.putfield 9, 3) := by decide +kernel
theorem d_Pg_init_12 : decode b_Pg_init 12 = .ok (.aload_n 0, 1) := by decide +kernel
theorem d_Pg_init_13 : decode b_Pg_init 13 = .ok (.bipush 32, 2) := by decide +kernel
theorem d_Pg_init_15 : decode b_Pg_init 15 = .ok (.newarray .int, 2) := by decide +kernel
theorem d_Pg_init_17 : decode b_Pg_init 17 = .ok (.putfield 15, 3) := by decide +kernel
theorem d_Pg_init_20 : decode b_Pg_init 20 = .ok (.aload_n 0, 1) := by decide +kernel
theorem d_Pg_init_21 : decode b_Pg_init 21 = .ok (.bipush 32, 2) := by decide +kernel
theorem d_Pg_init_23 : decode b_Pg_init 23 = .ok (.newarray .int, 2) := by decide +kernel
theorem d_Pg_init_25 : decode b_Pg_init 25 = .ok (.putfield 18, 3) := by decide +kernel
theorem d_Pg_init_28 : decode b_Pg_init 28 = .ok (.aload_n 0, 1) := by decide +kernel
theorem d_Pg_init_29 : decode b_Pg_init 29 = .ok (.bipush 8, 2) := by decide +kernel
theorem d_Pg_init_31 : decode b_Pg_init 31 = .ok (.newarray .int, 2) := by decide +kernel
theorem d_Pg_init_33 : decode b_Pg_init 33 = .ok (.putfield 21, 3) := by decide +kernel
theorem d_Pg_init_36 : decode b_Pg_init 36 = .ok (.aload_n 0, 1) := by decide +kernel
theorem d_Pg_init_37 : decode b_Pg_init 37 = .ok (.bipush 8, 2) := by decide +kernel
theorem d_Pg_init_39 : decode b_Pg_init 39 = .ok (.newarray .int, 2) := by decide +kernel
theorem d_Pg_init_41 : decode b_Pg_init 41 = .ok (.putfield 24, 3) := by decide +kernel
theorem d_Pg_init_44 : decode b_Pg_init 44 = .ok (.return_, 1) := by decide +kernel
theorem d_Pg_isDirty_0 : decode b_Pg_isDirty 0 = .ok (.aload_n 0, 1) := by decide +kernel
theorem d_Pg_isDirty_1 : decode b_Pg_isDirty 1 = .ok (.getfield 21, 3) := by decide +kernel
theorem d_Pg_isDirty_4 : decode b_Pg_isDirty 4 = .ok (.iload_n 1, 1) := by decide +kernel
theorem d_Pg_isDirty_5 : decode b_Pg_isDirty 5 = .ok (.iaload, 1) := by decide +kernel
theorem d_Pg_isDirty_6 : decode b_Pg_isDirty 6 = .ok (.ifCond .le 7, 3) := by decide +kernel
theorem d_Pg_isDirty_9 : decode b_Pg_isDirty 9 = .ok (.iconst 1, 1) := by decide +kernel
theorem d_Pg_isDirty_10 : decode b_Pg_isDirty 10 = .ok (.goto 4, 3) := by decide +kernel
theorem d_Pg_isDirty_13 : decode b_Pg_isDirty 13 = .ok (.iconst 0, 1) := by decide +kernel
theorem d_Pg_isDirty_14 : decode b_Pg_isDirty 14 = .ok (.ireturn, 1) := by decide +kernel
theorem d_Pg_countDirty_0 : decode b_Pg_countDirty 0 = .ok (.iconst 0, 1) := by decide +kernel
theorem d_Pg_countDirty_1 : decode b_Pg_countDirty 1 = .ok (.istore_n 1, 1) := by decide +kernel
theorem d_Pg_countDirty_2 : decode b_Pg_countDirty 2 = .ok (.iconst 0, 1) := by decide +kernel
theorem d_Pg_countDirty_3 : decode b_Pg_countDirty 3 = .ok (.istore_n 2, 1) := by decide +kernel
theorem d_Pg_countDirty_4 : decode b_Pg_countDirty 4 = .ok (.iload_n 2, 1) := by decide +kernel
theorem d_Pg_countDirty_5 : decode b_Pg_countDirty 5 = .ok (.bipush 8, 2) := by decide +kernel
theorem d_Pg_countDirty_7 : decode b_Pg_countDirty 7 = .ok (.if_icmp .ge 20, 3) := by decide +kernel
theorem d_Pg_countDirty_10 : decode b_Pg_countDirty 10 = .ok (.aload_n 0, 1) := by decide +kernel
theorem d_Pg_countDirty_11 : decode b_Pg_countDirty 11 = .ok (.iload_n 2, 1) := by decide +kernel
theorem d_Pg_countDirty_12 : decode b_Pg_countDirty 12 = .ok (.invokevirtual 27, 3) := by decide +kernel
theorem d_Pg_countDirty_15 : decode b_Pg_countDirty 15 = .ok (.ifCond .eq 6, 3) := by decide +kernel
theorem d_Pg_countDirty_18 : decode b_Pg_countDirty 18 = .ok (.iinc 1 1, 3) := by decide +kernel
theorem d_Pg_countDirty_21 : decode b_Pg_countDirty 21 = .ok (.iinc 2 1, 3) := by decide +kernel
theorem d_Pg_countDirty_24 : decode b_Pg_countDirty 24 = .ok (.goto (-20), 3) := by decide +kernel
theorem d_Pg_countDirty_27 : decode b_Pg_countDirty 27 = .ok (.iload_n 1, 1) := by decide +kernel
theorem d_Pg_countDirty_28 : decode b_Pg_countDirty 28 = .ok (.ireturn, 1) := by decide +kernel
theorem d_Pg_takeCommit_0 : decode b_Pg_takeCommit 0 = .ok (.aload_n 1, 1) := by decide +kernel
theorem d_Pg_takeCommit_1 : decode b_Pg_takeCommit 1 = .ok (.aload_n 0, 1) := by decide +kernel
theorem d_Pg_takeCommit_2 : decode b_Pg_takeCommit 2 = .ok (.getfield 9, 3) := by decide +kernel
theorem d_Pg_takeCommit_5 : decode b_Pg_takeCommit 5 = .ok (.iload_n 2, 1) := by decide +kernel
theorem d_Pg_takeCommit_6 : decode b_Pg_takeCommit 6 = .ok (.invokevirtual 31, 3) := by decide +kernel
theorem d_Pg_takeCommit_9 : decode b_Pg_takeCommit 9 = .ok (.aload_n 1, 1) := by decide +kernel
theorem d_Pg_takeCommit_10 : decode b_Pg_takeCommit 10 = .ok (.iload_n 2, 1) := by decide +kernel
theorem d_Pg_takeCommit_11 : decode b_Pg_takeCommit 11 = .ok (.invokevirtual 37, 3) := by decide +kernel
theorem d_Pg_takeCommit_14 : decode b_Pg_takeCommit 14 = .ok (.istore 4, 2) := by decide +kernel
theorem d_Pg_takeCommit_16 : decode b_Pg_takeCommit 16 = .ok (.aload_n 1, 1) := by decide +kernel
theorem d_Pg_takeCommit_17 : decode b_Pg_takeCommit 17 = .ok (.iload_n 2, 1) := by decide +kernel
theorem d_Pg_takeCommit_18 : decode b_Pg_takeCommit 18 = .ok (.invokevirtual 41, 3) := by decide +kernel
theorem d_Pg_takeCommit_21 : decode b_Pg_takeCommit 21 = .ok (.istore 5, 2) := by decide +kernel
theorem d_Pg_takeCommit_23 : decode b_Pg_takeCommit 23 = .ok (.iload 5, 2) := by decide +kernel
theorem d_Pg_takeCommit_25 : decode b_Pg_takeCommit 25 = .ok (.iload 4, 2) := by decide +kernel
theorem d_Pg_takeCommit_27 : decode b_Pg_takeCommit 27 = .ok (.if_icmp .ge 23, 3) := by decide +kernel
theorem d_Pg_takeCommit_30 : decode b_Pg_takeCommit 30 = .ok (.aload_n 0, 1) := by decide +kernel
theorem d_Pg_takeCommit_31 : decode b_Pg_takeCommit 31 = .ok (.aload_n 1, 1) := by decide +kernel
theorem d_Pg_takeCommit_32 : decode b_Pg_takeCommit 32 = .ok (.getfield 44, 3) := by decide +kernel
theorem d_Pg_takeCommit_35 : decode b_Pg_takeCommit 35 = .ok (.iload 5, 2) := by decide +kernel
theorem d_Pg_takeCommit_37 : decode b_Pg_takeCommit 37 = .ok (.iaload, 1) := by decide +kernel
theorem d_Pg_takeCommit_38 : decode b_Pg_takeCommit 38 = .ok (.iconst 4, 1) := by decide +kernel
theorem d_Pg_takeCommit_39 : decode b_Pg_takeCommit 39 = .ok (.idiv, 1) := by decide +kernel
theorem d_Pg_takeCommit_40 : decode b_Pg_takeCommit 40 = .ok (.iload_n 3, 1) := by decide +kernel
theorem d_Pg_takeCommit_41 : decode b_Pg_takeCommit 41 = .ok (.invokevirtual 47, 3) := by decide +kernel
theorem d_Pg_takeCommit_44 : decode b_Pg_takeCommit 44 = .ok (.iinc 5 1, 3) := by decide +kernel
theorem d_Pg_takeCommit_47 : decode b_Pg_takeCommit 47 = .ok (.goto (-24), 3) := by decide +kernel
theorem d_Pg_takeCommit_50 : decode b_Pg_takeCommit 50 = .ok (.return_, 1) := by decide +kernel
theorem d_Pg_markDirty_0 : decode b_Pg_markDirty 0 = .ok (.aload_n 0, 1) := by decide +kernel
theorem d_Pg_markDirty_1 : decode b_Pg_markDirty 1 = .ok (.iload_n 1, 1) := by decide +kernel
theorem d_Pg_markDirty_2 : decode b_Pg_markDirty 2 = .ok (.invokevirtual 27, 3) := by decide +kernel
theorem d_Pg_markDirty_5 : decode b_Pg_markDirty 5 = .ok (.ifCond .ne 10, 3) := by decide +kernel
theorem d_Pg_markDirty_8 : decode b_Pg_markDirty 8 = .ok (.aload_n 0, 1) := by decide +kernel
theorem d_Pg_markDirty_9 : decode b_Pg_markDirty 9 = .ok (.getfield 21, 3) := by decide +kernel
theorem d_Pg_markDirty_12 : decode b_Pg_markDirty 12 = .ok (.iload_n 1, 1) := by decide +kernel
theorem d_Pg_markDirty_13 : decode b_Pg_markDirty 13 = .ok (.iload_n 2, 1) := by decide +kernel
theorem d_Pg_markDirty_14 : decode b_Pg_markDirty 14 = .ok (.iastore, 1) := by decide +kernel
theorem d_Pg_markDirty_15 : decode b_Pg_markDirty 15 = .ok (.aload_n 0, 1) := by decide +kernel
theorem d_Pg_markDirty_16 : decode b_Pg_markDirty 16 = .ok (.getfield 24, 3) := by decide +kernel
theorem d_Pg_markDirty_19 : decode b_Pg_markDirty 19 = .ok (.iload_n 1, 1) := by decide +kernel
theorem d_Pg_markDirty_20 : decode b_Pg_markDirty 20 = .ok (.iload_n 2, 1) := by decide +kernel
theorem d_Pg_markDirty_21 : decode b_Pg_markDirty 21 = .ok (.iastore, 1) := by decide +kernel
theorem d_Pg_markDirty_22 : decode b_Pg_markDirty 22 = .ok (.return_, 1) := by decide +kernel
theorem d_Pg_markClean_0 : decode b_Pg_markClean 0 = .ok (.aload_n 0, 1) := by decide +kernel
theorem d_Pg_markClean_1 : decode b_Pg_markClean 1 = .ok (.getfield 21, 3) := by decide +kernel
theorem d_Pg_markClean_4 : decode b_Pg_markClean 4 = .ok (.iload_n 1, 1) := by decide +kernel
theorem d_Pg_markClean_5 : decode b_Pg_markClean 5 = .ok (.iconst 0, 1) := by decide +kernel
theorem d_Pg_markClean_6 : decode b_Pg_markClean 6 = .ok (.iastore, 1) := by decide +kernel
theorem d_Pg_markClean_7 : decode b_Pg_markClean 7 = .ok (.aload_n 0, 1) := by decide +kernel
theorem d_Pg_markClean_8 : decode b_Pg_markClean 8 = .ok (.getfield 24, 3) := by decide +kernel
theorem d_Pg_markClean_11 : decode b_Pg_markClean 11 = .ok (.iload_n 1, 1) := by decide +kernel
theorem d_Pg_markClean_12 : decode b_Pg_markClean 12 = .ok (.iconst 0, 1) := by decide +kernel
theorem d_Pg_markClean_13 : decode b_Pg_markClean 13 = .ok (.iastore, 1) := by decide +kernel
theorem d_Pg_markClean_14 : decode b_Pg_markClean 14 = .ok (.return_, 1) := by decide +kernel
theorem d_Pg_writeToDisk_0 : decode b_Pg_writeToDisk 0 = .ok (.iload_n 1, 1) := by decide +kernel
theorem d_Pg_writeToDisk_1 : decode b_Pg_writeToDisk 1 = .ok (.iconst 4, 1) := by decide +kernel
theorem d_Pg_writeToDisk_2 : decode b_Pg_writeToDisk 2 = .ok (.imul, 1) := by decide +kernel
theorem d_Pg_writeToDisk_3 : decode b_Pg_writeToDisk 3 = .ok (.istore_n 2, 1) := by decide +kernel
theorem d_Pg_writeToDisk_4 : decode b_Pg_writeToDisk 4 = .ok (.aload_n 0, 1) := by decide +kernel
theorem d_Pg_writeToDisk_5 : decode b_Pg_writeToDisk 5 = .ok (.getfield 9, 3) := by decide +kernel
theorem d_Pg_writeToDisk_8 : decode b_Pg_writeToDisk 8 = .ok (.iload_n 2, 1) := by decide +kernel
theorem d_Pg_writeToDisk_9 : decode b_Pg_writeToDisk 9 = .ok (.aload_n 0, 1) := by decide +kernel
theorem d_Pg_writeToDisk_10 : decode b_Pg_writeToDisk 10 = .ok (.getfield 18, 3) := by decide +kernel
theorem d_Pg_writeToDisk_13 : decode b_Pg_writeToDisk 13 = .ok (.iload_n 2, 1) := by decide +kernel

theorem d_M_add_8 : decode b_M_add 8 = .ok (.iload_n 1, 1) := by decide +kernel
theorem d_M_add_9 : decode b_M_add 9 = .ok (.iastore, 1) := by decide +kernel
theorem d_M_add_10 : decode b_M_add 10 = .ok (.aload_n 0, 1) := by decide +kernel
theorem d_M_add_11 : decode b_M_add 11 = .ok (.getfield 13, 3) := by decide +kernel
theorem d_M_add_14 : decode b_M_add 14 = .ok (.aload_n 0, 1) := by decide +kernel
theorem d_M_add_15 : decode b_M_add 15 = .ok (.getfield 41, 3) := by decide +kernel
theorem d_M_add_18 : decode b_M_add 18 = .ok (.iload_n 2, 1) := by decide +kernel
theorem d_M_add_19 : decode b_M_add 19 = .ok (.iastore, 1) := by decide +kernel
theorem d_M_add_20 : decode b_M_add 20 = .ok (.aload_n 0, 1) := by decide +kernel
theorem d_M_add_21 : decode b_M_add 21 = .ok (.getfield 16, 3) := by decide +kernel
theorem d_M_add_24 : decode b_M_add 24 = .ok (.aload_n 0, 1) := by decide +kernel
theorem d_M_add_25 : decode b_M_add 25 = .ok (.getfield 41, 3) := by decide +kernel
theorem d_M_add_28 : decode b_M_add 28 = .ok (.iload_n 3, 1) := by decide +kernel
theorem d_M_add_29 : decode b_M_add 29 = .ok (.iastore, 1) := by decide +kernel
theorem d_M_add_30 : decode b_M_add 30 = .ok (.aload_n 0, 1) := by decide +kernel
theorem d_M_add_31 : decode b_M_add 31 = .ok (.getfield 19, 3) := by decide +kernel
theorem d_M_add_34 : decode b_M_add 34 = .ok (.aload_n 0, 1) := by decide +kernel
theorem d_M_add_35 : decode b_M_add 35 = .ok (.getfield 41, 3) := by decide +kernel
theorem d_M_add_38 : decode b_M_add 38 = .ok (.iload 4, 2) := by decide +kernel
theorem d_M_add_40 : decode b_M_add 40 = .ok (.iastore, 1) := by decide +kernel
theorem d_M_add_41 : decode b_M_add 41 = .ok (.aload_n 0, 1) := by decide +kernel
theorem d_M_add_42 : decode b_M_add 42 = .ok (.dup, 1) := by decide +kernel
theorem d_M_add_43 : decode b_M_add 43 = .ok (.getfield 41, 3) := by decide +kernel
theorem d_M_add_46 : decode b_M_add 46 = .ok (.iconst 1, 1) := by decide +kernel
theorem d_M_add_47 : decode b_M_add 47 = .ok (.iadd, 1) := by decide +kernel
theorem d_M_add_48 : decode b_M_add 48 = .ok (.putfield 41, 3) := by decide +kernel
theorem d_M_add_51 : decode b_M_add 51 = .ok (.aload_n 0, 1) := by decide +kernel
theorem d_M_add_52 : decode b_M_add 52 = .ok (.getfield 41, 3) := by decide +kernel
theorem d_M_add_55 : decode b_M_add 55 = .ok (.ireturn, 1) := by decide +kernel
theorem d_M_ends_0 : decode b_M_ends 0 = .ok (.aload_n 0, 1) := by decide +kernel
theorem d_M_ends_1 : decode b_M_ends 1 = .ok (.getfield 7, 3) := by decide +kernel
theorem d_M_ends_4 : decode b_M_ends 4 = .ok (.iload_n 1, 1) := by decide +kernel
theorem d_M_ends_5 : decode b_M_ends 5 = .ok (.iaload, 1) := by decide +kernel
theorem d_M_ends_6 : decode b_M_ends 6 = .ok (.iconst 3, 1) := by decide +kernel
theorem d_M_ends_7 : decode b_M_ends 7 = .ok (.if_icmp .eq 22, 3) := by decide +kernel
theorem d_M_ends_10 : decode b_M_ends 10 = .ok (.aload_n 0, 1) := by decide +kernel
theorem d_M_ends_11 : decode b_M_ends 11 = .ok (.getfield 7, 3) := by decide +kernel
theorem d_M_ends_14 : decode b_M_ends 14 = .ok (.iload_n 1, 1) := by decide +kernel
theorem d_M_ends_15 : decode b_M_ends 15 = .ok (.iaload, 1) := by decide +kernel
theorem d_M_ends_16 : decode b_M_ends 16 = .ok (.ifCond .eq 17, 3) := by decide +kernel
theorem d_M_ends_19 : decode b_M_ends 19 = .ok (.aload_n 0, 1) := by decide +kernel
theorem d_M_ends_20 : decode b_M_ends 20 = .ok (.getfield 13, 3) := by decide +kernel
theorem d_M_ends_23 : decode b_M_ends 23 = .ok (.iload_n 1, 1) := by decide +kernel
theorem d_M_ends_24 : decode b_M_ends 24 = .ok (.iaload, 1) := by decide +kernel
theorem d_M_ends_25 : decode b_M_ends 25 = .ok (.iload_n 2, 1) := by decide +kernel
theorem d_M_ends_26 : decode b_M_ends 26 = .ok (.if_icmp .ne 7, 3) := by decide +kernel
theorem d_M_ends_29 : decode b_M_ends 29 = .ok (.iconst 1, 1) := by decide +kernel
theorem d_M_ends_30 : decode b_M_ends 30 = .ok (.goto 4, 3) := by decide +kernel
theorem d_M_ends_33 : decode b_M_ends 33 = .ok (.iconst 0, 1) := by decide +kernel
theorem d_M_ends_34 : decode b_M_ends 34 = .ok (.ireturn, 1) := by decide +kernel
theorem d_M_opened_0 : decode b_M_opened 0 = .ok (.iconst (-1), 1) := by decide +kernel
theorem d_M_opened_1 : decode b_M_opened 1 = .ok (.istore_n 3, 1) := by decide +kernel
theorem d_M_opened_2 : decode b_M_opened 2 = .ok (.iload_n 2, 1) := by decide +kernel
theorem d_M_opened_3 : decode b_M_opened 3 = .ok (.iconst 1, 1) := by decide +kernel
theorem d_M_opened_4 : decode b_M_opened 4 = .ok (.isub, 1) := by decide +kernel
theorem d_M_opened_5 : decode b_M_opened 5 = .ok (.istore 4, 2) := by decide +kernel
theorem d_M_opened_7 : decode b_M_opened 7 = .ok (.iload 4, 2) := by decide +kernel
theorem d_M_opened_9 : decode b_M_opened 9 = .ok (.ifCond .lt 49, 3) := by decide +kernel
theorem d_M_opened_12 : decode b_M_opened 12 = .ok (.aload_n 0, 1) := by decide +kernel
theorem d_M_opened_13 : decode b_M_opened 13 = .ok (.iload 4, 2) := by decide +kernel
theorem d_M_opened_15 : decode b_M_opened 15 = .ok (.iload_n 1, 1) := by decide +kernel
theorem d_M_opened_16 : decode b_M_opened 16 = .ok (.invokevirtual 45, 3) := by decide +kernel
theorem d_M_opened_19 : decode b_M_opened 19 = .ok (.ifCond .eq 5, 3) := by decide +kernel
theorem d_M_opened_22 : decode b_M_opened 22 = .ok (.iload_n 3, 1) := by decide +kernel
theorem d_M_opened_23 : decode b_M_opened 23 = .ok (.ireturn, 1) := by decide +kernel
theorem d_M_opened_24 : decode b_M_opened 24 = .ok (.aload_n 0, 1) := by decide +kernel
theorem d_M_opened_25 : decode b_M_opened 25 = .ok (.getfield 13, 3) := by decide +kernel
theorem d_M_opened_28 : decode b_M_opened 28 = .ok (.iload 4, 2) := by decide +kernel
theorem d_M_opened_30 : decode b_M_opened 30 = .ok (.iaload, 1) := by decide +kernel
theorem d_M_opened_31 : decode b_M_opened 31 = .ok (.iload_n 1, 1) := by decide +kernel
theorem d_M_opened_32 : decode b_M_opened 32 = .ok (.if_icmp .ne 18, 3) := by decide +kernel
theorem d_M_opened_35 : decode b_M_opened 35 = .ok (.aload_n 0, 1) := by decide +kernel
theorem d_M_opened_36 : decode b_M_opened 36 = .ok (.getfield 7, 3) := by decide +kernel
theorem d_M_opened_39 : decode b_M_opened 39 = .ok (.iload 4, 2) := by decide +kernel
theorem d_M_opened_41 : decode b_M_opened 41 = .ok (.iaload, 1) := by decide +kernel
theorem d_M_opened_42 : decode b_M_opened 42 = .ok (.ifCond .ne 8, 3) := by decide +kernel
theorem d_M_opened_45 : decode b_M_opened 45 = .ok (.iload 4, 2) := by decide +kernel
theorem d_M_opened_47 : decode b_M_opened 47 = .ok (.goto 4, 3) := by decide +kernel
theorem d_M_opened_50 : decode b_M_opened 50 = .ok (.iload_n 3, 1) := by decide +kernel
theorem d_M_opened_51 : decode b_M_opened 51 = .ok (.istore_n 3, 1) := by decide +kernel
theorem d_M_opened_52 : decode b_M_opened 52 = .ok (.iinc 4 (-1), 3) := by decide +kernel
theorem d_M_opened_55 : decode b_M_opened 55 = .ok (.goto (-48), 3) := by decide +kernel
theorem d_M_opened_58 : decode b_M_opened 58 = .ok (.iload_n 3, 1) := by decide +kernel
theorem d_M_opened_59 : decode b_M_opened 59 = .ok (.ireturn, 1) := by decide +kernel
theorem d_M_sets_0 : decode b_M_sets 0 = .ok (.iconst 0, 1) := by decide +kernel
theorem d_M_sets_1 : decode b_M_sets 1 = .ok (.istore_n 2, 1) := by decide +kernel
theorem d_M_sets_2 : decode b_M_sets 2 = .ok (.aload_n 0, 1) := by decide +kernel
theorem d_M_sets_3 : decode b_M_sets 3 = .ok (.getfield 41, 3) := by decide +kernel
theorem d_M_sets_6 : decode b_M_sets 6 = .ok (.iconst 1, 1) := by decide +kernel
theorem d_M_sets_7 : decode b_M_sets 7 = .ok (.isub, 1) := by decide +kernel
theorem d_M_sets_8 : decode b_M_sets 8 = .ok (.istore_n 3, 1) := by decide +kernel
theorem d_M_sets_9 : decode b_M_sets 9 = .ok (.iload_n 3, 1) := by decide +kernel
theorem d_M_sets_10 : decode b_M_sets 10 = .ok (.ifCond .lt 45, 3) := by decide +kernel
theorem d_M_sets_13 : decode b_M_sets 13 = .ok (.aload_n 0, 1) := by decide +kernel
theorem d_M_sets_14 : decode b_M_sets 14 = .ok (.iload_n 3, 1) := by decide +kernel
theorem d_M_sets_15 : decode b_M_sets 15 = .ok (.iload_n 1, 1) := by decide +kernel
theorem d_M_sets_16 : decode b_M_sets 16 = .ok (.invokevirtual 45, 3) := by decide +kernel
theorem d_M_sets_19 : decode b_M_sets 19 = .ok (.ifCond .ne 36, 3) := by decide +kernel
theorem d_M_sets_22 : decode b_M_sets 22 = .ok (.iload_n 2, 1) := by decide +kernel
theorem d_M_sets_23 : decode b_M_sets 23 = .ok (.aload_n 0, 1) := by decide +kernel
theorem d_M_sets_24 : decode b_M_sets 24 = .ok (.getfield 7, 3) := by decide +kernel
theorem d_M_sets_27 : decode b_M_sets 27 = .ok (.iload_n 3, 1) := by decide +kernel
theorem d_M_sets_28 : decode b_M_sets 28 = .ok (.iaload, 1) := by decide +kernel
theorem d_M_sets_29 : decode b_M_sets 29 = .ok (.ifCond .ne 17, 3) := by decide +kernel
theorem d_M_sets_32 : decode b_M_sets 32 = .ok (.aload_n 0, 1) := by decide +kernel
theorem d_M_sets_33 : decode b_M_sets 33 = .ok (.getfield 13, 3) := by decide +kernel
theorem d_M_sets_36 : decode b_M_sets 36 = .ok (.iload_n 3, 1) := by decide +kernel
theorem d_M_sets_37 : decode b_M_sets 37 = .ok (.iaload, 1) := by decide +kernel
theorem d_M_sets_38 : decode b_M_sets 38 = .ok (.iload_n 1, 1) := by decide +kernel
theorem d_M_sets_39 : decode b_M_sets 39 = .ok (.if_icmp .ne 7, 3) := by decide +kernel
theorem d_M_sets_42 : decode b_M_sets 42 = .ok (.iconst 1, 1) := by decide +kernel
theorem d_M_sets_43 : decode b_M_sets 43 = .ok (.goto 4, 3) := by decide +kernel
theorem d_M_sets_46 : decode b_M_sets 46 = .ok (.iconst 0, 1) := by decide +kernel
theorem d_M_sets_47 : decode b_M_sets 47 = .ok (.iadd, 1) := by decide +kernel
theorem d_M_sets_48 : decode b_M_sets 48 = .ok (.istore_n 2, 1) := by decide +kernel
theorem d_M_sets_49 : decode b_M_sets 49 = .ok (.iinc 3 (-1), 3) := by decide +kernel
theorem d_M_sets_52 : decode b_M_sets 52 = .ok (.goto (-43), 3) := by decide +kernel
theorem d_M_sets_55 : decode b_M_sets 55 = .ok (.iload_n 2, 1) := by decide +kernel
theorem d_M_sets_56 : decode b_M_sets 56 = .ok (.ireturn, 1) := by decide +kernel
theorem d_M_setFor_0 : decode b_M_setFor 0 = .ok (.iload_n 1, 1) := by decide +kernel
theorem d_M_setFor_1 : decode b_M_setFor 1 = .ok (.iconst 1, 1) := by decide +kernel
theorem d_M_setFor_2 : decode b_M_setFor 2 = .ok (.isub, 1) := by decide +kernel
theorem d_M_setFor_3 : decode b_M_setFor 3 = .ok (.istore_n 3, 1) := by decide +kernel
theorem d_M_setFor_4 : decode b_M_setFor 4 = .ok (.iload_n 3, 1) := by decide +kernel
theorem d_M_setFor_5 : decode b_M_setFor 5 = .ok (.ifCond .lt 59, 3) := by decide +kernel
theorem d_M_setFor_8 : decode b_M_setFor 8 = .ok (.aload_n 0, 1) := by decide +kernel
theorem d_M_setFor_9 : decode b_M_setFor 9 = .ok (.iload_n 3, 1) := by decide +kernel
theorem d_M_setFor_10 : decode b_M_setFor 10 = .ok (.aload_n 0, 1) := by decide +kernel
theorem d_M_setFor_11 : decode b_M_setFor 11 = .ok (.getfield 13, 3) := by decide +kernel
theorem d_M_setFor_14 : decode b_M_setFor 14 = .ok (.iload_n 1, 1) := by decide +kernel
theorem d_M_setFor_15 : decode b_M_setFor 15 = .ok (.iaload, 1) := by decide +kernel
theorem d_M_setFor_16 : decode b_M_setFor 16 = .ok (.invokevirtual 45, 3) := by decide +kernel
theorem d_M_setFor_19 : decode b_M_setFor 19 = .ok (.ifCond .ne 45, 3) := by decide +kernel
theorem d_M_setFor_22 : decode b_M_setFor 22 = .ok (.aload_n 0, 1) := by decide +kernel
theorem d_M_setFor_23 : decode b_M_setFor 23 = .ok (.getfield 7, 3) := by decide +kernel
theorem d_M_setFor_26 : decode b_M_setFor 26 = .ok (.iload_n 3, 1) := by decide +kernel
theorem d_M_setFor_27 : decode b_M_setFor 27 = .ok (.iaload, 1) := by decide +kernel
theorem d_M_setFor_28 : decode b_M_setFor 28 = .ok (.ifCond .ne 30, 3) := by decide +kernel
theorem d_M_setFor_31 : decode b_M_setFor 31 = .ok (.aload_n 0, 1) := by decide +kernel
theorem d_M_setFor_32 : decode b_M_setFor 32 = .ok (.getfield 13, 3) := by decide +kernel
theorem d_M_setFor_35 : decode b_M_setFor 35 = .ok (.iload_n 3, 1) := by decide +kernel
theorem d_M_setFor_36 : decode b_M_setFor 36 = .ok (.iaload, 1) := by decide +kernel
theorem d_M_setFor_37 : decode b_M_setFor 37 = .ok (.aload_n 0, 1) := by decide +kernel
theorem d_M_setFor_38 : decode b_M_setFor 38 = .ok (.getfield 13, 3) := by decide +kernel
theorem d_M_setFor_41 : decode b_M_setFor 41 = .ok (.iload_n 1, 1) := by decide +kernel
theorem d_M_setFor_42 : decode b_M_setFor 42 = .ok (.iaload, 1) := by decide +kernel
theorem d_M_setFor_43 : decode b_M_setFor 43 = .ok (.if_icmp .ne 15, 3) := by decide +kernel
theorem d_M_setFor_46 : decode b_M_setFor 46 = .ok (.aload_n 0, 1) := by decide +kernel
theorem d_M_setFor_47 : decode b_M_setFor 47 = .ok (.getfield 16, 3) := by decide +kernel
theorem d_M_setFor_50 : decode b_M_setFor 50 = .ok (.iload_n 3, 1) := by decide +kernel
theorem d_M_setFor_51 : decode b_M_setFor 51 = .ok (.iaload, 1) := by decide +kernel
theorem d_M_setFor_52 : decode b_M_setFor 52 = .ok (.iload_n 2, 1) := by decide +kernel
theorem d_M_setFor_53 : decode b_M_setFor 53 = .ok (.if_icmp .ne 5, 3) := by decide +kernel
theorem d_M_setFor_56 : decode b_M_setFor 56 = .ok (.iload_n 3, 1) := by decide +kernel
theorem d_M_setFor_57 : decode b_M_setFor 57 = .ok (.ireturn, 1) := by decide +kernel
theorem d_M_setFor_58 : decode b_M_setFor 58 = .ok (.iinc 3 (-1), 3) := by decide +kernel
theorem d_M_setFor_61 : decode b_M_setFor 61 = .ok (.goto (-57), 3) := by decide +kernel
theorem d_M_setFor_64 : decode b_M_setFor 64 = .ok (.iconst (-1), 1) := by decide +kernel
theorem d_M_setFor_65 : decode b_M_setFor 65 = .ok (.ireturn, 1) := by decide +kernel
theorem d_M_valueAt_0 : decode b_M_valueAt 0 = .ok (.iload_n 2, 1) := by decide +kernel
theorem d_M_valueAt_1 : decode b_M_valueAt 1 = .ok (.iconst 1, 1) := by decide +kernel
theorem d_M_valueAt_2 : decode b_M_valueAt 2 = .ok (.isub, 1) := by decide +kernel
theorem d_M_valueAt_3 : decode b_M_valueAt 3 = .ok (.istore_n 3, 1) := by decide +kernel
theorem d_M_valueAt_4 : decode b_M_valueAt 4 = .ok (.iload_n 3, 1) := by decide +kernel
theorem d_M_valueAt_5 : decode b_M_valueAt 5 = .ok (.ifCond .lt 40, 3) := by decide +kernel
theorem d_M_valueAt_8 : decode b_M_valueAt 8 = .ok (.aload_n 0, 1) := by decide +kernel
theorem d_M_valueAt_9 : decode b_M_valueAt 9 = .ok (.getfield 7, 3) := by decide +kernel
theorem d_M_valueAt_12 : decode b_M_valueAt 12 = .ok (.iload_n 3, 1) := by decide +kernel
theorem d_M_valueAt_13 : decode b_M_valueAt 13 = .ok (.iaload, 1) := by decide +kernel
theorem d_M_valueAt_14 : decode b_M_valueAt 14 = .ok (.iconst 1, 1) := by decide +kernel
theorem d_M_valueAt_15 : decode b_M_valueAt 15 = .ok (.if_icmp .ne 24, 3) := by decide +kernel
theorem d_M_valueAt_18 : decode b_M_valueAt 18 = .ok (.aload_n 0, 1) := by decide +kernel
theorem d_M_valueAt_19 : decode b_M_valueAt 19 = .ok (.iload_n 3, 1) := by decide +kernel
theorem d_M_valueAt_20 : decode b_M_valueAt 20 = .ok (.iload_n 1, 1) := by decide +kernel
theorem d_M_valueAt_21 : decode b_M_valueAt 21 = .ok (.invokevirtual 49, 3) := by decide +kernel
theorem d_M_valueAt_24 : decode b_M_valueAt 24 = .ok (.istore 4, 2) := by decide +kernel
theorem d_M_valueAt_26 : decode b_M_valueAt 26 = .ok (.iload 4, 2) := by decide +kernel
theorem d_M_valueAt_28 : decode b_M_valueAt 28 = .ok (.ifCond .lt 11, 3) := by decide +kernel
theorem d_M_valueAt_31 : decode b_M_valueAt 31 = .ok (.aload_n 0, 1) := by decide +kernel
theorem d_M_valueAt_32 : decode b_M_valueAt 32 = .ok (.getfield 19, 3) := by decide +kernel
theorem d_M_valueAt_35 : decode b_M_valueAt 35 = .ok (.iload 4, 2) := by decide +kernel
theorem d_M_valueAt_37 : decode b_M_valueAt 37 = .ok (.iaload, 1) := by decide +kernel
theorem d_M_valueAt_38 : decode b_M_valueAt 38 = .ok (.ireturn, 1) := by decide +kernel
theorem d_M_valueAt_39 : decode b_M_valueAt 39 = .ok (.iinc 3 (-1), 3) := by decide +kernel
theorem d_M_valueAt_42 : decode b_M_valueAt 42 = .ok (.goto (-38), 3) := by decide +kernel
theorem d_M_valueAt_45 : decode b_M_valueAt 45 = .ok (.iconst 0, 1) := by decide +kernel
theorem d_M_valueAt_46 : decode b_M_valueAt 46 = .ok (.ireturn, 1) := by decide +kernel
theorem d_M_transactionOk_0 : decode b_M_transactionOk 0 = .ok (.iload_n 0, 1) := by decide +kernel
theorem d_M_transactionOk_1 : decode b_M_transactionOk 1 = .ok (.ifCond .lt 12, 3) := by decide +kernel
theorem d_M_transactionOk_4 : decode b_M_transactionOk 4 = .ok (.iload_n 0, 1) := by decide +kernel
theorem d_M_transactionOk_5 : decode b_M_transactionOk 5 = .ok (.iconst 2, 1) := by decide +kernel
theorem d_M_transactionOk_6 : decode b_M_transactionOk 6 = .ok (.if_icmp .gt 7, 3) := by decide +kernel
theorem d_M_transactionOk_9 : decode b_M_transactionOk 9 = .ok (.iconst 1, 1) := by decide +kernel
theorem d_M_transactionOk_10 : decode b_M_transactionOk 10 = .ok (.goto 4, 3) := by decide +kernel
theorem d_M_transactionOk_13 : decode b_M_transactionOk 13 = .ok (.iconst 0, 1) := by decide +kernel
theorem d_M_transactionOk_14 : decode b_M_transactionOk 14 = .ok (.ireturn, 1) := by decide +kernel
theorem d_M_set_0 : decode b_M_set 0 = .ok (.iload_n 1, 1) := by decide +kernel
theorem d_M_set_1 : decode b_M_set 1 = .ok (.invokestatic 53, 3) := by decide +kernel
theorem d_M_set_4 : decode b_M_set 4 = .ok (.ifCond .eq 13, 3) := by decide +kernel
theorem d_M_set_7 : decode b_M_set 7 = .ok (.iload_n 2, 1) := by decide +kernel
theorem d_M_set_8 : decode b_M_set 8 = .ok (.ifCond .lt 9, 3) := by decide +kernel
theorem d_M_set_11 : decode b_M_set 11 = .ok (.iload_n 2, 1) := by decide +kernel
theorem d_M_set_12 : decode b_M_set 12 = .ok (.bipush 31, 2) := by decide +kernel
theorem d_M_set_14 : decode b_M_set 14 = .ok (.if_icmp .le 5, 3) := by decide +kernel
theorem d_M_set_17 : decode b_M_set 17 = .ok (.iconst (-1), 1) := by decide +kernel
theorem d_M_set_18 : decode b_M_set 18 = .ok (.ireturn, 1) := by decide +kernel
theorem d_M_set_19 : decode b_M_set 19 = .ok (.aload_n 0, 1) := by decide +kernel
theorem d_M_set_20 : decode b_M_set 20 = .ok (.iload_n 1, 1) := by decide +kernel
theorem d_M_set_21 : decode b_M_set 21 = .ok (.invokevirtual 57, 3) := by decide +kernel
theorem d_M_set_24 : decode b_M_set 24 = .ok (.iconst 4, 1) := by decide +kernel
theorem d_M_set_25 : decode b_M_set 25 = .ok (.if_icmp .ne 6, 3) := by decide +kernel
theorem d_M_set_28 : decode b_M_set 28 = .ok (.bipush (-2), 2) := by decide +kernel
theorem d_M_set_30 : decode b_M_set 30 = .ok (.ireturn, 1) := by decide +kernel
theorem d_M_set_31 : decode b_M_set 31 = .ok (.aload_n 0, 1) := by decide +kernel
theorem d_M_set_32 : decode b_M_set 32 = .ok (.iconst 0, 1) := by decide +kernel
theorem d_M_set_33 : decode b_M_set 33 = .ok (.iload_n 1, 1) := by decide +kernel
theorem d_M_set_34 : decode b_M_set 34 = .ok (.iload_n 2, 1) := by decide +kernel
theorem d_M_set_35 : decode b_M_set 35 = .ok (.iload_n 3, 1) := by decide +kernel
theorem d_M_set_36 : decode b_M_set 36 = .ok (.invokevirtual 61, 3) := by decide +kernel
theorem d_M_set_39 : decode b_M_set 39 = .ok (.ireturn, 1) := by decide +kernel
theorem d_M_end_0 : decode b_M_end 0 = .ok (.iload_n 1, 1) := by decide +kernel
theorem d_M_end_1 : decode b_M_end 1 = .ok (.invokestatic 53, 3) := by decide +kernel
theorem d_M_end_4 : decode b_M_end 4 = .ok (.ifCond .ne 5, 3) := by decide +kernel
theorem d_M_end_7 : decode b_M_end 7 = .ok (.iconst (-1), 1) := by decide +kernel
theorem d_M_end_8 : decode b_M_end 8 = .ok (.ireturn, 1) := by decide +kernel
theorem d_M_end_9 : decode b_M_end 9 = .ok (.aload_n 0, 1) := by decide +kernel
theorem d_M_end_10 : decode b_M_end 10 = .ok (.iload_n 1, 1) := by decide +kernel
theorem d_M_end_11 : decode b_M_end 11 = .ok (.aload_n 0, 1) := by decide +kernel
theorem d_M_end_12 : decode b_M_end 12 = .ok (.getfield 41, 3) := by decide +kernel
theorem d_M_end_15 : decode b_M_end 15 = .ok (.invokevirtual 65, 3) := by decide +kernel
theorem d_M_end_18 : decode b_M_end 18 = .ok (.ifCond .ge 6, 3) := by decide +kernel
theorem d_M_end_21 : decode b_M_end 21 = .ok (.bipush (-3), 2) := by decide +kernel
theorem d_M_end_23 : decode b_M_end 23 = .ok (.ireturn, 1) := by decide +kernel
theorem d_M_end_24 : decode b_M_end 24 = .ok (.aload_n 0, 1) := by decide +kernel
theorem d_M_end_25 : decode b_M_end 25 = .ok (.iload_n 2, 1) := by decide +kernel
theorem d_M_end_26 : decode b_M_end 26 = .ok (.iload_n 1, 1) := by decide +kernel
theorem d_M_end_27 : decode b_M_end 27 = .ok (.iconst 0, 1) := by decide +kernel
theorem d_M_end_28 : decode b_M_end 28 = .ok (.iconst 0, 1) := by decide +kernel
theorem d_M_end_29 : decode b_M_end 29 = .ok (.invokevirtual 61, 3) := by decide +kernel
theorem d_M_end_32 : decode b_M_end 32 = .ok (.ireturn, 1) := by decide +kernel
theorem d_M_commit_0 : decode b_M_commit 0 = .ok (.aload_n 0, 1) := by decide +kernel
theorem d_M_commit_1 : decode b_M_commit 1 = .ok (.iload_n 1, 1) := by decide +kernel
theorem d_M_commit_2 : decode b_M_commit 2 = .ok (.iconst 1, 1) := by decide +kernel
theorem d_M_commit_3 : decode b_M_commit 3 = .ok (.invokevirtual 68, 3) := by decide +kernel
theorem d_M_commit_6 : decode b_M_commit 6 = .ok (.ireturn, 1) := by decide +kernel
theorem d_M_abort_0 : decode b_M_abort 0 = .ok (.aload_n 0, 1) := by decide +kernel
theorem d_M_abort_1 : decode b_M_abort 1 = .ok (.iload_n 1, 1) := by decide +kernel
theorem d_M_abort_2 : decode b_M_abort 2 = .ok (.iconst 2, 1) := by decide +kernel
theorem d_M_abort_3 : decode b_M_abort 3 = .ok (.invokevirtual 68, 3) := by decide +kernel
theorem d_M_abort_6 : decode b_M_abort 6 = .ok (.ireturn, 1) := by decide +kernel
theorem d_M_get_0 : decode b_M_get 0 = .ok (.iload_n 1, 1) := by decide +kernel
theorem d_M_get_1 : decode b_M_get 1 = .ok (.ifCond .lt 9, 3) := by decide +kernel
theorem d_M_get_4 : decode b_M_get 4 = .ok (.iload_n 1, 1) := by decide +kernel
theorem d_M_get_5 : decode b_M_get 5 = .ok (.bipush 31, 2) := by decide +kernel
theorem d_M_get_7 : decode b_M_get 7 = .ok (.if_icmp .le 7, 3) := by decide +kernel
theorem d_M_get_10 : decode b_M_get 10 = .ok (.iconst 0, 1) := by decide +kernel
theorem d_M_get_11 : decode b_M_get 11 = .ok (.goto 12, 3) := by decide +kernel
theorem d_M_get_14 : decode b_M_get 14 = .ok (.aload_n 0, 1) := by decide +kernel
theorem d_M_get_15 : decode b_M_get 15 = .ok (.iload_n 1, 1) := by decide +kernel
theorem d_M_get_16 : decode b_M_get 16 = .ok (.aload_n 0, 1) := by decide +kernel
theorem d_M_get_17 : decode b_M_get 17 = .ok (.getfield 41, 3) := by decide +kernel
theorem d_M_get_20 : decode b_M_get 20 = .ok (.invokevirtual 71, 3) := by decide +kernel
theorem d_M_get_23 : decode b_M_get 23 = .ok (.ireturn, 1) := by decide +kernel
theorem d_M_sync_0 : decode b_M_sync 0 = .ok (.aload_n 0, 1) := by decide +kernel
theorem d_M_sync_1 : decode b_M_sync 1 = .ok (.getfield 41, 3) := by decide +kernel
theorem d_M_sync_4 : decode b_M_sync 4 = .ok (.aload_n 0, 1) := by decide +kernel
theorem d_M_sync_5 : decode b_M_sync 5 = .ok (.getfield 74, 3) := by decide +kernel
theorem d_M_sync_8 : decode b_M_sync 8 = .ok (.isub, 1) := by decide +kernel
theorem d_M_sync_9 : decode b_M_sync 9 = .ok (.istore_n 1, 1) := by decide +kernel
theorem d_M_sync_10 : decode b_M_sync 10 = .ok (.aload_n 0, 1) := by decide +kernel
theorem d_M_sync_11 : decode b_M_sync 11 = .ok (.aload_n 0, 1) := by decide +kernel
theorem d_M_sync_12 : decode b_M_sync 12 = .ok (.getfield 41, 3) := by decide +kernel
theorem d_M_sync_15 : decode b_M_sync 15 = .ok (.putfield 74, 3) := by decide +kernel
theorem d_M_sync_18 : decode b_M_sync 18 = .ok (.iload_n 1, 1) := by decide +kernel
theorem d_M_sync_19 : decode b_M_sync 19 = .ok (.ireturn, 1) := by decide +kernel
theorem d_M_waiting_0 : decode b_M_waiting 0 = .ok (.aload_n 0, 1) := by decide +kernel
theorem d_M_waiting_1 : decode b_M_waiting 1 = .ok (.getfield 41, 3) := by decide +kernel
theorem d_M_waiting_4 : decode b_M_waiting 4 = .ok (.iconst 1, 1) := by decide +kernel
theorem d_M_waiting_5 : decode b_M_waiting 5 = .ok (.isub, 1) := by decide +kernel
theorem d_M_waiting_6 : decode b_M_waiting 6 = .ok (.istore_n 2, 1) := by decide +kernel
theorem d_M_waiting_7 : decode b_M_waiting 7 = .ok (.iload_n 2, 1) := by decide +kernel
theorem d_M_waiting_8 : decode b_M_waiting 8 = .ok (.aload_n 0, 1) := by decide +kernel
theorem d_M_waiting_9 : decode b_M_waiting 9 = .ok (.getfield 22, 3) := by decide +kernel
theorem d_M_waiting_12 : decode b_M_waiting 12 = .ok (.iload_n 1, 1) := by decide +kernel
theorem d_M_waiting_13 : decode b_M_waiting 13 = .ok (.iaload, 1) := by decide +kernel
theorem d_M_waiting_14 : decode b_M_waiting 14 = .ok (.if_icmp .lt 70, 3) := by decide +kernel
theorem d_M_waiting_17 : decode b_M_waiting 17 = .ok (.iconst 0, 1) := by decide +kernel
theorem d_M_waiting_18 : decode b_M_waiting 18 = .ok (.istore_n 3, 1) := by decide +kernel
theorem d_M_waiting_19 : decode b_M_waiting 19 = .ok (.iconst 4, 1) := by decide +kernel
theorem d_M_waiting_20 : decode b_M_waiting 20 = .ok (.iload_n 1, 1) := by decide +kernel
theorem d_M_waiting_21 : decode b_M_waiting 21 = .ok (.imul, 1) := by decide +kernel
theorem d_M_waiting_22 : decode b_M_waiting 22 = .ok (.istore 4, 2) := by decide +kernel
theorem d_M_waiting_24 : decode b_M_waiting 24 = .ok (.iload 4, 2) := by decide +kernel
theorem d_M_waiting_26 : decode b_M_waiting 26 = .ok (.iconst 4, 1) := by decide +kernel
theorem d_M_waiting_27 : decode b_M_waiting 27 = .ok (.iload_n 1, 1) := by decide +kernel
theorem d_M_waiting_28 : decode b_M_waiting 28 = .ok (.imul, 1) := by decide +kernel
theorem d_M_waiting_29 : decode b_M_waiting 29 = .ok (.iconst 4, 1) := by decide +kernel
theorem d_M_waiting_30 : decode b_M_waiting 30 = .ok (.iadd, 1) := by decide +kernel
theorem d_M_waiting_31 : decode b_M_waiting 31 = .ok (.if_icmp .ge 39, 3) := by decide +kernel
theorem d_M_waiting_34 : decode b_M_waiting 34 = .ok (.iload_n 3, 1) := by decide +kernel
theorem d_M_waiting_35 : decode b_M_waiting 35 = .ok (.ifCond .ne 23, 3) := by decide +kernel
theorem d_M_waiting_38 : decode b_M_waiting 38 = .ok (.aload_n 0, 1) := by decide +kernel
theorem d_M_waiting_39 : decode b_M_waiting 39 = .ok (.getfield 7, 3) := by decide +kernel
theorem d_M_waiting_42 : decode b_M_waiting 42 = .ok (.iload_n 2, 1) := by decide +kernel
theorem d_M_waiting_43 : decode b_M_waiting 43 = .ok (.iaload, 1) := by decide +kernel
theorem d_M_waiting_44 : decode b_M_waiting 44 = .ok (.iconst 1, 1) := by decide +kernel
theorem d_M_waiting_45 : decode b_M_waiting 45 = .ok (.if_icmp .ne 17, 3) := by decide +kernel
theorem d_M_waiting_48 : decode b_M_waiting 48 = .ok (.aload_n 0, 1) := by decide +kernel
theorem d_M_waiting_49 : decode b_M_waiting 49 = .ok (.iload_n 2, 1) := by decide +kernel
theorem d_M_waiting_50 : decode b_M_waiting 50 = .ok (.iload 4, 2) := by decide +kernel
theorem d_M_waiting_52 : decode b_M_waiting 52 = .ok (.invokevirtual 49, 3) := by decide +kernel
theorem d_M_waiting_55 : decode b_M_waiting 55 = .ok (.ifCond .lt 7, 3) := by decide +kernel
theorem d_M_waiting_58 : decode b_M_waiting 58 = .ok (.iconst 1, 1) := by decide +kernel
theorem d_M_waiting_59 : decode b_M_waiting 59 = .ok (.goto 4, 3) := by decide +kernel
theorem d_M_waiting_62 : decode b_M_waiting 62 = .ok (.iconst 0, 1) := by decide +kernel
theorem d_M_waiting_63 : decode b_M_waiting 63 = .ok (.istore_n 3, 1) := by decide +kernel
theorem d_M_waiting_64 : decode b_M_waiting 64 = .ok (.iinc 4 1, 3) := by decide +kernel
theorem d_M_waiting_67 : decode b_M_waiting 67 = .ok (.goto (-43), 3) := by decide +kernel
theorem d_M_waiting_70 : decode b_M_waiting 70 = .ok (.iload_n 3, 1) := by decide +kernel
theorem d_M_waiting_71 : decode b_M_waiting 71 = .ok (.ifCond .eq 7, 3) := by decide +kernel
theorem d_M_waiting_74 : decode b_M_waiting 74 = .ok (.iload_n 2, 1) := by decide +kernel
theorem d_M_waiting_75 : decode b_M_waiting 75 = .ok (.iconst 1, 1) := by decide +kernel
theorem d_M_waiting_76 : decode b_M_waiting 76 = .ok (.iadd, 1) := by decide +kernel
theorem d_M_waiting_77 : decode b_M_waiting 77 = .ok (.ireturn, 1) := by decide +kernel
theorem d_M_waiting_78 : decode b_M_waiting 78 = .ok (.iinc 2 (-1), 3) := by decide +kernel
theorem d_M_waiting_81 : decode b_M_waiting 81 = .ok (.goto (-74), 3) := by decide +kernel
theorem d_M_waiting_84 : decode b_M_waiting 84 = .ok (.iconst 0, 1) := by decide +kernel
theorem d_M_waiting_85 : decode b_M_waiting 85 = .ok (.ireturn, 1) := by decide +kernel
theorem d_M_flush_0 : decode b_M_flush 0 = .ok (.iload_n 1, 1) := by decide +kernel
theorem d_M_flush_1 : decode b_M_flush 1 = .ok (.ifCond .lt 9, 3) := by decide +kernel
theorem d_M_flush_4 : decode b_M_flush 4 = .ok (.iload_n 1, 1) := by decide +kernel
theorem d_M_flush_5 : decode b_M_flush 5 = .ok (.bipush 7, 2) := by decide +kernel
theorem d_M_flush_7 : decode b_M_flush 7 = .ok (.if_icmp .le 5, 3) := by decide +kernel
theorem d_M_flush_10 : decode b_M_flush 10 = .ok (.iconst (-1), 1) := by decide +kernel
theorem d_M_flush_11 : decode b_M_flush 11 = .ok (.ireturn, 1) := by decide +kernel
theorem d_M_flush_12 : decode b_M_flush 12 = .ok (.aload_n 0, 1) := by decide +kernel
theorem d_M_flush_13 : decode b_M_flush 13 = .ok (.iload_n 1, 1) := by decide +kernel
theorem d_M_flush_14 : decode b_M_flush 14 = .ok (.invokevirtual 77, 3) := by decide +kernel
theorem d_M_flush_17 : decode b_M_flush 17 = .ok (.istore_n 2, 1) := by decide +kernel
theorem d_M_flush_18 : decode b_M_flush 18 = .ok (.iload_n 2, 1) := by decide +kernel
theorem d_M_flush_19 : decode b_M_flush 19 = .ok (.ifCond .ne 5, 3) := by decide +kernel
theorem d_M_flush_22 : decode b_M_flush 22 = .ok (.iconst 0, 1) := by decide +kernel
theorem d_M_flush_23 : decode b_M_flush 23 = .ok (.ireturn, 1) := by decide +kernel
theorem d_M_flush_24 : decode b_M_flush 24 = .ok (.aload_n 0, 1) := by decide +kernel
theorem d_M_flush_25 : decode b_M_flush 25 = .ok (.iload_n 2, 1) := by decide +kernel
theorem d_M_flush_26 : decode b_M_flush 26 = .ok (.aload_n 0, 1) := by decide +kernel
theorem d_M_flush_27 : decode b_M_flush 27 = .ok (.getfield 74, 3) := by decide +kernel
theorem d_M_flush_30 : decode b_M_flush 30 = .ok (.if_icmp .le 10, 3) := by decide +kernel
theorem d_M_flush_33 : decode b_M_flush 33 = .ok (.aload_n 0, 1) := by decide +kernel
theorem d_M_flush_34 : decode b_M_flush 34 = .ok (.getfield 41, 3) := by decide +kernel
theorem d_M_flush_37 : decode b_M_flush 37 = .ok (.goto 7, 3) := by decide +kernel
theorem d_M_flush_40 : decode b_M_flush 40 = .ok (.aload_n 0, 1) := by decide +kernel
theorem d_M_flush_41 : decode b_M_flush 41 = .ok (.getfield 74, 3) := by decide +kernel
theorem d_M_flush_44 : decode b_M_flush 44 = .ok (.putfield 74, 3) := by decide +kernel
theorem d_M_flush_47 : decode b_M_flush 47 = .ok (.aload_n 0, 1) := by decide +kernel
theorem d_M_flush_48 : decode b_M_flush 48 = .ok (.getfield 22, 3) := by decide +kernel
theorem d_M_flush_51 : decode b_M_flush 51 = .ok (.iload_n 1, 1) := by decide +kernel
theorem d_M_flush_52 : decode b_M_flush 52 = .ok (.aload_n 0, 1) := by decide +kernel
theorem d_M_flush_53 : decode b_M_flush 53 = .ok (.getfield 41, 3) := by decide +kernel
theorem d_M_flush_56 : decode b_M_flush 56 = .ok (.iastore, 1) := by decide +kernel
theorem d_M_flush_57 : decode b_M_flush 57 = .ok (.iconst 1, 1) := by decide +kernel
theorem d_M_flush_58 : decode b_M_flush 58 = .ok (.ireturn, 1) := by decide +kernel
theorem d_M_checkpoint_0 : decode b_M_checkpoint 0 = .ok (.aload_n 0, 1) := by decide +kernel
theorem d_M_checkpoint_1 : decode b_M_checkpoint 1 = .ok (.aload_n 0, 1) := by decide +kernel
theorem d_M_checkpoint_2 : decode b_M_checkpoint 2 = .ok (.getfield 41, 3) := by decide +kernel
theorem d_M_checkpoint_5 : decode b_M_checkpoint 5 = .ok (.putfield 74, 3) := by decide +kernel
theorem d_M_checkpoint_8 : decode b_M_checkpoint 8 = .ok (.iconst 0, 1) := by decide +kernel
theorem d_M_checkpoint_9 : decode b_M_checkpoint 9 = .ok (.istore_n 1, 1) := by decide +kernel
theorem d_M_checkpoint_10 : decode b_M_checkpoint 10 = .ok (.iload_n 1, 1) := by decide +kernel
theorem d_M_checkpoint_11 : decode b_M_checkpoint 11 = .ok (.bipush 8, 2) := by decide +kernel
theorem d_M_checkpoint_13 : decode b_M_checkpoint 13 = .ok (.if_icmp .ge 19, 3) := by decide +kernel
theorem d_M_checkpoint_16 : decode b_M_checkpoint 16 = .ok (.aload_n 0, 1) := by decide +kernel
theorem d_M_checkpoint_17 : decode b_M_checkpoint 17 = .ok (.getfield 22, 3) := by decide +kernel
theorem d_M_checkpoint_20 : decode b_M_checkpoint 20 = .ok (.iload_n 1, 1) := by decide +kernel
theorem d_M_checkpoint_21 : decode b_M_checkpoint 21 = .ok (.aload_n 0, 1) := by decide +kernel
theorem d_M_checkpoint_22 : decode b_M_checkpoint 22 = .ok (.getfield 41, 3) := by decide +kernel
theorem d_M_checkpoint_25 : decode b_M_checkpoint 25 = .ok (.iastore, 1) := by decide +kernel
theorem d_M_checkpoint_26 : decode b_M_checkpoint 26 = .ok (.iinc 1 1, 3) := by decide +kernel
theorem d_M_checkpoint_29 : decode b_M_checkpoint 29 = .ok (.goto (-19), 3) := by decide +kernel
theorem d_M_checkpoint_32 : decode b_M_checkpoint 32 = .ok (.aload_n 0, 1) := by decide +kernel
theorem d_M_checkpoint_33 : decode b_M_checkpoint 33 = .ok (.getfield 41, 3) := by decide +kernel
theorem d_M_checkpoint_36 : decode b_M_checkpoint 36 = .ok (.istore_n 1, 1) := by decide +kernel
theorem d_M_checkpoint_37 : decode b_M_checkpoint 37 = .ok (.iconst 0, 1) := by decide +kernel
theorem d_M_checkpoint_38 : decode b_M_checkpoint 38 = .ok (.istore_n 2, 1) := by decide +kernel
theorem d_M_checkpoint_39 : decode b_M_checkpoint 39 = .ok (.iload_n 2, 1) := by decide +kernel
theorem d_M_checkpoint_40 : decode b_M_checkpoint 40 = .ok (.iconst 3, 1) := by decide +kernel
theorem d_M_checkpoint_41 : decode b_M_checkpoint 41 = .ok (.if_icmp .ge 34, 3) := by decide +kernel
theorem d_M_checkpoint_44 : decode b_M_checkpoint 44 = .ok (.aload_n 0, 1) := by decide +kernel
theorem d_M_checkpoint_45 : decode b_M_checkpoint 45 = .ok (.iload_n 2, 1) := by decide +kernel
theorem d_M_checkpoint_46 : decode b_M_checkpoint 46 = .ok (.aload_n 0, 1) := by decide +kernel
theorem d_M_checkpoint_47 : decode b_M_checkpoint 47 = .ok (.getfield 41, 3) := by decide +kernel
theorem d_M_checkpoint_50 : decode b_M_checkpoint 50 = .ok (.invokevirtual 65, 3) := by decide +kernel
theorem d_M_checkpoint_53 : decode b_M_checkpoint 53 = .ok (.istore_n 3, 1) := by decide +kernel
theorem d_M_checkpoint_54 : decode b_M_checkpoint 54 = .ok (.iload_n 3, 1) := by decide +kernel
theorem d_M_checkpoint_55 : decode b_M_checkpoint 55 = .ok (.ifCond .lt 12, 3) := by decide +kernel
theorem d_M_checkpoint_58 : decode b_M_checkpoint 58 = .ok (.iload_n 3, 1) := by decide +kernel
theorem d_M_checkpoint_59 : decode b_M_checkpoint 59 = .ok (.iload_n 1, 1) := by decide +kernel
theorem d_M_checkpoint_60 : decode b_M_checkpoint 60 = .ok (.if_icmp .ge 7, 3) := by decide +kernel
theorem d_M_checkpoint_63 : decode b_M_checkpoint 63 = .ok (.iload_n 3, 1) := by decide +kernel
theorem d_M_checkpoint_64 : decode b_M_checkpoint 64 = .ok (.goto 4, 3) := by decide +kernel
theorem d_M_checkpoint_67 : decode b_M_checkpoint 67 = .ok (.iload_n 1, 1) := by decide +kernel
theorem d_M_checkpoint_68 : decode b_M_checkpoint 68 = .ok (.istore_n 1, 1) := by decide +kernel
theorem d_M_checkpoint_69 : decode b_M_checkpoint 69 = .ok (.iinc 2 1, 3) := by decide +kernel
theorem d_M_checkpoint_72 : decode b_M_checkpoint 72 = .ok (.goto (-33), 3) := by decide +kernel
theorem d_M_checkpoint_75 : decode b_M_checkpoint 75 = .ok (.iload_n 1, 1) := by decide +kernel
theorem d_M_checkpoint_76 : decode b_M_checkpoint 76 = .ok (.ireturn, 1) := by decide +kernel
theorem d_M_crash_0 : decode b_M_crash 0 = .ok (.aload_n 0, 1) := by decide +kernel
theorem d_M_crash_1 : decode b_M_crash 1 = .ok (.getfield 41, 3) := by decide +kernel
theorem d_M_crash_4 : decode b_M_crash 4 = .ok (.aload_n 0, 1) := by decide +kernel
theorem d_M_crash_5 : decode b_M_crash 5 = .ok (.getfield 74, 3) := by decide +kernel
theorem d_M_crash_8 : decode b_M_crash 8 = .ok (.isub, 1) := by decide +kernel
theorem d_M_crash_9 : decode b_M_crash 9 = .ok (.istore_n 1, 1) := by decide +kernel
theorem d_M_crash_10 : decode b_M_crash 10 = .ok (.aload_n 0, 1) := by decide +kernel
theorem d_M_crash_11 : decode b_M_crash 11 = .ok (.aload_n 0, 1) := by decide +kernel
theorem d_M_crash_12 : decode b_M_crash 12 = .ok (.getfield 74, 3) := by decide +kernel
theorem d_M_crash_15 : decode b_M_crash 15 = .ok (.putfield 41, 3) := by decide +kernel
theorem d_M_crash_18 : decode b_M_crash 18 = .ok (.iconst 0, 1) := by decide +kernel
theorem d_M_crash_19 : decode b_M_crash 19 = .ok (.istore_n 2, 1) := by decide +kernel
theorem d_M_crash_20 : decode b_M_crash 20 = .ok (.iload_n 2, 1) := by decide +kernel
theorem d_M_crash_21 : decode b_M_crash 21 = .ok (.bipush 8, 2) := by decide +kernel
theorem d_M_crash_23 : decode b_M_crash 23 = .ok (.if_icmp .ge 41, 3) := by decide +kernel
theorem d_M_crash_26 : decode b_M_crash 26 = .ok (.aload_n 0, 1) := by decide +kernel
theorem d_M_crash_27 : decode b_M_crash 27 = .ok (.getfield 22, 3) := by decide +kernel
theorem d_M_crash_30 : decode b_M_crash 30 = .ok (.iload_n 2, 1) := by decide +kernel
theorem d_M_crash_31 : decode b_M_crash 31 = .ok (.aload_n 0, 1) := by decide +kernel
theorem d_M_crash_32 : decode b_M_crash 32 = .ok (.getfield 22, 3) := by decide +kernel
theorem d_M_crash_35 : decode b_M_crash 35 = .ok (.iload_n 2, 1) := by decide +kernel
theorem d_M_crash_36 : decode b_M_crash 36 = .ok (.iaload, 1) := by decide +kernel
theorem d_M_crash_37 : decode b_M_crash 37 = .ok (.aload_n 0, 1) := by decide +kernel
theorem d_M_crash_38 : decode b_M_crash 38 = .ok (.getfield 41, 3) := by decide +kernel
theorem d_M_crash_41 : decode b_M_crash 41 = .ok (.if_icmp .ge 12, 3) := by decide +kernel
theorem d_M_crash_44 : decode b_M_crash 44 = .ok (.aload_n 0, 1) := by decide +kernel
theorem d_M_crash_45 : decode b_M_crash 45 = .ok (.getfield 22, 3) := by decide +kernel
theorem d_M_crash_48 : decode b_M_crash 48 = .ok (.iload_n 2, 1) := by decide +kernel
theorem d_M_crash_49 : decode b_M_crash 49 = .ok (.iaload, 1) := by decide +kernel
theorem d_M_crash_50 : decode b_M_crash 50 = .ok (.goto 7, 3) := by decide +kernel
theorem d_M_crash_53 : decode b_M_crash 53 = .ok (.aload_n 0, 1) := by decide +kernel
theorem d_M_crash_54 : decode b_M_crash 54 = .ok (.getfield 41, 3) := by decide +kernel
theorem d_M_crash_57 : decode b_M_crash 57 = .ok (.iastore, 1) := by decide +kernel
theorem d_M_crash_58 : decode b_M_crash 58 = .ok (.iinc 2 1, 3) := by decide +kernel
theorem d_M_crash_61 : decode b_M_crash 61 = .ok (.goto (-41), 3) := by decide +kernel
theorem d_M_crash_64 : decode b_M_crash 64 = .ok (.iconst 0, 1) := by decide +kernel
theorem d_M_crash_65 : decode b_M_crash 65 = .ok (.istore_n 2, 1) := by decide +kernel
theorem d_M_crash_66 : decode b_M_crash 66 = .ok (.iload_n 2, 1) := by decide +kernel
theorem d_M_crash_67 : decode b_M_crash 67 = .ok (.iconst 3, 1) := by decide +kernel
theorem d_M_crash_68 : decode b_M_crash 68 = .ok (.if_icmp .ge 35, 3) := by decide +kernel
theorem d_M_crash_71 : decode b_M_crash 71 = .ok (.aload_n 0, 1) := by decide +kernel
theorem d_M_crash_72 : decode b_M_crash 72 = .ok (.getfield 25, 3) := by decide +kernel
theorem d_M_crash_75 : decode b_M_crash 75 = .ok (.iload_n 2, 1) := by decide +kernel
theorem d_M_crash_76 : decode b_M_crash 76 = .ok (.aload_n 0, 1) := by decide +kernel
theorem d_M_crash_77 : decode b_M_crash 77 = .ok (.getfield 25, 3) := by decide +kernel
theorem d_M_crash_80 : decode b_M_crash 80 = .ok (.iload_n 2, 1) := by decide +kernel
theorem d_M_crash_81 : decode b_M_crash 81 = .ok (.iaload, 1) := by decide +kernel
theorem d_M_crash_82 : decode b_M_crash 82 = .ok (.iconst 1, 1) := by decide +kernel
theorem d_M_crash_83 : decode b_M_crash 83 = .ok (.if_icmp .ne 7, 3) := by decide +kernel
theorem d_M_crash_86 : decode b_M_crash 86 = .ok (.iconst 0, 1) := by decide +kernel
theorem d_M_crash_87 : decode b_M_crash 87 = .ok (.goto 9, 3) := by decide +kernel
theorem d_M_crash_90 : decode b_M_crash 90 = .ok (.aload_n 0, 1) := by decide +kernel
theorem d_M_crash_91 : decode b_M_crash 91 = .ok (.getfield 25, 3) := by decide +kernel
theorem d_M_crash_94 : decode b_M_crash 94 = .ok (.iload_n 2, 1) := by decide +kernel
theorem d_M_crash_95 : decode b_M_crash 95 = .ok (.iaload, 1) := by decide +kernel
theorem d_M_crash_96 : decode b_M_crash 96 = .ok (.iastore, 1) := by decide +kernel
theorem d_M_crash_97 : decode b_M_crash 97 = .ok (.iinc 2 1, 3) := by decide +kernel
theorem d_M_crash_100 : decode b_M_crash 100 = .ok (.goto (-34), 3) := by decide +kernel
theorem d_M_crash_103 : decode b_M_crash 103 = .ok (.aload_n 0, 1) := by decide +kernel
theorem d_M_crash_104 : decode b_M_crash 104 = .ok (.aload_n 0, 1) := by decide +kernel
theorem d_M_crash_105 : decode b_M_crash 105 = .ok (.iconst 3, 1) := by decide +kernel
theorem d_M_crash_106 : decode b_M_crash 106 = .ok (.iconst (-1), 1) := by decide +kernel
theorem d_M_crash_107 : decode b_M_crash 107 = .ok (.iconst 0, 1) := by decide +kernel
theorem d_M_crash_108 : decode b_M_crash 108 = .ok (.iconst 0, 1) := by decide +kernel
theorem d_M_crash_109 : decode b_M_crash 109 = .ok (.invokevirtual 61, 3) := by decide +kernel
theorem d_M_crash_112 : decode b_M_crash 112 = .ok (.putfield 74, 3) := by decide +kernel
theorem d_M_crash_115 : decode b_M_crash 115 = .ok (.iload_n 1, 1) := by decide +kernel
theorem d_M_crash_116 : decode b_M_crash 116 = .ok (.ireturn, 1) := by decide +kernel
theorem d_M_copying_0 : decode b_M_copying 0 = .ok (.iconst 0, 1) := by decide +kernel
theorem d_M_copying_1 : decode b_M_copying 1 = .ok (.istore_n 1, 1) := by decide +kernel
theorem d_M_copying_2 : decode b_M_copying 2 = .ok (.iload_n 1, 1) := by decide +kernel
theorem d_M_copying_3 : decode b_M_copying 3 = .ok (.iconst 3, 1) := by decide +kernel
theorem d_M_copying_4 : decode b_M_copying 4 = .ok (.if_icmp .ge 21, 3) := by decide +kernel
theorem d_M_copying_7 : decode b_M_copying 7 = .ok (.aload_n 0, 1) := by decide +kernel
theorem d_M_copying_8 : decode b_M_copying 8 = .ok (.getfield 25, 3) := by decide +kernel
theorem d_M_copying_11 : decode b_M_copying 11 = .ok (.iload_n 1, 1) := by decide +kernel
theorem d_M_copying_12 : decode b_M_copying 12 = .ok (.iaload, 1) := by decide +kernel
theorem d_M_copying_13 : decode b_M_copying 13 = .ok (.iconst 1, 1) := by decide +kernel
theorem d_M_copying_14 : decode b_M_copying 14 = .ok (.if_icmp .ne 5, 3) := by decide +kernel
theorem d_M_copying_17 : decode b_M_copying 17 = .ok (.iload_n 1, 1) := by decide +kernel
theorem d_M_copying_18 : decode b_M_copying 18 = .ok (.ireturn, 1) := by decide +kernel
theorem d_M_copying_19 : decode b_M_copying 19 = .ok (.iinc 1 1, 3) := by decide +kernel
theorem d_M_copying_22 : decode b_M_copying 22 = .ok (.goto (-20), 3) := by decide +kernel
theorem d_M_copying_25 : decode b_M_copying 25 = .ok (.iconst (-1), 1) := by decide +kernel
theorem d_M_copying_26 : decode b_M_copying 26 = .ok (.ireturn, 1) := by decide +kernel
theorem d_M_backup_0 : decode b_M_backup 0 = .ok (.aload_n 0, 1) := by decide +kernel
theorem d_M_backup_1 : decode b_M_backup 1 = .ok (.invokevirtual 80, 3) := by decide +kernel
theorem d_M_backup_4 : decode b_M_backup 4 = .ok (.ifCond .lt 5, 3) := by decide +kernel
theorem d_M_backup_7 : decode b_M_backup 7 = .ok (.iconst (-1), 1) := by decide +kernel
theorem d_M_backup_8 : decode b_M_backup 8 = .ok (.ireturn, 1) := by decide +kernel
theorem d_M_backup_9 : decode b_M_backup 9 = .ok (.iconst 0, 1) := by decide +kernel
theorem d_M_backup_10 : decode b_M_backup 10 = .ok (.istore_n 1, 1) := by decide +kernel
theorem d_M_backup_11 : decode b_M_backup 11 = .ok (.iload_n 1, 1) := by decide +kernel
theorem d_M_backup_12 : decode b_M_backup 12 = .ok (.iconst 3, 1) := by decide +kernel
theorem d_M_backup_13 : decode b_M_backup 13 = .ok (.if_icmp .ge 18, 3) := by decide +kernel
theorem d_M_backup_16 : decode b_M_backup 16 = .ok (.aload_n 0, 1) := by decide +kernel
theorem d_M_backup_17 : decode b_M_backup 17 = .ok (.getfield 25, 3) := by decide +kernel
theorem d_M_backup_20 : decode b_M_backup 20 = .ok (.iload_n 1, 1) := by decide +kernel
theorem d_M_backup_21 : decode b_M_backup 21 = .ok (.iaload, 1) := by decide +kernel
theorem d_M_backup_22 : decode b_M_backup 22 = .ok (.ifCond .eq 9, 3) := by decide +kernel
theorem d_M_backup_25 : decode b_M_backup 25 = .ok (.iinc 1 1, 3) := by decide +kernel
theorem d_M_backup_28 : decode b_M_backup 28 = .ok (.goto (-17), 3) := by decide +kernel
theorem d_M_backup_31 : decode b_M_backup 31 = .ok (.iload_n 1, 1) := by decide +kernel
theorem d_M_backup_32 : decode b_M_backup 32 = .ok (.iconst 3, 1) := by decide +kernel
theorem d_M_backup_33 : decode b_M_backup 33 = .ok (.if_icmp .ne 6, 3) := by decide +kernel
theorem d_M_backup_36 : decode b_M_backup 36 = .ok (.bipush (-2), 2) := by decide +kernel
theorem d_M_backup_38 : decode b_M_backup 38 = .ok (.ireturn, 1) := by decide +kernel
theorem d_M_backup_39 : decode b_M_backup 39 = .ok (.aload_n 0, 1) := by decide +kernel
theorem d_M_backup_40 : decode b_M_backup 40 = .ok (.getfield 25, 3) := by decide +kernel
theorem d_M_backup_43 : decode b_M_backup 43 = .ok (.iload_n 1, 1) := by decide +kernel
theorem d_M_backup_44 : decode b_M_backup 44 = .ok (.iconst 1, 1) := by decide +kernel
theorem d_M_backup_45 : decode b_M_backup 45 = .ok (.iastore, 1) := by decide +kernel
theorem d_M_backup_46 : decode b_M_backup 46 = .ok (.aload_n 0, 1) := by decide +kernel
theorem d_M_backup_47 : decode b_M_backup 47 = .ok (.getfield 28, 3) := by decide +kernel
theorem d_M_backup_50 : decode b_M_backup 50 = .ok (.iload_n 1, 1) := by decide +kernel
theorem d_M_backup_51 : decode b_M_backup 51 = .ok (.iconst 0, 1) := by decide +kernel
theorem d_M_backup_52 : decode b_M_backup 52 = .ok (.iastore, 1) := by decide +kernel
theorem d_M_backup_53 : decode b_M_backup 53 = .ok (.aload_n 0, 1) := by decide +kernel
theorem d_M_backup_54 : decode b_M_backup 54 = .ok (.getfield 31, 3) := by decide +kernel
theorem d_M_backup_57 : decode b_M_backup 57 = .ok (.iload_n 1, 1) := by decide +kernel
theorem d_M_backup_58 : decode b_M_backup 58 = .ok (.aload_n 0, 1) := by decide +kernel
theorem d_M_backup_59 : decode b_M_backup 59 = .ok (.invokevirtual 84, 3) := by decide +kernel
theorem d_M_backup_62 : decode b_M_backup 62 = .ok (.iastore, 1) := by decide +kernel
theorem d_M_backup_63 : decode b_M_backup 63 = .ok (.iload_n 1, 1) := by decide +kernel
theorem d_M_backup_64 : decode b_M_backup 64 = .ok (.ireturn, 1) := by decide +kernel
theorem d_M_copy_0 : decode b_M_copy 0 = .ok (.aload_n 0, 1) := by decide +kernel
theorem d_M_copy_1 : decode b_M_copy 1 = .ok (.invokevirtual 80, 3) := by decide +kernel
theorem d_M_copy_4 : decode b_M_copy 4 = .ok (.istore_n 1, 1) := by decide +kernel
theorem d_M_copy_5 : decode b_M_copy 5 = .ok (.iload_n 1, 1) := by decide +kernel
theorem d_M_copy_6 : decode b_M_copy 6 = .ok (.ifCond .ge 6, 3) := by decide +kernel
theorem d_M_copy_9 : decode b_M_copy 9 = .ok (.bipush (-3), 2) := by decide +kernel
theorem d_M_copy_11 : decode b_M_copy 11 = .ok (.ireturn, 1) := by decide +kernel
theorem d_M_copy_12 : decode b_M_copy 12 = .ok (.aload_n 0, 1) := by decide +kernel
theorem d_M_copy_13 : decode b_M_copy 13 = .ok (.getfield 28, 3) := by decide +kernel
theorem d_M_copy_16 : decode b_M_copy 16 = .ok (.iload_n 1, 1) := by decide +kernel
theorem d_M_copy_17 : decode b_M_copy 17 = .ok (.dup2, 1) := by decide +kernel
theorem d_M_copy_18 : decode b_M_copy 18 = .ok (.iaload, 1) := by decide +kernel
theorem d_M_copy_19 : decode b_M_copy 19 = .ok (.iconst 1, 1) := by decide +kernel
theorem d_M_copy_20 : decode b_M_copy 20 = .ok (.iadd, 1) := by decide +kernel
theorem d_M_copy_21 : decode b_M_copy 21 = .ok (.iastore, 1) := by decide +kernel
theorem d_M_copy_22 : decode b_M_copy 22 = .ok (.aload_n 0, 1) := by decide +kernel
theorem d_M_copy_23 : decode b_M_copy 23 = .ok (.getfield 28, 3) := by decide +kernel
theorem d_M_copy_26 : decode b_M_copy 26 = .ok (.iload_n 1, 1) := by decide +kernel
theorem d_M_copy_27 : decode b_M_copy 27 = .ok (.iaload, 1) := by decide +kernel
theorem d_M_copy_28 : decode b_M_copy 28 = .ok (.bipush 8, 2) := by decide +kernel
theorem d_M_copy_30 : decode b_M_copy 30 = .ok (.if_icmp .ne 20, 3) := by decide +kernel
theorem d_M_copy_33 : decode b_M_copy 33 = .ok (.aload_n 0, 1) := by decide +kernel
theorem d_M_copy_34 : decode b_M_copy 34 = .ok (.getfield 25, 3) := by decide +kernel
theorem d_M_copy_37 : decode b_M_copy 37 = .ok (.iload_n 1, 1) := by decide +kernel
theorem d_M_copy_38 : decode b_M_copy 38 = .ok (.iconst 2, 1) := by decide +kernel
theorem d_M_copy_39 : decode b_M_copy 39 = .ok (.iastore, 1) := by decide +kernel
theorem d_M_copy_40 : decode b_M_copy 40 = .ok (.aload_n 0, 1) := by decide +kernel
theorem d_M_copy_41 : decode b_M_copy 41 = .ok (.getfield 34, 3) := by decide +kernel
theorem d_M_copy_44 : decode b_M_copy 44 = .ok (.iload_n 1, 1) := by decide +kernel
theorem d_M_copy_45 : decode b_M_copy 45 = .ok (.aload_n 0, 1) := by decide +kernel
theorem d_M_copy_46 : decode b_M_copy 46 = .ok (.getfield 74, 3) := by decide +kernel
theorem d_M_copy_49 : decode b_M_copy 49 = .ok (.iastore, 1) := by decide +kernel
theorem d_M_copy_50 : decode b_M_copy 50 = .ok (.bipush 8, 2) := by decide +kernel
theorem d_M_copy_52 : decode b_M_copy 52 = .ok (.aload_n 0, 1) := by decide +kernel
theorem d_M_copy_53 : decode b_M_copy 53 = .ok (.getfield 28, 3) := by decide +kernel
theorem d_M_copy_56 : decode b_M_copy 56 = .ok (.iload_n 1, 1) := by decide +kernel
theorem d_M_copy_57 : decode b_M_copy 57 = .ok (.iaload, 1) := by decide +kernel
theorem d_M_copy_58 : decode b_M_copy 58 = .ok (.isub, 1) := by decide +kernel
theorem d_M_copy_59 : decode b_M_copy 59 = .ok (.ireturn, 1) := by decide +kernel
theorem d_M_finished_0 : decode b_M_finished 0 = .ok (.iload_n 1, 1) := by decide +kernel
theorem d_M_finished_1 : decode b_M_finished 1 = .ok (.ifCond .lt 22, 3) := by decide +kernel
theorem d_M_finished_4 : decode b_M_finished 4 = .ok (.iload_n 1, 1) := by decide +kernel
theorem d_M_finished_5 : decode b_M_finished 5 = .ok (.iconst 2, 1) := by decide +kernel
theorem d_M_finished_6 : decode b_M_finished 6 = .ok (.if_icmp .gt 17, 3) := by decide +kernel
theorem d_M_finished_9 : decode b_M_finished 9 = .ok (.aload_n 0, 1) := by decide +kernel
theorem d_M_finished_10 : decode b_M_finished 10 = .ok (.getfield 25, 3) := by decide +kernel
theorem d_M_finished_13 : decode b_M_finished 13 = .ok (.iload_n 1, 1) := by decide +kernel
theorem d_M_finished_14 : decode b_M_finished 14 = .ok (.iaload, 1) := by decide +kernel
theorem d_M_finished_15 : decode b_M_finished 15 = .ok (.iconst 2, 1) := by decide +kernel
theorem d_M_finished_16 : decode b_M_finished 16 = .ok (.if_icmp .ne 7, 3) := by decide +kernel
theorem d_M_finished_19 : decode b_M_finished 19 = .ok (.iconst 1, 1) := by decide +kernel
theorem d_M_finished_20 : decode b_M_finished 20 = .ok (.goto 4, 3) := by decide +kernel
theorem d_M_finished_23 : decode b_M_finished 23 = .ok (.iconst 0, 1) := by decide +kernel
theorem d_M_finished_24 : decode b_M_finished 24 = .ok (.ireturn, 1) := by decide +kernel
theorem d_M_forget_0 : decode b_M_forget 0 = .ok (.aload_n 0, 1) := by decide +kernel
theorem d_M_forget_1 : decode b_M_forget 1 = .ok (.iload_n 1, 1) := by decide +kernel
theorem d_M_forget_2 : decode b_M_forget 2 = .ok (.invokevirtual 87, 3) := by decide +kernel
theorem d_M_forget_5 : decode b_M_forget 5 = .ok (.ifCond .ne 5, 3) := by decide +kernel
theorem d_M_forget_8 : decode b_M_forget 8 = .ok (.iconst 0, 1) := by decide +kernel
theorem d_M_forget_9 : decode b_M_forget 9 = .ok (.ireturn, 1) := by decide +kernel
theorem d_M_forget_10 : decode b_M_forget 10 = .ok (.aload_n 0, 1) := by decide +kernel
theorem d_M_forget_11 : decode b_M_forget 11 = .ok (.getfield 25, 3) := by decide +kernel
theorem d_M_forget_14 : decode b_M_forget 14 = .ok (.iload_n 1, 1) := by decide +kernel
theorem d_M_forget_15 : decode b_M_forget 15 = .ok (.iconst 0, 1) := by decide +kernel
theorem d_M_forget_16 : decode b_M_forget 16 = .ok (.iastore, 1) := by decide +kernel
theorem d_M_forget_17 : decode b_M_forget 17 = .ok (.iconst 1, 1) := by decide +kernel
theorem d_M_forget_18 : decode b_M_forget 18 = .ok (.ireturn, 1) := by decide +kernel
theorem d_M_bound_0 : decode b_M_bound 0 = .ok (.aload_n 0, 1) := by decide +kernel
theorem d_M_bound_1 : decode b_M_bound 1 = .ok (.iload_n 1, 1) := by decide +kernel
theorem d_M_bound_2 : decode b_M_bound 2 = .ok (.invokevirtual 87, 3) := by decide +kernel
theorem d_M_bound_5 : decode b_M_bound 5 = .ok (.ifCond .eq 12, 3) := by decide +kernel
theorem d_M_bound_8 : decode b_M_bound 8 = .ok (.iload_n 2, 1) := by decide +kernel
theorem d_M_bound_9 : decode b_M_bound 9 = .ok (.ifCond .lt 8, 3) := by decide +kernel
theorem d_M_bound_12 : decode b_M_bound 12 = .ok (.iload_n 2, 1) := by decide +kernel
theorem d_M_bound_13 : decode b_M_bound 13 = .ok (.iconst 1, 1) := by decide +kernel
theorem d_M_bound_14 : decode b_M_bound 14 = .ok (.if_icmp .le 7, 3) := by decide +kernel
theorem d_M_bound_17 : decode b_M_bound 17 = .ok (.iconst (-1), 1) := by decide +kernel
theorem d_M_bound_18 : decode b_M_bound 18 = .ok (.goto 22, 3) := by decide +kernel
theorem d_M_bound_21 : decode b_M_bound 21 = .ok (.iload_n 2, 1) := by decide +kernel
theorem d_M_bound_22 : decode b_M_bound 22 = .ok (.ifCond .ne 12, 3) := by decide +kernel
theorem d_M_bound_25 : decode b_M_bound 25 = .ok (.aload_n 0, 1) := by decide +kernel
theorem d_M_bound_26 : decode b_M_bound 26 = .ok (.getfield 31, 3) := by decide +kernel
theorem d_M_bound_29 : decode b_M_bound 29 = .ok (.iload_n 1, 1) := by decide +kernel
theorem d_M_bound_30 : decode b_M_bound 30 = .ok (.iaload, 1) := by decide +kernel
theorem d_M_bound_31 : decode b_M_bound 31 = .ok (.goto 9, 3) := by decide +kernel
theorem d_M_bound_34 : decode b_M_bound 34 = .ok (.aload_n 0, 1) := by decide +kernel
theorem d_M_bound_35 : decode b_M_bound 35 = .ok (.getfield 34, 3) := by decide +kernel
theorem d_M_bound_38 : decode b_M_bound 38 = .ok (.iload_n 1, 1) := by decide +kernel
theorem d_M_bound_39 : decode b_M_bound 39 = .ok (.iaload, 1) := by decide +kernel

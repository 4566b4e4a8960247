theorem d_X_init_0 : decode b_X_init 0 = .ok (.aload_n 0, 1) := by decide +kernel
theorem d_X_init_1 : decode b_X_init 1 = .ok (.invokespecial 3, 3) := by decide +kernel
theorem d_X_init_4 : decode b_X_init 4 = .ok (.aload_n 0, 1) := by decide +kernel
theorem d_X_init_5 : decode b_X_init 5 = .ok (.new 9, 3) := by decide +kernel
theorem d_X_init_8 : decode b_X_init 8 = .ok (.dup, 1) := by decide +kernel
theorem d_X_init_9 : decode b_X_init 9 = .ok (.invokespecial 11, 3) := by decide +kernel
theorem d_X_init_12 : decode b_X_init 12 = .ok (.putfield 12, 3) := by decide +kernel
theorem d_X_init_15 : decode b_X_init 15 = .ok (.aload_n 0, 1) := by decide +kernel
theorem d_X_init_16 : decode b_X_init 16 = .ok (.new 16, 3) := by decide +kernel
theorem d_X_init_19 : decode b_X_init 19 = .ok (.dup, 1) := by decide +kernel
theorem d_X_init_20 : decode b_X_init 20 = .ok (.invokespecial 18, 3) := by decide +kernel
theorem d_X_init_23 : decode b_X_init 23 = .ok (.putfield 19, 3) := by decide +kernel
theorem d_X_init_26 : decode b_X_init 26 = .ok (.aload_n 0, 1) := by decide +kernel
theorem d_X_init_27 : decode b_X_init 27 = .ok (.new 23, 3) := by decide +kernel
theorem d_X_init_30 : decode b_X_init 30 = .ok (.dup, 1) := by decide +kernel
theorem d_X_init_31 : decode b_X_init 31 = .ok (.invokespecial 25, 3) := by decide +kernel
theorem d_X_init_34 : decode b_X_init 34 = .ok (.putfield 26, 3) := by decide +kernel
theorem d_X_init_37 : decode b_X_init 37 = .ok (.aload_n 0, 1) := by decide +kernel
theorem d_X_init_38 : decode b_X_init 38 = .ok (.new 30, 3) := by decide +kernel
theorem d_X_init_41 : decode b_X_init 41 = .ok (.dup, 1) := by decide +kernel
theorem d_X_init_42 : decode b_X_init 42 = .ok (.invokespecial 32, 3) := by decide +kernel
theorem d_X_init_45 : decode b_X_init 45 = .ok (.putfield 33, 3) := by decide +kernel
theorem d_X_init_48 : decode b_X_init 48 = .ok (.aload_n 0, 1) := by decide +kernel
theorem d_X_init_49 : decode b_X_init 49 = .ok (.new 37, 3) := by decide +kernel
theorem d_X_init_52 : decode b_X_init 52 = .ok (.dup, 1) := by decide +kernel
theorem d_X_init_53 : decode b_X_init 53 = .ok (.invokespecial 39, 3) := by decide +kernel
theorem d_X_init_56 : decode b_X_init 56 = .ok (.putfield 40, 3) := by decide +kernel
theorem d_X_init_59 : decode b_X_init 59 = .ok (.aload_n 0, 1) := by decide +kernel
theorem d_X_init_60 : decode b_X_init 60 = .ok (.iconst 3, 1) := by decide +kernel
theorem d_X_init_61 : decode b_X_init 61 = .ok (.anewarray 44, 3) := by decide +kernel
theorem d_X_init_64 : decode b_X_init 64 = .ok (.putfield 46, 3) := by decide +kernel
theorem d_X_init_67 : decode b_X_init 67 = .ok (.iconst 0, 1) := by decide +kernel
theorem d_X_init_68 : decode b_X_init 68 = .ok (.istore_n 1, 1) := by decide +kernel
theorem d_X_init_69 : decode b_X_init 69 = .ok (.iload_n 1, 1) := by decide +kernel
theorem d_X_init_70 : decode b_X_init 70 = .ok (.iconst 3, 1) := by decide +kernel
theorem d_X_init_71 : decode b_X_init 71 = .ok (.if_icmp .ge 22, 3) := by decide +kernel
theorem d_X_init_74 : decode b_X_init 74 = .ok (.aload_n 0, 1) := by decide +kernel
theorem d_X_init_75 : decode b_X_init 75 = .ok (.getfield 46, 3) := by decide +kernel
theorem d_X_init_78 : decode b_X_init 78 = .ok (.iload_n 1, 1) := by decide +kernel
theorem d_X_init_79 : decode b_X_init 79 = .ok (.new 44, 3) := by decide +kernel
theorem d_X_init_82 : decode b_X_init 82 = .ok (.dup, 1) := by decide +kernel
theorem d_X_init_83 : decode b_X_init 83 = .ok (.invokespecial 50, 3) := by decide +kernel
theorem d_X_init_86 : decode b_X_init 86 = .ok (.aastore, 1) := by decide +kernel
theorem d_X_init_87 : decode b_X_init 87 = .ok (.iinc 1 1, 3) := by decide +kernel
theorem d_X_init_90 : decode b_X_init 90 = .ok (.goto (-21), 3) := by decide +kernel
theorem d_X_init_93 : decode b_X_init 93 = .ok (.aload_n 0, 1) := by decide +kernel
theorem d_X_init_94 : decode b_X_init 94 = .ok (.iconst (-1), 1) := by decide +kernel
theorem d_X_init_95 : decode b_X_init 95 = .ok (.putfield 51, 3) := by decide +kernel
theorem d_X_init_98 : decode b_X_init 98 = .ok (.return_, 1) := by decide +kernel
theorem d_X_set_0 : decode b_X_set 0 = .ok (.iload_n 1, 1) := by decide +kernel
theorem d_X_set_1 : decode b_X_set 1 = .ok (.invokestatic 55, 3) := by decide +kernel
theorem d_X_set_4 : decode b_X_set 4 = .ok (.ifCond .eq 10, 3) := by decide +kernel
theorem d_X_set_7 : decode b_X_set 7 = .ok (.iload_n 2, 1) := by decide +kernel
theorem d_X_set_8 : decode b_X_set 8 = .ok (.invokestatic 59, 3) := by decide +kernel
theorem d_X_set_11 : decode b_X_set 11 = .ok (.ifCond .ne 5, 3) := by decide +kernel
theorem d_X_set_14 : decode b_X_set 14 = .ok (.iconst (-1), 1) := by decide +kernel
theorem d_X_set_15 : decode b_X_set 15 = .ok (.ireturn, 1) := by decide +kernel
theorem d_X_set_16 : decode b_X_set 16 = .ok (.aload_n 0, 1) := by decide +kernel
theorem d_X_set_17 : decode b_X_set 17 = .ok (.getfield 19, 3) := by decide +kernel
theorem d_X_set_20 : decode b_X_set 20 = .ok (.iload_n 1, 1) := by decide +kernel
theorem d_X_set_21 : decode b_X_set 21 = .ok (.invokevirtual 62, 3) := by decide +kernel
theorem d_X_set_24 : decode b_X_set 24 = .ok (.ifCond .ne 13, 3) := by decide +kernel
theorem d_X_set_27 : decode b_X_set 27 = .ok (.aload_n 0, 1) := by decide +kernel
theorem d_X_set_28 : decode b_X_set 28 = .ok (.getfield 12, 3) := by decide +kernel
theorem d_X_set_31 : decode b_X_set 31 = .ok (.invokevirtual 65, 3) := by decide +kernel
theorem d_X_set_34 : decode b_X_set 34 = .ok (.ifCond .eq 6, 3) := by decide +kernel
theorem d_X_set_37 : decode b_X_set 37 = .ok (.bipush (-2), 2) := by decide +kernel
theorem d_X_set_39 : decode b_X_set 39 = .ok (.ireturn, 1) := by decide +kernel
theorem d_X_set_40 : decode b_X_set 40 = .ok (.aload_n 0, 1) := by decide +kernel
theorem d_X_set_41 : decode b_X_set 41 = .ok (.getfield 19, 3) := by decide +kernel
theorem d_X_set_44 : decode b_X_set 44 = .ok (.iload_n 1, 1) := by decide +kernel
theorem d_X_set_45 : decode b_X_set 45 = .ok (.iload_n 2, 1) := by decide +kernel
theorem d_X_set_46 : decode b_X_set 46 = .ok (.iload_n 3, 1) := by decide +kernel
theorem d_X_set_47 : decode b_X_set 47 = .ok (.aload_n 0, 1) := by decide +kernel
theorem d_X_set_48 : decode b_X_set 48 = .ok (.getfield 12, 3) := by decide +kernel
theorem d_X_set_51 : decode b_X_set 51 = .ok (.getfield 69, 3) := by decide +kernel
theorem d_X_set_54 : decode b_X_set 54 = .ok (.invokevirtual 72, 3) := by decide +kernel
theorem d_X_set_57 : decode b_X_set 57 = .ok (.aload_n 0, 1) := by decide +kernel
theorem d_X_set_58 : decode b_X_set 58 = .ok (.getfield 12, 3) := by decide +kernel
theorem d_X_set_61 : decode b_X_set 61 = .ok (.iconst 0, 1) := by decide +kernel
theorem d_X_set_62 : decode b_X_set 62 = .ok (.iload_n 1, 1) := by decide +kernel
theorem d_X_set_63 : decode b_X_set 63 = .ok (.iload_n 2, 1) := by decide +kernel
theorem d_X_set_64 : decode b_X_set 64 = .ok (.iload_n 3, 1) := by decide +kernel
theorem d_X_set_65 : decode b_X_set 65 = .ok (.invokevirtual 76, 3) := by decide +kernel
theorem d_X_set_68 : decode b_X_set 68 = .ok (.ireturn, 1) := by decide +kernel
theorem d_X_commit_0 : decode b_X_commit 0 = .ok (.aload_n 0, 1) := by decide +kernel
theorem d_X_commit_1 : decode b_X_commit 1 = .ok (.iload_n 1, 1) := by decide +kernel
theorem d_X_commit_2 : decode b_X_commit 2 = .ok (.invokevirtual 80, 3) := by decide +kernel
theorem d_X_commit_5 : decode b_X_commit 5 = .ok (.istore_n 2, 1) := by decide +kernel
theorem d_X_commit_6 : decode b_X_commit 6 = .ok (.iload_n 2, 1) := by decide +kernel
theorem d_X_commit_7 : decode b_X_commit 7 = .ok (.ifCond .eq 5, 3) := by decide +kernel
theorem d_X_commit_10 : decode b_X_commit 10 = .ok (.iload_n 2, 1) := by decide +kernel
theorem d_X_commit_11 : decode b_X_commit 11 = .ok (.ireturn, 1) := by decide +kernel
theorem d_X_commit_12 : decode b_X_commit 12 = .ok (.aload_n 0, 1) := by decide +kernel
theorem d_X_commit_13 : decode b_X_commit 13 = .ok (.getfield 12, 3) := by decide +kernel
theorem d_X_commit_16 : decode b_X_commit 16 = .ok (.iconst 1, 1) := by decide +kernel
theorem d_X_commit_17 : decode b_X_commit 17 = .ok (.iload_n 1, 1) := by decide +kernel
theorem d_X_commit_18 : decode b_X_commit 18 = .ok (.iconst 0, 1) := by decide +kernel
theorem d_X_commit_19 : decode b_X_commit 19 = .ok (.iconst 0, 1) := by decide +kernel
theorem d_X_commit_20 : decode b_X_commit 20 = .ok (.invokevirtual 76, 3) := by decide +kernel
theorem d_X_commit_23 : decode b_X_commit 23 = .ok (.istore_n 3, 1) := by decide +kernel
theorem d_X_commit_24 : decode b_X_commit 24 = .ok (.aload_n 0, 1) := by decide +kernel
theorem d_X_commit_25 : decode b_X_commit 25 = .ok (.getfield 26, 3) := by decide +kernel
theorem d_X_commit_28 : decode b_X_commit 28 = .ok (.aload_n 0, 1) := by decide +kernel
theorem d_X_commit_29 : decode b_X_commit 29 = .ok (.getfield 19, 3) := by decide +kernel
theorem d_X_commit_32 : decode b_X_commit 32 = .ok (.iload_n 1, 1) := by decide +kernel
theorem d_X_commit_33 : decode b_X_commit 33 = .ok (.iload_n 3, 1) := by decide +kernel
theorem d_X_commit_34 : decode b_X_commit 34 = .ok (.invokevirtual 84, 3) := by decide +kernel
theorem d_X_commit_37 : decode b_X_commit 37 = .ok (.aload_n 0, 1) := by decide +kernel
theorem d_X_commit_38 : decode b_X_commit 38 = .ok (.getfield 19, 3) := by decide +kernel
theorem d_X_commit_41 : decode b_X_commit 41 = .ok (.iload_n 1, 1) := by decide +kernel
theorem d_X_commit_42 : decode b_X_commit 42 = .ok (.invokevirtual 88, 3) := by decide +kernel
theorem d_X_commit_45 : decode b_X_commit 45 = .ok (.iload_n 3, 1) := by decide +kernel
theorem d_X_commit_46 : decode b_X_commit 46 = .ok (.ireturn, 1) := by decide +kernel
theorem d_X_abort_0 : decode b_X_abort 0 = .ok (.aload_n 0, 1) := by decide +kernel
theorem d_X_abort_1 : decode b_X_abort 1 = .ok (.iload_n 1, 1) := by decide +kernel
theorem d_X_abort_2 : decode b_X_abort 2 = .ok (.invokevirtual 80, 3) := by decide +kernel
theorem d_X_abort_5 : decode b_X_abort 5 = .ok (.istore_n 2, 1) := by decide +kernel
theorem d_X_abort_6 : decode b_X_abort 6 = .ok (.iload_n 2, 1) := by decide +kernel
theorem d_X_abort_7 : decode b_X_abort 7 = .ok (.ifCond .eq 5, 3) := by decide +kernel
theorem d_X_abort_10 : decode b_X_abort 10 = .ok (.iload_n 2, 1) := by decide +kernel
theorem d_X_abort_11 : decode b_X_abort 11 = .ok (.ireturn, 1) := by decide +kernel
theorem d_X_abort_12 : decode b_X_abort 12 = .ok (.aload_n 0, 1) := by decide +kernel
theorem d_X_abort_13 : decode b_X_abort 13 = .ok (.getfield 19, 3) := by decide +kernel
theorem d_X_abort_16 : decode b_X_abort 16 = .ok (.iload_n 1, 1) := by decide +kernel
theorem d_X_abort_17 : decode b_X_abort 17 = .ok (.invokevirtual 88, 3) := by decide +kernel
theorem d_X_abort_20 : decode b_X_abort 20 = .ok (.aload_n 0, 1) := by decide +kernel
theorem d_X_abort_21 : decode b_X_abort 21 = .ok (.getfield 12, 3) := by decide +kernel
theorem d_X_abort_24 : decode b_X_abort 24 = .ok (.iconst 2, 1) := by decide +kernel
theorem d_X_abort_25 : decode b_X_abort 25 = .ok (.iload_n 1, 1) := by decide +kernel
theorem d_X_abort_26 : decode b_X_abort 26 = .ok (.iconst 0, 1) := by decide +kernel
theorem d_X_abort_27 : decode b_X_abort 27 = .ok (.iconst 0, 1) := by decide +kernel
theorem d_X_abort_28 : decode b_X_abort 28 = .ok (.invokevirtual 76, 3) := by decide +kernel
theorem d_X_abort_31 : decode b_X_abort 31 = .ok (.ireturn, 1) := by decide +kernel
theorem d_X_get_0 : decode b_X_get 0 = .ok (.iload_n 1, 1) := by decide +kernel
theorem d_X_get_1 : decode b_X_get 1 = .ok (.invokestatic 59, 3) := by decide +kernel
theorem d_X_get_4 : decode b_X_get 4 = .ok (.ifCond .eq 15, 3) := by decide +kernel
theorem d_X_get_7 : decode b_X_get 7 = .ok (.aload_n 0, 1) := by decide +kernel
theorem d_X_get_8 : decode b_X_get 8 = .ok (.getfield 26, 3) := by decide +kernel
theorem d_X_get_11 : decode b_X_get 11 = .ok (.getfield 92, 3) := by decide +kernel
theorem d_X_get_14 : decode b_X_get 14 = .ok (.iload_n 1, 1) := by decide +kernel
theorem d_X_get_15 : decode b_X_get 15 = .ok (.iaload, 1) := by decide +kernel
theorem d_X_get_16 : decode b_X_get 16 = .ok (.goto 4, 3) := by decide +kernel
theorem d_X_get_19 : decode b_X_get 19 = .ok (.iconst 0, 1) := by decide +kernel
theorem d_X_get_20 : decode b_X_get 20 = .ok (.ireturn, 1) := by decide +kernel
theorem d_X_sync_0 : decode b_X_sync 0 = .ok (.aload_n 0, 1) := by decide +kernel
theorem d_X_sync_1 : decode b_X_sync 1 = .ok (.invokevirtual 96, 3) := by decide +kernel
theorem d_X_sync_4 : decode b_X_sync 4 = .ok (.ireturn, 1) := by decide +kernel
theorem d_X_flush_0 : decode b_X_flush 0 = .ok (.iload_n 1, 1) := by decide +kernel
theorem d_X_flush_1 : decode b_X_flush 1 = .ok (.ifCond .lt 9, 3) := by decide +kernel
theorem d_X_flush_4 : decode b_X_flush 4 = .ok (.iload_n 1, 1) := by decide +kernel
theorem d_X_flush_5 : decode b_X_flush 5 = .ok (.bipush 8, 2) := by decide +kernel
theorem d_X_flush_7 : decode b_X_flush 7 = .ok (.if_icmp .lt 5, 3) := by decide +kernel
theorem d_X_flush_10 : decode b_X_flush 10 = .ok (.iconst (-1), 1) := by decide +kernel
theorem d_X_flush_11 : decode b_X_flush 11 = .ok (.ireturn, 1) := by decide +kernel
theorem d_X_flush_12 : decode b_X_flush 12 = .ok (.aload_n 0, 1) := by decide +kernel
theorem d_X_flush_13 : decode b_X_flush 13 = .ok (.iload_n 1, 1) := by decide +kernel
theorem d_X_flush_14 : decode b_X_flush 14 = .ok (.invokevirtual 100, 3) := by decide +kernel
theorem d_X_flush_17 : decode b_X_flush 17 = .ok (.ifCond .eq 7, 3) := by decide +kernel
theorem d_X_flush_20 : decode b_X_flush 20 = .ok (.iconst 1, 1) := by decide +kernel
theorem d_X_flush_21 : decode b_X_flush 21 = .ok (.goto 4, 3) := by decide +kernel
theorem d_X_flush_24 : decode b_X_flush 24 = .ok (.iconst 0, 1) := by decide +kernel
theorem d_X_flush_25 : decode b_X_flush 25 = .ok (.ireturn, 1) := by decide +kernel
theorem d_X_checkpoint_0 : decode b_X_checkpoint 0 = .ok (.aload_n 0, 1) := by decide +kernel
theorem d_X_checkpoint_1 : decode b_X_checkpoint 1 = .ok (.invokevirtual 103, 3) := by decide +kernel
theorem d_X_checkpoint_4 : decode b_X_checkpoint 4 = .ok (.ireturn, 1) := by decide +kernel
theorem d_X_crash_0 : decode b_X_crash 0 = .ok (.aload_n 0, 1) := by decide +kernel
theorem d_X_crash_1 : decode b_X_crash 1 = .ok (.getfield 12, 3) := by decide +kernel
theorem d_X_crash_4 : decode b_X_crash 4 = .ok (.invokevirtual 106, 3) := by decide +kernel
theorem d_X_crash_7 : decode b_X_crash 7 = .ok (.istore_n 1, 1) := by decide +kernel
theorem d_X_crash_8 : decode b_X_crash 8 = .ok (.aload_n 0, 1) := by decide +kernel
theorem d_X_crash_9 : decode b_X_crash 9 = .ok (.getfield 19, 3) := by decide +kernel
theorem d_X_crash_12 : decode b_X_crash 12 = .ok (.invokevirtual 109, 3) := by decide +kernel
theorem d_X_crash_15 : decode b_X_crash 15 = .ok (.aload_n 0, 1) := by decide +kernel
theorem d_X_crash_16 : decode b_X_crash 16 = .ok (.getfield 26, 3) := by decide +kernel
theorem d_X_crash_19 : decode b_X_crash 19 = .ok (.aload_n 0, 1) := by decide +kernel
theorem d_X_crash_20 : decode b_X_crash 20 = .ok (.getfield 12, 3) := by decide +kernel
theorem d_X_crash_23 : decode b_X_crash 23 = .ok (.getfield 112, 3) := by decide +kernel
theorem d_X_crash_26 : decode b_X_crash 26 = .ok (.invokevirtual 115, 3) := by decide +kernel
theorem d_X_crash_29 : decode b_X_crash 29 = .ok (.aload_n 0, 1) := by decide +kernel
theorem d_X_crash_30 : decode b_X_crash 30 = .ok (.getfield 51, 3) := by decide +kernel
theorem d_X_crash_33 : decode b_X_crash 33 = .ok (.iconst (-1), 1) := by decide +kernel
theorem d_X_crash_34 : decode b_X_crash 34 = .ok (.if_icmp .eq 20, 3) := by decide +kernel
theorem d_X_crash_37 : decode b_X_crash 37 = .ok (.aload_n 0, 1) := by decide +kernel
theorem d_X_crash_38 : decode b_X_crash 38 = .ok (.getfield 46, 3) := by decide +kernel
theorem d_X_crash_41 : decode b_X_crash 41 = .ok (.aload_n 0, 1) := by decide +kernel
theorem d_X_crash_42 : decode b_X_crash 42 = .ok (.getfield 51, 3) := by decide +kernel
theorem d_X_crash_45 : decode b_X_crash 45 = .ok (.aaload, 1) := by decide +kernel
theorem d_X_crash_46 : decode b_X_crash 46 = .ok (.invokevirtual 118, 3) := by decide +kernel
theorem d_X_crash_49 : decode b_X_crash 49 = .ok (.aload_n 0, 1) := by decide +kernel
theorem d_X_crash_50 : decode b_X_crash 50 = .ok (.iconst (-1), 1) := by decide +kernel
theorem d_X_crash_51 : decode b_X_crash 51 = .ok (.putfield 51, 3) := by decide +kernel
theorem d_X_crash_54 : decode b_X_crash 54 = .ok (.aload_n 0, 1) := by decide +kernel
theorem d_X_crash_55 : decode b_X_crash 55 = .ok (.getfield 12, 3) := by decide +kernel
theorem d_X_crash_58 : decode b_X_crash 58 = .ok (.invokevirtual 65, 3) := by decide +kernel
theorem d_X_crash_61 : decode b_X_crash 61 = .ok (.ifCond .ne 15, 3) := by decide +kernel
theorem d_X_crash_64 : decode b_X_crash 64 = .ok (.aload_n 0, 1) := by decide +kernel
theorem d_X_crash_65 : decode b_X_crash 65 = .ok (.getfield 12, 3) := by decide +kernel
theorem d_X_crash_68 : decode b_X_crash 68 = .ok (.iconst 3, 1) := by decide +kernel
theorem d_X_crash_69 : decode b_X_crash 69 = .ok (.iconst 0, 1) := by decide +kernel
theorem d_X_crash_70 : decode b_X_crash 70 = .ok (.iconst 0, 1) := by decide +kernel
theorem d_X_crash_71 : decode b_X_crash 71 = .ok (.iconst 0, 1) := by decide +kernel
theorem d_X_crash_72 : decode b_X_crash 72 = .ok (.invokevirtual 76, 3) := by decide +kernel
theorem d_X_crash_75 : decode b_X_crash 75 = .ok (.pop, 1) := by decide +kernel
theorem d_X_crash_76 : decode b_X_crash 76 = .ok (.aload_n 0, 1) := by decide +kernel
theorem d_X_crash_77 : decode b_X_crash 77 = .ok (.invokevirtual 96, 3) := by decide +kernel
theorem d_X_crash_80 : decode b_X_crash 80 = .ok (.pop, 1) := by decide +kernel
theorem d_X_crash_81 : decode b_X_crash 81 = .ok (.iload_n 1, 1) := by decide +kernel
theorem d_X_crash_82 : decode b_X_crash 82 = .ok (.ireturn, 1) := by decide +kernel
theorem d_X_backup_0 : decode b_X_backup 0 = .ok (.aload_n 0, 1) := by decide +kernel
theorem d_X_backup_1 : decode b_X_backup 1 = .ok (.getfield 51, 3) := by decide +kernel
theorem d_X_backup_4 : decode b_X_backup 4 = .ok (.iconst (-1), 1) := by decide +kernel
theorem d_X_backup_5 : decode b_X_backup 5 = .ok (.if_icmp .eq 5, 3) := by decide +kernel
theorem d_X_backup_8 : decode b_X_backup 8 = .ok (.iconst (-1), 1) := by decide +kernel
theorem d_X_backup_9 : decode b_X_backup 9 = .ok (.ireturn, 1) := by decide +kernel
theorem d_X_backup_10 : decode b_X_backup 10 = .ok (.aload_n 0, 1) := by decide +kernel
theorem d_X_backup_11 : decode b_X_backup 11 = .ok (.invokevirtual 121, 3) := by decide +kernel
theorem d_X_backup_14 : decode b_X_backup 14 = .ok (.istore_n 1, 1) := by decide +kernel
theorem d_X_backup_15 : decode b_X_backup 15 = .ok (.iload_n 1, 1) := by decide +kernel
theorem d_X_backup_16 : decode b_X_backup 16 = .ok (.iconst (-1), 1) := by decide +kernel
theorem d_X_backup_17 : decode b_X_backup 17 = .ok (.if_icmp .ne 6, 3) := by decide +kernel
theorem d_X_backup_20 : decode b_X_backup 20 = .ok (.bipush (-2), 2) := by decide +kernel
theorem d_X_backup_22 : decode b_X_backup 22 = .ok (.ireturn, 1) := by decide +kernel
theorem d_X_backup_23 : decode b_X_backup 23 = .ok (.aload_n 0, 1) := by decide +kernel
theorem d_X_backup_24 : decode b_X_backup 24 = .ok (.invokevirtual 103, 3) := by decide +kernel
theorem d_X_backup_27 : decode b_X_backup 27 = .ok (.istore_n 2, 1) := by decide +kernel
theorem d_X_backup_28 : decode b_X_backup 28 = .ok (.aload_n 0, 1) := by decide +kernel
theorem d_X_backup_29 : decode b_X_backup 29 = .ok (.getfield 46, 3) := by decide +kernel
theorem d_X_backup_32 : decode b_X_backup 32 = .ok (.iload_n 1, 1) := by decide +kernel
theorem d_X_backup_33 : decode b_X_backup 33 = .ok (.aaload, 1) := by decide +kernel
theorem d_X_backup_34 : decode b_X_backup 34 = .ok (.iload_n 2, 1) := by decide +kernel
theorem d_X_backup_35 : decode b_X_backup 35 = .ok (.aload_n 0, 1) := by decide +kernel
theorem d_X_backup_36 : decode b_X_backup 36 = .ok (.getfield 12, 3) := by decide +kernel
theorem d_X_backup_39 : decode b_X_backup 39 = .ok (.getfield 69, 3) := by decide +kernel
theorem d_X_backup_42 : decode b_X_backup 42 = .ok (.invokevirtual 124, 3) := by decide +kernel
theorem d_X_backup_45 : decode b_X_backup 45 = .ok (.aload_n 0, 1) := by decide +kernel
theorem d_X_backup_46 : decode b_X_backup 46 = .ok (.iload_n 1, 1) := by decide +kernel
theorem d_X_backup_47 : decode b_X_backup 47 = .ok (.putfield 51, 3) := by decide +kernel
theorem d_X_backup_50 : decode b_X_backup 50 = .ok (.iload_n 1, 1) := by decide +kernel
theorem d_X_backup_51 : decode b_X_backup 51 = .ok (.ireturn, 1) := by decide +kernel
theorem d_X_copy_0 : decode b_X_copy 0 = .ok (.aload_n 0, 1) := by decide +kernel
theorem d_X_copy_1 : decode b_X_copy 1 = .ok (.getfield 51, 3) := by decide +kernel
theorem d_X_copy_4 : decode b_X_copy 4 = .ok (.iconst (-1), 1) := by decide +kernel
theorem d_X_copy_5 : decode b_X_copy 5 = .ok (.if_icmp .ne 6, 3) := by decide +kernel
theorem d_X_copy_8 : decode b_X_copy 8 = .ok (.bipush (-3), 2) := by decide +kernel
theorem d_X_copy_10 : decode b_X_copy 10 = .ok (.ireturn, 1) := by decide +kernel
theorem d_X_copy_11 : decode b_X_copy 11 = .ok (.aload_n 0, 1) := by decide +kernel
theorem d_X_copy_12 : decode b_X_copy 12 = .ok (.getfield 46, 3) := by decide +kernel
theorem d_X_copy_15 : decode b_X_copy 15 = .ok (.aload_n 0, 1) := by decide +kernel
theorem d_X_copy_16 : decode b_X_copy 16 = .ok (.getfield 51, 3) := by decide +kernel
theorem d_X_copy_19 : decode b_X_copy 19 = .ok (.aaload, 1) := by decide +kernel
theorem d_X_copy_20 : decode b_X_copy 20 = .ok (.astore_n 1, 1) := by decide +kernel
theorem d_X_copy_21 : decode b_X_copy 21 = .ok (.aload_n 1, 1) := by decide +kernel
theorem d_X_copy_22 : decode b_X_copy 22 = .ok (.aload_n 0, 1) := by decide +kernel
theorem d_X_copy_23 : decode b_X_copy 23 = .ok (.getfield 26, 3) := by decide +kernel
theorem d_X_copy_26 : decode b_X_copy 26 = .ok (.getfield 128, 3) := by decide +kernel
theorem d_X_copy_29 : decode b_X_copy 29 = .ok (.invokevirtual 131, 3) := by decide +kernel
theorem d_X_copy_32 : decode b_X_copy 32 = .ok (.istore_n 2, 1) := by decide +kernel
theorem d_X_copy_33 : decode b_X_copy 33 = .ok (.iload_n 2, 1) := by decide +kernel
theorem d_X_copy_34 : decode b_X_copy 34 = .ok (.ifCond .ne 19, 3) := by decide +kernel
theorem d_X_copy_37 : decode b_X_copy 37 = .ok (.aload_n 1, 1) := by decide +kernel
theorem d_X_copy_38 : decode b_X_copy 38 = .ok (.aload_n 0, 1) := by decide +kernel
theorem d_X_copy_39 : decode b_X_copy 39 = .ok (.getfield 12, 3) := by decide +kernel
theorem d_X_copy_42 : decode b_X_copy 42 = .ok (.getfield 112, 3) := by decide +kernel
theorem d_X_copy_45 : decode b_X_copy 45 = .ok (.invokevirtual 135, 3) := by decide +kernel
theorem d_X_copy_48 : decode b_X_copy 48 = .ok (.aload_n 0, 1) := by decide +kernel
theorem d_X_copy_49 : decode b_X_copy 49 = .ok (.iconst (-1), 1) := by decide +kernel
theorem d_X_copy_50 : decode b_X_copy 50 = .ok (.putfield 51, 3) := by decide +kernel
theorem d_X_copy_53 : decode b_X_copy 53 = .ok (.iload_n 2, 1) := by decide +kernel
theorem d_X_copy_54 : decode b_X_copy 54 = .ok (.ireturn, 1) := by decide +kernel
theorem d_X_forget_0 : decode b_X_forget 0 = .ok (.aload_n 0, 1) := by decide +kernel
theorem d_X_forget_1 : decode b_X_forget 1 = .ok (.iload_n 1, 1) := by decide +kernel
theorem d_X_forget_2 : decode b_X_forget 2 = .ok (.invokevirtual 138, 3) := by decide +kernel
theorem d_X_forget_5 : decode b_X_forget 5 = .ok (.ifCond .ne 5, 3) := by decide +kernel
theorem d_X_forget_8 : decode b_X_forget 8 = .ok (.iconst 0, 1) := by decide +kernel
theorem d_X_forget_9 : decode b_X_forget 9 = .ok (.ireturn, 1) := by decide +kernel
theorem d_X_forget_10 : decode b_X_forget 10 = .ok (.aload_n 0, 1) := by decide +kernel
theorem d_X_forget_11 : decode b_X_forget 11 = .ok (.getfield 46, 3) := by decide +kernel
theorem d_X_forget_14 : decode b_X_forget 14 = .ok (.iload_n 1, 1) := by decide +kernel
theorem d_X_forget_15 : decode b_X_forget 15 = .ok (.aaload, 1) := by decide +kernel
theorem d_X_forget_16 : decode b_X_forget 16 = .ok (.invokevirtual 118, 3) := by decide +kernel
theorem d_X_forget_19 : decode b_X_forget 19 = .ok (.iconst 1, 1) := by decide +kernel
theorem d_X_forget_20 : decode b_X_forget 20 = .ok (.ireturn, 1) := by decide +kernel
theorem d_X_bound_0 : decode b_X_bound 0 = .ok (.aload_n 0, 1) := by decide +kernel
theorem d_X_bound_1 : decode b_X_bound 1 = .ok (.iload_n 1, 1) := by decide +kernel
theorem d_X_bound_2 : decode b_X_bound 2 = .ok (.invokevirtual 138, 3) := by decide +kernel
theorem d_X_bound_5 : decode b_X_bound 5 = .ok (.ifCond .ne 5, 3) := by decide +kernel
theorem d_X_bound_8 : decode b_X_bound 8 = .ok (.iconst (-1), 1) := by decide +kernel
theorem d_X_bound_9 : decode b_X_bound 9 = .ok (.ireturn, 1) := by decide +kernel
theorem d_X_bound_10 : decode b_X_bound 10 = .ok (.iload_n 2, 1) := by decide +kernel
theorem d_X_bound_11 : decode b_X_bound 11 = .ok (.lookupswitch 45 #[(0, 25), (1, 35)], 25) := by decide +kernel
theorem d_X_bound_36 : decode b_X_bound 36 = .ok (.aload_n 0, 1) := by decide +kernel
theorem d_X_bound_37 : decode b_X_bound 37 = .ok (.getfield 46, 3) := by decide +kernel
theorem d_X_bound_40 : decode b_X_bound 40 = .ok (.iload_n 1, 1) := by decide +kernel
theorem d_X_bound_41 : decode b_X_bound 41 = .ok (.aaload, 1) := by decide +kernel
theorem d_X_bound_42 : decode b_X_bound 42 = .ok (.getfield 141, 3) := by decide +kernel
theorem d_X_bound_45 : decode b_X_bound 45 = .ok (.ireturn, 1) := by decide +kernel
theorem d_X_bound_46 : decode b_X_bound 46 = .ok (.aload_n 0, 1) := by decide +kernel
theorem d_X_bound_47 : decode b_X_bound 47 = .ok (.getfield 46, 3) := by decide +kernel
theorem d_X_bound_50 : decode b_X_bound 50 = .ok (.iload_n 1, 1) := by decide +kernel
theorem d_X_bound_51 : decode b_X_bound 51 = .ok (.aaload, 1) := by decide +kernel
theorem d_X_bound_52 : decode b_X_bound 52 = .ok (.getfield 144, 3) := by decide +kernel
theorem d_X_bound_55 : decode b_X_bound 55 = .ok (.ireturn, 1) := by decide +kernel
theorem d_X_bound_56 : decode b_X_bound 56 = .ok (.iconst (-1), 1) := by decide +kernel
theorem d_X_bound_57 : decode b_X_bound 57 = .ok (.ireturn, 1) := by decide +kernel
theorem d_X_archive_0 : decode b_X_archive 0 = .ok (.aload_n 0, 1) := by decide +kernel
theorem d_X_archive_1 : decode b_X_archive 1 = .ok (.getfield 33, 3) := by decide +kernel
theorem d_X_archive_4 : decode b_X_archive 4 = .ok (.aload_n 0, 1) := by decide +kernel
theorem d_X_archive_5 : decode b_X_archive 5 = .ok (.getfield 12, 3) := by decide +kernel
theorem d_X_archive_8 : decode b_X_archive 8 = .ok (.getfield 112, 3) := by decide +kernel
theorem d_X_archive_11 : decode b_X_archive 11 = .ok (.invokevirtual 147, 3) := by decide +kernel
theorem d_X_archive_14 : decode b_X_archive 14 = .ok (.ifCond .ne 6, 3) := by decide +kernel
theorem d_X_archive_17 : decode b_X_archive 17 = .ok (.bipush (-3), 2) := by decide +kernel
theorem d_X_archive_19 : decode b_X_archive 19 = .ok (.ireturn, 1) := by decide +kernel
theorem d_X_archive_20 : decode b_X_archive 20 = .ok (.aload_n 0, 1) := by decide +kernel
theorem d_X_archive_21 : decode b_X_archive 21 = .ok (.getfield 33, 3) := by decide +kernel
theorem d_X_archive_24 : decode b_X_archive 24 = .ok (.invokevirtual 150, 3) := by decide +kernel
theorem d_X_archive_27 : decode b_X_archive 27 = .ok (.ifCond .eq 6, 3) := by decide +kernel
theorem d_X_archive_30 : decode b_X_archive 30 = .ok (.bipush (-2), 2) := by decide +kernel
theorem d_X_archive_32 : decode b_X_archive 32 = .ok (.ireturn, 1) := by decide +kernel
theorem d_X_archive_33 : decode b_X_archive 33 = .ok (.aload_n 0, 1) := by decide +kernel
theorem d_X_archive_34 : decode b_X_archive 34 = .ok (.getfield 33, 3) := by decide +kernel
theorem d_X_archive_37 : decode b_X_archive 37 = .ok (.invokevirtual 151, 3) := by decide +kernel
theorem d_X_archive_40 : decode b_X_archive 40 = .ok (.ireturn, 1) := by decide +kernel
theorem d_X_drop_0 : decode b_X_drop 0 = .ok (.aload_n 0, 1) := by decide +kernel
theorem d_X_drop_1 : decode b_X_drop 1 = .ok (.getfield 33, 3) := by decide +kernel
theorem d_X_drop_4 : decode b_X_drop 4 = .ok (.iload_n 1, 1) := by decide +kernel
theorem d_X_drop_5 : decode b_X_drop 5 = .ok (.invokevirtual 154, 3) := by decide +kernel
theorem d_X_drop_8 : decode b_X_drop 8 = .ok (.ireturn, 1) := by decide +kernel
theorem d_X_restore_0 : decode b_X_restore 0 = .ok (.aload_n 0, 1) := by decide +kernel
theorem d_X_restore_1 : decode b_X_restore 1 = .ok (.iload_n 1, 1) := by decide +kernel
theorem d_X_restore_2 : decode b_X_restore 2 = .ok (.invokevirtual 138, 3) := by decide +kernel
theorem d_X_restore_5 : decode b_X_restore 5 = .ok (.ifCond .eq 7, 3) := by decide +kernel
theorem d_X_restore_8 : decode b_X_restore 8 = .ok (.iload_n 2, 1) := by decide +kernel
theorem d_X_restore_9 : decode b_X_restore 9 = .ok (.ifCond .ge 5, 3) := by decide +kernel
theorem d_X_restore_12 : decode b_X_restore 12 = .ok (.iconst (-1), 1) := by decide +kernel
theorem d_X_restore_13 : decode b_X_restore 13 = .ok (.ireturn, 1) := by decide +kernel
theorem d_X_restore_14 : decode b_X_restore 14 = .ok (.aload_n 0, 1) := by decide +kernel
theorem d_X_restore_15 : decode b_X_restore 15 = .ok (.getfield 46, 3) := by decide +kernel
theorem d_X_restore_18 : decode b_X_restore 18 = .ok (.iload_n 1, 1) := by decide +kernel
theorem d_X_restore_19 : decode b_X_restore 19 = .ok (.aaload, 1) := by decide +kernel
theorem d_X_restore_20 : decode b_X_restore 20 = .ok (.astore_n 3, 1) := by decide +kernel
theorem d_X_restore_21 : decode b_X_restore 21 = .ok (.iload_n 2, 1) := by decide +kernel
theorem d_X_restore_22 : decode b_X_restore 22 = .ok (.aload_n 3, 1) := by decide +kernel
theorem d_X_restore_23 : decode b_X_restore 23 = .ok (.getfield 144, 3) := by decide +kernel
theorem d_X_restore_26 : decode b_X_restore 26 = .ok (.if_icmp .ge 6, 3) := by decide +kernel
theorem d_X_restore_29 : decode b_X_restore 29 = .ok (.bipush (-4), 2) := by decide +kernel
theorem d_X_restore_31 : decode b_X_restore 31 = .ok (.ireturn, 1) := by decide +kernel
theorem d_X_restore_32 : decode b_X_restore 32 = .ok (.iload_n 2, 1) := by decide +kernel
theorem d_X_restore_33 : decode b_X_restore 33 = .ok (.aload_n 3, 1) := by decide +kernel
theorem d_X_restore_34 : decode b_X_restore 34 = .ok (.getfield 141, 3) := by decide +kernel
theorem d_X_restore_37 : decode b_X_restore 37 = .ok (.if_icmp .le 21, 3) := by decide +kernel
theorem d_X_restore_40 : decode b_X_restore 40 = .ok (.aload_n 0, 1) := by decide +kernel
theorem d_X_restore_41 : decode b_X_restore 41 = .ok (.getfield 33, 3) := by decide +kernel
theorem d_X_restore_44 : decode b_X_restore 44 = .ok (.aload_n 3, 1) := by decide +kernel
theorem d_X_restore_45 : decode b_X_restore 45 = .ok (.getfield 141, 3) := by decide +kernel
theorem d_X_restore_48 : decode b_X_restore 48 = .ok (.iload_n 2, 1) := by decide +kernel
theorem d_X_restore_49 : decode b_X_restore 49 = .ok (.invokevirtual 157, 3) := by decide +kernel
theorem d_X_restore_52 : decode b_X_restore 52 = .ok (.ifCond .ne 6, 3) := by decide +kernel
theorem d_X_restore_55 : decode b_X_restore 55 = .ok (.bipush (-6), 2) := by decide +kernel
theorem d_X_restore_57 : decode b_X_restore 57 = .ok (.ireturn, 1) := by decide +kernel
theorem d_X_restore_58 : decode b_X_restore 58 = .ok (.iload_n 2, 1) := by decide +kernel
theorem d_X_restore_59 : decode b_X_restore 59 = .ok (.aload_n 3, 1) := by decide +kernel
theorem d_X_restore_60 : decode b_X_restore 60 = .ok (.getfield 141, 3) := by decide +kernel
theorem d_X_restore_63 : decode b_X_restore 63 = .ok (.if_icmp .eq 17, 3) := by decide +kernel
theorem d_X_restore_66 : decode b_X_restore 66 = .ok (.aload_n 0, 1) := by decide +kernel
theorem d_X_restore_67 : decode b_X_restore 67 = .ok (.getfield 12, 3) := by decide +kernel
theorem d_X_restore_70 : decode b_X_restore 70 = .ok (.iload_n 2, 1) := by decide +kernel
theorem d_X_restore_71 : decode b_X_restore 71 = .ok (.invokevirtual 161, 3) := by decide +kernel
theorem d_X_restore_74 : decode b_X_restore 74 = .ok (.ifCond .ne 6, 3) := by decide +kernel
theorem d_X_restore_77 : decode b_X_restore 77 = .ok (.bipush (-5), 2) := by decide +kernel
theorem d_X_restore_79 : decode b_X_restore 79 = .ok (.ireturn, 1) := by decide +kernel
theorem d_X_restore_80 : decode b_X_restore 80 = .ok (.aload_n 0, 1) := by decide +kernel
theorem d_X_restore_81 : decode b_X_restore 81 = .ok (.getfield 40, 3) := by decide +kernel
theorem d_X_restore_84 : decode b_X_restore 84 = .ok (.aload_n 3, 1) := by decide +kernel
theorem d_X_restore_85 : decode b_X_restore 85 = .ok (.aload_n 0, 1) := by decide +kernel
theorem d_X_restore_86 : decode b_X_restore 86 = .ok (.getfield 12, 3) := by decide +kernel
theorem d_X_restore_89 : decode b_X_restore 89 = .ok (.iload_n 2, 1) := by decide +kernel
theorem d_X_restore_90 : decode b_X_restore 90 = .ok (.invokevirtual 164, 3) := by decide +kernel
theorem d_X_restore_93 : decode b_X_restore 93 = .ok (.iconst 0, 1) := by decide +kernel
theorem d_X_restore_94 : decode b_X_restore 94 = .ok (.ireturn, 1) := by decide +kernel
theorem d_X_restored_0 : decode b_X_restored 0 = .ok (.iload_n 1, 1) := by decide +kernel
theorem d_X_restored_1 : decode b_X_restored 1 = .ok (.invokestatic 59, 3) := by decide +kernel
theorem d_X_restored_4 : decode b_X_restored 4 = .ok (.ifCond .eq 15, 3) := by decide +kernel
theorem d_X_restored_7 : decode b_X_restored 7 = .ok (.aload_n 0, 1) := by decide +kernel
theorem d_X_restored_8 : decode b_X_restored 8 = .ok (.getfield 40, 3) := by decide +kernel
theorem d_X_restored_11 : decode b_X_restored 11 = .ok (.getfield 168, 3) := by decide +kernel
theorem d_X_restored_14 : decode b_X_restored 14 = .ok (.iload_n 1, 1) := by decide +kernel
theorem d_X_restored_15 : decode b_X_restored 15 = .ok (.iaload, 1) := by decide +kernel
theorem d_X_restored_16 : decode b_X_restored 16 = .ok (.goto 4, 3) := by decide +kernel
theorem d_X_restored_19 : decode b_X_restored 19 = .ok (.iconst 0, 1) := by decide +kernel
theorem d_X_restored_20 : decode b_X_restored 20 = .ok (.ireturn, 1) := by decide +kernel
theorem d_X_replayed_0 : decode b_X_replayed 0 = .ok (.aload_n 0, 1) := by decide +kernel
theorem d_X_replayed_1 : decode b_X_replayed 1 = .ok (.getfield 40, 3) := by decide +kernel
theorem d_X_replayed_4 : decode b_X_replayed 4 = .ok (.getfield 171, 3) := by decide +kernel
theorem d_X_replayed_7 : decode b_X_replayed 7 = .ok (.ireturn, 1) := by decide +kernel
theorem d_X_reach_0 : decode b_X_reach 0 = .ok (.aload_n 0, 1) := by decide +kernel
theorem d_X_reach_1 : decode b_X_reach 1 = .ok (.iload_n 1, 1) := by decide +kernel
theorem d_X_reach_2 : decode b_X_reach 2 = .ok (.invokevirtual 138, 3) := by decide +kernel
theorem d_X_reach_5 : decode b_X_reach 5 = .ok (.ifCond .ne 5, 3) := by decide +kernel
theorem d_X_reach_8 : decode b_X_reach 8 = .ok (.iconst (-1), 1) := by decide +kernel
theorem d_X_reach_9 : decode b_X_reach 9 = .ok (.ireturn, 1) := by decide +kernel
theorem d_X_reach_10 : decode b_X_reach 10 = .ok (.aload_n 0, 1) := by decide +kernel
theorem d_X_reach_11 : decode b_X_reach 11 = .ok (.getfield 46, 3) := by decide +kernel
theorem d_X_reach_14 : decode b_X_reach 14 = .ok (.iload_n 1, 1) := by decide +kernel
theorem d_X_reach_15 : decode b_X_reach 15 = .ok (.aaload, 1) := by decide +kernel
theorem d_X_reach_16 : decode b_X_reach 16 = .ok (.astore_n 2, 1) := by decide +kernel
theorem d_X_reach_17 : decode b_X_reach 17 = .ok (.aload_n 0, 1) := by decide +kernel
theorem d_X_reach_18 : decode b_X_reach 18 = .ok (.getfield 33, 3) := by decide +kernel
theorem d_X_reach_21 : decode b_X_reach 21 = .ok (.aload_n 2, 1) := by decide +kernel
theorem d_X_reach_22 : decode b_X_reach 22 = .ok (.getfield 141, 3) := by decide +kernel
theorem d_X_reach_25 : decode b_X_reach 25 = .ok (.invokevirtual 174, 3) := by decide +kernel
theorem d_X_reach_28 : decode b_X_reach 28 = .ok (.istore_n 3, 1) := by decide +kernel
theorem d_X_reach_29 : decode b_X_reach 29 = .ok (.iload_n 3, 1) := by decide +kernel
theorem d_X_reach_30 : decode b_X_reach 30 = .ok (.istore 4, 2) := by decide +kernel
theorem d_X_reach_32 : decode b_X_reach 32 = .ok (.iload 4, 2) := by decide +kernel
theorem d_X_reach_34 : decode b_X_reach 34 = .ok (.aload_n 2, 1) := by decide +kernel
theorem d_X_reach_35 : decode b_X_reach 35 = .ok (.getfield 141, 3) := by decide +kernel
theorem d_X_reach_38 : decode b_X_reach 38 = .ok (.if_icmp .le 33, 3) := by decide +kernel
theorem d_X_reach_41 : decode b_X_reach 41 = .ok (.iload 4, 2) := by decide +kernel
theorem d_X_reach_43 : decode b_X_reach 43 = .ok (.aload_n 2, 1) := by decide +kernel
theorem d_X_reach_44 : decode b_X_reach 44 = .ok (.getfield 144, 3) := by decide +kernel
theorem d_X_reach_47 : decode b_X_reach 47 = .ok (.if_icmp .lt 24, 3) := by decide +kernel
theorem d_X_reach_50 : decode b_X_reach 50 = .ok (.aload_n 0, 1) := by decide +kernel
theorem d_X_reach_51 : decode b_X_reach 51 = .ok (.getfield 12, 3) := by decide +kernel
theorem d_X_reach_54 : decode b_X_reach 54 = .ok (.iload 4, 2) := by decide +kernel
theorem d_X_reach_56 : decode b_X_reach 56 = .ok (.invokevirtual 161, 3) := by decide +kernel
theorem d_X_reach_59 : decode b_X_reach 59 = .ok (.ifCond .eq 6, 3) := by decide +kernel
theorem d_X_reach_62 : decode b_X_reach 62 = .ok (.iload 4, 2) := by decide +kernel
theorem d_X_reach_64 : decode b_X_reach 64 = .ok (.ireturn, 1) := by decide +kernel
theorem d_X_reach_65 : decode b_X_reach 65 = .ok (.iinc 4 (-1), 3) := by decide +kernel
theorem d_X_reach_68 : decode b_X_reach 68 = .ok (.goto (-36), 3) := by decide +kernel
theorem d_X_reach_71 : decode b_X_reach 71 = .ok (.aload_n 2, 1) := by decide +kernel
theorem d_X_reach_72 : decode b_X_reach 72 = .ok (.getfield 141, 3) := by decide +kernel
theorem d_X_reach_75 : decode b_X_reach 75 = .ok (.aload_n 2, 1) := by decide +kernel
theorem d_X_reach_76 : decode b_X_reach 76 = .ok (.getfield 144, 3) := by decide +kernel
theorem d_X_reach_79 : decode b_X_reach 79 = .ok (.if_icmp .ne 10, 3) := by decide +kernel
theorem d_X_reach_82 : decode b_X_reach 82 = .ok (.aload_n 2, 1) := by decide +kernel
theorem d_X_reach_83 : decode b_X_reach 83 = .ok (.getfield 141, 3) := by decide +kernel
theorem d_X_reach_86 : decode b_X_reach 86 = .ok (.goto 4, 3) := by decide +kernel
theorem d_X_reach_89 : decode b_X_reach 89 = .ok (.iconst (-1), 1) := by decide +kernel
theorem d_X_reach_90 : decode b_X_reach 90 = .ok (.ireturn, 1) := by decide +kernel
theorem d_X_position_0 : decode b_X_position 0 = .ok (.aload_n 0, 1) := by decide +kernel
theorem d_X_position_1 : decode b_X_position 1 = .ok (.getfield 12, 3) := by decide +kernel
theorem d_X_position_4 : decode b_X_position 4 = .ok (.getfield 69, 3) := by decide +kernel
theorem d_X_position_7 : decode b_X_position 7 = .ok (.ireturn, 1) := by decide +kernel
theorem d_X_dirty_0 : decode b_X_dirty 0 = .ok (.aload_n 0, 1) := by decide +kernel
theorem d_X_dirty_1 : decode b_X_dirty 1 = .ok (.getfield 26, 3) := by decide +kernel
theorem d_X_dirty_4 : decode b_X_dirty 4 = .ok (.invokevirtual 177, 3) := by decide +kernel
theorem d_X_dirty_7 : decode b_X_dirty 7 = .ok (.ireturn, 1) := by decide +kernel
theorem d_X_isTransaction_0 : decode b_X_isTransaction 0 = .ok (.iload_n 0, 1) := by decide +kernel
theorem d_X_isTransaction_1 : decode b_X_isTransaction 1 = .ok (.ifCond .lt 12, 3) := by decide +kernel
theorem d_X_isTransaction_4 : decode b_X_isTransaction 4 = .ok (.iload_n 0, 1) := by decide +kernel
theorem d_X_isTransaction_5 : decode b_X_isTransaction 5 = .ok (.iconst 3, 1) := by decide +kernel
theorem d_X_isTransaction_6 : decode b_X_isTransaction 6 = .ok (.if_icmp .ge 7, 3) := by decide +kernel
theorem d_X_isTransaction_9 : decode b_X_isTransaction 9 = .ok (.iconst 1, 1) := by decide +kernel
theorem d_X_isTransaction_10 : decode b_X_isTransaction 10 = .ok (.goto 4, 3) := by decide +kernel
theorem d_X_isTransaction_13 : decode b_X_isTransaction 13 = .ok (.iconst 0, 1) := by decide +kernel
theorem d_X_isTransaction_14 : decode b_X_isTransaction 14 = .ok (.ireturn, 1) := by decide +kernel
theorem d_X_isKey_0 : decode b_X_isKey 0 = .ok (.iload_n 0, 1) := by decide +kernel
theorem d_X_isKey_1 : decode b_X_isKey 1 = .ok (.ifCond .lt 13, 3) := by decide +kernel
theorem d_X_isKey_4 : decode b_X_isKey 4 = .ok (.iload_n 0, 1) := by decide +kernel
theorem d_X_isKey_5 : decode b_X_isKey 5 = .ok (.bipush 32, 2) := by decide +kernel
theorem d_X_isKey_7 : decode b_X_isKey 7 = .ok (.if_icmp .ge 7, 3) := by decide +kernel
theorem d_X_isKey_10 : decode b_X_isKey 10 = .ok (.iconst 1, 1) := by decide +kernel
theorem d_X_isKey_11 : decode b_X_isKey 11 = .ok (.goto 4, 3) := by decide +kernel
theorem d_X_isKey_14 : decode b_X_isKey 14 = .ok (.iconst 0, 1) := by decide +kernel
theorem d_X_isKey_15 : decode b_X_isKey 15 = .ok (.ireturn, 1) := by decide +kernel
theorem d_X_isFinishedBackup_0 : decode b_X_isFinishedBackup 0 = .ok (.iload_n 1, 1) := by decide +kernel
theorem d_X_isFinishedBackup_1 : decode b_X_isFinishedBackup 1 = .ok (.ifCond .lt 24, 3) := by decide +kernel
theorem d_X_isFinishedBackup_4 : decode b_X_isFinishedBackup 4 = .ok (.iload_n 1, 1) := by decide +kernel
theorem d_X_isFinishedBackup_5 : decode b_X_isFinishedBackup 5 = .ok (.iconst 3, 1) := by decide +kernel
theorem d_X_isFinishedBackup_6 : decode b_X_isFinishedBackup 6 = .ok (.if_icmp .ge 19, 3) := by decide +kernel
theorem d_X_isFinishedBackup_9 : decode b_X_isFinishedBackup 9 = .ok (.aload_n 0, 1) := by decide +kernel
theorem d_X_isFinishedBackup_10 : decode b_X_isFinishedBackup 10 = .ok (.getfield 46, 3) := by decide +kernel
theorem d_X_isFinishedBackup_13 : decode b_X_isFinishedBackup 13 = .ok (.iload_n 1, 1) := by decide +kernel
theorem d_X_isFinishedBackup_14 : decode b_X_isFinishedBackup 14 = .ok (.aaload, 1) := by decide +kernel
theorem d_X_isFinishedBackup_15 : decode b_X_isFinishedBackup 15 = .ok (.getfield 180, 3) := by decide +kernel
theorem d_X_isFinishedBackup_18 : decode b_X_isFinishedBackup 18 = .ok (.ifCond .eq 7, 3) := by decide +kernel
theorem d_X_isFinishedBackup_21 : decode b_X_isFinishedBackup 21 = .ok (.iconst 1, 1) := by decide +kernel
theorem d_X_isFinishedBackup_22 : decode b_X_isFinishedBackup 22 = .ok (.goto 4, 3) := by decide +kernel
theorem d_X_isFinishedBackup_25 : decode b_X_isFinishedBackup 25 = .ok (.iconst 0, 1) := by decide +kernel
theorem d_X_isFinishedBackup_26 : decode b_X_isFinishedBackup 26 = .ok (.ireturn, 1) := by decide +kernel
theorem d_X_refusalToEnd_0 : decode b_X_refusalToEnd 0 = .ok (.iload_n 1, 1) := by decide +kernel
theorem d_X_refusalToEnd_1 : decode b_X_refusalToEnd 1 = .ok (.invokestatic 55, 3) := by decide +kernel
theorem d_X_refusalToEnd_4 : decode b_X_refusalToEnd 4 = .ok (.ifCond .ne 5, 3) := by decide +kernel
theorem d_X_refusalToEnd_7 : decode b_X_refusalToEnd 7 = .ok (.iconst (-1), 1) := by decide +kernel
theorem d_X_refusalToEnd_8 : decode b_X_refusalToEnd 8 = .ok (.ireturn, 1) := by decide +kernel
theorem d_X_refusalToEnd_9 : decode b_X_refusalToEnd 9 = .ok (.aload_n 0, 1) := by decide +kernel
theorem d_X_refusalToEnd_10 : decode b_X_refusalToEnd 10 = .ok (.getfield 19, 3) := by decide +kernel
theorem d_X_refusalToEnd_13 : decode b_X_refusalToEnd 13 = .ok (.iload_n 1, 1) := by decide +kernel
theorem d_X_refusalToEnd_14 : decode b_X_refusalToEnd 14 = .ok (.invokevirtual 184, 3) := by decide +kernel
theorem d_X_refusalToEnd_17 : decode b_X_refusalToEnd 17 = .ok (.ifCond .ne 6, 3) := by decide +kernel
theorem d_X_refusalToEnd_20 : decode b_X_refusalToEnd 20 = .ok (.bipush (-3), 2) := by decide +kernel
theorem d_X_refusalToEnd_22 : decode b_X_refusalToEnd 22 = .ok (.ireturn, 1) := by decide +kernel
theorem d_X_refusalToEnd_23 : decode b_X_refusalToEnd 23 = .ok (.aload_n 0, 1) := by decide +kernel
theorem d_X_refusalToEnd_24 : decode b_X_refusalToEnd 24 = .ok (.getfield 12, 3) := by decide +kernel
theorem d_X_refusalToEnd_27 : decode b_X_refusalToEnd 27 = .ok (.invokevirtual 65, 3) := by decide +kernel
theorem d_X_refusalToEnd_30 : decode b_X_refusalToEnd 30 = .ok (.ifCond .eq 8, 3) := by decide +kernel
theorem d_X_refusalToEnd_33 : decode b_X_refusalToEnd 33 = .ok (.bipush (-2), 2) := by decide +kernel
theorem d_X_refusalToEnd_35 : decode b_X_refusalToEnd 35 = .ok (.goto 4, 3) := by decide +kernel
theorem d_X_refusalToEnd_38 : decode b_X_refusalToEnd 38 = .ok (.iconst 0, 1) := by decide +kernel
theorem d_X_refusalToEnd_39 : decode b_X_refusalToEnd 39 = .ok (.ireturn, 1) := by decide +kernel
theorem d_X_leastFreeBackup_0 : decode b_X_leastFreeBackup 0 = .ok (.iconst 0, 1) := by decide +kernel
theorem d_X_leastFreeBackup_1 : decode b_X_leastFreeBackup 1 = .ok (.istore_n 1, 1) := by decide +kernel
theorem d_X_leastFreeBackup_2 : decode b_X_leastFreeBackup 2 = .ok (.iload_n 1, 1) := by decide +kernel
theorem d_X_leastFreeBackup_3 : decode b_X_leastFreeBackup 3 = .ok (.iconst 3, 1) := by decide +kernel
theorem d_X_leastFreeBackup_4 : decode b_X_leastFreeBackup 4 = .ok (.if_icmp .ge 23, 3) := by decide +kernel
theorem d_X_leastFreeBackup_7 : decode b_X_leastFreeBackup 7 = .ok (.aload_n 0, 1) := by decide +kernel
theorem d_X_leastFreeBackup_8 : decode b_X_leastFreeBackup 8 = .ok (.getfield 46, 3) := by decide +kernel
theorem d_X_leastFreeBackup_11 : decode b_X_leastFreeBackup 11 = .ok (.iload_n 1, 1) := by decide +kernel
theorem d_X_leastFreeBackup_12 : decode b_X_leastFreeBackup 12 = .ok (.aaload, 1) := by decide +kernel
theorem d_X_leastFreeBackup_13 : decode b_X_leastFreeBackup 13 = .ok (.getfield 187, 3) := by decide +kernel
theorem d_X_leastFreeBackup_16 : decode b_X_leastFreeBackup 16 = .ok (.ifCond .ne 5, 3) := by decide +kernel
theorem d_X_leastFreeBackup_19 : decode b_X_leastFreeBackup 19 = .ok (.iload_n 1, 1) := by decide +kernel
theorem d_X_leastFreeBackup_20 : decode b_X_leastFreeBackup 20 = .ok (.ireturn, 1) := by decide +kernel
theorem d_X_leastFreeBackup_21 : decode b_X_leastFreeBackup 21 = .ok (.iinc 1 1, 3) := by decide +kernel
theorem d_X_leastFreeBackup_24 : decode b_X_leastFreeBackup 24 = .ok (.goto (-22), 3) := by decide +kernel
theorem d_X_leastFreeBackup_27 : decode b_X_leastFreeBackup 27 = .ok (.iconst (-1), 1) := by decide +kernel
theorem d_X_leastFreeBackup_28 : decode b_X_leastFreeBackup 28 = .ok (.ireturn, 1) := by decide +kernel
theorem d_X_syncLog_0 : decode b_X_syncLog 0 = .ok (.aload_n 0, 1) := by decide +kernel
theorem d_X_syncLog_1 : decode b_X_syncLog 1 = .ok (.getfield 26, 3) := by decide +kernel
theorem d_X_syncLog_4 : decode b_X_syncLog 4 = .ok (.invokevirtual 190, 3) := by decide +kernel
theorem d_X_syncLog_7 : decode b_X_syncLog 7 = .ok (.aload_n 0, 1) := by decide +kernel
theorem d_X_syncLog_8 : decode b_X_syncLog 8 = .ok (.getfield 12, 3) := by decide +kernel
theorem d_X_syncLog_11 : decode b_X_syncLog 11 = .ok (.invokevirtual 193, 3) := by decide +kernel
theorem d_X_syncLog_14 : decode b_X_syncLog 14 = .ok (.ireturn, 1) := by decide +kernel
theorem d_X_flushPage_0 : decode b_X_flushPage 0 = .ok (.aload_n 0, 1) := by decide +kernel
theorem d_X_flushPage_1 : decode b_X_flushPage 1 = .ok (.getfield 26, 3) := by decide +kernel
theorem d_X_flushPage_4 : decode b_X_flushPage 4 = .ok (.iload_n 1, 1) := by decide +kernel
theorem d_X_flushPage_5 : decode b_X_flushPage 5 = .ok (.invokevirtual 196, 3) := by decide +kernel
theorem d_X_flushPage_8 : decode b_X_flushPage 8 = .ok (.ifCond .ne 5, 3) := by decide +kernel
theorem d_X_flushPage_11 : decode b_X_flushPage 11 = .ok (.iconst 0, 1) := by decide +kernel
theorem d_X_flushPage_12 : decode b_X_flushPage 12 = .ok (.ireturn, 1) := by decide +kernel
theorem d_X_flushPage_13 : decode b_X_flushPage 13 = .ok (.aload_n 0, 1) := by decide +kernel
theorem d_X_flushPage_14 : decode b_X_flushPage 14 = .ok (.getfield 26, 3) := by decide +kernel
theorem d_X_flushPage_17 : decode b_X_flushPage 17 = .ok (.getfield 199, 3) := by decide +kernel
theorem d_X_flushPage_20 : decode b_X_flushPage 20 = .ok (.iload_n 1, 1) := by decide +kernel
theorem d_X_flushPage_21 : decode b_X_flushPage 21 = .ok (.iaload, 1) := by decide +kernel
theorem d_X_flushPage_22 : decode b_X_flushPage 22 = .ok (.aload_n 0, 1) := by decide +kernel
theorem d_X_flushPage_23 : decode b_X_flushPage 23 = .ok (.getfield 12, 3) := by decide +kernel
theorem d_X_flushPage_26 : decode b_X_flushPage 26 = .ok (.getfield 112, 3) := by decide +kernel
theorem d_X_flushPage_29 : decode b_X_flushPage 29 = .ok (.if_icmp .le 8, 3) := by decide +kernel
theorem d_X_flushPage_32 : decode b_X_flushPage 32 = .ok (.aload_n 0, 1) := by decide +kernel
theorem d_X_flushPage_33 : decode b_X_flushPage 33 = .ok (.invokevirtual 96, 3) := by decide +kernel
theorem d_X_flushPage_36 : decode b_X_flushPage 36 = .ok (.pop, 1) := by decide +kernel
theorem d_X_flushPage_37 : decode b_X_flushPage 37 = .ok (.aload_n 0, 1) := by decide +kernel
theorem d_X_flushPage_38 : decode b_X_flushPage 38 = .ok (.getfield 26, 3) := by decide +kernel
theorem d_X_flushPage_41 : decode b_X_flushPage 41 = .ok (.iload_n 1, 1) := by decide +kernel
theorem d_X_flushPage_42 : decode b_X_flushPage 42 = .ok (.invokevirtual 202, 3) := by decide +kernel
theorem d_X_flushPage_45 : decode b_X_flushPage 45 = .ok (.iconst 1, 1) := by decide +kernel
theorem d_X_flushPage_46 : decode b_X_flushPage 46 = .ok (.ireturn, 1) := by decide +kernel
theorem d_X_makeCheckpoint_0 : decode b_X_makeCheckpoint 0 = .ok (.aload_n 0, 1) := by decide +kernel
theorem d_X_makeCheckpoint_1 : decode b_X_makeCheckpoint 1 = .ok (.invokevirtual 96, 3) := by decide +kernel
theorem d_X_makeCheckpoint_4 : decode b_X_makeCheckpoint 4 = .ok (.pop, 1) := by decide +kernel
theorem d_X_makeCheckpoint_5 : decode b_X_makeCheckpoint 5 = .ok (.iconst 0, 1) := by decide +kernel
theorem d_X_makeCheckpoint_6 : decode b_X_makeCheckpoint 6 = .ok (.istore_n 1, 1) := by decide +kernel
theorem d_X_makeCheckpoint_7 : decode b_X_makeCheckpoint 7 = .ok (.iload_n 1, 1) := by decide +kernel
theorem d_X_makeCheckpoint_8 : decode b_X_makeCheckpoint 8 = .ok (.bipush 8, 2) := by decide +kernel
theorem d_X_makeCheckpoint_10 : decode b_X_makeCheckpoint 10 = .ok (.if_icmp .ge 15, 3) := by decide +kernel
theorem d_X_makeCheckpoint_13 : decode b_X_makeCheckpoint 13 = .ok (.aload_n 0, 1) := by decide +kernel
theorem d_X_makeCheckpoint_14 : decode b_X_makeCheckpoint 14 = .ok (.iload_n 1, 1) := by decide +kernel
theorem d_X_makeCheckpoint_15 : decode b_X_makeCheckpoint 15 = .ok (.invokevirtual 100, 3) := by decide +kernel
theorem d_X_makeCheckpoint_18 : decode b_X_makeCheckpoint 18 = .ok (.pop, 1) := by decide +kernel
theorem d_X_makeCheckpoint_19 : decode b_X_makeCheckpoint 19 = .ok (.iinc 1 1, 3) := by decide +kernel
theorem d_X_makeCheckpoint_22 : decode b_X_makeCheckpoint 22 = .ok (.goto (-15), 3) := by decide +kernel
theorem d_X_makeCheckpoint_25 : decode b_X_makeCheckpoint 25 = .ok (.aload_n 0, 1) := by decide +kernel
theorem d_X_makeCheckpoint_26 : decode b_X_makeCheckpoint 26 = .ok (.getfield 19, 3) := by decide +kernel
theorem d_X_makeCheckpoint_29 : decode b_X_makeCheckpoint 29 = .ok (.aload_n 0, 1) := by decide +kernel
theorem d_X_makeCheckpoint_30 : decode b_X_makeCheckpoint 30 = .ok (.getfield 12, 3) := by decide +kernel
theorem d_X_makeCheckpoint_33 : decode b_X_makeCheckpoint 33 = .ok (.getfield 69, 3) := by decide +kernel
theorem d_X_makeCheckpoint_36 : decode b_X_makeCheckpoint 36 = .ok (.invokevirtual 205, 3) := by decide +kernel
theorem d_X_makeCheckpoint_39 : decode b_X_makeCheckpoint 39 = .ok (.ireturn, 1) := by decide +kernel
theorem d_M_init_0 : decode b_M_init 0 = .ok (.aload_n 0, 1) := by decide +kernel
theorem d_M_init_1 : decode b_M_init 1 = .ok (.invokespecial 1, 3) := by decide +kernel
theorem d_M_init_4 : decode b_M_init 4 = .ok (.aload_n 0, 1) := by decide +kernel
theorem d_M_init_5 : decode b_M_init 5 = .ok (.sipush 520, 3) := by decide +kernel
theorem d_M_init_8 : decode b_M_init 8 = .ok (.newarray .int, 2) := by decide +kernel
theorem d_M_init_10 : decode b_M_init 10 = .ok (.putfield 7, 3) := by decide +kernel
theorem d_M_init_13 : decode b_M_init 13 = .ok (.aload_n 0, 1) := by decide +kernel
theorem d_M_init_14 : decode b_M_init 14 = .ok (.sipush 520, 3) := by decide +kernel
theorem d_M_init_17 : decode b_M_init 17 = .ok (.newarray .int, 2) := by decide +kernel
theorem d_M_init_19 : decode b_M_init 19 = .ok (.putfield 13, 3) := by decide +kernel
theorem d_M_init_22 : decode b_M_init 22 = .ok (.aload_n 0, 1) := by decide +kernel
theorem d_M_init_23 : decode b_M_init 23 = .ok (.sipush 520, 3) := by decide +kernel
theorem d_M_init_26 : decode b_M_init 26 = .ok (.newarray .int, 2) := by decide +kernel
theorem d_M_init_28 : decode b_M_init 28 = .ok (.putfield 16, 3) := by decide +kernel
theorem d_M_init_31 : decode b_M_init 31 = .ok (.aload_n 0, 1) := by decide +kernel
theorem d_M_init_32 : decode b_M_init 32 = .ok (.sipush 520, 3) := by decide +kernel
theorem d_M_init_35 : decode b_M_init 35 = .ok (.newarray .int, 2) := by decide +kernel
theorem d_M_init_37 : decode b_M_init 37 = .ok (.putfield 19, 3) := by decide +kernel
theorem d_M_init_40 : decode b_M_init 40 = .ok (.aload_n 0, 1) := by decide +kernel
theorem d_M_init_41 : decode b_M_init 41 = .ok (.bipush 8, 2) := by decide +kernel
theorem d_M_init_43 : decode b_M_init 43 = .ok (.newarray .int, 2) := by decide +kernel
theorem d_M_init_45 : decode b_M_init 45 = .ok (.putfield 22, 3) := by decide +kernel
theorem d_M_init_48 : decode b_M_init 48 = .ok (.aload_n 0, 1) := by decide +kernel
theorem d_M_init_49 : decode b_M_init 49 = .ok (.iconst 3, 1) := by decide +kernel
theorem d_M_init_50 : decode b_M_init 50 = .ok (.newarray .int, 2) := by decide +kernel
theorem d_M_init_52 : decode b_M_init 52 = .ok (.putfield 25, 3) := by decide +kernel
theorem d_M_init_55 : decode b_M_init 55 = .ok (.aload_n 0, 1) := by decide +kernel
theorem d_M_init_56 : decode b_M_init 56 = .ok (.iconst 3, 1) := by decide +kernel
theorem d_M_init_57 : decode b_M_init 57 = .ok (.newarray .int, 2) := by decide +kernel
theorem d_M_init_59 : decode b_M_init 59 = .ok (.putfield 28, 3) := by decide +kernel
theorem d_M_init_62 : decode b_M_init 62 = .ok (.aload_n 0, 1) := by decide +kernel
theorem d_M_init_63 : decode b_M_init 63 = .ok (.iconst 3, 1) := by decide +kernel
theorem d_M_init_64 : decode b_M_init 64 = .ok (.newarray .int, 2) := by decide +kernel
theorem d_M_init_66 : decode b_M_init 66 = .ok (.putfield 31, 3) := by decide +kernel
theorem d_M_init_69 : decode b_M_init 69 = .ok (.aload_n 0, 1) := by decide +kernel
theorem d_M_init_70 : decode b_M_init 70 = .ok (.iconst 3, 1) := by decide +kernel
theorem d_M_init_71 : decode b_M_init 71 = .ok (.newarray .int, 2) := by decide +kernel
theorem d_M_init_73 : decode b_M_init 73 = .ok (.putfield 34, 3) := by decide +kernel
theorem d_M_init_76 : decode b_M_init 76 = .ok (.aload_n 0, 1) := by decide +kernel
theorem d_M_init_77 : decode b_M_init 77 = .ok (.bipush 66, 2) := by decide +kernel
theorem d_M_init_79 : decode b_M_init 79 = .ok (.newarray .boolean, 2) := by decide +kernel
theorem d_M_init_81 : decode b_M_init 81 = .ok (.putfield 37, 3) := by decide +kernel
theorem d_M_init_84 : decode b_M_init 84 = .ok (.return_, 1) := by decide +kernel
theorem d_M_add_0 : decode b_M_add 0 = .ok (.aload_n 0, 1) := by decide +kernel
theorem d_M_add_1 : decode b_M_add 1 = .ok (.getfield 7, 3) := by decide +kernel
theorem d_M_add_4 : decode b_M_add 4 = .ok (.aload_n 0, 1) := by decide +kernel
theorem d_M_add_5 : decode b_M_add 5 = .ok (.getfield 41, 3) := by decide +kernel

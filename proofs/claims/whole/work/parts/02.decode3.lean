theorem d_Pg_writeToDisk_14 : decode b_Pg_writeToDisk 14 = .ok (.iconst 4, 1) := by decide +kernel
theorem d_Pg_writeToDisk_15 : decode b_Pg_writeToDisk 15 = .ok (.invokestatic 51, 3) := by decide +kernel
theorem d_Pg_writeToDisk_18 : decode b_Pg_writeToDisk 18 = .ok (.aload_n 0, 1) := by decide +kernel
theorem d_Pg_writeToDisk_19 : decode b_Pg_writeToDisk 19 = .ok (.iload_n 1, 1) := by decide +kernel
theorem d_Pg_writeToDisk_20 : decode b_Pg_writeToDisk 20 = .ok (.invokevirtual 57, 3) := by decide +kernel
theorem d_Pg_writeToDisk_23 : decode b_Pg_writeToDisk 23 = .ok (.return_, 1) := by decide +kernel
theorem d_Pg_keepForCrash_0 : decode b_Pg_keepForCrash 0 = .ok (.aload_n 0, 1) := by decide +kernel
theorem d_Pg_keepForCrash_1 : decode b_Pg_keepForCrash 1 = .ok (.getfield 9, 3) := by decide +kernel
theorem d_Pg_keepForCrash_4 : decode b_Pg_keepForCrash 4 = .ok (.iconst 0, 1) := by decide +kernel
theorem d_Pg_keepForCrash_5 : decode b_Pg_keepForCrash 5 = .ok (.aload_n 0, 1) := by decide +kernel
theorem d_Pg_keepForCrash_6 : decode b_Pg_keepForCrash 6 = .ok (.getfield 15, 3) := by decide +kernel
theorem d_Pg_keepForCrash_9 : decode b_Pg_keepForCrash 9 = .ok (.iconst 0, 1) := by decide +kernel
theorem d_Pg_keepForCrash_10 : decode b_Pg_keepForCrash 10 = .ok (.bipush 32, 2) := by decide +kernel
theorem d_Pg_keepForCrash_12 : decode b_Pg_keepForCrash 12 = .ok (.invokestatic 51, 3) := by decide +kernel
theorem d_Pg_keepForCrash_15 : decode b_Pg_keepForCrash 15 = .ok (.return_, 1) := by decide +kernel
theorem d_Pg_loseCommitsBehind_0 : decode b_Pg_loseCommitsBehind 0 = .ok (.aload_n 0, 1) := by decide +kernel
theorem d_Pg_loseCommitsBehind_1 : decode b_Pg_loseCommitsBehind 1 = .ok (.getfield 15, 3) := by decide +kernel
theorem d_Pg_loseCommitsBehind_4 : decode b_Pg_loseCommitsBehind 4 = .ok (.iconst 0, 1) := by decide +kernel
theorem d_Pg_loseCommitsBehind_5 : decode b_Pg_loseCommitsBehind 5 = .ok (.aload_n 0, 1) := by decide +kernel
theorem d_Pg_loseCommitsBehind_6 : decode b_Pg_loseCommitsBehind 6 = .ok (.getfield 9, 3) := by decide +kernel
theorem d_Pg_loseCommitsBehind_9 : decode b_Pg_loseCommitsBehind 9 = .ok (.iconst 0, 1) := by decide +kernel
theorem d_Pg_loseCommitsBehind_10 : decode b_Pg_loseCommitsBehind 10 = .ok (.bipush 32, 2) := by decide +kernel
theorem d_Pg_loseCommitsBehind_12 : decode b_Pg_loseCommitsBehind 12 = .ok (.invokestatic 51, 3) := by decide +kernel
theorem d_Pg_loseCommitsBehind_15 : decode b_Pg_loseCommitsBehind 15 = .ok (.iconst 0, 1) := by decide +kernel
theorem d_Pg_loseCommitsBehind_16 : decode b_Pg_loseCommitsBehind 16 = .ok (.istore_n 2, 1) := by decide +kernel
theorem d_Pg_loseCommitsBehind_17 : decode b_Pg_loseCommitsBehind 17 = .ok (.iload_n 2, 1) := by decide +kernel
theorem d_Pg_loseCommitsBehind_18 : decode b_Pg_loseCommitsBehind 18 = .ok (.bipush 8, 2) := by decide +kernel
theorem d_Pg_loseCommitsBehind_20 : decode b_Pg_loseCommitsBehind 20 = .ok (.if_icmp .ge 40, 3) := by decide +kernel
theorem d_Pg_loseCommitsBehind_23 : decode b_Pg_loseCommitsBehind 23 = .ok (.aload_n 0, 1) := by decide +kernel
theorem d_Pg_loseCommitsBehind_24 : decode b_Pg_loseCommitsBehind 24 = .ok (.getfield 21, 3) := by decide +kernel
theorem d_Pg_loseCommitsBehind_27 : decode b_Pg_loseCommitsBehind 27 = .ok (.iload_n 2, 1) := by decide +kernel
theorem d_Pg_loseCommitsBehind_28 : decode b_Pg_loseCommitsBehind 28 = .ok (.iaload, 1) := by decide +kernel
theorem d_Pg_loseCommitsBehind_29 : decode b_Pg_loseCommitsBehind 29 = .ok (.iload_n 1, 1) := by decide +kernel
theorem d_Pg_loseCommitsBehind_30 : decode b_Pg_loseCommitsBehind 30 = .ok (.if_icmp .le 8, 3) := by decide +kernel
theorem d_Pg_loseCommitsBehind_33 : decode b_Pg_loseCommitsBehind 33 = .ok (.aload_n 0, 1) := by decide +kernel
theorem d_Pg_loseCommitsBehind_34 : decode b_Pg_loseCommitsBehind 34 = .ok (.iload_n 2, 1) := by decide +kernel
theorem d_Pg_loseCommitsBehind_35 : decode b_Pg_loseCommitsBehind 35 = .ok (.invokevirtual 57, 3) := by decide +kernel
theorem d_Pg_loseCommitsBehind_38 : decode b_Pg_loseCommitsBehind 38 = .ok (.aload_n 0, 1) := by decide +kernel
theorem d_Pg_loseCommitsBehind_39 : decode b_Pg_loseCommitsBehind 39 = .ok (.getfield 24, 3) := by decide +kernel
theorem d_Pg_loseCommitsBehind_42 : decode b_Pg_loseCommitsBehind 42 = .ok (.iload_n 2, 1) := by decide +kernel
theorem d_Pg_loseCommitsBehind_43 : decode b_Pg_loseCommitsBehind 43 = .ok (.aload_n 0, 1) := by decide +kernel
theorem d_Pg_loseCommitsBehind_44 : decode b_Pg_loseCommitsBehind 44 = .ok (.getfield 24, 3) := by decide +kernel
theorem d_Pg_loseCommitsBehind_47 : decode b_Pg_loseCommitsBehind 47 = .ok (.iload_n 2, 1) := by decide +kernel
theorem d_Pg_loseCommitsBehind_48 : decode b_Pg_loseCommitsBehind 48 = .ok (.iaload, 1) := by decide +kernel
theorem d_Pg_loseCommitsBehind_49 : decode b_Pg_loseCommitsBehind 49 = .ok (.iload_n 1, 1) := by decide +kernel
theorem d_Pg_loseCommitsBehind_50 : decode b_Pg_loseCommitsBehind 50 = .ok (.invokestatic 61, 3) := by decide +kernel
theorem d_Pg_loseCommitsBehind_53 : decode b_Pg_loseCommitsBehind 53 = .ok (.iastore, 1) := by decide +kernel
theorem d_Pg_loseCommitsBehind_54 : decode b_Pg_loseCommitsBehind 54 = .ok (.iinc 2 1, 3) := by decide +kernel
theorem d_Pg_loseCommitsBehind_57 : decode b_Pg_loseCommitsBehind 57 = .ok (.goto (-40), 3) := by decide +kernel
theorem d_Pg_loseCommitsBehind_60 : decode b_Pg_loseCommitsBehind 60 = .ok (.return_, 1) := by decide +kernel
theorem d_Rs_init_0 : decode b_Rs_init 0 = .ok (.aload_n 0, 1) := by decide +kernel
theorem d_Rs_init_1 : decode b_Rs_init 1 = .ok (.invokespecial 3, 3) := by decide +kernel
theorem d_Rs_init_4 : decode b_Rs_init 4 = .ok (.aload_n 0, 1) := by decide +kernel
theorem d_Rs_init_5 : decode b_Rs_init 5 = .ok (.bipush 32, 2) := by decide +kernel
theorem d_Rs_init_7 : decode b_Rs_init 7 = .ok (.newarray .int, 2) := by decide +kernel
theorem d_Rs_init_9 : decode b_Rs_init 9 = .ok (.putfield 9, 3) := by decide +kernel
theorem d_Rs_init_12 : decode b_Rs_init 12 = .ok (.aload_n 0, 1) := by decide +kernel
theorem d_Rs_init_13 : decode b_Rs_init 13 = .ok (.new 15, 3) := by decide +kernel
theorem d_Rs_init_16 : decode b_Rs_init 16 = .ok (.dup, 1) := by decide +kernel
theorem d_Rs_init_17 : decode b_Rs_init 17 = .ok (.invokespecial 17, 3) := by decide +kernel
theorem d_Rs_init_20 : decode b_Rs_init 20 = .ok (.putfield 18, 3) := by decide +kernel
theorem d_Rs_init_23 : decode b_Rs_init 23 = .ok (.return_, 1) := by decide +kernel
theorem d_Rs_rebuild_0 : decode b_Rs_rebuild 0 = .ok (.aload_n 1, 1) := by decide +kernel
theorem d_Rs_rebuild_1 : decode b_Rs_rebuild 1 = .ok (.getfield 22, 3) := by decide +kernel
theorem d_Rs_rebuild_4 : decode b_Rs_rebuild 4 = .ok (.iconst 0, 1) := by decide +kernel
theorem d_Rs_rebuild_5 : decode b_Rs_rebuild 5 = .ok (.aload_n 0, 1) := by decide +kernel
theorem d_Rs_rebuild_6 : decode b_Rs_rebuild 6 = .ok (.getfield 9, 3) := by decide +kernel
theorem d_Rs_rebuild_9 : decode b_Rs_rebuild 9 = .ok (.iconst 0, 1) := by decide +kernel
theorem d_Rs_rebuild_10 : decode b_Rs_rebuild 10 = .ok (.bipush 32, 2) := by decide +kernel
theorem d_Rs_rebuild_12 : decode b_Rs_rebuild 12 = .ok (.invokestatic 25, 3) := by decide +kernel
theorem d_Rs_rebuild_15 : decode b_Rs_rebuild 15 = .ok (.aload_n 0, 1) := by decide +kernel
theorem d_Rs_rebuild_16 : decode b_Rs_rebuild 16 = .ok (.getfield 18, 3) := by decide +kernel
theorem d_Rs_rebuild_19 : decode b_Rs_rebuild 19 = .ok (.invokevirtual 31, 3) := by decide +kernel
theorem d_Rs_rebuild_22 : decode b_Rs_rebuild 22 = .ok (.aload_n 1, 1) := by decide +kernel
theorem d_Rs_rebuild_23 : decode b_Rs_rebuild 23 = .ok (.getfield 34, 3) := by decide +kernel
theorem d_Rs_rebuild_26 : decode b_Rs_rebuild 26 = .ok (.istore 4, 2) := by decide +kernel
theorem d_Rs_rebuild_28 : decode b_Rs_rebuild 28 = .ok (.iload 4, 2) := by decide +kernel
theorem d_Rs_rebuild_30 : decode b_Rs_rebuild 30 = .ok (.iload_n 3, 1) := by decide +kernel
theorem d_Rs_rebuild_31 : decode b_Rs_rebuild 31 = .ok (.if_icmp .ge 30, 3) := by decide +kernel
theorem d_Rs_rebuild_34 : decode b_Rs_rebuild 34 = .ok (.aload_n 0, 1) := by decide +kernel
theorem d_Rs_rebuild_35 : decode b_Rs_rebuild 35 = .ok (.aload_n 2, 1) := by decide +kernel
theorem d_Rs_rebuild_36 : decode b_Rs_rebuild 36 = .ok (.iload 4, 2) := by decide +kernel
theorem d_Rs_rebuild_38 : decode b_Rs_rebuild 38 = .ok (.iload 4, 2) := by decide +kernel
theorem d_Rs_rebuild_40 : decode b_Rs_rebuild 40 = .ok (.aload_n 1, 1) := by decide +kernel
theorem d_Rs_rebuild_41 : decode b_Rs_rebuild 41 = .ok (.getfield 38, 3) := by decide +kernel
theorem d_Rs_rebuild_44 : decode b_Rs_rebuild 44 = .ok (.if_icmp .lt 7, 3) := by decide +kernel
theorem d_Rs_rebuild_47 : decode b_Rs_rebuild 47 = .ok (.iconst 1, 1) := by decide +kernel
theorem d_Rs_rebuild_48 : decode b_Rs_rebuild 48 = .ok (.goto 4, 3) := by decide +kernel
theorem d_Rs_rebuild_51 : decode b_Rs_rebuild 51 = .ok (.iconst 0, 1) := by decide +kernel
theorem d_Rs_rebuild_52 : decode b_Rs_rebuild 52 = .ok (.invokevirtual 41, 3) := by decide +kernel
theorem d_Rs_rebuild_55 : decode b_Rs_rebuild 55 = .ok (.iinc 4 1, 3) := by decide +kernel
theorem d_Rs_rebuild_58 : decode b_Rs_rebuild 58 = .ok (.goto (-30), 3) := by decide +kernel
theorem d_Rs_rebuild_61 : decode b_Rs_rebuild 61 = .ok (.aload_n 0, 1) := by decide +kernel
theorem d_Rs_rebuild_62 : decode b_Rs_rebuild 62 = .ok (.iload_n 3, 1) := by decide +kernel
theorem d_Rs_rebuild_63 : decode b_Rs_rebuild 63 = .ok (.aload_n 1, 1) := by decide +kernel
theorem d_Rs_rebuild_64 : decode b_Rs_rebuild 64 = .ok (.getfield 34, 3) := by decide +kernel
theorem d_Rs_rebuild_67 : decode b_Rs_rebuild 67 = .ok (.isub, 1) := by decide +kernel
theorem d_Rs_rebuild_68 : decode b_Rs_rebuild 68 = .ok (.putfield 45, 3) := by decide +kernel
theorem d_Rs_rebuild_71 : decode b_Rs_rebuild 71 = .ok (.return_, 1) := by decide +kernel
theorem d_Rs_replay_0 : decode b_Rs_replay 0 = .ok (.aload_n 1, 1) := by decide +kernel
theorem d_Rs_replay_1 : decode b_Rs_replay 1 = .ok (.getfield 48, 3) := by decide +kernel
theorem d_Rs_replay_4 : decode b_Rs_replay 4 = .ok (.iload_n 2, 1) := by decide +kernel
theorem d_Rs_replay_5 : decode b_Rs_replay 5 = .ok (.iaload, 1) := by decide +kernel
theorem d_Rs_replay_6 : decode b_Rs_replay 6 = .ok (.istore 4, 2) := by decide +kernel
theorem d_Rs_replay_8 : decode b_Rs_replay 8 = .ok (.aload_n 1, 1) := by decide +kernel
theorem d_Rs_replay_9 : decode b_Rs_replay 9 = .ok (.getfield 53, 3) := by decide +kernel
theorem d_Rs_replay_12 : decode b_Rs_replay 12 = .ok (.iload_n 2, 1) := by decide +kernel
theorem d_Rs_replay_13 : decode b_Rs_replay 13 = .ok (.iaload, 1) := by decide +kernel
theorem d_Rs_replay_14 : decode b_Rs_replay 14 = .ok (.tableswitch 104 0 2 #[26, 63, 92], 26) := by decide +kernel
theorem d_Rs_replay_40 : decode b_Rs_replay 40 = .ok (.aload_n 0, 1) := by decide +kernel
theorem d_Rs_replay_41 : decode b_Rs_replay 41 = .ok (.getfield 18, 3) := by decide +kernel
theorem d_Rs_replay_44 : decode b_Rs_replay 44 = .ok (.iload 4, 2) := by decide +kernel
theorem d_Rs_replay_46 : decode b_Rs_replay 46 = .ok (.invokevirtual 56, 3) := by decide +kernel
theorem d_Rs_replay_49 : decode b_Rs_replay 49 = .ok (.ifCond .ne 76, 3) := by decide +kernel
theorem d_Rs_replay_52 : decode b_Rs_replay 52 = .ok (.aload_n 0, 1) := by decide +kernel
theorem d_Rs_replay_53 : decode b_Rs_replay 53 = .ok (.getfield 18, 3) := by decide +kernel
theorem d_Rs_replay_56 : decode b_Rs_replay 56 = .ok (.iload 4, 2) := by decide +kernel
theorem d_Rs_replay_58 : decode b_Rs_replay 58 = .ok (.aload_n 1, 1) := by decide +kernel
theorem d_Rs_replay_59 : decode b_Rs_replay 59 = .ok (.getfield 60, 3) := by decide +kernel
theorem d_Rs_replay_62 : decode b_Rs_replay 62 = .ok (.iload_n 2, 1) := by decide +kernel
theorem d_Rs_replay_63 : decode b_Rs_replay 63 = .ok (.iaload, 1) := by decide +kernel
theorem d_Rs_replay_64 : decode b_Rs_replay 64 = .ok (.aload_n 1, 1) := by decide +kernel
theorem d_Rs_replay_65 : decode b_Rs_replay 65 = .ok (.getfield 63, 3) := by decide +kernel
theorem d_Rs_replay_68 : decode b_Rs_replay 68 = .ok (.iload_n 2, 1) := by decide +kernel
theorem d_Rs_replay_69 : decode b_Rs_replay 69 = .ok (.iaload, 1) := by decide +kernel
theorem d_Rs_replay_70 : decode b_Rs_replay 70 = .ok (.iload_n 2, 1) := by decide +kernel
theorem d_Rs_replay_71 : decode b_Rs_replay 71 = .ok (.invokevirtual 64, 3) := by decide +kernel
theorem d_Rs_replay_74 : decode b_Rs_replay 74 = .ok (.goto 51, 3) := by decide +kernel
theorem d_Rs_replay_77 : decode b_Rs_replay 77 = .ok (.iload_n 3, 1) := by decide +kernel
theorem d_Rs_replay_78 : decode b_Rs_replay 78 = .ok (.ifCond .eq 16, 3) := by decide +kernel
theorem d_Rs_replay_81 : decode b_Rs_replay 81 = .ok (.aload_n 0, 1) := by decide +kernel
theorem d_Rs_replay_82 : decode b_Rs_replay 82 = .ok (.getfield 18, 3) := by decide +kernel
theorem d_Rs_replay_85 : decode b_Rs_replay 85 = .ok (.aload_n 0, 1) := by decide +kernel
theorem d_Rs_replay_86 : decode b_Rs_replay 86 = .ok (.getfield 9, 3) := by decide +kernel
theorem d_Rs_replay_89 : decode b_Rs_replay 89 = .ok (.iload 4, 2) := by decide +kernel
theorem d_Rs_replay_91 : decode b_Rs_replay 91 = .ok (.invokevirtual 68, 3) := by decide +kernel
theorem d_Rs_replay_94 : decode b_Rs_replay 94 = .ok (.aload_n 0, 1) := by decide +kernel
theorem d_Rs_replay_95 : decode b_Rs_replay 95 = .ok (.getfield 18, 3) := by decide +kernel
theorem d_Rs_replay_98 : decode b_Rs_replay 98 = .ok (.iload 4, 2) := by decide +kernel
theorem d_Rs_replay_100 : decode b_Rs_replay 100 = .ok (.invokevirtual 72, 3) := by decide +kernel
theorem d_Rs_replay_103 : decode b_Rs_replay 103 = .ok (.goto 22, 3) := by decide +kernel
theorem d_Rs_replay_106 : decode b_Rs_replay 106 = .ok (.aload_n 0, 1) := by decide +kernel
theorem d_Rs_replay_107 : decode b_Rs_replay 107 = .ok (.getfield 18, 3) := by decide +kernel
theorem d_Rs_replay_110 : decode b_Rs_replay 110 = .ok (.iload 4, 2) := by decide +kernel
theorem d_Rs_replay_112 : decode b_Rs_replay 112 = .ok (.invokevirtual 72, 3) := by decide +kernel
theorem d_Rs_replay_115 : decode b_Rs_replay 115 = .ok (.goto 10, 3) := by decide +kernel
theorem d_Rs_replay_118 : decode b_Rs_replay 118 = .ok (.aload_n 0, 1) := by decide +kernel
theorem d_Rs_replay_119 : decode b_Rs_replay 119 = .ok (.getfield 18, 3) := by decide +kernel
theorem d_Rs_replay_122 : decode b_Rs_replay 122 = .ok (.invokevirtual 31, 3) := by decide +kernel
theorem d_Rs_replay_125 : decode b_Rs_replay 125 = .ok (.return_, 1) := by decide +kernel
theorem d_Tr_init_0 : decode b_Tr_init 0 = .ok (.aload_n 0, 1) := by decide +kernel
theorem d_Tr_init_1 : decode b_Tr_init 1 = .ok (.invokespecial 3, 3) := by decide +kernel
theorem d_Tr_init_4 : decode b_Tr_init 4 = .ok (.aload_n 0, 1) := by decide +kernel
theorem d_Tr_init_5 : decode b_Tr_init 5 = .ok (.iconst 3, 1) := by decide +kernel
theorem d_Tr_init_6 : decode b_Tr_init 6 = .ok (.newarray .int, 2) := by decide +kernel
theorem d_Tr_init_8 : decode b_Tr_init 8 = .ok (.putfield 9, 3) := by decide +kernel
theorem d_Tr_init_11 : decode b_Tr_init 11 = .ok (.aload_n 0, 1) := by decide +kernel
theorem d_Tr_init_12 : decode b_Tr_init 12 = .ok (.iconst 3, 1) := by decide +kernel
theorem d_Tr_init_13 : decode b_Tr_init 13 = .ok (.newarray .int, 2) := by decide +kernel
theorem d_Tr_init_15 : decode b_Tr_init 15 = .ok (.putfield 15, 3) := by decide +kernel
theorem d_Tr_init_18 : decode b_Tr_init 18 = .ok (.aload_n 0, 1) := by decide +kernel
theorem d_Tr_init_19 : decode b_Tr_init 19 = .ok (.bipush 12, 2) := by decide +kernel
theorem d_Tr_init_21 : decode b_Tr_init 21 = .ok (.newarray .int, 2) := by decide +kernel
theorem d_Tr_init_23 : decode b_Tr_init 23 = .ok (.putfield 18, 3) := by decide +kernel
theorem d_Tr_init_26 : decode b_Tr_init 26 = .ok (.aload_n 0, 1) := by decide +kernel
theorem d_Tr_init_27 : decode b_Tr_init 27 = .ok (.bipush 12, 2) := by decide +kernel
theorem d_Tr_init_29 : decode b_Tr_init 29 = .ok (.newarray .int, 2) := by decide +kernel
theorem d_Tr_init_31 : decode b_Tr_init 31 = .ok (.putfield 21, 3) := by decide +kernel
theorem d_Tr_init_34 : decode b_Tr_init 34 = .ok (.return_, 1) := by decide +kernel
theorem d_Tr_isOpen_0 : decode b_Tr_isOpen 0 = .ok (.aload_n 0, 1) := by decide +kernel
theorem d_Tr_isOpen_1 : decode b_Tr_isOpen 1 = .ok (.getfield 9, 3) := by decide +kernel
theorem d_Tr_isOpen_4 : decode b_Tr_isOpen 4 = .ok (.iload_n 1, 1) := by decide +kernel
theorem d_Tr_isOpen_5 : decode b_Tr_isOpen 5 = .ok (.iaload, 1) := by decide +kernel
theorem d_Tr_isOpen_6 : decode b_Tr_isOpen 6 = .ok (.ifCond .le 7, 3) := by decide +kernel
theorem d_Tr_isOpen_9 : decode b_Tr_isOpen 9 = .ok (.iconst 1, 1) := by decide +kernel
theorem d_Tr_isOpen_10 : decode b_Tr_isOpen 10 = .ok (.goto 4, 3) := by decide +kernel
theorem d_Tr_isOpen_13 : decode b_Tr_isOpen 13 = .ok (.iconst 0, 1) := by decide +kernel
theorem d_Tr_isOpen_14 : decode b_Tr_isOpen 14 = .ok (.ireturn, 1) := by decide +kernel
theorem d_Tr_hasAllSets_0 : decode b_Tr_hasAllSets 0 = .ok (.aload_n 0, 1) := by decide +kernel
theorem d_Tr_hasAllSets_1 : decode b_Tr_hasAllSets 1 = .ok (.getfield 9, 3) := by decide +kernel
theorem d_Tr_hasAllSets_4 : decode b_Tr_hasAllSets 4 = .ok (.iload_n 1, 1) := by decide +kernel
theorem d_Tr_hasAllSets_5 : decode b_Tr_hasAllSets 5 = .ok (.iaload, 1) := by decide +kernel
theorem d_Tr_hasAllSets_6 : decode b_Tr_hasAllSets 6 = .ok (.iconst 4, 1) := by decide +kernel
theorem d_Tr_hasAllSets_7 : decode b_Tr_hasAllSets 7 = .ok (.if_icmp .lt 7, 3) := by decide +kernel
theorem d_Tr_hasAllSets_10 : decode b_Tr_hasAllSets 10 = .ok (.iconst 1, 1) := by decide +kernel
theorem d_Tr_hasAllSets_11 : decode b_Tr_hasAllSets 11 = .ok (.goto 4, 3) := by decide +kernel
theorem d_Tr_hasAllSets_14 : decode b_Tr_hasAllSets 14 = .ok (.iconst 0, 1) := by decide +kernel
theorem d_Tr_hasAllSets_15 : decode b_Tr_hasAllSets 15 = .ok (.ireturn, 1) := by decide +kernel
theorem d_Tr_addSet_0 : decode b_Tr_addSet 0 = .ok (.aload_n 0, 1) := by decide +kernel
theorem d_Tr_addSet_1 : decode b_Tr_addSet 1 = .ok (.iload_n 1, 1) := by decide +kernel
theorem d_Tr_addSet_2 : decode b_Tr_addSet 2 = .ok (.invokevirtual 24, 3) := by decide +kernel
theorem d_Tr_addSet_5 : decode b_Tr_addSet 5 = .ok (.ifCond .ne 11, 3) := by decide +kernel
theorem d_Tr_addSet_8 : decode b_Tr_addSet 8 = .ok (.aload_n 0, 1) := by decide +kernel
theorem d_Tr_addSet_9 : decode b_Tr_addSet 9 = .ok (.getfield 15, 3) := by decide +kernel
theorem d_Tr_addSet_12 : decode b_Tr_addSet 12 = .ok (.iload_n 1, 1) := by decide +kernel
theorem d_Tr_addSet_13 : decode b_Tr_addSet 13 = .ok (.iload 4, 2) := by decide +kernel
theorem d_Tr_addSet_15 : decode b_Tr_addSet 15 = .ok (.iastore, 1) := by decide +kernel
theorem d_Tr_addSet_16 : decode b_Tr_addSet 16 = .ok (.aload_n 0, 1) := by decide +kernel
theorem d_Tr_addSet_17 : decode b_Tr_addSet 17 = .ok (.iload_n 1, 1) := by decide +kernel
theorem d_Tr_addSet_18 : decode b_Tr_addSet 18 = .ok (.invokevirtual 28, 3) := by decide +kernel
theorem d_Tr_addSet_21 : decode b_Tr_addSet 21 = .ok (.aload_n 0, 1) := by decide +kernel
theorem d_Tr_addSet_22 : decode b_Tr_addSet 22 = .ok (.getfield 9, 3) := by decide +kernel
theorem d_Tr_addSet_25 : decode b_Tr_addSet 25 = .ok (.iload_n 1, 1) := by decide +kernel
theorem d_Tr_addSet_26 : decode b_Tr_addSet 26 = .ok (.iaload, 1) := by decide +kernel
theorem d_Tr_addSet_27 : decode b_Tr_addSet 27 = .ok (.iadd, 1) := by decide +kernel
theorem d_Tr_addSet_28 : decode b_Tr_addSet 28 = .ok (.istore 5, 2) := by decide +kernel
theorem d_Tr_addSet_30 : decode b_Tr_addSet 30 = .ok (.aload_n 0, 1) := by decide +kernel
theorem d_Tr_addSet_31 : decode b_Tr_addSet 31 = .ok (.getfield 18, 3) := by decide +kernel
theorem d_Tr_addSet_34 : decode b_Tr_addSet 34 = .ok (.iload 5, 2) := by decide +kernel
theorem d_Tr_addSet_36 : decode b_Tr_addSet 36 = .ok (.iload_n 2, 1) := by decide +kernel
theorem d_Tr_addSet_37 : decode b_Tr_addSet 37 = .ok (.iastore, 1) := by decide +kernel
theorem d_Tr_addSet_38 : decode b_Tr_addSet 38 = .ok (.aload_n 0, 1) := by decide +kernel
theorem d_Tr_addSet_39 : decode b_Tr_addSet 39 = .ok (.getfield 21, 3) := by decide +kernel
theorem d_Tr_addSet_42 : decode b_Tr_addSet 42 = .ok (.iload 5, 2) := by decide +kernel
theorem d_Tr_addSet_44 : decode b_Tr_addSet 44 = .ok (.iload_n 3, 1) := by decide +kernel
theorem d_Tr_addSet_45 : decode b_Tr_addSet 45 = .ok (.iastore, 1) := by decide +kernel
theorem d_Tr_addSet_46 : decode b_Tr_addSet 46 = .ok (.aload_n 0, 1) := by decide +kernel
theorem d_Tr_addSet_47 : decode b_Tr_addSet 47 = .ok (.getfield 9, 3) := by decide +kernel
theorem d_Tr_addSet_50 : decode b_Tr_addSet 50 = .ok (.iload_n 1, 1) := by decide +kernel
theorem d_Tr_addSet_51 : decode b_Tr_addSet 51 = .ok (.dup2, 1) := by decide +kernel
theorem d_Tr_addSet_52 : decode b_Tr_addSet 52 = .ok (.iaload, 1) := by decide +kernel
theorem d_Tr_addSet_53 : decode b_Tr_addSet 53 = .ok (.iconst 1, 1) := by decide +kernel
theorem d_Tr_addSet_54 : decode b_Tr_addSet 54 = .ok (.iadd, 1) := by decide +kernel
theorem d_Tr_addSet_55 : decode b_Tr_addSet 55 = .ok (.iastore, 1) := by decide +kernel
theorem d_Tr_addSet_56 : decode b_Tr_addSet 56 = .ok (.return_, 1) := by decide +kernel
theorem d_Tr_firstSlot_0 : decode b_Tr_firstSlot 0 = .ok (.iload_n 1, 1) := by decide +kernel
theorem d_Tr_firstSlot_1 : decode b_Tr_firstSlot 1 = .ok (.iconst 4, 1) := by decide +kernel
theorem d_Tr_firstSlot_2 : decode b_Tr_firstSlot 2 = .ok (.imul, 1) := by decide +kernel
theorem d_Tr_firstSlot_3 : decode b_Tr_firstSlot 3 = .ok (.ireturn, 1) := by decide +kernel
theorem d_Tr_slotsEnd_0 : decode b_Tr_slotsEnd 0 = .ok (.aload_n 0, 1) := by decide +kernel
theorem d_Tr_slotsEnd_1 : decode b_Tr_slotsEnd 1 = .ok (.iload_n 1, 1) := by decide +kernel
theorem d_Tr_slotsEnd_2 : decode b_Tr_slotsEnd 2 = .ok (.invokevirtual 28, 3) := by decide +kernel
theorem d_Tr_slotsEnd_5 : decode b_Tr_slotsEnd 5 = .ok (.aload_n 0, 1) := by decide +kernel
theorem d_Tr_slotsEnd_6 : decode b_Tr_slotsEnd 6 = .ok (.getfield 9, 3) := by decide +kernel
theorem d_Tr_slotsEnd_9 : decode b_Tr_slotsEnd 9 = .ok (.iload_n 1, 1) := by decide +kernel
theorem d_Tr_slotsEnd_10 : decode b_Tr_slotsEnd 10 = .ok (.iaload, 1) := by decide +kernel
theorem d_Tr_slotsEnd_11 : decode b_Tr_slotsEnd 11 = .ok (.iadd, 1) := by decide +kernel
theorem d_Tr_slotsEnd_12 : decode b_Tr_slotsEnd 12 = .ok (.ireturn, 1) := by decide +kernel
theorem d_Tr_close_0 : decode b_Tr_close 0 = .ok (.aload_n 0, 1) := by decide +kernel
theorem d_Tr_close_1 : decode b_Tr_close 1 = .ok (.getfield 9, 3) := by decide +kernel
theorem d_Tr_close_4 : decode b_Tr_close 4 = .ok (.iload_n 1, 1) := by decide +kernel
theorem d_Tr_close_5 : decode b_Tr_close 5 = .ok (.iconst 0, 1) := by decide +kernel
theorem d_Tr_close_6 : decode b_Tr_close 6 = .ok (.iastore, 1) := by decide +kernel
theorem d_Tr_close_7 : decode b_Tr_close 7 = .ok (.return_, 1) := by decide +kernel
theorem d_Tr_closeAll_0 : decode b_Tr_closeAll 0 = .ok (.iconst 0, 1) := by decide +kernel
theorem d_Tr_closeAll_1 : decode b_Tr_closeAll 1 = .ok (.istore_n 1, 1) := by decide +kernel
theorem d_Tr_closeAll_2 : decode b_Tr_closeAll 2 = .ok (.iload_n 1, 1) := by decide +kernel
theorem d_Tr_closeAll_3 : decode b_Tr_closeAll 3 = .ok (.iconst 3, 1) := by decide +kernel
theorem d_Tr_closeAll_4 : decode b_Tr_closeAll 4 = .ok (.if_icmp .ge 14, 3) := by decide +kernel
theorem d_Tr_closeAll_7 : decode b_Tr_closeAll 7 = .ok (.aload_n 0, 1) := by decide +kernel
theorem d_Tr_closeAll_8 : decode b_Tr_closeAll 8 = .ok (.iload_n 1, 1) := by decide +kernel
theorem d_Tr_closeAll_9 : decode b_Tr_closeAll 9 = .ok (.invokevirtual 32, 3) := by decide +kernel
theorem d_Tr_closeAll_12 : decode b_Tr_closeAll 12 = .ok (.iinc 1 1, 3) := by decide +kernel
theorem d_Tr_closeAll_15 : decode b_Tr_closeAll 15 = .ok (.goto (-13), 3) := by decide +kernel
theorem d_Tr_closeAll_18 : decode b_Tr_closeAll 18 = .ok (.return_, 1) := by decide +kernel
theorem d_Tr_leastFirstSet_0 : decode b_Tr_leastFirstSet 0 = .ok (.iload_n 1, 1) := by decide +kernel
theorem d_Tr_leastFirstSet_1 : decode b_Tr_leastFirstSet 1 = .ok (.istore_n 2, 1) := by decide +kernel
theorem d_Tr_leastFirstSet_2 : decode b_Tr_leastFirstSet 2 = .ok (.iconst 0, 1) := by decide +kernel
theorem d_Tr_leastFirstSet_3 : decode b_Tr_leastFirstSet 3 = .ok (.istore_n 3, 1) := by decide +kernel
theorem d_Tr_leastFirstSet_4 : decode b_Tr_leastFirstSet 4 = .ok (.iload_n 3, 1) := by decide +kernel
theorem d_Tr_leastFirstSet_5 : decode b_Tr_leastFirstSet 5 = .ok (.iconst 3, 1) := by decide +kernel
theorem d_Tr_leastFirstSet_6 : decode b_Tr_leastFirstSet 6 = .ok (.if_icmp .ge 28, 3) := by decide +kernel
theorem d_Tr_leastFirstSet_9 : decode b_Tr_leastFirstSet 9 = .ok (.aload_n 0, 1) := by decide +kernel
theorem d_Tr_leastFirstSet_10 : decode b_Tr_leastFirstSet 10 = .ok (.iload_n 3, 1) := by decide +kernel
theorem d_Tr_leastFirstSet_11 : decode b_Tr_leastFirstSet 11 = .ok (.invokevirtual 24, 3) := by decide +kernel
theorem d_Tr_leastFirstSet_14 : decode b_Tr_leastFirstSet 14 = .ok (.ifCond .eq 14, 3) := by decide +kernel
theorem d_Tr_leastFirstSet_17 : decode b_Tr_leastFirstSet 17 = .ok (.iload_n 2, 1) := by decide +kernel
theorem d_Tr_leastFirstSet_18 : decode b_Tr_leastFirstSet 18 = .ok (.aload_n 0, 1) := by decide +kernel
theorem d_Tr_leastFirstSet_19 : decode b_Tr_leastFirstSet 19 = .ok (.getfield 15, 3) := by decide +kernel
theorem d_Tr_leastFirstSet_22 : decode b_Tr_leastFirstSet 22 = .ok (.iload_n 3, 1) := by decide +kernel
theorem d_Tr_leastFirstSet_23 : decode b_Tr_leastFirstSet 23 = .ok (.iaload, 1) := by decide +kernel
theorem d_Tr_leastFirstSet_24 : decode b_Tr_leastFirstSet 24 = .ok (.invokestatic 36, 3) := by decide +kernel
theorem d_Tr_leastFirstSet_27 : decode b_Tr_leastFirstSet 27 = .ok (.istore_n 2, 1) := by decide +kernel
theorem d_Tr_leastFirstSet_28 : decode b_Tr_leastFirstSet 28 = .ok (.iinc 3 1, 3) := by decide +kernel
theorem d_Tr_leastFirstSet_31 : decode b_Tr_leastFirstSet 31 = .ok (.goto (-27), 3) := by decide +kernel
theorem d_Tr_leastFirstSet_34 : decode b_Tr_leastFirstSet 34 = .ok (.iload_n 2, 1) := by decide +kernel
theorem d_Tr_leastFirstSet_35 : decode b_Tr_leastFirstSet 35 = .ok (.ireturn, 1) := by decide +kernel
theorem d_Tr_writeSetsTo_0 : decode b_Tr_writeSetsTo 0 = .ok (.aload_n 0, 1) := by decide +kernel
theorem d_Tr_writeSetsTo_1 : decode b_Tr_writeSetsTo 1 = .ok (.iload_n 2, 1) := by decide +kernel
theorem d_Tr_writeSetsTo_2 : decode b_Tr_writeSetsTo 2 = .ok (.invokevirtual 42, 3) := by decide +kernel
theorem d_Tr_writeSetsTo_5 : decode b_Tr_writeSetsTo 5 = .ok (.istore_n 3, 1) := by decide +kernel
theorem d_Tr_writeSetsTo_6 : decode b_Tr_writeSetsTo 6 = .ok (.aload_n 0, 1) := by decide +kernel
theorem d_Tr_writeSetsTo_7 : decode b_Tr_writeSetsTo 7 = .ok (.iload_n 2, 1) := by decide +kernel
theorem d_Tr_writeSetsTo_8 : decode b_Tr_writeSetsTo 8 = .ok (.invokevirtual 28, 3) := by decide +kernel
theorem d_Tr_writeSetsTo_11 : decode b_Tr_writeSetsTo 11 = .ok (.istore 4, 2) := by decide +kernel
theorem d_Tr_writeSetsTo_13 : decode b_Tr_writeSetsTo 13 = .ok (.iload 4, 2) := by decide +kernel
theorem d_Tr_writeSetsTo_15 : decode b_Tr_writeSetsTo 15 = .ok (.iload_n 3, 1) := by decide +kernel
theorem d_Tr_writeSetsTo_16 : decode b_Tr_writeSetsTo 16 = .ok (.if_icmp .ge 25, 3) := by decide +kernel
theorem d_Tr_writeSetsTo_19 : decode b_Tr_writeSetsTo 19 = .ok (.aload_n 1, 1) := by decide +kernel
theorem d_Tr_writeSetsTo_20 : decode b_Tr_writeSetsTo 20 = .ok (.aload_n 0, 1) := by decide +kernel
theorem d_Tr_writeSetsTo_21 : decode b_Tr_writeSetsTo 21 = .ok (.getfield 18, 3) := by decide +kernel
theorem d_Tr_writeSetsTo_24 : decode b_Tr_writeSetsTo 24 = .ok (.iload 4, 2) := by decide +kernel
theorem d_Tr_writeSetsTo_26 : decode b_Tr_writeSetsTo 26 = .ok (.iaload, 1) := by decide +kernel
theorem d_Tr_writeSetsTo_27 : decode b_Tr_writeSetsTo 27 = .ok (.aload_n 0, 1) := by decide +kernel
theorem d_Tr_writeSetsTo_28 : decode b_Tr_writeSetsTo 28 = .ok (.getfield 21, 3) := by decide +kernel
theorem d_Tr_writeSetsTo_31 : decode b_Tr_writeSetsTo 31 = .ok (.iload 4, 2) := by decide +kernel
theorem d_Tr_writeSetsTo_33 : decode b_Tr_writeSetsTo 33 = .ok (.iaload, 1) := by decide +kernel
theorem d_Tr_writeSetsTo_34 : decode b_Tr_writeSetsTo 34 = .ok (.iastore, 1) := by decide +kernel
theorem d_Tr_writeSetsTo_35 : decode b_Tr_writeSetsTo 35 = .ok (.iinc 4 1, 3) := by decide +kernel
theorem d_Tr_writeSetsTo_38 : decode b_Tr_writeSetsTo 38 = .ok (.goto (-25), 3) := by decide +kernel
theorem d_Tr_writeSetsTo_41 : decode b_Tr_writeSetsTo 41 = .ok (.return_, 1) := by decide +kernel

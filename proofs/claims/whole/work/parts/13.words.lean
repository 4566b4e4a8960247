theorem gm {w : Cond} (i : Nat) (h : lw_tbl[i]? = some w) (hg : goodWord w = true) : w ∈ GW := List.mem_filter.mpr ⟨List.mem_of_getElem? h, hg⟩
theorem nm_ {w : Cond} (i : Nat) (h : lw_tbl[i]? = some w) (hg : gw_nest w = true) : w ∈ NL := List.mem_filter.mpr ⟨List.mem_of_getElem? h, hg⟩
theorem mn_X_11 : Cond.methodLinkNest R_X 11 y_Log_init R_X ∈ NL := nm_ 39 (by decide +kernel) rfl
theorem fl_Log_9 : Cond.fieldLink R_Log 9 R_Log "kinds" "[I" ∈ GW := gm 43 (by decide +kernel) rfl
theorem fl_Rs_53 : Cond.fieldLink R_Rs 53 R_Log "kinds" "[I" ∈ GW := gm 44 (by decide +kernel) rfl
theorem fl_Log_15 : Cond.fieldLink R_Log 15 R_Log "owners" "[I" ∈ GW := gm 45 (by decide +kernel) rfl
theorem fl_Rs_48 : Cond.fieldLink R_Rs 48 R_Log "owners" "[I" ∈ GW := gm 46 (by decide +kernel) rfl
theorem fl_Log_18 : Cond.fieldLink R_Log 18 R_Log "keys" "[I" ∈ GW := gm 47 (by decide +kernel) rfl
theorem fl_Rs_60 : Cond.fieldLink R_Rs 60 R_Log "keys" "[I" ∈ GW := gm 48 (by decide +kernel) rfl
theorem fl_Log_21 : Cond.fieldLink R_Log 21 R_Log "values" "[I" ∈ GW := gm 49 (by decide +kernel) rfl
theorem fl_Rs_63 : Cond.fieldLink R_Rs 63 R_Log "values" "[I" ∈ GW := gm 50 (by decide +kernel) rfl
theorem fl_Log_24 : Cond.fieldLink R_Log 24 R_Log "length" "I" ∈ GW := gm 51 (by decide +kernel) rfl
theorem fl_X_69 : Cond.fieldLink R_X 69 R_Log "length" "I" ∈ GW := gm 52 (by decide +kernel) rfl
theorem fl_Log_28 : Cond.fieldLink R_Log 28 R_Log "synced" "I" ∈ GW := gm 53 (by decide +kernel) rfl
theorem fl_X_112 : Cond.fieldLink R_X 112 R_Log "synced" "I" ∈ GW := gm 54 (by decide +kernel) rfl
theorem mn_X_18 : Cond.methodLinkNest R_X 18 y_Tr_init R_X ∈ NL := nm_ 71 (by decide +kernel) rfl
theorem fl_Tr_9 : Cond.fieldLink R_Tr 9 R_Tr "counts" "[I" ∈ GW := gm 75 (by decide +kernel) rfl
theorem fl_Tr_15 : Cond.fieldLink R_Tr 15 R_Tr "firstSets" "[I" ∈ GW := gm 76 (by decide +kernel) rfl
theorem fl_Tr_18 : Cond.fieldLink R_Tr 18 R_Tr "keys" "[I" ∈ GW := gm 77 (by decide +kernel) rfl
theorem fl_Pg_44 : Cond.fieldLink R_Pg 44 R_Tr "keys" "[I" ∈ GW := gm 78 (by decide +kernel) rfl
theorem fl_Tr_21 : Cond.fieldLink R_Tr 21 R_Tr "values" "[I" ∈ GW := gm 79 (by decide +kernel) rfl
theorem mn_X_25 : Cond.methodLinkNest R_X 25 y_Pg_init R_X ∈ NL := nm_ 91 (by decide +kernel) rfl
theorem fl_Pg_9 : Cond.fieldLink R_Pg 9 R_Pg "memory" "[I" ∈ GW := gm 95 (by decide +kernel) rfl
theorem fl_X_92 : Cond.fieldLink R_X 92 R_Pg "memory" "[I" ∈ GW := gm 96 (by decide +kernel) rfl
theorem fl_Pg_15 : Cond.fieldLink R_Pg 15 R_Pg "memoryAtSync" "[I" ∈ GW := gm 97 (by decide +kernel) rfl
theorem fl_Pg_18 : Cond.fieldLink R_Pg 18 R_Pg "disk" "[I" ∈ GW := gm 98 (by decide +kernel) rfl
theorem fl_X_128 : Cond.fieldLink R_X 128 R_Pg "disk" "[I" ∈ GW := gm 99 (by decide +kernel) rfl
theorem fl_Pg_21 : Cond.fieldLink R_Pg 21 R_Pg "dirtySince" "[I" ∈ GW := gm 100 (by decide +kernel) rfl
theorem fl_Pg_24 : Cond.fieldLink R_Pg 24 R_Pg "dirtyUntil" "[I" ∈ GW := gm 101 (by decide +kernel) rfl
theorem fl_X_199 : Cond.fieldLink R_X 199 R_Pg "dirtyUntil" "[I" ∈ GW := gm 102 (by decide +kernel) rfl
theorem mn_X_32 : Cond.methodLinkNest R_X 32 y_Ar_init R_X ∈ NL := nm_ 116 (by decide +kernel) rfl
theorem fl_Ar_9 : Cond.fieldLink R_Ar 9 R_Ar "held" "[Z" ∈ GW := gm 120 (by decide +kernel) rfl
theorem fl_Ar_19 : Cond.fieldLink R_Ar 19 R_Ar "heldCount" "I" ∈ GW := gm 121 (by decide +kernel) rfl
theorem fl_Ar_15 : Cond.fieldLink R_Ar 15 R_Ar "next" "I" ∈ GW := gm 122 (by decide +kernel) rfl
theorem mn_X_39 : Cond.methodLinkNest R_X 39 y_Rs_init R_X ∈ NL := nm_ 133 (by decide +kernel) rfl
theorem mn_Rs_17 : Cond.methodLinkNest R_Rs 17 y_Tr_init R_X ∈ NL := nm_ 138 (by decide +kernel) rfl
theorem fl_Rs_9 : Cond.fieldLink R_Rs 9 R_Rs "values" "[I" ∈ GW := gm 139 (by decide +kernel) rfl
theorem fl_X_168 : Cond.fieldLink R_X 168 R_Rs "values" "[I" ∈ GW := gm 140 (by decide +kernel) rfl
theorem fl_Rs_18 : Cond.fieldLink R_Rs 18 R_Rs "transactions" "LTornBackups$Transactions;" ∈ GW := gm 141 (by decide +kernel) rfl
theorem fl_Rs_45 : Cond.fieldLink R_Rs 45 R_Rs "recordsReplayed" "I" ∈ GW := gm 142 (by decide +kernel) rfl
theorem fl_X_171 : Cond.fieldLink R_X 171 R_Rs "recordsReplayed" "I" ∈ GW := gm 143 (by decide +kernel) rfl
theorem mn_X_50 : Cond.methodLinkNest R_X 50 y_Bk_init R_X ∈ NL := nm_ 154 (by decide +kernel) rfl
theorem fl_Bk_9 : Cond.fieldLink R_Bk 9 R_Bk "values" "[I" ∈ GW := gm 158 (by decide +kernel) rfl
theorem fl_Rs_22 : Cond.fieldLink R_Rs 22 R_Bk "values" "[I" ∈ GW := gm 159 (by decide +kernel) rfl
theorem fl_Bk_15 : Cond.fieldLink R_Bk 15 R_Bk "present" "Z" ∈ GW := gm 160 (by decide +kernel) rfl
theorem fl_X_187 : Cond.fieldLink R_X 187 R_Bk "present" "Z" ∈ GW := gm 161 (by decide +kernel) rfl
theorem fl_Bk_19 : Cond.fieldLink R_Bk 19 R_Bk "finished" "Z" ∈ GW := gm 162 (by decide +kernel) rfl
theorem fl_X_180 : Cond.fieldLink R_X 180 R_Bk "finished" "Z" ∈ GW := gm 163 (by decide +kernel) rfl
theorem fl_Bk_22 : Cond.fieldLink R_Bk 22 R_Bk "start" "I" ∈ GW := gm 164 (by decide +kernel) rfl
theorem fl_Rs_34 : Cond.fieldLink R_Rs 34 R_Bk "start" "I" ∈ GW := gm 165 (by decide +kernel) rfl
theorem fl_X_141 : Cond.fieldLink R_X 141 R_Bk "start" "I" ∈ GW := gm 166 (by decide +kernel) rfl
theorem fl_Bk_26 : Cond.fieldLink R_Bk 26 R_Bk "checkpointedAt" "I" ∈ GW := gm 167 (by decide +kernel) rfl
theorem fl_Rs_38 : Cond.fieldLink R_Rs 38 R_Bk "checkpointedAt" "I" ∈ GW := gm 168 (by decide +kernel) rfl
theorem fl_Bk_38 : Cond.fieldLink R_Bk 38 R_Bk "end" "I" ∈ GW := gm 169 (by decide +kernel) rfl
theorem fl_X_144 : Cond.fieldLink R_X 144 R_Bk "end" "I" ∈ GW := gm 170 (by decide +kernel) rfl
theorem fl_Bk_29 : Cond.fieldLink R_Bk 29 R_Bk "pagesCopied" "I" ∈ GW := gm 171 (by decide +kernel) rfl
theorem fl_X_12 : Cond.fieldLink R_X 12 R_X "log" "LTornBackups$Log;" ∈ GW := gm 187 (by decide +kernel) rfl
theorem fl_X_19 : Cond.fieldLink R_X 19 R_X "transactions" "LTornBackups$Transactions;" ∈ GW := gm 188 (by decide +kernel) rfl
theorem fl_X_26 : Cond.fieldLink R_X 26 R_X "pages" "LTornBackups$Pages;" ∈ GW := gm 189 (by decide +kernel) rfl
theorem fl_X_46 : Cond.fieldLink R_X 46 R_X "backups" "[LTornBackups$Backup;" ∈ GW := gm 190 (by decide +kernel) rfl
theorem fl_X_33 : Cond.fieldLink R_X 33 R_X "segments" "LTornBackups$Archive;" ∈ GW := gm 191 (by decide +kernel) rfl
theorem fl_X_40 : Cond.fieldLink R_X 40 R_X "restoration" "LTornBackups$Restoration;" ∈ GW := gm 192 (by decide +kernel) rfl
theorem fl_X_51 : Cond.fieldLink R_X 51 R_X "unfinishedBackup" "I" ∈ GW := gm 193 (by decide +kernel) rfl
theorem ml_X_55 : Cond.methodLink R_X 55 y_X_isTransaction ∈ GW := gm 213 (by decide +kernel) rfl
theorem ml_X_59 : Cond.methodLink R_X 59 y_X_isKey ∈ GW := gm 216 (by decide +kernel) rfl
theorem ml_X_62 : Cond.methodLink R_X 62 y_Tr_hasAllSets ∈ GW := gm 219 (by decide +kernel) rfl
theorem ml_X_65 : Cond.methodLink R_X 65 y_Log_isFull ∈ GW := gm 223 (by decide +kernel) rfl
theorem ml_X_72 : Cond.methodLink R_X 72 y_Tr_addSet ∈ GW := gm 227 (by decide +kernel) rfl
theorem ml_Tr_24 : Cond.methodLink R_Tr 24 y_Tr_isOpen ∈ GW := gm 231 (by decide +kernel) rfl
theorem ml_Tr_28 : Cond.methodLink R_Tr 28 y_Tr_firstSlot ∈ GW := gm 235 (by decide +kernel) rfl
theorem ml_X_76 : Cond.methodLink R_X 76 y_Log_append ∈ GW := gm 239 (by decide +kernel) rfl
theorem ml_X_80 : Cond.methodLink R_X 80 y_X_refusalToEnd ∈ GW := gm 247 (by decide +kernel) rfl
theorem ml_X_184 : Cond.methodLink R_X 184 y_Tr_isOpen ∈ GW := gm 251 (by decide +kernel) rfl
theorem ml_X_84 : Cond.methodLink R_X 84 y_Pg_takeCommit ∈ GW := gm 252 (by decide +kernel) rfl
theorem ml_Pg_31 : Cond.methodLink R_Pg 31 y_Tr_writeSetsTo ∈ GW := gm 256 (by decide +kernel) rfl
theorem ml_Tr_42 : Cond.methodLink R_Tr 42 y_Tr_slotsEnd ∈ GW := gm 260 (by decide +kernel) rfl
theorem ml_Pg_37 : Cond.methodLink R_Pg 37 y_Tr_slotsEnd ∈ GW := gm 264 (by decide +kernel) rfl
theorem ml_Pg_41 : Cond.methodLink R_Pg 41 y_Tr_firstSlot ∈ GW := gm 265 (by decide +kernel) rfl
theorem ml_Pg_47 : Cond.methodLink R_Pg 47 y_Pg_markDirty ∈ GW := gm 266 (by decide +kernel) rfl
theorem ml_Pg_27 : Cond.methodLink R_Pg 27 y_Pg_isDirty ∈ GW := gm 270 (by decide +kernel) rfl
theorem ml_X_88 : Cond.methodLink R_X 88 y_Tr_close ∈ GW := gm 274 (by decide +kernel) rfl
theorem ml_X_96 : Cond.methodLink R_X 96 y_X_syncLog ∈ GW := gm 290 (by decide +kernel) rfl
theorem ml_X_190 : Cond.methodLink R_X 190 y_Pg_keepForCrash ∈ GW := gm 294 (by decide +kernel) rfl
theorem ml_Pg_51 : Cond.methodLink R_Pg 51 arraycopyName ∈ GW := gm 298 (by decide +kernel) rfl
theorem ml_X_193 : Cond.methodLink R_X 193 y_Log_syncAll ∈ GW := gm 301 (by decide +kernel) rfl
theorem ml_X_100 : Cond.methodLink R_X 100 y_X_flushPage ∈ GW := gm 309 (by decide +kernel) rfl
theorem ml_X_196 : Cond.methodLink R_X 196 y_Pg_isDirty ∈ GW := gm 313 (by decide +kernel) rfl
theorem ml_X_202 : Cond.methodLink R_X 202 y_Pg_writeToDisk ∈ GW := gm 314 (by decide +kernel) rfl
theorem ml_Pg_57 : Cond.methodLink R_Pg 57 y_Pg_markClean ∈ GW := gm 318 (by decide +kernel) rfl
theorem ml_X_103 : Cond.methodLink R_X 103 y_X_makeCheckpoint ∈ GW := gm 326 (by decide +kernel) rfl
theorem ml_X_205 : Cond.methodLink R_X 205 y_Tr_leastFirstSet ∈ GW := gm 330 (by decide +kernel) rfl
theorem ml_Tr_36 : Cond.methodLink R_Tr 36 Lib.Math.min.name ∈ GW := gm 334 (by decide +kernel) rfl
theorem ml_X_106 : Cond.methodLink R_X 106 y_Log_loseUnsynced ∈ GW := gm 341 (by decide +kernel) rfl
theorem ml_X_109 : Cond.methodLink R_X 109 y_Tr_closeAll ∈ GW := gm 345 (by decide +kernel) rfl
theorem ml_Tr_32 : Cond.methodLink R_Tr 32 y_Tr_close ∈ GW := gm 349 (by decide +kernel) rfl
theorem ml_X_115 : Cond.methodLink R_X 115 y_Pg_loseCommitsBehind ∈ GW := gm 350 (by decide +kernel) rfl
theorem ml_Pg_61 : Cond.methodLink R_Pg 61 Lib.Math.min.name ∈ GW := gm 354 (by decide +kernel) rfl
theorem ml_X_118 : Cond.methodLink R_X 118 y_Bk_remove ∈ GW := gm 355 (by decide +kernel) rfl
theorem ml_X_121 : Cond.methodLink R_X 121 y_X_leastFreeBackup ∈ GW := gm 363 (by decide +kernel) rfl
theorem ml_X_124 : Cond.methodLink R_X 124 y_Bk_begin ∈ GW := gm 367 (by decide +kernel) rfl
theorem ml_X_131 : Cond.methodLink R_X 131 y_Bk_takeNextPage ∈ GW := gm 375 (by decide +kernel) rfl
theorem ml_Bk_32 : Cond.methodLink R_Bk 32 arraycopyName ∈ GW := gm 379 (by decide +kernel) rfl
theorem ml_X_135 : Cond.methodLink R_X 135 y_Bk_finish ∈ GW := gm 380 (by decide +kernel) rfl
theorem ml_X_138 : Cond.methodLink R_X 138 y_X_isFinishedBackup ∈ GW := gm 388 (by decide +kernel) rfl
theorem ml_X_147 : Cond.methodLink R_X 147 y_Ar_nextIsWithin ∈ GW := gm 400 (by decide +kernel) rfl
theorem ml_X_150 : Cond.methodLink R_X 150 y_Ar_isFull ∈ GW := gm 404 (by decide +kernel) rfl
theorem ml_X_151 : Cond.methodLink R_X 151 y_Ar_holdNext ∈ GW := gm 408 (by decide +kernel) rfl
theorem ml_X_154 : Cond.methodLink R_X 154 y_Ar_release ∈ GW := gm 416 (by decide +kernel) rfl
theorem ml_Ar_22 : Cond.methodLink R_Ar 22 y_Ar_holds ∈ GW := gm 420 (by decide +kernel) rfl
theorem ml_X_157 : Cond.methodLink R_X 157 y_Ar_holdsRecords ∈ GW := gm 428 (by decide +kernel) rfl
theorem ml_Ar_26 : Cond.methodLink R_Ar 26 y_Ar_heldWithoutGapFrom ∈ GW := gm 432 (by decide +kernel) rfl
theorem ml_X_161 : Cond.methodLink R_X 161 y_Log_hasCommitDoneAt ∈ GW := gm 436 (by decide +kernel) rfl
theorem ml_X_164 : Cond.methodLink R_X 164 y_Rs_rebuild ∈ GW := gm 440 (by decide +kernel) rfl
theorem ml_Rs_25 : Cond.methodLink R_Rs 25 arraycopyName ∈ GW := gm 444 (by decide +kernel) rfl
theorem ml_Rs_31 : Cond.methodLink R_Rs 31 y_Tr_closeAll ∈ GW := gm 445 (by decide +kernel) rfl
theorem ml_Rs_41 : Cond.methodLink R_Rs 41 y_Rs_replay ∈ GW := gm 446 (by decide +kernel) rfl
theorem ml_Rs_56 : Cond.methodLink R_Rs 56 y_Tr_hasAllSets ∈ GW := gm 450 (by decide +kernel) rfl
theorem ml_Rs_64 : Cond.methodLink R_Rs 64 y_Tr_addSet ∈ GW := gm 451 (by decide +kernel) rfl
theorem ml_Rs_68 : Cond.methodLink R_Rs 68 y_Tr_writeSetsTo ∈ GW := gm 452 (by decide +kernel) rfl
theorem ml_Rs_72 : Cond.methodLink R_Rs 72 y_Tr_close ∈ GW := gm 453 (by decide +kernel) rfl
theorem ml_X_174 : Cond.methodLink R_X 174 y_Ar_heldWithoutGapFrom ∈ GW := gm 466 (by decide +kernel) rfl
theorem ml_X_177 : Cond.methodLink R_X 177 y_Pg_countDirty ∈ GW := gm 475 (by decide +kernel) rfl
theorem fl_M_41 : Cond.fieldLink R_M 41 R_M "count" "I" ∈ GW := gm 485 (by decide +kernel) rfl
theorem fl_M_74 : Cond.fieldLink R_M 74 R_M "synced" "I" ∈ GW := gm 486 (by decide +kernel) rfl
theorem fl_M_7 : Cond.fieldLink R_M 7 R_M "kind" "[I" ∈ GW := gm 487 (by decide +kernel) rfl
theorem fl_M_13 : Cond.fieldLink R_M 13 R_M "whose" "[I" ∈ GW := gm 488 (by decide +kernel) rfl
theorem fl_M_16 : Cond.fieldLink R_M 16 R_M "keyOf" "[I" ∈ GW := gm 489 (by decide +kernel) rfl
theorem fl_M_19 : Cond.fieldLink R_M 19 R_M "value" "[I" ∈ GW := gm 490 (by decide +kernel) rfl
theorem fl_M_22 : Cond.fieldLink R_M 22 R_M "flushed" "[I" ∈ GW := gm 491 (by decide +kernel) rfl
theorem fl_M_25 : Cond.fieldLink R_M 25 R_M "stage" "[I" ∈ GW := gm 492 (by decide +kernel) rfl
theorem fl_M_28 : Cond.fieldLink R_M 28 R_M "copied" "[I" ∈ GW := gm 493 (by decide +kernel) rfl
theorem fl_M_31 : Cond.fieldLink R_M 31 R_M "first" "[I" ∈ GW := gm 494 (by decide +kernel) rfl
theorem fl_M_34 : Cond.fieldLink R_M 34 R_M "last" "[I" ∈ GW := gm 495 (by decide +kernel) rfl
theorem fl_M_90 : Cond.fieldLink R_M 90 R_M "next" "I" ∈ GW := gm 496 (by decide +kernel) rfl
theorem fl_M_37 : Cond.fieldLink R_M 37 R_M "held" "[Z" ∈ GW := gm 497 (by decide +kernel) rfl
theorem fl_M_99 : Cond.fieldLink R_M 99 R_M "done" "Z" ∈ GW := gm 498 (by decide +kernel) rfl
theorem fl_M_103 : Cond.fieldLink R_M 103 R_M "target" "I" ∈ GW := gm 499 (by decide +kernel) rfl
theorem fl_M_106 : Cond.fieldLink R_M 106 R_M "behind" "I" ∈ GW := gm 500 (by decide +kernel) rfl
theorem ml_M_53 : Cond.methodLink R_M 53 y_M_transactionOk ∈ GW := gm 538 (by decide +kernel) rfl
theorem ml_M_57 : Cond.methodLink R_M 57 y_M_sets ∈ GW := gm 541 (by decide +kernel) rfl
theorem ml_M_45 : Cond.methodLink R_M 45 y_M_ends ∈ GW := gm 545 (by decide +kernel) rfl
theorem ml_M_61 : Cond.methodLink R_M 61 y_M_add ∈ GW := gm 549 (by decide +kernel) rfl
theorem ml_M_68 : Cond.methodLink R_M 68 y_M_end ∈ GW := gm 557 (by decide +kernel) rfl
theorem ml_M_65 : Cond.methodLink R_M 65 y_M_opened ∈ GW := gm 561 (by decide +kernel) rfl
theorem ml_M_71 : Cond.methodLink R_M 71 y_M_valueAt ∈ GW := gm 573 (by decide +kernel) rfl
theorem ml_M_49 : Cond.methodLink R_M 49 y_M_setFor ∈ GW := gm 577 (by decide +kernel) rfl
theorem ml_M_77 : Cond.methodLink R_M 77 y_M_waiting ∈ GW := gm 589 (by decide +kernel) rfl
theorem ml_M_80 : Cond.methodLink R_M 80 y_M_copying ∈ GW := gm 605 (by decide +kernel) rfl
theorem ml_M_84 : Cond.methodLink R_M 84 y_M_checkpoint ∈ GW := gm 609 (by decide +kernel) rfl
theorem ml_M_87 : Cond.methodLink R_M 87 y_M_finished ∈ GW := gm 618 (by decide +kernel) rfl
theorem ml_M_93 : Cond.methodLink R_M 93 y_M_holds ∈ GW := gm 630 (by decide +kernel) rfl
theorem ml_M_96 : Cond.methodLink R_M 96 y_M_answer ∈ GW := gm 642 (by decide +kernel) rfl
set_option maxRecDepth 20000 in
theorem ok_X_init : okC y_X_init b_X_init 2 (none) 0 := ⟨gm 33 rfl rfl, gm 19 (by decide +kernel) rfl, by decide +kernel, by decide +kernel, by decide +kernel⟩
set_option maxRecDepth 20000 in
theorem ok_X_set : okC y_X_set b_X_set 4 (some .int) 3 := ⟨gm 212 rfl rfl, gm 19 (by decide +kernel) rfl, by decide +kernel, by decide +kernel, by decide +kernel⟩
theorem ov_X_set : okV y_X_set := ⟨gm 210 (by decide +kernel) rfl, gm 211 (by decide +kernel) rfl⟩
set_option maxRecDepth 20000 in
theorem ok_X_commit : okC y_X_commit b_X_commit 4 (some .int) 1 := ⟨gm 246 rfl rfl, gm 19 (by decide +kernel) rfl, by decide +kernel, by decide +kernel, by decide +kernel⟩
theorem ov_X_commit : okV y_X_commit := ⟨gm 244 (by decide +kernel) rfl, gm 245 (by decide +kernel) rfl⟩
set_option maxRecDepth 20000 in
theorem ok_X_abort : okC y_X_abort b_X_abort 3 (some .int) 1 := ⟨gm 281 rfl rfl, gm 19 (by decide +kernel) rfl, by decide +kernel, by decide +kernel, by decide +kernel⟩
theorem ov_X_abort : okV y_X_abort := ⟨gm 279 (by decide +kernel) rfl, gm 280 (by decide +kernel) rfl⟩
set_option maxRecDepth 20000 in
theorem ok_X_get : okC y_X_get b_X_get 2 (some .int) 1 := ⟨gm 285 rfl rfl, gm 19 (by decide +kernel) rfl, by decide +kernel, by decide +kernel, by decide +kernel⟩
theorem ov_X_get : okV y_X_get := ⟨gm 283 (by decide +kernel) rfl, gm 284 (by decide +kernel) rfl⟩
set_option maxRecDepth 20000 in
theorem ok_X_sync : okC y_X_sync b_X_sync 1 (some .int) 0 := ⟨gm 289 rfl rfl, gm 19 (by decide +kernel) rfl, by decide +kernel, by decide +kernel, by decide +kernel⟩
theorem ov_X_sync : okV y_X_sync := ⟨gm 287 (by decide +kernel) rfl, gm 288 (by decide +kernel) rfl⟩
set_option maxRecDepth 20000 in
theorem ok_X_flush : okC y_X_flush b_X_flush 2 (some .int) 1 := ⟨gm 308 rfl rfl, gm 19 (by decide +kernel) rfl, by decide +kernel, by decide +kernel, by decide +kernel⟩
theorem ov_X_flush : okV y_X_flush := ⟨gm 306 (by decide +kernel) rfl, gm 307 (by decide +kernel) rfl⟩
set_option maxRecDepth 20000 in
theorem ok_X_checkpoint : okC y_X_checkpoint b_X_checkpoint 1 (some .int) 0 := ⟨gm 325 rfl rfl, gm 19 (by decide +kernel) rfl, by decide +kernel, by decide +kernel, by decide +kernel⟩
theorem ov_X_checkpoint : okV y_X_checkpoint := ⟨gm 323 (by decide +kernel) rfl, gm 324 (by decide +kernel) rfl⟩
set_option maxRecDepth 20000 in
theorem ok_X_crash : okC y_X_crash b_X_crash 2 (some .int) 0 := ⟨gm 340 rfl rfl, gm 19 (by decide +kernel) rfl, by decide +kernel, by decide +kernel, by decide +kernel⟩
theorem ov_X_crash : okV y_X_crash := ⟨gm 338 (by decide +kernel) rfl, gm 339 (by decide +kernel) rfl⟩
set_option maxRecDepth 20000 in
theorem ok_X_backup : okC y_X_backup b_X_backup 3 (some .int) 0 := ⟨gm 362 rfl rfl, gm 19 (by decide +kernel) rfl, by decide +kernel, by decide +kernel, by decide +kernel⟩
theorem ov_X_backup : okV y_X_backup := ⟨gm 360 (by decide +kernel) rfl, gm 361 (by decide +kernel) rfl⟩
set_option maxRecDepth 20000 in
theorem ok_X_copy : okC y_X_copy b_X_copy 3 (some .int) 0 := ⟨gm 374 rfl rfl, gm 19 (by decide +kernel) rfl, by decide +kernel, by decide +kernel, by decide +kernel⟩
theorem ov_X_copy : okV y_X_copy := ⟨gm 372 (by decide +kernel) rfl, gm 373 (by decide +kernel) rfl⟩
set_option maxRecDepth 20000 in
theorem ok_X_forget : okC y_X_forget b_X_forget 2 (some .boolean) 1 := ⟨gm 387 rfl rfl, gm 19 (by decide +kernel) rfl, by decide +kernel, by decide +kernel, by decide +kernel⟩
theorem ov_X_forget : okV y_X_forget := ⟨gm 385 (by decide +kernel) rfl, gm 386 (by decide +kernel) rfl⟩
set_option maxRecDepth 20000 in
theorem ok_X_bound : okC y_X_bound b_X_bound 3 (some .int) 2 := ⟨gm 395 rfl rfl, gm 19 (by decide +kernel) rfl, by decide +kernel, by decide +kernel, by decide +kernel⟩
theorem ov_X_bound : okV y_X_bound := ⟨gm 393 (by decide +kernel) rfl, gm 394 (by decide +kernel) rfl⟩
set_option maxRecDepth 20000 in
theorem ok_X_archive : okC y_X_archive b_X_archive 1 (some .int) 0 := ⟨gm 399 rfl rfl, gm 19 (by decide +kernel) rfl, by decide +kernel, by decide +kernel, by decide +kernel⟩
theorem ov_X_archive : okV y_X_archive := ⟨gm 397 (by decide +kernel) rfl, gm 398 (by decide +kernel) rfl⟩
set_option maxRecDepth 20000 in
theorem ok_X_drop : okC y_X_drop b_X_drop 2 (some .boolean) 1 := ⟨gm 415 rfl rfl, gm 19 (by decide +kernel) rfl, by decide +kernel, by decide +kernel, by decide +kernel⟩
theorem ov_X_drop : okV y_X_drop := ⟨gm 413 (by decide +kernel) rfl, gm 414 (by decide +kernel) rfl⟩
set_option maxRecDepth 20000 in
theorem ok_X_restore : okC y_X_restore b_X_restore 4 (some .int) 2 := ⟨gm 427 rfl rfl, gm 19 (by decide +kernel) rfl, by decide +kernel, by decide +kernel, by decide +kernel⟩
theorem ov_X_restore : okV y_X_restore := ⟨gm 425 (by decide +kernel) rfl, gm 426 (by decide +kernel) rfl⟩
set_option maxRecDepth 20000 in
theorem ok_X_restored : okC y_X_restored b_X_restored 2 (some .int) 1 := ⟨gm 457 rfl rfl, gm 19 (by decide +kernel) rfl, by decide +kernel, by decide +kernel, by decide +kernel⟩
theorem ov_X_restored : okV y_X_restored := ⟨gm 455 (by decide +kernel) rfl, gm 456 (by decide +kernel) rfl⟩
set_option maxRecDepth 20000 in
theorem ok_X_replayed : okC y_X_replayed b_X_replayed 1 (some .int) 0 := ⟨gm 461 rfl rfl, gm 19 (by decide +kernel) rfl, by decide +kernel, by decide +kernel, by decide +kernel⟩
theorem ov_X_replayed : okV y_X_replayed := ⟨gm 459 (by decide +kernel) rfl, gm 460 (by decide +kernel) rfl⟩
set_option maxRecDepth 20000 in
theorem ok_X_reach : okC y_X_reach b_X_reach 5 (some .int) 1 := ⟨gm 465 rfl rfl, gm 19 (by decide +kernel) rfl, by decide +kernel, by decide +kernel, by decide +kernel⟩
theorem ov_X_reach : okV y_X_reach := ⟨gm 463 (by decide +kernel) rfl, gm 464 (by decide +kernel) rfl⟩
set_option maxRecDepth 20000 in
theorem ok_X_position : okC y_X_position b_X_position 1 (some .int) 0 := ⟨gm 470 rfl rfl, gm 19 (by decide +kernel) rfl, by decide +kernel, by decide +kernel, by decide +kernel⟩
theorem ov_X_position : okV y_X_position := ⟨gm 468 (by decide +kernel) rfl, gm 469 (by decide +kernel) rfl⟩
set_option maxRecDepth 20000 in
theorem ok_X_dirty : okC y_X_dirty b_X_dirty 1 (some .int) 0 := ⟨gm 474 rfl rfl, gm 19 (by decide +kernel) rfl, by decide +kernel, by decide +kernel, by decide +kernel⟩
theorem ov_X_dirty : okV y_X_dirty := ⟨gm 472 (by decide +kernel) rfl, gm 473 (by decide +kernel) rfl⟩
set_option maxRecDepth 20000 in
theorem ok_X_isTransaction : okC y_X_isTransaction b_X_isTransaction 1 (some .boolean) 1 := ⟨gm 215 rfl rfl, gm 19 (by decide +kernel) rfl, by decide +kernel, by decide +kernel, by decide +kernel⟩
theorem os_X_isTransaction : Cond.static y_X_isTransaction ∈ GW := gm 214 (by decide +kernel) rfl
set_option maxRecDepth 20000 in
theorem ok_X_isKey : okC y_X_isKey b_X_isKey 1 (some .boolean) 1 := ⟨gm 218 rfl rfl, gm 19 (by decide +kernel) rfl, by decide +kernel, by decide +kernel, by decide +kernel⟩
theorem os_X_isKey : Cond.static y_X_isKey ∈ GW := gm 217 (by decide +kernel) rfl
set_option maxRecDepth 20000 in
theorem ok_X_isFinishedBackup : okC y_X_isFinishedBackup b_X_isFinishedBackup 2 (some .boolean) 1 := ⟨gm 391 rfl rfl, gm 19 (by decide +kernel) rfl, by decide +kernel, by decide +kernel, by decide +kernel⟩
theorem ov_X_isFinishedBackup : okV y_X_isFinishedBackup := ⟨gm 390 (by decide +kernel) rfl, gm 5 (by decide +kernel) rfl⟩
set_option maxRecDepth 20000 in
theorem ok_X_refusalToEnd : okC y_X_refusalToEnd b_X_refusalToEnd 2 (some .int) 1 := ⟨gm 250 rfl rfl, gm 19 (by decide +kernel) rfl, by decide +kernel, by decide +kernel, by decide +kernel⟩
theorem ov_X_refusalToEnd : okV y_X_refusalToEnd := ⟨gm 249 (by decide +kernel) rfl, gm 0 (by decide +kernel) rfl⟩
set_option maxRecDepth 20000 in
theorem ok_X_leastFreeBackup : okC y_X_leastFreeBackup b_X_leastFreeBackup 2 (some .int) 0 := ⟨gm 366 rfl rfl, gm 19 (by decide +kernel) rfl, by decide +kernel, by decide +kernel, by decide +kernel⟩
theorem ov_X_leastFreeBackup : okV y_X_leastFreeBackup := ⟨gm 365 (by decide +kernel) rfl, gm 4 (by decide +kernel) rfl⟩
set_option maxRecDepth 20000 in
theorem ok_X_syncLog : okC y_X_syncLog b_X_syncLog 1 (some .int) 0 := ⟨gm 293 rfl rfl, gm 19 (by decide +kernel) rfl, by decide +kernel, by decide +kernel, by decide +kernel⟩
theorem ov_X_syncLog : okV y_X_syncLog := ⟨gm 292 (by decide +kernel) rfl, gm 1 (by decide +kernel) rfl⟩
set_option maxRecDepth 20000 in
theorem ok_X_flushPage : okC y_X_flushPage b_X_flushPage 2 (some .boolean) 1 := ⟨gm 312 rfl rfl, gm 19 (by decide +kernel) rfl, by decide +kernel, by decide +kernel, by decide +kernel⟩
theorem ov_X_flushPage : okV y_X_flushPage := ⟨gm 311 (by decide +kernel) rfl, gm 2 (by decide +kernel) rfl⟩
set_option maxRecDepth 20000 in
theorem ok_X_makeCheckpoint : okC y_X_makeCheckpoint b_X_makeCheckpoint 2 (some .int) 0 := ⟨gm 329 rfl rfl, gm 19 (by decide +kernel) rfl, by decide +kernel, by decide +kernel, by decide +kernel⟩
theorem ov_X_makeCheckpoint : okV y_X_makeCheckpoint := ⟨gm 328 (by decide +kernel) rfl, gm 3 (by decide +kernel) rfl⟩
set_option maxRecDepth 20000 in
theorem ok_M_init : okC y_M_init b_M_init 1 (none) 0 := ⟨gm 483 rfl rfl, gm 26 (by decide +kernel) rfl, by decide +kernel, by decide +kernel, by decide +kernel⟩
set_option maxRecDepth 20000 in
theorem ok_M_add : okC y_M_add b_M_add 5 (some .int) 4 := ⟨gm 552 rfl rfl, gm 26 (by decide +kernel) rfl, by decide +kernel, by decide +kernel, by decide +kernel⟩
theorem ov_M_add : okV y_M_add := ⟨gm 551 (by decide +kernel) rfl, gm 8 (by decide +kernel) rfl⟩
set_option maxRecDepth 20000 in
theorem ok_M_ends : okC y_M_ends b_M_ends 3 (some .boolean) 2 := ⟨gm 548 rfl rfl, gm 26 (by decide +kernel) rfl, by decide +kernel, by decide +kernel, by decide +kernel⟩
theorem ov_M_ends : okV y_M_ends := ⟨gm 547 (by decide +kernel) rfl, gm 7 (by decide +kernel) rfl⟩
set_option maxRecDepth 20000 in
theorem ok_M_opened : okC y_M_opened b_M_opened 5 (some .int) 2 := ⟨gm 564 rfl rfl, gm 26 (by decide +kernel) rfl, by decide +kernel, by decide +kernel, by decide +kernel⟩
theorem ov_M_opened : okV y_M_opened := ⟨gm 563 (by decide +kernel) rfl, gm 10 (by decide +kernel) rfl⟩
set_option maxRecDepth 20000 in
theorem ok_M_sets : okC y_M_sets b_M_sets 4 (some .int) 1 := ⟨gm 544 rfl rfl, gm 26 (by decide +kernel) rfl, by decide +kernel, by decide +kernel, by decide +kernel⟩
theorem ov_M_sets : okV y_M_sets := ⟨gm 543 (by decide +kernel) rfl, gm 6 (by decide +kernel) rfl⟩
set_option maxRecDepth 20000 in
theorem ok_M_setFor : okC y_M_setFor b_M_setFor 4 (some .int) 2 := ⟨gm 580 rfl rfl, gm 26 (by decide +kernel) rfl, by decide +kernel, by decide +kernel, by decide +kernel⟩
theorem ov_M_setFor : okV y_M_setFor := ⟨gm 579 (by decide +kernel) rfl, gm 12 (by decide +kernel) rfl⟩
set_option maxRecDepth 20000 in
theorem ok_M_valueAt : okC y_M_valueAt b_M_valueAt 5 (some .int) 2 := ⟨gm 576 rfl rfl, gm 26 (by decide +kernel) rfl, by decide +kernel, by decide +kernel, by decide +kernel⟩
theorem ov_M_valueAt : okV y_M_valueAt := ⟨gm 575 (by decide +kernel) rfl, gm 11 (by decide +kernel) rfl⟩
set_option maxRecDepth 20000 in
theorem ok_M_transactionOk : okC y_M_transactionOk b_M_transactionOk 1 (some .boolean) 1 := ⟨gm 540 rfl rfl, gm 26 (by decide +kernel) rfl, by decide +kernel, by decide +kernel, by decide +kernel⟩
theorem os_M_transactionOk : Cond.static y_M_transactionOk ∈ GW := gm 539 (by decide +kernel) rfl
set_option maxRecDepth 20000 in
theorem ok_M_set : okC y_M_set b_M_set 4 (some .int) 3 := ⟨gm 537 rfl rfl, gm 26 (by decide +kernel) rfl, by decide +kernel, by decide +kernel, by decide +kernel⟩
theorem ov_M_set : okV y_M_set := ⟨gm 535 (by decide +kernel) rfl, gm 536 (by decide +kernel) rfl⟩
set_option maxRecDepth 20000 in
theorem ok_M_end : okC y_M_end b_M_end 3 (some .int) 2 := ⟨gm 560 rfl rfl, gm 26 (by decide +kernel) rfl, by decide +kernel, by decide +kernel, by decide +kernel⟩
theorem ov_M_end : okV y_M_end := ⟨gm 559 (by decide +kernel) rfl, gm 9 (by decide +kernel) rfl⟩
set_option maxRecDepth 20000 in
theorem ok_M_commit : okC y_M_commit b_M_commit 2 (some .int) 1 := ⟨gm 556 rfl rfl, gm 26 (by decide +kernel) rfl, by decide +kernel, by decide +kernel, by decide +kernel⟩
theorem ov_M_commit : okV y_M_commit := ⟨gm 554 (by decide +kernel) rfl, gm 555 (by decide +kernel) rfl⟩
set_option maxRecDepth 20000 in
theorem ok_M_abort : okC y_M_abort b_M_abort 2 (some .int) 1 := ⟨gm 568 rfl rfl, gm 26 (by decide +kernel) rfl, by decide +kernel, by decide +kernel, by decide +kernel⟩
theorem ov_M_abort : okV y_M_abort := ⟨gm 566 (by decide +kernel) rfl, gm 567 (by decide +kernel) rfl⟩
set_option maxRecDepth 20000 in
theorem ok_M_get : okC y_M_get b_M_get 2 (some .int) 1 := ⟨gm 572 rfl rfl, gm 26 (by decide +kernel) rfl, by decide +kernel, by decide +kernel, by decide +kernel⟩
theorem ov_M_get : okV y_M_get := ⟨gm 570 (by decide +kernel) rfl, gm 571 (by decide +kernel) rfl⟩
set_option maxRecDepth 20000 in
theorem ok_M_sync : okC y_M_sync b_M_sync 2 (some .int) 0 := ⟨gm 584 rfl rfl, gm 26 (by decide +kernel) rfl, by decide +kernel, by decide +kernel, by decide +kernel⟩
theorem ov_M_sync : okV y_M_sync := ⟨gm 582 (by decide +kernel) rfl, gm 583 (by decide +kernel) rfl⟩
set_option maxRecDepth 20000 in
theorem ok_M_waiting : okC y_M_waiting b_M_waiting 5 (some .int) 1 := ⟨gm 592 rfl rfl, gm 26 (by decide +kernel) rfl, by decide +kernel, by decide +kernel, by decide +kernel⟩
theorem ov_M_waiting : okV y_M_waiting := ⟨gm 591 (by decide +kernel) rfl, gm 13 (by decide +kernel) rfl⟩
set_option maxRecDepth 20000 in
theorem ok_M_flush : okC y_M_flush b_M_flush 3 (some .int) 1 := ⟨gm 588 rfl rfl, gm 26 (by decide +kernel) rfl, by decide +kernel, by decide +kernel, by decide +kernel⟩
theorem ov_M_flush : okV y_M_flush := ⟨gm 586 (by decide +kernel) rfl, gm 587 (by decide +kernel) rfl⟩
set_option maxRecDepth 20000 in
theorem ok_M_checkpoint : okC y_M_checkpoint b_M_checkpoint 4 (some .int) 0 := ⟨gm 596 rfl rfl, gm 26 (by decide +kernel) rfl, by decide +kernel, by decide +kernel, by decide +kernel⟩
theorem ov_M_checkpoint : okV y_M_checkpoint := ⟨gm 594 (by decide +kernel) rfl, gm 595 (by decide +kernel) rfl⟩
set_option maxRecDepth 20000 in
theorem ok_M_crash : okC y_M_crash b_M_crash 3 (some .int) 0 := ⟨gm 600 rfl rfl, gm 26 (by decide +kernel) rfl, by decide +kernel, by decide +kernel, by decide +kernel⟩
theorem ov_M_crash : okV y_M_crash := ⟨gm 598 (by decide +kernel) rfl, gm 599 (by decide +kernel) rfl⟩
set_option maxRecDepth 20000 in
theorem ok_M_copying : okC y_M_copying b_M_copying 2 (some .int) 0 := ⟨gm 608 rfl rfl, gm 26 (by decide +kernel) rfl, by decide +kernel, by decide +kernel, by decide +kernel⟩
theorem ov_M_copying : okV y_M_copying := ⟨gm 607 (by decide +kernel) rfl, gm 14 (by decide +kernel) rfl⟩
set_option maxRecDepth 20000 in
theorem ok_M_backup : okC y_M_backup b_M_backup 2 (some .int) 0 := ⟨gm 604 rfl rfl, gm 26 (by decide +kernel) rfl, by decide +kernel, by decide +kernel, by decide +kernel⟩
theorem ov_M_backup : okV y_M_backup := ⟨gm 602 (by decide +kernel) rfl, gm 603 (by decide +kernel) rfl⟩
set_option maxRecDepth 20000 in
theorem ok_M_copy : okC y_M_copy b_M_copy 2 (some .int) 0 := ⟨gm 613 rfl rfl, gm 26 (by decide +kernel) rfl, by decide +kernel, by decide +kernel, by decide +kernel⟩
theorem ov_M_copy : okV y_M_copy := ⟨gm 611 (by decide +kernel) rfl, gm 612 (by decide +kernel) rfl⟩
set_option maxRecDepth 20000 in
theorem ok_M_finished : okC y_M_finished b_M_finished 2 (some .boolean) 1 := ⟨gm 621 rfl rfl, gm 26 (by decide +kernel) rfl, by decide +kernel, by decide +kernel, by decide +kernel⟩
theorem ov_M_finished : okV y_M_finished := ⟨gm 620 (by decide +kernel) rfl, gm 15 (by decide +kernel) rfl⟩
set_option maxRecDepth 20000 in
theorem ok_M_forget : okC y_M_forget b_M_forget 2 (some .boolean) 1 := ⟨gm 617 rfl rfl, gm 26 (by decide +kernel) rfl, by decide +kernel, by decide +kernel, by decide +kernel⟩
theorem ov_M_forget : okV y_M_forget := ⟨gm 615 (by decide +kernel) rfl, gm 616 (by decide +kernel) rfl⟩
set_option maxRecDepth 20000 in
theorem ok_M_bound : okC y_M_bound b_M_bound 3 (some .int) 2 := ⟨gm 625 rfl rfl, gm 26 (by decide +kernel) rfl, by decide +kernel, by decide +kernel, by decide +kernel⟩
theorem ov_M_bound : okV y_M_bound := ⟨gm 623 (by decide +kernel) rfl, gm 624 (by decide +kernel) rfl⟩
set_option maxRecDepth 20000 in
theorem ok_M_holds : okC y_M_holds b_M_holds 3 (some .int) 0 := ⟨gm 633 rfl rfl, gm 26 (by decide +kernel) rfl, by decide +kernel, by decide +kernel, by decide +kernel⟩
theorem ov_M_holds : okV y_M_holds := ⟨gm 632 (by decide +kernel) rfl, gm 16 (by decide +kernel) rfl⟩
set_option maxRecDepth 20000 in
theorem ok_M_archive : okC y_M_archive b_M_archive 1 (some .int) 0 := ⟨gm 629 rfl rfl, gm 26 (by decide +kernel) rfl, by decide +kernel, by decide +kernel, by decide +kernel⟩
theorem ov_M_archive : okV y_M_archive := ⟨gm 627 (by decide +kernel) rfl, gm 628 (by decide +kernel) rfl⟩
set_option maxRecDepth 20000 in
theorem ok_M_drop : okC y_M_drop b_M_drop 2 (some .boolean) 1 := ⟨gm 637 rfl rfl, gm 26 (by decide +kernel) rfl, by decide +kernel, by decide +kernel, by decide +kernel⟩
theorem ov_M_drop : okV y_M_drop := ⟨gm 635 (by decide +kernel) rfl, gm 636 (by decide +kernel) rfl⟩
set_option maxRecDepth 20000 in
theorem ok_M_answer : okC y_M_answer b_M_answer 4 (some .int) 2 := ⟨gm 645 rfl rfl, gm 26 (by decide +kernel) rfl, by decide +kernel, by decide +kernel, by decide +kernel⟩
theorem ov_M_answer : okV y_M_answer := ⟨gm 644 (by decide +kernel) rfl, gm 17 (by decide +kernel) rfl⟩
set_option maxRecDepth 20000 in
theorem ok_M_restore : okC y_M_restore b_M_restore 4 (some .int) 2 := ⟨gm 641 rfl rfl, gm 26 (by decide +kernel) rfl, by decide +kernel, by decide +kernel, by decide +kernel⟩
theorem ov_M_restore : okV y_M_restore := ⟨gm 639 (by decide +kernel) rfl, gm 640 (by decide +kernel) rfl⟩
set_option maxRecDepth 20000 in
theorem ok_M_restored : okC y_M_restored b_M_restored 2 (some .int) 1 := ⟨gm 649 rfl rfl, gm 26 (by decide +kernel) rfl, by decide +kernel, by decide +kernel, by decide +kernel⟩
theorem ov_M_restored : okV y_M_restored := ⟨gm 647 (by decide +kernel) rfl, gm 648 (by decide +kernel) rfl⟩
set_option maxRecDepth 20000 in
theorem ok_M_replayed : okC y_M_replayed b_M_replayed 1 (some .int) 0 := ⟨gm 653 rfl rfl, gm 26 (by decide +kernel) rfl, by decide +kernel, by decide +kernel, by decide +kernel⟩
theorem ov_M_replayed : okV y_M_replayed := ⟨gm 651 (by decide +kernel) rfl, gm 652 (by decide +kernel) rfl⟩
set_option maxRecDepth 20000 in
theorem ok_M_reach : okC y_M_reach b_M_reach 3 (some .int) 1 := ⟨gm 657 rfl rfl, gm 26 (by decide +kernel) rfl, by decide +kernel, by decide +kernel, by decide +kernel⟩
theorem ov_M_reach : okV y_M_reach := ⟨gm 655 (by decide +kernel) rfl, gm 656 (by decide +kernel) rfl⟩
set_option maxRecDepth 20000 in
theorem ok_M_position : okC y_M_position b_M_position 1 (some .int) 0 := ⟨gm 661 rfl rfl, gm 26 (by decide +kernel) rfl, by decide +kernel, by decide +kernel, by decide +kernel⟩
theorem ov_M_position : okV y_M_position := ⟨gm 659 (by decide +kernel) rfl, gm 660 (by decide +kernel) rfl⟩
set_option maxRecDepth 20000 in
theorem ok_M_dirty : okC y_M_dirty b_M_dirty 3 (some .int) 0 := ⟨gm 665 rfl rfl, gm 26 (by decide +kernel) rfl, by decide +kernel, by decide +kernel, by decide +kernel⟩
theorem ov_M_dirty : okV y_M_dirty := ⟨gm 663 (by decide +kernel) rfl, gm 664 (by decide +kernel) rfl⟩
set_option maxRecDepth 20000 in
theorem ok_Ar_init : okC y_Ar_init b_Ar_init 1 (none) 0 := ⟨gm 118 rfl rfl, gm 23 (by decide +kernel) rfl, by decide +kernel, by decide +kernel, by decide +kernel⟩
set_option maxRecDepth 20000 in
theorem ok_Ar_nextIsWithin : okC y_Ar_nextIsWithin b_Ar_nextIsWithin 2 (some .boolean) 1 := ⟨gm 403 rfl rfl, gm 23 (by decide +kernel) rfl, by decide +kernel, by decide +kernel, by decide +kernel⟩
theorem ov_Ar_nextIsWithin : okV y_Ar_nextIsWithin := ⟨gm 401 (by decide +kernel) rfl, gm 402 (by decide +kernel) rfl⟩
set_option maxRecDepth 20000 in
theorem ok_Ar_isFull : okC y_Ar_isFull b_Ar_isFull 1 (some .boolean) 0 := ⟨gm 407 rfl rfl, gm 23 (by decide +kernel) rfl, by decide +kernel, by decide +kernel, by decide +kernel⟩
theorem ov_Ar_isFull : okV y_Ar_isFull := ⟨gm 405 (by decide +kernel) rfl, gm 406 (by decide +kernel) rfl⟩
set_option maxRecDepth 20000 in
theorem ok_Ar_holdNext : okC y_Ar_holdNext b_Ar_holdNext 2 (some .int) 0 := ⟨gm 411 rfl rfl, gm 23 (by decide +kernel) rfl, by decide +kernel, by decide +kernel, by decide +kernel⟩
theorem ov_Ar_holdNext : okV y_Ar_holdNext := ⟨gm 409 (by decide +kernel) rfl, gm 410 (by decide +kernel) rfl⟩
set_option maxRecDepth 20000 in
theorem ok_Ar_holds : okC y_Ar_holds b_Ar_holds 2 (some .boolean) 1 := ⟨gm 423 rfl rfl, gm 23 (by decide +kernel) rfl, by decide +kernel, by decide +kernel, by decide +kernel⟩
theorem ov_Ar_holds : okV y_Ar_holds := ⟨gm 421 (by decide +kernel) rfl, gm 422 (by decide +kernel) rfl⟩
set_option maxRecDepth 20000 in
theorem ok_Ar_release : okC y_Ar_release b_Ar_release 2 (some .boolean) 1 := ⟨gm 419 rfl rfl, gm 23 (by decide +kernel) rfl, by decide +kernel, by decide +kernel, by decide +kernel⟩
theorem ov_Ar_release : okV y_Ar_release := ⟨gm 417 (by decide +kernel) rfl, gm 418 (by decide +kernel) rfl⟩
set_option maxRecDepth 20000 in
theorem ok_Ar_heldWithoutGapFrom : okC y_Ar_heldWithoutGapFrom b_Ar_heldWithoutGapFrom 3 (some .int) 1 := ⟨gm 435 rfl rfl, gm 23 (by decide +kernel) rfl, by decide +kernel, by decide +kernel, by decide +kernel⟩
theorem ov_Ar_heldWithoutGapFrom : okV y_Ar_heldWithoutGapFrom := ⟨gm 433 (by decide +kernel) rfl, gm 434 (by decide +kernel) rfl⟩
set_option maxRecDepth 20000 in
theorem ok_Ar_holdsRecords : okC y_Ar_holdsRecords b_Ar_holdsRecords 3 (some .boolean) 2 := ⟨gm 431 rfl rfl, gm 23 (by decide +kernel) rfl, by decide +kernel, by decide +kernel, by decide +kernel⟩
theorem ov_Ar_holdsRecords : okV y_Ar_holdsRecords := ⟨gm 429 (by decide +kernel) rfl, gm 430 (by decide +kernel) rfl⟩
set_option maxRecDepth 20000 in
theorem ok_Bk_init : okC y_Bk_init b_Bk_init 1 (none) 0 := ⟨gm 156 rfl rfl, gm 25 (by decide +kernel) rfl, by decide +kernel, by decide +kernel, by decide +kernel⟩
set_option maxRecDepth 20000 in
theorem ok_Bk_begin : okC y_Bk_begin b_Bk_begin 3 (none) 2 := ⟨gm 370 rfl rfl, gm 25 (by decide +kernel) rfl, by decide +kernel, by decide +kernel, by decide +kernel⟩
theorem ov_Bk_begin : okV y_Bk_begin := ⟨gm 368 (by decide +kernel) rfl, gm 369 (by decide +kernel) rfl⟩
set_option maxRecDepth 20000 in
theorem ok_Bk_takeNextPage : okC y_Bk_takeNextPage b_Bk_takeNextPage 3 (some .int) 1 := ⟨gm 378 rfl rfl, gm 25 (by decide +kernel) rfl, by decide +kernel, by decide +kernel, by decide +kernel⟩
theorem ov_Bk_takeNextPage : okV y_Bk_takeNextPage := ⟨gm 376 (by decide +kernel) rfl, gm 377 (by decide +kernel) rfl⟩
set_option maxRecDepth 20000 in
theorem ok_Bk_finish : okC y_Bk_finish b_Bk_finish 2 (none) 1 := ⟨gm 383 rfl rfl, gm 25 (by decide +kernel) rfl, by decide +kernel, by decide +kernel, by decide +kernel⟩
theorem ov_Bk_finish : okV y_Bk_finish := ⟨gm 381 (by decide +kernel) rfl, gm 382 (by decide +kernel) rfl⟩
set_option maxRecDepth 20000 in
theorem ok_Bk_remove : okC y_Bk_remove b_Bk_remove 1 (none) 0 := ⟨gm 358 rfl rfl, gm 25 (by decide +kernel) rfl, by decide +kernel, by decide +kernel, by decide +kernel⟩
theorem ov_Bk_remove : okV y_Bk_remove := ⟨gm 356 (by decide +kernel) rfl, gm 357 (by decide +kernel) rfl⟩
set_option maxRecDepth 20000 in
theorem ok_Log_init : okC y_Log_init b_Log_init 1 (none) 0 := ⟨gm 41 rfl rfl, gm 20 (by decide +kernel) rfl, by decide +kernel, by decide +kernel, by decide +kernel⟩
set_option maxRecDepth 20000 in
theorem ok_Log_isFull : okC y_Log_isFull b_Log_isFull 1 (some .boolean) 0 := ⟨gm 226 rfl rfl, gm 20 (by decide +kernel) rfl, by decide +kernel, by decide +kernel, by decide +kernel⟩
theorem ov_Log_isFull : okV y_Log_isFull := ⟨gm 224 (by decide +kernel) rfl, gm 225 (by decide +kernel) rfl⟩
set_option maxRecDepth 20000 in
theorem ok_Log_append : okC y_Log_append b_Log_append 5 (some .int) 4 := ⟨gm 242 rfl rfl, gm 20 (by decide +kernel) rfl, by decide +kernel, by decide +kernel, by decide +kernel⟩
theorem ov_Log_append : okV y_Log_append := ⟨gm 240 (by decide +kernel) rfl, gm 241 (by decide +kernel) rfl⟩
set_option maxRecDepth 20000 in
theorem ok_Log_syncAll : okC y_Log_syncAll b_Log_syncAll 2 (some .int) 0 := ⟨gm 304 rfl rfl, gm 20 (by decide +kernel) rfl, by decide +kernel, by decide +kernel, by decide +kernel⟩
theorem ov_Log_syncAll : okV y_Log_syncAll := ⟨gm 302 (by decide +kernel) rfl, gm 303 (by decide +kernel) rfl⟩
set_option maxRecDepth 20000 in
theorem ok_Log_loseUnsynced : okC y_Log_loseUnsynced b_Log_loseUnsynced 2 (some .int) 0 := ⟨gm 344 rfl rfl, gm 20 (by decide +kernel) rfl, by decide +kernel, by decide +kernel, by decide +kernel⟩
theorem ov_Log_loseUnsynced : okV y_Log_loseUnsynced := ⟨gm 342 (by decide +kernel) rfl, gm 343 (by decide +kernel) rfl⟩
set_option maxRecDepth 20000 in
theorem ok_Log_hasCommitDoneAt : okC y_Log_hasCommitDoneAt b_Log_hasCommitDoneAt 2 (some .boolean) 1 := ⟨gm 439 rfl rfl, gm 20 (by decide +kernel) rfl, by decide +kernel, by decide +kernel, by decide +kernel⟩
theorem ov_Log_hasCommitDoneAt : okV y_Log_hasCommitDoneAt := ⟨gm 437 (by decide +kernel) rfl, gm 438 (by decide +kernel) rfl⟩
set_option maxRecDepth 20000 in
theorem ok_Pg_init : okC y_Pg_init b_Pg_init 1 (none) 0 := ⟨gm 93 rfl rfl, gm 22 (by decide +kernel) rfl, by decide +kernel, by decide +kernel, by decide +kernel⟩
set_option maxRecDepth 20000 in
theorem ok_Pg_isDirty : okC y_Pg_isDirty b_Pg_isDirty 2 (some .boolean) 1 := ⟨gm 273 rfl rfl, gm 22 (by decide +kernel) rfl, by decide +kernel, by decide +kernel, by decide +kernel⟩
theorem ov_Pg_isDirty : okV y_Pg_isDirty := ⟨gm 271 (by decide +kernel) rfl, gm 272 (by decide +kernel) rfl⟩
set_option maxRecDepth 20000 in
theorem ok_Pg_countDirty : okC y_Pg_countDirty b_Pg_countDirty 3 (some .int) 0 := ⟨gm 478 rfl rfl, gm 22 (by decide +kernel) rfl, by decide +kernel, by decide +kernel, by decide +kernel⟩
theorem ov_Pg_countDirty : okV y_Pg_countDirty := ⟨gm 476 (by decide +kernel) rfl, gm 477 (by decide +kernel) rfl⟩
set_option maxRecDepth 20000 in
theorem ok_Pg_takeCommit : okC y_Pg_takeCommit b_Pg_takeCommit 6 (none) 3 := ⟨gm 255 rfl rfl, gm 22 (by decide +kernel) rfl, by decide +kernel, by decide +kernel, by decide +kernel⟩
theorem ov_Pg_takeCommit : okV y_Pg_takeCommit := ⟨gm 253 (by decide +kernel) rfl, gm 254 (by decide +kernel) rfl⟩
set_option maxRecDepth 20000 in
theorem ok_Pg_markDirty : okC y_Pg_markDirty b_Pg_markDirty 3 (none) 2 := ⟨gm 269 rfl rfl, gm 22 (by decide +kernel) rfl, by decide +kernel, by decide +kernel, by decide +kernel⟩
theorem ov_Pg_markDirty : okV y_Pg_markDirty := ⟨gm 267 (by decide +kernel) rfl, gm 268 (by decide +kernel) rfl⟩
set_option maxRecDepth 20000 in
theorem ok_Pg_markClean : okC y_Pg_markClean b_Pg_markClean 2 (none) 1 := ⟨gm 321 rfl rfl, gm 22 (by decide +kernel) rfl, by decide +kernel, by decide +kernel, by decide +kernel⟩
theorem ov_Pg_markClean : okV y_Pg_markClean := ⟨gm 319 (by decide +kernel) rfl, gm 320 (by decide +kernel) rfl⟩
set_option maxRecDepth 20000 in
theorem ok_Pg_writeToDisk : okC y_Pg_writeToDisk b_Pg_writeToDisk 3 (none) 1 := ⟨gm 317 rfl rfl, gm 22 (by decide +kernel) rfl, by decide +kernel, by decide +kernel, by decide +kernel⟩
theorem ov_Pg_writeToDisk : okV y_Pg_writeToDisk := ⟨gm 315 (by decide +kernel) rfl, gm 316 (by decide +kernel) rfl⟩
set_option maxRecDepth 20000 in
theorem ok_Pg_keepForCrash : okC y_Pg_keepForCrash b_Pg_keepForCrash 1 (none) 0 := ⟨gm 297 rfl rfl, gm 22 (by decide +kernel) rfl, by decide +kernel, by decide +kernel, by decide +kernel⟩
theorem ov_Pg_keepForCrash : okV y_Pg_keepForCrash := ⟨gm 295 (by decide +kernel) rfl, gm 296 (by decide +kernel) rfl⟩
set_option maxRecDepth 20000 in
theorem ok_Pg_loseCommitsBehind : okC y_Pg_loseCommitsBehind b_Pg_loseCommitsBehind 3 (none) 1 := ⟨gm 353 rfl rfl, gm 22 (by decide +kernel) rfl, by decide +kernel, by decide +kernel, by decide +kernel⟩
theorem ov_Pg_loseCommitsBehind : okV y_Pg_loseCommitsBehind := ⟨gm 351 (by decide +kernel) rfl, gm 352 (by decide +kernel) rfl⟩
set_option maxRecDepth 20000 in
theorem ok_Rs_init : okC y_Rs_init b_Rs_init 1 (none) 0 := ⟨gm 135 rfl rfl, gm 24 (by decide +kernel) rfl, by decide +kernel, by decide +kernel, by decide +kernel⟩
set_option maxRecDepth 20000 in
theorem ok_Rs_rebuild : okC y_Rs_rebuild b_Rs_rebuild 5 (none) 3 := ⟨gm 443 rfl rfl, gm 24 (by decide +kernel) rfl, by decide +kernel, by decide +kernel, by decide +kernel⟩
theorem ov_Rs_rebuild : okV y_Rs_rebuild := ⟨gm 441 (by decide +kernel) rfl, gm 442 (by decide +kernel) rfl⟩
set_option maxRecDepth 20000 in
theorem ok_Rs_replay : okC y_Rs_replay b_Rs_replay 5 (none) 3 := ⟨gm 449 rfl rfl, gm 24 (by decide +kernel) rfl, by decide +kernel, by decide +kernel, by decide +kernel⟩
theorem ov_Rs_replay : okV y_Rs_replay := ⟨gm 447 (by decide +kernel) rfl, gm 448 (by decide +kernel) rfl⟩
set_option maxRecDepth 20000 in
theorem ok_Tr_init : okC y_Tr_init b_Tr_init 1 (none) 0 := ⟨gm 73 rfl rfl, gm 21 (by decide +kernel) rfl, by decide +kernel, by decide +kernel, by decide +kernel⟩
set_option maxRecDepth 20000 in
theorem ok_Tr_isOpen : okC y_Tr_isOpen b_Tr_isOpen 2 (some .boolean) 1 := ⟨gm 234 rfl rfl, gm 21 (by decide +kernel) rfl, by decide +kernel, by decide +kernel, by decide +kernel⟩
theorem ov_Tr_isOpen : okV y_Tr_isOpen := ⟨gm 232 (by decide +kernel) rfl, gm 233 (by decide +kernel) rfl⟩
set_option maxRecDepth 20000 in
theorem ok_Tr_hasAllSets : okC y_Tr_hasAllSets b_Tr_hasAllSets 2 (some .boolean) 1 := ⟨gm 222 rfl rfl, gm 21 (by decide +kernel) rfl, by decide +kernel, by decide +kernel, by decide +kernel⟩
theorem ov_Tr_hasAllSets : okV y_Tr_hasAllSets := ⟨gm 220 (by decide +kernel) rfl, gm 221 (by decide +kernel) rfl⟩
set_option maxRecDepth 20000 in
theorem ok_Tr_addSet : okC y_Tr_addSet b_Tr_addSet 6 (none) 4 := ⟨gm 230 rfl rfl, gm 21 (by decide +kernel) rfl, by decide +kernel, by decide +kernel, by decide +kernel⟩
theorem ov_Tr_addSet : okV y_Tr_addSet := ⟨gm 228 (by decide +kernel) rfl, gm 229 (by decide +kernel) rfl⟩
set_option maxRecDepth 20000 in
theorem ok_Tr_firstSlot : okC y_Tr_firstSlot b_Tr_firstSlot 2 (some .int) 1 := ⟨gm 238 rfl rfl, gm 21 (by decide +kernel) rfl, by decide +kernel, by decide +kernel, by decide +kernel⟩
theorem ov_Tr_firstSlot : okV y_Tr_firstSlot := ⟨gm 236 (by decide +kernel) rfl, gm 237 (by decide +kernel) rfl⟩
set_option maxRecDepth 20000 in
theorem ok_Tr_slotsEnd : okC y_Tr_slotsEnd b_Tr_slotsEnd 2 (some .int) 1 := ⟨gm 263 rfl rfl, gm 21 (by decide +kernel) rfl, by decide +kernel, by decide +kernel, by decide +kernel⟩
theorem ov_Tr_slotsEnd : okV y_Tr_slotsEnd := ⟨gm 261 (by decide +kernel) rfl, gm 262 (by decide +kernel) rfl⟩
set_option maxRecDepth 20000 in
theorem ok_Tr_close : okC y_Tr_close b_Tr_close 2 (none) 1 := ⟨gm 277 rfl rfl, gm 21 (by decide +kernel) rfl, by decide +kernel, by decide +kernel, by decide +kernel⟩
theorem ov_Tr_close : okV y_Tr_close := ⟨gm 275 (by decide +kernel) rfl, gm 276 (by decide +kernel) rfl⟩
set_option maxRecDepth 20000 in
theorem ok_Tr_closeAll : okC y_Tr_closeAll b_Tr_closeAll 2 (none) 0 := ⟨gm 348 rfl rfl, gm 21 (by decide +kernel) rfl, by decide +kernel, by decide +kernel, by decide +kernel⟩
theorem ov_Tr_closeAll : okV y_Tr_closeAll := ⟨gm 346 (by decide +kernel) rfl, gm 347 (by decide +kernel) rfl⟩
set_option maxRecDepth 20000 in
theorem ok_Tr_leastFirstSet : okC y_Tr_leastFirstSet b_Tr_leastFirstSet 4 (some .int) 1 := ⟨gm 333 rfl rfl, gm 21 (by decide +kernel) rfl, by decide +kernel, by decide +kernel, by decide +kernel⟩
theorem ov_Tr_leastFirstSet : okV y_Tr_leastFirstSet := ⟨gm 331 (by decide +kernel) rfl, gm 332 (by decide +kernel) rfl⟩
set_option maxRecDepth 20000 in
theorem ok_Tr_writeSetsTo : okC y_Tr_writeSetsTo b_Tr_writeSetsTo 5 (none) 2 := ⟨gm 259 rfl rfl, gm 21 (by decide +kernel) rfl, by decide +kernel, by decide +kernel, by decide +kernel⟩
theorem ov_Tr_writeSetsTo : okV y_Tr_writeSetsTo := ⟨gm 257 (by decide +kernel) rfl, gm 258 (by decide +kernel) rfl⟩
theorem wd_nat : Cond.native arraycopyName ∈ GW := gm 300 (by decide +kernel) rfl
theorem wd_stat : Cond.static arraycopyName ∈ GW := gm 299 (by decide +kernel) rfl
theorem wd_ini : Cond.initialized "java/lang/System" ∈ GW := gm 27 (by decide +kernel) rfl
theorem wd_mins : Cond.static Lib.Math.min.name ∈ GW := gm 335 (by decide +kernel) rfl
theorem wd_mini : Cond.initialized "java/lang/Math" ∈ GW := gm 28 (by decide +kernel) rfl
theorem wd_minc : Cond.code Lib.Math.min.name Lib.Math.min.code 2 (some .int) ∈ GW := gm 336 (by decide +kernel) rfl
theorem hin_X : ∀ w ∈ u_ws R_X F_X 7, w ∈ GW := fun w hw => List.mem_filter.mpr ((by decide +kernel : ∀ w ∈ u_ws R_X F_X 7, w ∈ lw_tbl ∧ goodWord w = true) w hw)
theorem hin_Log : ∀ w ∈ u_ws R_Log F_Log 6, w ∈ GW := fun w hw => List.mem_filter.mpr ((by decide +kernel : ∀ w ∈ u_ws R_Log F_Log 6, w ∈ lw_tbl ∧ goodWord w = true) w hw)
theorem hin_Tr : ∀ w ∈ u_ws R_Tr F_Tr 4, w ∈ GW := fun w hw => List.mem_filter.mpr ((by decide +kernel : ∀ w ∈ u_ws R_Tr F_Tr 4, w ∈ lw_tbl ∧ goodWord w = true) w hw)
theorem hin_Pg : ∀ w ∈ u_ws R_Pg F_Pg 5, w ∈ GW := fun w hw => List.mem_filter.mpr ((by decide +kernel : ∀ w ∈ u_ws R_Pg F_Pg 5, w ∈ lw_tbl ∧ goodWord w = true) w hw)
theorem hin_Bk : ∀ w ∈ u_ws R_Bk F_Bk 7, w ∈ GW := fun w hw => List.mem_filter.mpr ((by decide +kernel : ∀ w ∈ u_ws R_Bk F_Bk 7, w ∈ lw_tbl ∧ goodWord w = true) w hw)
theorem hin_Ar : ∀ w ∈ u_ws R_Ar F_Ar 3, w ∈ GW := fun w hw => List.mem_filter.mpr ((by decide +kernel : ∀ w ∈ u_ws R_Ar F_Ar 3, w ∈ lw_tbl ∧ goodWord w = true) w hw)
theorem hin_Rs : ∀ w ∈ u_ws R_Rs F_Rs 3, w ∈ GW := fun w hw => List.mem_filter.mpr ((by decide +kernel : ∀ w ∈ u_ws R_Rs F_Rs 3, w ∈ lw_tbl ∧ goodWord w = true) w hw)
theorem hin_M : ∀ w ∈ u_ws R_M F_M 16, w ∈ GW := fun w hw => List.mem_filter.mpr ((by decide +kernel : ∀ w ∈ u_ws R_M F_M 16, w ∈ lw_tbl ∧ goodWord w = true) w hw)
abbrev wLog (g : Gt) (a0 a1 a2 a3 a4 : Nat) (k : Nat → Nat) (o : Nat → Nat) (ke : Nat → Nat) (va : Nat → Int32) (n : Nat) (sy : Nat) : va_W := [(a0, .inr (1, [.ref a1, .ref a2, .ref a3, .ref a4, .int (nI n), .int (nI sy)])), (a1, .inl (g.2.1, 512, .inl (nF k))), (a2, .inl (g.2.1, 512, .inl (nF o))), (a3, .inl (g.2.1, 512, .inl (nF ke))), (a4, .inl (g.2.1, 512, .inl va))]
abbrev wTr (g : Gt) (a0 a1 a2 a3 a4 : Nat) (c : Nat → Nat) (f : Nat → Nat) (tk : Nat → Nat) (tv : Nat → Int32) : va_W := [(a0, .inr (2, [.ref a1, .ref a2, .ref a3, .ref a4])), (a1, .inl (g.2.1, 3, .inl (nF c))), (a2, .inl (g.2.1, 3, .inl (nF f))), (a3, .inl (g.2.1, 12, .inl (nF tk))), (a4, .inl (g.2.1, 12, .inl tv))]
abbrev wPg (g : Gt) (a0 a1 a2 a3 a4 a5 : Nat) (me : Nat → Int32) (ms : Nat → Int32) (dk : Nat → Int32) (ds : Nat → Nat) (du : Nat → Nat) : va_W := [(a0, .inr (3, [.ref a1, .ref a2, .ref a3, .ref a4, .ref a5])), (a1, .inl (g.2.1, 32, .inl me)), (a2, .inl (g.2.1, 32, .inl ms)), (a3, .inl (g.2.1, 32, .inl dk)), (a4, .inl (g.2.1, 8, .inl (nF ds))), (a5, .inl (g.2.1, 8, .inl (nF du)))]
abbrev wBk (g : Gt) (a0 a1 : Nat) (bv : Nat → Int32) (pr : Nat) (fi : Nat) (st : Nat) (cp : Nat) (en : Nat) (pg : Nat) : va_W := [(a0, .inr (4, [.ref a1, .int (nI pr), .int (nI fi), .int (nI st), .int (nI cp), .int (nI en), .int (nI pg)])), (a1, .inl (g.2.1, 32, .inl bv))]
abbrev wAr (g : Gt) (a0 a1 : Nat) (hd : Nat → Nat) (hc : Nat) (nx : Nat) : va_W := [(a0, .inr (5, [.ref a1, .int (nI hc), .int (nI nx)])), (a1, .inl (g.2.2.1, 64, .inl (nF hd)))]
abbrev wRs (g : Gt) (a0 a1 a2 : Nat) (rv : Nat → Int32) (rr : Nat) : va_W := [(a0, .inr (6, [.ref a1, .ref a2, .int (nI rr)])), (a1, .inl (g.2.1, 32, .inl rv))]
abbrev wAI (g : Gt) (a0 : Nat) (tg : Nat → Int32) : va_W := [(a0, .inl (g.2.1, 32, .inl tg))]
abbrev wM (g : Gt) (a0 a1 a2 a3 a4 a5 a6 a7 a8 a9 a10 : Nat) (n : Nat) (sy : Nat) (k : Nat → Nat) (o : Nat → Int32) (ke : Nat → Nat) (va : Nat → Int32) (fl : Nat → Nat) (sg : Nat → Nat) (cp : Nat → Nat) (fs : Nat → Nat) (la : Nat → Nat) (nx : Nat) (hd : Nat → Nat) (dn : Nat) (tg : Nat) (bh : Nat) : va_W := [(a0, .inr (7, [.int (nI n), .int (nI sy), .ref a1, .ref a2, .ref a3, .ref a4, .ref a5, .ref a6, .ref a7, .ref a8, .ref a9, .int (nI nx), .ref a10, .int (nI dn), .int (nI tg), .int (nI bh)])), (a1, .inl (g.2.1, 520, .inl (nF k))), (a2, .inl (g.2.1, 520, .inl o)), (a3, .inl (g.2.1, 520, .inl (nF ke))), (a4, .inl (g.2.1, 520, .inl va)), (a5, .inl (g.2.1, 8, .inl (nF fl))), (a6, .inl (g.2.1, 3, .inl (nF sg))), (a7, .inl (g.2.1, 3, .inl (nF cp))), (a8, .inl (g.2.1, 3, .inl (nF fs))), (a9, .inl (g.2.1, 3, .inl (nF la))), (a10, .inl (g.2.2.1, 66, .inl (nF hd)))]
abbrev wX (g : Gt) (a0 a1 a2 a3 a4 a5 a6 : Nat) (un : Int32) : va_W := [(a0, .inr (0, [.ref a1, .ref a2, .ref a3, .ref a4, .ref a5, .ref a6, .int un]))]
abbrev wBA (g : Gt) (a0 : Nat) (b : Nat → Nat) : va_W := [(a0, .inl (g.2.2.2, 3, .inr (.inr (.inr (.inr (fun j => some (b j)))))))]

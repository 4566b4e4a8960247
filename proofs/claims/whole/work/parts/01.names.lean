-- ===== PART A: goes FIRST, ahead of the names: the tables' words, and 'selects' of the private methods out of them =====
/-- a private method of a class that the tables say can be made, by its rows of tables_1 -/
def lw_okq (q : MethodName × Nat) : Prop := (q.1.cls ≠ "java/lang/invoke/MethodHandle" ∧ q.1.cls ≠ "java/lang/invoke/VarHandle") ∧ Cond.instantiable q.1.cls q.2 ∈ tables_1 ∧ Cond.privateMethod q.1 ∈ tables_1 ∧ Cond.instanceMethod q.1 ∈ tables_1
theorem lw_p0 : lw_okq (⟨"TornBackups", "refusalToEnd", "(I)I"⟩, 7) := ⟨⟨by decide +kernel, by decide +kernel⟩, List.mem_of_getElem? (i := 12) (by decide +kernel), List.mem_of_getElem? (i := 230) (by decide +kernel), List.mem_of_getElem? (i := 231) (by decide +kernel)⟩
theorem lw_p1 : lw_okq (⟨"TornBackups", "syncLog", "()I"⟩, 7) := ⟨⟨by decide +kernel, by decide +kernel⟩, List.mem_of_getElem? (i := 12) (by decide +kernel), List.mem_of_getElem? (i := 273) (by decide +kernel), List.mem_of_getElem? (i := 274) (by decide +kernel)⟩
theorem lw_p2 : lw_okq (⟨"TornBackups", "flushPage", "(I)Z"⟩, 7) := ⟨⟨by decide +kernel, by decide +kernel⟩, List.mem_of_getElem? (i := 12) (by decide +kernel), List.mem_of_getElem? (i := 292) (by decide +kernel), List.mem_of_getElem? (i := 293) (by decide +kernel)⟩
theorem lw_p3 : lw_okq (⟨"TornBackups", "makeCheckpoint", "()I"⟩, 7) := ⟨⟨by decide +kernel, by decide +kernel⟩, List.mem_of_getElem? (i := 12) (by decide +kernel), List.mem_of_getElem? (i := 309) (by decide +kernel), List.mem_of_getElem? (i := 310) (by decide +kernel)⟩
theorem lw_p4 : lw_okq (⟨"TornBackups", "leastFreeBackup", "()I"⟩, 7) := ⟨⟨by decide +kernel, by decide +kernel⟩, List.mem_of_getElem? (i := 12) (by decide +kernel), List.mem_of_getElem? (i := 346) (by decide +kernel), List.mem_of_getElem? (i := 347) (by decide +kernel)⟩
theorem lw_p5 : lw_okq (⟨"TornBackups", "isFinishedBackup", "(I)Z"⟩, 7) := ⟨⟨by decide +kernel, by decide +kernel⟩, List.mem_of_getElem? (i := 12) (by decide +kernel), List.mem_of_getElem? (i := 371) (by decide +kernel), List.mem_of_getElem? (i := 372) (by decide +kernel)⟩
theorem lw_p6 : lw_okq (⟨"TornBackupsModel", "sets", "(I)I"⟩, 16) := ⟨⟨by decide +kernel, by decide +kernel⟩, List.mem_of_getElem? (i := 462) (by decide +kernel), List.mem_of_getElem? (i := 524) (by decide +kernel), List.mem_of_getElem? (i := 525) (by decide +kernel)⟩
theorem lw_p7 : lw_okq (⟨"TornBackupsModel", "ends", "(II)Z"⟩, 16) := ⟨⟨by decide +kernel, by decide +kernel⟩, List.mem_of_getElem? (i := 462) (by decide +kernel), List.mem_of_getElem? (i := 528) (by decide +kernel), List.mem_of_getElem? (i := 529) (by decide +kernel)⟩
theorem lw_p8 : lw_okq (⟨"TornBackupsModel", "add", "(IIII)I"⟩, 16) := ⟨⟨by decide +kernel, by decide +kernel⟩, List.mem_of_getElem? (i := 462) (by decide +kernel), List.mem_of_getElem? (i := 532) (by decide +kernel), List.mem_of_getElem? (i := 533) (by decide +kernel)⟩
theorem lw_p9 : lw_okq (⟨"TornBackupsModel", "end", "(II)I"⟩, 16) := ⟨⟨by decide +kernel, by decide +kernel⟩, List.mem_of_getElem? (i := 462) (by decide +kernel), List.mem_of_getElem? (i := 540) (by decide +kernel), List.mem_of_getElem? (i := 541) (by decide +kernel)⟩
theorem lw_p10 : lw_okq (⟨"TornBackupsModel", "opened", "(II)I"⟩, 16) := ⟨⟨by decide +kernel, by decide +kernel⟩, List.mem_of_getElem? (i := 462) (by decide +kernel), List.mem_of_getElem? (i := 544) (by decide +kernel), List.mem_of_getElem? (i := 545) (by decide +kernel)⟩
theorem lw_p11 : lw_okq (⟨"TornBackupsModel", "valueAt", "(II)I"⟩, 16) := ⟨⟨by decide +kernel, by decide +kernel⟩, List.mem_of_getElem? (i := 462) (by decide +kernel), List.mem_of_getElem? (i := 556) (by decide +kernel), List.mem_of_getElem? (i := 557) (by decide +kernel)⟩
theorem lw_p12 : lw_okq (⟨"TornBackupsModel", "setFor", "(II)I"⟩, 16) := ⟨⟨by decide +kernel, by decide +kernel⟩, List.mem_of_getElem? (i := 462) (by decide +kernel), List.mem_of_getElem? (i := 560) (by decide +kernel), List.mem_of_getElem? (i := 561) (by decide +kernel)⟩
theorem lw_p13 : lw_okq (⟨"TornBackupsModel", "waiting", "(I)I"⟩, 16) := ⟨⟨by decide +kernel, by decide +kernel⟩, List.mem_of_getElem? (i := 462) (by decide +kernel), List.mem_of_getElem? (i := 572) (by decide +kernel), List.mem_of_getElem? (i := 573) (by decide +kernel)⟩
theorem lw_p14 : lw_okq (⟨"TornBackupsModel", "copying", "()I"⟩, 16) := ⟨⟨by decide +kernel, by decide +kernel⟩, List.mem_of_getElem? (i := 462) (by decide +kernel), List.mem_of_getElem? (i := 588) (by decide +kernel), List.mem_of_getElem? (i := 589) (by decide +kernel)⟩
theorem lw_p15 : lw_okq (⟨"TornBackupsModel", "finished", "(I)Z"⟩, 16) := ⟨⟨by decide +kernel, by decide +kernel⟩, List.mem_of_getElem? (i := 462) (by decide +kernel), List.mem_of_getElem? (i := 601) (by decide +kernel), List.mem_of_getElem? (i := 602) (by decide +kernel)⟩
def lw_privs_1 : List (MethodName × Nat) := [(⟨"TornBackups", "refusalToEnd", "(I)I"⟩, 7), (⟨"TornBackups", "syncLog", "()I"⟩, 7), (⟨"TornBackups", "flushPage", "(I)Z"⟩, 7), (⟨"TornBackups", "makeCheckpoint", "()I"⟩, 7), (⟨"TornBackups", "leastFreeBackup", "()I"⟩, 7), (⟨"TornBackups", "isFinishedBackup", "(I)Z"⟩, 7), (⟨"TornBackupsModel", "sets", "(I)I"⟩, 16), (⟨"TornBackupsModel", "ends", "(II)Z"⟩, 16), (⟨"TornBackupsModel", "add", "(IIII)I"⟩, 16), (⟨"TornBackupsModel", "end", "(II)I"⟩, 16), (⟨"TornBackupsModel", "opened", "(II)I"⟩, 16), (⟨"TornBackupsModel", "valueAt", "(II)I"⟩, 16), (⟨"TornBackupsModel", "setFor", "(II)I"⟩, 16), (⟨"TornBackupsModel", "waiting", "(I)I"⟩, 16), (⟨"TornBackupsModel", "copying", "()I"⟩, 16), (⟨"TornBackupsModel", "finished", "(I)Z"⟩, 16)]
theorem lw_r1 : ∀ q ∈ lw_privs_1, lw_okq q := List.forall_mem_cons.mpr ⟨lw_p0, List.forall_mem_cons.mpr ⟨lw_p1, List.forall_mem_cons.mpr ⟨lw_p2, List.forall_mem_cons.mpr ⟨lw_p3, List.forall_mem_cons.mpr ⟨lw_p4, List.forall_mem_cons.mpr ⟨lw_p5, List.forall_mem_cons.mpr ⟨lw_p6, List.forall_mem_cons.mpr ⟨lw_p7, List.forall_mem_cons.mpr ⟨lw_p8, List.forall_mem_cons.mpr ⟨lw_p9, List.forall_mem_cons.mpr ⟨lw_p10, List.forall_mem_cons.mpr ⟨lw_p11, List.forall_mem_cons.mpr ⟨lw_p12, List.forall_mem_cons.mpr ⟨lw_p13, List.forall_mem_cons.mpr ⟨lw_p14, List.forall_mem_cons.mpr ⟨lw_p15, fun _ h => absurd h List.not_mem_nil⟩⟩⟩⟩⟩⟩⟩⟩⟩⟩⟩⟩⟩⟩⟩⟩
theorem lw_p16 : lw_okq (⟨"TornBackupsModel", "holds", "()I"⟩, 16) := ⟨⟨by decide +kernel, by decide +kernel⟩, List.mem_of_getElem? (i := 462) (by decide +kernel), List.mem_of_getElem? (i := 613) (by decide +kernel), List.mem_of_getElem? (i := 614) (by decide +kernel)⟩
theorem lw_p17 : lw_okq (⟨"TornBackupsModel", "answer", "(II)I"⟩, 16) := ⟨⟨by decide +kernel, by decide +kernel⟩, List.mem_of_getElem? (i := 462) (by decide +kernel), List.mem_of_getElem? (i := 625) (by decide +kernel), List.mem_of_getElem? (i := 626) (by decide +kernel)⟩
def lw_privs_2 : List (MethodName × Nat) := [(⟨"TornBackupsModel", "holds", "()I"⟩, 16), (⟨"TornBackupsModel", "answer", "(II)I"⟩, 16)]
theorem lw_r2 : ∀ q ∈ lw_privs_2, lw_okq q := List.forall_mem_cons.mpr ⟨lw_p16, List.forall_mem_cons.mpr ⟨lw_p17, fun _ h => absurd h List.not_mem_nil⟩⟩
def lw_privs : List (MethodName × Nat) := lw_privs_1 ++ (lw_privs_2)
def lw_tbl : List Cond := k2_sels lw_privs ++ tables_1
theorem lw_privs_ok : ∀ q ∈ lw_privs, lw_okq q := by
  show ∀ q ∈ lw_privs_1 ++ (lw_privs_2), lw_okq q
  exact List.forall_mem_append.mpr ⟨lw_r1, lw_r2⟩
abbrev R_X : String := "TornBackups"
def F_X : u_T := fun k => match k with
  | 0 => (R_X, "log", "LTornBackups$Log;", true)
  | 1 => (R_X, "transactions", "LTornBackups$Transactions;", true)
  | 2 => (R_X, "pages", "LTornBackups$Pages;", true)
  | 3 => (R_X, "backups", "[LTornBackups$Backup;", true)
  | 4 => (R_X, "segments", "LTornBackups$Archive;", true)
  | 5 => (R_X, "restoration", "LTornBackups$Restoration;", true)
  | _ => (R_X, "unfinishedBackup", "I", false)
def t_X : Nat → FieldType := fun k => match k with
  | 0 => .object "TornBackups$Log"
  | 1 => .object "TornBackups$Transactions"
  | 2 => .object "TornBackups$Pages"
  | 3 => .array (.object "TornBackups$Backup")
  | 4 => .object "TornBackups$Archive"
  | 5 => .object "TornBackups$Restoration"
  | _ => .int
theorem n_X : ∀ a, a < 7 → ∀ b, b < 7 → a ≠ b → (F_X a).2.1 ≠ (F_X b).2.1 := by decide +kernel
theorem t_X_ok : ∀ k, k < 7 → parseFieldDescriptor (F_X k).2.2.1 = some (t_X k) := by decide +kernel
abbrev R_Log : String := "TornBackups$Log"
def F_Log : u_T := fun k => match k with
  | 0 => (R_Log, "kinds", "[I", true)
  | 1 => (R_Log, "owners", "[I", true)
  | 2 => (R_Log, "keys", "[I", true)
  | 3 => (R_Log, "values", "[I", true)
  | 4 => (R_Log, "length", "I", false)
  | _ => (R_Log, "synced", "I", false)
def t_Log : Nat → FieldType := fun k => match k with
  | 0 => .array .int
  | 1 => .array .int
  | 2 => .array .int
  | 3 => .array .int
  | 4 => .int
  | _ => .int
theorem n_Log : ∀ a, a < 6 → ∀ b, b < 6 → a ≠ b → (F_Log a).2.1 ≠ (F_Log b).2.1 := by decide +kernel
theorem t_Log_ok : ∀ k, k < 6 → parseFieldDescriptor (F_Log k).2.2.1 = some (t_Log k) := by decide +kernel
abbrev R_Tr : String := "TornBackups$Transactions"
def F_Tr : u_T := fun k => match k with
  | 0 => (R_Tr, "counts", "[I", true)
  | 1 => (R_Tr, "firstSets", "[I", true)
  | 2 => (R_Tr, "keys", "[I", true)
  | _ => (R_Tr, "values", "[I", true)
def t_Tr : Nat → FieldType := fun k => match k with
  | 0 => .array .int
  | 1 => .array .int
  | 2 => .array .int
  | _ => .array .int
theorem n_Tr : ∀ a, a < 4 → ∀ b, b < 4 → a ≠ b → (F_Tr a).2.1 ≠ (F_Tr b).2.1 := by decide +kernel
theorem t_Tr_ok : ∀ k, k < 4 → parseFieldDescriptor (F_Tr k).2.2.1 = some (t_Tr k) := by decide +kernel
abbrev R_Pg : String := "TornBackups$Pages"
def F_Pg : u_T := fun k => match k with
  | 0 => (R_Pg, "memory", "[I", true)
  | 1 => (R_Pg, "memoryAtSync", "[I", true)
  | 2 => (R_Pg, "disk", "[I", true)
  | 3 => (R_Pg, "dirtySince", "[I", true)
  | _ => (R_Pg, "dirtyUntil", "[I", true)
def t_Pg : Nat → FieldType := fun k => match k with
  | 0 => .array .int
  | 1 => .array .int
  | 2 => .array .int
  | 3 => .array .int
  | _ => .array .int
theorem n_Pg : ∀ a, a < 5 → ∀ b, b < 5 → a ≠ b → (F_Pg a).2.1 ≠ (F_Pg b).2.1 := by decide +kernel
theorem t_Pg_ok : ∀ k, k < 5 → parseFieldDescriptor (F_Pg k).2.2.1 = some (t_Pg k) := by decide +kernel
abbrev R_Bk : String := "TornBackups$Backup"
def F_Bk : u_T := fun k => match k with
  | 0 => (R_Bk, "values", "[I", true)
  | 1 => (R_Bk, "present", "Z", false)
  | 2 => (R_Bk, "finished", "Z", false)
  | 3 => (R_Bk, "start", "I", false)
  | 4 => (R_Bk, "checkpointedAt", "I", false)
  | 5 => (R_Bk, "end", "I", false)
  | _ => (R_Bk, "pagesCopied", "I", false)
def t_Bk : Nat → FieldType := fun k => match k with
  | 0 => .array .int
  | 1 => .boolean
  | 2 => .boolean
  | 3 => .int
  | 4 => .int
  | 5 => .int
  | _ => .int
theorem n_Bk : ∀ a, a < 7 → ∀ b, b < 7 → a ≠ b → (F_Bk a).2.1 ≠ (F_Bk b).2.1 := by decide +kernel
theorem t_Bk_ok : ∀ k, k < 7 → parseFieldDescriptor (F_Bk k).2.2.1 = some (t_Bk k) := by decide +kernel
abbrev R_Ar : String := "TornBackups$Archive"
def F_Ar : u_T := fun k => match k with
  | 0 => (R_Ar, "held", "[Z", true)
  | 1 => (R_Ar, "heldCount", "I", false)
  | _ => (R_Ar, "next", "I", false)
def t_Ar : Nat → FieldType := fun k => match k with
  | 0 => .array .boolean
  | 1 => .int
  | _ => .int
theorem n_Ar : ∀ a, a < 3 → ∀ b, b < 3 → a ≠ b → (F_Ar a).2.1 ≠ (F_Ar b).2.1 := by decide +kernel
theorem t_Ar_ok : ∀ k, k < 3 → parseFieldDescriptor (F_Ar k).2.2.1 = some (t_Ar k) := by decide +kernel
abbrev R_Rs : String := "TornBackups$Restoration"
def F_Rs : u_T := fun k => match k with
  | 0 => (R_Rs, "values", "[I", true)
  | 1 => (R_Rs, "transactions", "LTornBackups$Transactions;", true)
  | _ => (R_Rs, "recordsReplayed", "I", false)
def t_Rs : Nat → FieldType := fun k => match k with
  | 0 => .array .int
  | 1 => .object "TornBackups$Transactions"
  | _ => .int
theorem n_Rs : ∀ a, a < 3 → ∀ b, b < 3 → a ≠ b → (F_Rs a).2.1 ≠ (F_Rs b).2.1 := by decide +kernel
theorem t_Rs_ok : ∀ k, k < 3 → parseFieldDescriptor (F_Rs k).2.2.1 = some (t_Rs k) := by decide +kernel
abbrev R_M : String := "TornBackupsModel"
def F_M : u_T := fun k => match k with
  | 0 => (R_M, "count", "I", false)
  | 1 => (R_M, "synced", "I", false)
  | 2 => (R_M, "kind", "[I", true)
  | 3 => (R_M, "whose", "[I", true)
  | 4 => (R_M, "keyOf", "[I", true)
  | 5 => (R_M, "value", "[I", true)
  | 6 => (R_M, "flushed", "[I", true)
  | 7 => (R_M, "stage", "[I", true)
  | 8 => (R_M, "copied", "[I", true)
  | 9 => (R_M, "first", "[I", true)
  | 10 => (R_M, "last", "[I", true)
  | 11 => (R_M, "next", "I", false)
  | 12 => (R_M, "held", "[Z", true)
  | 13 => (R_M, "done", "Z", false)
  | 14 => (R_M, "target", "I", false)
  | _ => (R_M, "behind", "I", false)
def t_M : Nat → FieldType := fun k => match k with
  | 0 => .int
  | 1 => .int
  | 2 => .array .int
  | 3 => .array .int
  | 4 => .array .int
  | 5 => .array .int
  | 6 => .array .int
  | 7 => .array .int
  | 8 => .array .int
  | 9 => .array .int
  | 10 => .array .int
  | 11 => .int
  | 12 => .array .boolean
  | 13 => .boolean
  | 14 => .int
  | _ => .int
theorem n_M : ∀ a, a < 16 → ∀ b, b < 16 → a ≠ b → (F_M a).2.1 ≠ (F_M b).2.1 := by decide +kernel
theorem t_M_ok : ∀ k, k < 16 → parseFieldDescriptor (F_M k).2.2.1 = some (t_M k) := by decide +kernel
abbrev cls : List vw_C := [(R_X, F_X, 7), (R_Log, F_Log, 6), (R_Tr, F_Tr, 4), (R_Pg, F_Pg, 5), (R_Bk, F_Bk, 7), (R_Ar, F_Ar, 3), (R_Rs, F_Rs, 3), (R_M, F_M, 16)]
abbrev b_X_init : ByteArray := prog_1_method_1_code
def y_X_init : MethodName := ⟨R_X, "<init>", "()V"⟩
abbrev b_X_set : ByteArray := prog_1_method_2_code
def y_X_set : MethodName := ⟨R_X, "set", "(III)I"⟩
abbrev b_X_commit : ByteArray := prog_1_method_3_code
def y_X_commit : MethodName := ⟨R_X, "commit", "(I)I"⟩
abbrev b_X_abort : ByteArray := prog_1_method_4_code
def y_X_abort : MethodName := ⟨R_X, "abort", "(I)I"⟩
abbrev b_X_get : ByteArray := prog_1_method_5_code
def y_X_get : MethodName := ⟨R_X, "get", "(I)I"⟩
abbrev b_X_sync : ByteArray := prog_1_method_6_code
def y_X_sync : MethodName := ⟨R_X, "sync", "()I"⟩
abbrev b_X_flush : ByteArray := prog_1_method_7_code
def y_X_flush : MethodName := ⟨R_X, "flush", "(I)I"⟩
abbrev b_X_checkpoint : ByteArray := prog_1_method_8_code
def y_X_checkpoint : MethodName := ⟨R_X, "checkpoint", "()I"⟩
abbrev b_X_crash : ByteArray := prog_1_method_9_code
def y_X_crash : MethodName := ⟨R_X, "crash", "()I"⟩
abbrev b_X_backup : ByteArray := prog_1_method_10_code
def y_X_backup : MethodName := ⟨R_X, "backup", "()I"⟩
abbrev b_X_copy : ByteArray := prog_1_method_11_code
def y_X_copy : MethodName := ⟨R_X, "copy", "()I"⟩
abbrev b_X_forget : ByteArray := prog_1_method_12_code
def y_X_forget : MethodName := ⟨R_X, "forget", "(I)Z"⟩
abbrev b_X_bound : ByteArray := prog_1_method_13_code
def y_X_bound : MethodName := ⟨R_X, "bound", "(II)I"⟩
abbrev b_X_archive : ByteArray := prog_1_method_14_code
def y_X_archive : MethodName := ⟨R_X, "archive", "()I"⟩
abbrev b_X_drop : ByteArray := prog_1_method_15_code
def y_X_drop : MethodName := ⟨R_X, "drop", "(I)Z"⟩
abbrev b_X_restore : ByteArray := prog_1_method_16_code
def y_X_restore : MethodName := ⟨R_X, "restore", "(II)I"⟩
abbrev b_X_restored : ByteArray := prog_1_method_17_code
def y_X_restored : MethodName := ⟨R_X, "restored", "(I)I"⟩
abbrev b_X_replayed : ByteArray := prog_1_method_18_code
def y_X_replayed : MethodName := ⟨R_X, "replayed", "()I"⟩
abbrev b_X_reach : ByteArray := prog_1_method_19_code
def y_X_reach : MethodName := ⟨R_X, "reach", "(I)I"⟩
abbrev b_X_position : ByteArray := prog_1_method_20_code
def y_X_position : MethodName := ⟨R_X, "position", "()I"⟩
abbrev b_X_dirty : ByteArray := prog_1_method_21_code
def y_X_dirty : MethodName := ⟨R_X, "dirty", "()I"⟩
abbrev b_X_isTransaction : ByteArray := prog_1_method_22_code
def y_X_isTransaction : MethodName := ⟨R_X, "isTransaction", "(I)Z"⟩
abbrev b_X_isKey : ByteArray := prog_1_method_23_code
def y_X_isKey : MethodName := ⟨R_X, "isKey", "(I)Z"⟩
abbrev b_X_isFinishedBackup : ByteArray := prog_1_method_24_code
def y_X_isFinishedBackup : MethodName := ⟨R_X, "isFinishedBackup", "(I)Z"⟩
abbrev b_X_refusalToEnd : ByteArray := prog_1_method_25_code
def y_X_refusalToEnd : MethodName := ⟨R_X, "refusalToEnd", "(I)I"⟩
abbrev b_X_leastFreeBackup : ByteArray := prog_1_method_26_code
def y_X_leastFreeBackup : MethodName := ⟨R_X, "leastFreeBackup", "()I"⟩
abbrev b_X_syncLog : ByteArray := prog_1_method_27_code
def y_X_syncLog : MethodName := ⟨R_X, "syncLog", "()I"⟩
abbrev b_X_flushPage : ByteArray := prog_1_method_28_code
def y_X_flushPage : MethodName := ⟨R_X, "flushPage", "(I)Z"⟩
abbrev b_X_makeCheckpoint : ByteArray := prog_1_method_29_code
def y_X_makeCheckpoint : MethodName := ⟨R_X, "makeCheckpoint", "()I"⟩
abbrev b_M_init : ByteArray := prog_9_method_1_code
def y_M_init : MethodName := ⟨R_M, "<init>", "()V"⟩
abbrev b_M_add : ByteArray := prog_9_method_2_code
def y_M_add : MethodName := ⟨R_M, "add", "(IIII)I"⟩
abbrev b_M_ends : ByteArray := prog_9_method_3_code
def y_M_ends : MethodName := ⟨R_M, "ends", "(II)Z"⟩
abbrev b_M_opened : ByteArray := prog_9_method_4_code
def y_M_opened : MethodName := ⟨R_M, "opened", "(II)I"⟩
abbrev b_M_sets : ByteArray := prog_9_method_5_code
def y_M_sets : MethodName := ⟨R_M, "sets", "(I)I"⟩
abbrev b_M_setFor : ByteArray := prog_9_method_6_code
def y_M_setFor : MethodName := ⟨R_M, "setFor", "(II)I"⟩
abbrev b_M_valueAt : ByteArray := prog_9_method_7_code
def y_M_valueAt : MethodName := ⟨R_M, "valueAt", "(II)I"⟩
abbrev b_M_transactionOk : ByteArray := prog_9_method_8_code
def y_M_transactionOk : MethodName := ⟨R_M, "transactionOk", "(I)Z"⟩
abbrev b_M_set : ByteArray := prog_9_method_9_code
def y_M_set : MethodName := ⟨R_M, "set", "(III)I"⟩
abbrev b_M_end : ByteArray := prog_9_method_10_code
def y_M_end : MethodName := ⟨R_M, "end", "(II)I"⟩
abbrev b_M_commit : ByteArray := prog_9_method_11_code
def y_M_commit : MethodName := ⟨R_M, "commit", "(I)I"⟩
abbrev b_M_abort : ByteArray := prog_9_method_12_code
def y_M_abort : MethodName := ⟨R_M, "abort", "(I)I"⟩
abbrev b_M_get : ByteArray := prog_9_method_13_code
def y_M_get : MethodName := ⟨R_M, "get", "(I)I"⟩
abbrev b_M_sync : ByteArray := prog_9_method_14_code
def y_M_sync : MethodName := ⟨R_M, "sync", "()I"⟩
abbrev b_M_waiting : ByteArray := prog_9_method_15_code
def y_M_waiting : MethodName := ⟨R_M, "waiting", "(I)I"⟩
abbrev b_M_flush : ByteArray := prog_9_method_16_code
def y_M_flush : MethodName := ⟨R_M, "flush", "(I)I"⟩
abbrev b_M_checkpoint : ByteArray := prog_9_method_17_code
def y_M_checkpoint : MethodName := ⟨R_M, "checkpoint", "()I"⟩
abbrev b_M_crash : ByteArray := prog_9_method_18_code
def y_M_crash : MethodName := ⟨R_M, "crash", "()I"⟩
abbrev b_M_copying : ByteArray := prog_9_method_19_code
def y_M_copying : MethodName := ⟨R_M, "copying", "()I"⟩
abbrev b_M_backup : ByteArray := prog_9_method_20_code
def y_M_backup : MethodName := ⟨R_M, "backup", "()I"⟩
abbrev b_M_copy : ByteArray := prog_9_method_21_code
def y_M_copy : MethodName := ⟨R_M, "copy", "()I"⟩
abbrev b_M_finished : ByteArray := prog_9_method_22_code
def y_M_finished : MethodName := ⟨R_M, "finished", "(I)Z"⟩
abbrev b_M_forget : ByteArray := prog_9_method_23_code
def y_M_forget : MethodName := ⟨R_M, "forget", "(I)Z"⟩
abbrev b_M_bound : ByteArray := prog_9_method_24_code
def y_M_bound : MethodName := ⟨R_M, "bound", "(II)I"⟩
abbrev b_M_holds : ByteArray := prog_9_method_25_code
def y_M_holds : MethodName := ⟨R_M, "holds", "()I"⟩
abbrev b_M_archive : ByteArray := prog_9_method_26_code
def y_M_archive : MethodName := ⟨R_M, "archive", "()I"⟩
abbrev b_M_drop : ByteArray := prog_9_method_27_code
def y_M_drop : MethodName := ⟨R_M, "drop", "(I)Z"⟩
abbrev b_M_answer : ByteArray := prog_9_method_28_code
def y_M_answer : MethodName := ⟨R_M, "answer", "(II)I"⟩
abbrev b_M_restore : ByteArray := prog_9_method_29_code
def y_M_restore : MethodName := ⟨R_M, "restore", "(II)I"⟩
abbrev b_M_restored : ByteArray := prog_9_method_30_code
def y_M_restored : MethodName := ⟨R_M, "restored", "(I)I"⟩
abbrev b_M_replayed : ByteArray := prog_9_method_31_code
def y_M_replayed : MethodName := ⟨R_M, "replayed", "()I"⟩
abbrev b_M_reach : ByteArray := prog_9_method_32_code
def y_M_reach : MethodName := ⟨R_M, "reach", "(I)I"⟩
abbrev b_M_position : ByteArray := prog_9_method_33_code
def y_M_position : MethodName := ⟨R_M, "position", "()I"⟩
abbrev b_M_dirty : ByteArray := prog_9_method_34_code
def y_M_dirty : MethodName := ⟨R_M, "dirty", "()I"⟩
abbrev b_Ar_init : ByteArray := prog_2_method_1_code
def y_Ar_init : MethodName := ⟨R_Ar, "<init>", "()V"⟩
abbrev b_Ar_nextIsWithin : ByteArray := prog_2_method_2_code
def y_Ar_nextIsWithin : MethodName := ⟨R_Ar, "nextIsWithin", "(I)Z"⟩
abbrev b_Ar_isFull : ByteArray := prog_2_method_3_code
def y_Ar_isFull : MethodName := ⟨R_Ar, "isFull", "()Z"⟩
abbrev b_Ar_holdNext : ByteArray := prog_2_method_4_code
def y_Ar_holdNext : MethodName := ⟨R_Ar, "holdNext", "()I"⟩
abbrev b_Ar_holds : ByteArray := prog_2_method_5_code
def y_Ar_holds : MethodName := ⟨R_Ar, "holds", "(I)Z"⟩
abbrev b_Ar_release : ByteArray := prog_2_method_6_code
def y_Ar_release : MethodName := ⟨R_Ar, "release", "(I)Z"⟩
abbrev b_Ar_heldWithoutGapFrom : ByteArray := prog_2_method_7_code
def y_Ar_heldWithoutGapFrom : MethodName := ⟨R_Ar, "heldWithoutGapFrom", "(I)I"⟩
abbrev b_Ar_holdsRecords : ByteArray := prog_2_method_8_code
def y_Ar_holdsRecords : MethodName := ⟨R_Ar, "holdsRecords", "(II)Z"⟩
abbrev b_Bk_init : ByteArray := prog_3_method_1_code
def y_Bk_init : MethodName := ⟨R_Bk, "<init>", "()V"⟩
abbrev b_Bk_begin : ByteArray := prog_3_method_2_code
def y_Bk_begin : MethodName := ⟨R_Bk, "begin", "(II)V"⟩
abbrev b_Bk_takeNextPage : ByteArray := prog_3_method_3_code
def y_Bk_takeNextPage : MethodName := ⟨R_Bk, "takeNextPage", "([I)I"⟩
abbrev b_Bk_finish : ByteArray := prog_3_method_4_code
def y_Bk_finish : MethodName := ⟨R_Bk, "finish", "(I)V"⟩
abbrev b_Bk_remove : ByteArray := prog_3_method_5_code
def y_Bk_remove : MethodName := ⟨R_Bk, "remove", "()V"⟩
abbrev b_Log_init : ByteArray := prog_4_method_1_code
def y_Log_init : MethodName := ⟨R_Log, "<init>", "()V"⟩
abbrev b_Log_isFull : ByteArray := prog_4_method_2_code
def y_Log_isFull : MethodName := ⟨R_Log, "isFull", "()Z"⟩
abbrev b_Log_append : ByteArray := prog_4_method_3_code
def y_Log_append : MethodName := ⟨R_Log, "append", "(IIII)I"⟩
abbrev b_Log_syncAll : ByteArray := prog_4_method_4_code
def y_Log_syncAll : MethodName := ⟨R_Log, "syncAll", "()I"⟩
abbrev b_Log_loseUnsynced : ByteArray := prog_4_method_5_code
def y_Log_loseUnsynced : MethodName := ⟨R_Log, "loseUnsynced", "()I"⟩
abbrev b_Log_hasCommitDoneAt : ByteArray := prog_4_method_6_code
def y_Log_hasCommitDoneAt : MethodName := ⟨R_Log, "hasCommitDoneAt", "(I)Z"⟩
abbrev b_Pg_init : ByteArray := prog_5_method_1_code
def y_Pg_init : MethodName := ⟨R_Pg, "<init>", "()V"⟩
abbrev b_Pg_isDirty : ByteArray := prog_5_method_2_code
def y_Pg_isDirty : MethodName := ⟨R_Pg, "isDirty", "(I)Z"⟩
abbrev b_Pg_countDirty : ByteArray := prog_5_method_3_code
def y_Pg_countDirty : MethodName := ⟨R_Pg, "countDirty", "()I"⟩
abbrev b_Pg_takeCommit : ByteArray := prog_5_method_4_code
def y_Pg_takeCommit : MethodName := ⟨R_Pg, "takeCommit", "(LTornBackups$Transactions;II)V"⟩
abbrev b_Pg_markDirty : ByteArray := prog_5_method_5_code
def y_Pg_markDirty : MethodName := ⟨R_Pg, "markDirty", "(II)V"⟩
abbrev b_Pg_markClean : ByteArray := prog_5_method_6_code
def y_Pg_markClean : MethodName := ⟨R_Pg, "markClean", "(I)V"⟩
abbrev b_Pg_writeToDisk : ByteArray := prog_5_method_7_code
def y_Pg_writeToDisk : MethodName := ⟨R_Pg, "writeToDisk", "(I)V"⟩
abbrev b_Pg_keepForCrash : ByteArray := prog_5_method_8_code
def y_Pg_keepForCrash : MethodName := ⟨R_Pg, "keepForCrash", "()V"⟩
abbrev b_Pg_loseCommitsBehind : ByteArray := prog_5_method_9_code
def y_Pg_loseCommitsBehind : MethodName := ⟨R_Pg, "loseCommitsBehind", "(I)V"⟩
abbrev b_Rs_init : ByteArray := prog_6_method_1_code
def y_Rs_init : MethodName := ⟨R_Rs, "<init>", "()V"⟩
abbrev b_Rs_rebuild : ByteArray := prog_6_method_2_code
def y_Rs_rebuild : MethodName := ⟨R_Rs, "rebuild", "(LTornBackups$Backup;LTornBackups$Log;I)V"⟩
abbrev b_Rs_replay : ByteArray := prog_6_method_3_code
def y_Rs_replay : MethodName := ⟨R_Rs, "replay", "(LTornBackups$Log;IZ)V"⟩
abbrev b_Tr_init : ByteArray := prog_7_method_1_code
def y_Tr_init : MethodName := ⟨R_Tr, "<init>", "()V"⟩
abbrev b_Tr_isOpen : ByteArray := prog_7_method_2_code
def y_Tr_isOpen : MethodName := ⟨R_Tr, "isOpen", "(I)Z"⟩
abbrev b_Tr_hasAllSets : ByteArray := prog_7_method_3_code
def y_Tr_hasAllSets : MethodName := ⟨R_Tr, "hasAllSets", "(I)Z"⟩
abbrev b_Tr_addSet : ByteArray := prog_7_method_4_code
def y_Tr_addSet : MethodName := ⟨R_Tr, "addSet", "(IIII)V"⟩
abbrev b_Tr_firstSlot : ByteArray := prog_7_method_5_code
def y_Tr_firstSlot : MethodName := ⟨R_Tr, "firstSlot", "(I)I"⟩
abbrev b_Tr_slotsEnd : ByteArray := prog_7_method_6_code
def y_Tr_slotsEnd : MethodName := ⟨R_Tr, "slotsEnd", "(I)I"⟩
abbrev b_Tr_close : ByteArray := prog_7_method_7_code
def y_Tr_close : MethodName := ⟨R_Tr, "close", "(I)V"⟩
abbrev b_Tr_closeAll : ByteArray := prog_7_method_8_code
def y_Tr_closeAll : MethodName := ⟨R_Tr, "closeAll", "()V"⟩
abbrev b_Tr_leastFirstSet : ByteArray := prog_7_method_9_code
def y_Tr_leastFirstSet : MethodName := ⟨R_Tr, "leastFirstSet", "(I)I"⟩
abbrev b_Tr_writeSetsTo : ByteArray := prog_7_method_10_code
def y_Tr_writeSetsTo : MethodName := ⟨R_Tr, "writeSetsTo", "([II)V"⟩

section
-- ===== PART A: goes FIRST, ahead of the names: the tables' words, and 'selects' of the private methods out of them =====
/-- a private method of a class that the tables say can be made, by its rows of tables_1 -/
def lw_okq (q : MethodName × Nat) : Prop := (q.1.cls ≠ "java/lang/invoke/MethodHandle" ∧ q.1.cls ≠ "java/lang/invoke/VarHandle") ∧ Cond.instantiable q.1.cls q.2 ∈ tables_1 ∧ Cond.privateMethod q.1 ∈ tables_1 ∧ Cond.instanceMethod q.1 ∈ tables_1
theorem lw_p0 : lw_okq (⟨"JobBoard", "firstOpenQueue", "()I"⟩, 6) := ⟨⟨by decide +kernel, by decide +kernel⟩, List.mem_of_getElem? (i := 9) (by decide +kernel), List.mem_of_getElem? (i := 269) (by decide +kernel), List.mem_of_getElem? (i := 270) (by decide +kernel)⟩
theorem lw_p1 : lw_okq (⟨"JobBoard", "isOpen", "(I)Z"⟩, 6) := ⟨⟨by decide +kernel, by decide +kernel⟩, List.mem_of_getElem? (i := 9) (by decide +kernel), List.mem_of_getElem? (i := 273) (by decide +kernel), List.mem_of_getElem? (i := 274) (by decide +kernel)⟩
theorem lw_p2 : lw_okq (⟨"JobBoard", "openQueueByCredit", "()I"⟩, 6) := ⟨⟨by decide +kernel, by decide +kernel⟩, List.mem_of_getElem? (i := 9) (by decide +kernel), List.mem_of_getElem? (i := 289) (by decide +kernel), List.mem_of_getElem? (i := 290) (by decide +kernel)⟩
theorem lw_p3 : lw_okq (⟨"JobBoard$Roster", "oldestDead", "()LJobBoard$Job;"⟩, 3) := ⟨⟨by decide +kernel, by decide +kernel⟩, List.mem_of_getElem? (i := 46) (by decide +kernel), List.mem_of_getElem? (i := 313) (by decide +kernel), List.mem_of_getElem? (i := 314) (by decide +kernel)⟩
theorem lw_p4 : lw_okq (⟨"JobBoard$Roster", "nextDue", "(I)LJobBoard$Job;"⟩, 3) := ⟨⟨by decide +kernel, by decide +kernel⟩, List.mem_of_getElem? (i := 46) (by decide +kernel), List.mem_of_getElem? (i := 342) (by decide +kernel), List.mem_of_getElem? (i := 343) (by decide +kernel)⟩
theorem lw_p5 : lw_okq (⟨"JobBoardModel", "store", "(I)V"⟩, 16) := ⟨⟨by decide +kernel, by decide +kernel⟩, List.mem_of_getElem? (i := 419) (by decide +kernel), List.mem_of_getElem? (i := 480) (by decide +kernel), List.mem_of_getElem? (i := 481) (by decide +kernel)⟩
theorem lw_p6 : lw_okq (⟨"JobBoardModel", "out", "(III)Z"⟩, 16) := ⟨⟨by decide +kernel, by decide +kernel⟩, List.mem_of_getElem? (i := 419) (by decide +kernel), List.mem_of_getElem? (i := 488) (by decide +kernel), List.mem_of_getElem? (i := 489) (by decide +kernel)⟩
theorem lw_p7 : lw_okq (⟨"JobBoardModel", "keyTaken", "(I)Z"⟩, 16) := ⟨⟨by decide +kernel, by decide +kernel⟩, List.mem_of_getElem? (i := 419) (by decide +kernel), List.mem_of_getElem? (i := 500) (by decide +kernel), List.mem_of_getElem? (i := 501) (by decide +kernel)⟩
theorem lw_p8 : lw_okq (⟨"JobBoardModel", "isLive", "(I)Z"⟩, 16) := ⟨⟨by decide +kernel, by decide +kernel⟩, List.mem_of_getElem? (i := 419) (by decide +kernel), List.mem_of_getElem? (i := 504) (by decide +kernel), List.mem_of_getElem? (i := 505) (by decide +kernel)⟩
theorem lw_p9 : lw_okq (⟨"JobBoardModel", "of", "(II)I"⟩, 16) := ⟨⟨by decide +kernel, by decide +kernel⟩, List.mem_of_getElem? (i := 419) (by decide +kernel), List.mem_of_getElem? (i := 508) (by decide +kernel), List.mem_of_getElem? (i := 509) (by decide +kernel)⟩
theorem lw_p10 : lw_okq (⟨"JobBoardModel", "make", "(IIIII)I"⟩, 16) := ⟨⟨by decide +kernel, by decide +kernel⟩, List.mem_of_getElem? (i := 419) (by decide +kernel), List.mem_of_getElem? (i := 512) (by decide +kernel), List.mem_of_getElem? (i := 513) (by decide +kernel)⟩
theorem lw_p11 : lw_okq (⟨"JobBoardModel", "set", "(III)V"⟩, 16) := ⟨⟨by decide +kernel, by decide +kernel⟩, List.mem_of_getElem? (i := 419) (by decide +kernel), List.mem_of_getElem? (i := 516) (by decide +kernel), List.mem_of_getElem? (i := 517) (by decide +kernel)⟩
theorem lw_p12 : lw_okq (⟨"JobBoardModel", "ready", "(I)V"⟩, 16) := ⟨⟨by decide +kernel, by decide +kernel⟩, List.mem_of_getElem? (i := 419) (by decide +kernel), List.mem_of_getElem? (i := 520) (by decide +kernel), List.mem_of_getElem? (i := 521) (by decide +kernel)⟩
theorem lw_p13 : lw_okq (⟨"JobBoardModel", "note", "()V"⟩, 16) := ⟨⟨by decide +kernel, by decide +kernel⟩, List.mem_of_getElem? (i := 419) (by decide +kernel), List.mem_of_getElem? (i := 524) (by decide +kernel), List.mem_of_getElem? (i := 525) (by decide +kernel)⟩
theorem lw_p14 : lw_okq (⟨"JobBoardModel", "no", "(I)Z"⟩, 16) := ⟨⟨by decide +kernel, by decide +kernel⟩, List.mem_of_getElem? (i := 419) (by decide +kernel), List.mem_of_getElem? (i := 536) (by decide +kernel), List.mem_of_getElem? (i := 537) (by decide +kernel)⟩
theorem lw_p15 : lw_okq (⟨"JobBoardModel", "choose", "()I"⟩, 16) := ⟨⟨by decide +kernel, by decide +kernel⟩, List.mem_of_getElem? (i := 419) (by decide +kernel), List.mem_of_getElem? (i := 552) (by decide +kernel), List.mem_of_getElem? (i := 553) (by decide +kernel)⟩
def lw_privs_1 : List (MethodName × Nat) := [(⟨"JobBoard", "firstOpenQueue", "()I"⟩, 6), (⟨"JobBoard", "isOpen", "(I)Z"⟩, 6), (⟨"JobBoard", "openQueueByCredit", "()I"⟩, 6), (⟨"JobBoard$Roster", "oldestDead", "()LJobBoard$Job;"⟩, 3), (⟨"JobBoard$Roster", "nextDue", "(I)LJobBoard$Job;"⟩, 3), (⟨"JobBoardModel", "store", "(I)V"⟩, 16), (⟨"JobBoardModel", "out", "(III)Z"⟩, 16), (⟨"JobBoardModel", "keyTaken", "(I)Z"⟩, 16), (⟨"JobBoardModel", "isLive", "(I)Z"⟩, 16), (⟨"JobBoardModel", "of", "(II)I"⟩, 16), (⟨"JobBoardModel", "make", "(IIIII)I"⟩, 16), (⟨"JobBoardModel", "set", "(III)V"⟩, 16), (⟨"JobBoardModel", "ready", "(I)V"⟩, 16), (⟨"JobBoardModel", "note", "()V"⟩, 16), (⟨"JobBoardModel", "no", "(I)Z"⟩, 16), (⟨"JobBoardModel", "choose", "()I"⟩, 16)]
theorem lw_r1 : ∀ q ∈ lw_privs_1, lw_okq q := List.forall_mem_cons.mpr ⟨lw_p0, List.forall_mem_cons.mpr ⟨lw_p1, List.forall_mem_cons.mpr ⟨lw_p2, List.forall_mem_cons.mpr ⟨lw_p3, List.forall_mem_cons.mpr ⟨lw_p4, List.forall_mem_cons.mpr ⟨lw_p5, List.forall_mem_cons.mpr ⟨lw_p6, List.forall_mem_cons.mpr ⟨lw_p7, List.forall_mem_cons.mpr ⟨lw_p8, List.forall_mem_cons.mpr ⟨lw_p9, List.forall_mem_cons.mpr ⟨lw_p10, List.forall_mem_cons.mpr ⟨lw_p11, List.forall_mem_cons.mpr ⟨lw_p12, List.forall_mem_cons.mpr ⟨lw_p13, List.forall_mem_cons.mpr ⟨lw_p14, List.forall_mem_cons.mpr ⟨lw_p15, fun _ h => absurd h List.not_mem_nil⟩⟩⟩⟩⟩⟩⟩⟩⟩⟩⟩⟩⟩⟩⟩⟩
theorem lw_p16 : lw_okq (⟨"JobBoardModel", "isOpen", "(I)Z"⟩, 16) := ⟨⟨by decide +kernel, by decide +kernel⟩, List.mem_of_getElem? (i := 419) (by decide +kernel), List.mem_of_getElem? (i := 556) (by decide +kernel), List.mem_of_getElem? (i := 557) (by decide +kernel)⟩
theorem lw_p17 : lw_okq (⟨"JobBoardModel", "inLine", "(II)I"⟩, 16) := ⟨⟨by decide +kernel, by decide +kernel⟩, List.mem_of_getElem? (i := 419) (by decide +kernel), List.mem_of_getElem? (i := 560) (by decide +kernel), List.mem_of_getElem? (i := 561) (by decide +kernel)⟩
theorem lw_p18 : lw_okq (⟨"JobBoardModel", "goesBefore", "(II)Z"⟩, 16) := ⟨⟨by decide +kernel, by decide +kernel⟩, List.mem_of_getElem? (i := 419) (by decide +kernel), List.mem_of_getElem? (i := 564) (by decide +kernel), List.mem_of_getElem? (i := 565) (by decide +kernel)⟩
theorem lw_p19 : lw_okq (⟨"JobBoardModel", "failing", "(I)V"⟩, 16) := ⟨⟨by decide +kernel, by decide +kernel⟩, List.mem_of_getElem? (i := 419) (by decide +kernel), List.mem_of_getElem? (i := 576) (by decide +kernel), List.mem_of_getElem? (i := 577) (by decide +kernel)⟩
theorem lw_p20 : lw_okq (⟨"JobBoardModel", "die", "(I)V"⟩, 16) := ⟨⟨by decide +kernel, by decide +kernel⟩, List.mem_of_getElem? (i := 419) (by decide +kernel), List.mem_of_getElem? (i := 580) (by decide +kernel), List.mem_of_getElem? (i := 581) (by decide +kernel)⟩
theorem lw_p21 : lw_okq (⟨"JobBoardModel", "wake", "(Z)I"⟩, 16) := ⟨⟨by decide +kernel, by decide +kernel⟩, List.mem_of_getElem? (i := 419) (by decide +kernel), List.mem_of_getElem? (i := 588) (by decide +kernel), List.mem_of_getElem? (i := 589) (by decide +kernel)⟩
def lw_privs_2 : List (MethodName × Nat) := [(⟨"JobBoardModel", "isOpen", "(I)Z"⟩, 16), (⟨"JobBoardModel", "inLine", "(II)I"⟩, 16), (⟨"JobBoardModel", "goesBefore", "(II)Z"⟩, 16), (⟨"JobBoardModel", "failing", "(I)V"⟩, 16), (⟨"JobBoardModel", "die", "(I)V"⟩, 16), (⟨"JobBoardModel", "wake", "(Z)I"⟩, 16)]
theorem lw_r2 : ∀ q ∈ lw_privs_2, lw_okq q := List.forall_mem_cons.mpr ⟨lw_p16, List.forall_mem_cons.mpr ⟨lw_p17, List.forall_mem_cons.mpr ⟨lw_p18, List.forall_mem_cons.mpr ⟨lw_p19, List.forall_mem_cons.mpr ⟨lw_p20, List.forall_mem_cons.mpr ⟨lw_p21, fun _ h => absurd h List.not_mem_nil⟩⟩⟩⟩⟩⟩
def lw_privs : List (MethodName × Nat) := lw_privs_1 ++ (lw_privs_2)
def lw_tbl : List Cond := k2_sels lw_privs ++ tables_1
theorem lw_privs_ok : ∀ q ∈ lw_privs, lw_okq q := by
  show ∀ q ∈ lw_privs_1 ++ (lw_privs_2), lw_okq q
  exact List.forall_mem_append.mpr ⟨lw_r1, lw_r2⟩
end
section
def R_Bo : String := "JobBoard"
def F_Bo : u_T := fun k => match k with
  | 0 => ("JobBoard", "strict", "Z", true)
  | 1 => ("JobBoard", "queues", "[LJobBoard$Queue;", true)
  | 2 => ("JobBoard", "roster", "LJobBoard$Roster;", true)
  | 3 => ("JobBoard", "journal", "LJobBoard$Journal;", true)
  | 4 => ("JobBoard", "time", "I", false)
  | _ => ("JobBoard", "waitingKey", "I", false)
def t_Bo : Nat → FieldType := fun k => match k with
  | 0 => .boolean
  | 1 => .array (.object "JobBoard$Queue")
  | 2 => .object "JobBoard$Roster"
  | 3 => .object "JobBoard$Journal"
  | 4 => .int
  | _ => .int
def R_Qu : String := "JobBoard$Queue"
def F_Qu : u_T := fun k => match k with
  | 0 => ("JobBoard$Queue", "weight", "I", false)
  | 1 => ("JobBoard$Queue", "credit", "I", false)
  | 2 => ("JobBoard$Queue", "capacity", "I", false)
  | 3 => ("JobBoard$Queue", "tokens", "I", false)
  | 4 => ("JobBoard$Queue", "refill", "I", false)
  | _ => ("JobBoard$Queue", "start", "I", false)
def t_Qu : Nat → FieldType := fun k => match k with
  | 0 => .int
  | 1 => .int
  | 2 => .int
  | 3 => .int
  | 4 => .int
  | _ => .int
def R_Jn : String := "JobBoard$Journal"
def F_Jn : u_T := fun k => match k with
  | 0 => ("JobBoard$Journal", "pages", "[LJobBoard$Roster;", true)
  | _ => ("JobBoard$Journal", "unflushed", "I", false)
def t_Jn : Nat → FieldType := fun k => match k with
  | 0 => .array (.object "JobBoard$Roster")
  | _ => .int
def R_Ro : String := "JobBoard$Roster"
def F_Ro : u_T := fun k => match k with
  | 0 => ("JobBoard$Roster", "jobs", "[LJobBoard$Job;", true)
  | 1 => ("JobBoard$Roster", "size", "I", false)
  | _ => ("JobBoard$Roster", "stamps", "I", false)
def t_Ro : Nat → FieldType := fun k => match k with
  | 0 => .array (.object "JobBoard$Job")
  | 1 => .int
  | _ => .int
def R_Jb : String := "JobBoard$Job"
def F_Jb : u_T := fun k => match k with
  | 0 => ("JobBoard$Job", "number", "I", true)
  | 1 => ("JobBoard$Job", "queue", "I", false)
  | 2 => ("JobBoard$Job", "priority", "I", false)
  | 3 => ("JobBoard$Job", "limit", "I", false)
  | 4 => ("JobBoard$Job", "base", "I", false)
  | 5 => ("JobBoard$Job", "key", "I", false)
  | 6 => ("JobBoard$Job", "failures", "I", false)
  | 7 => ("JobBoard$Job", "callback", "I", false)
  | 8 => ("JobBoard$Job", "members", "I", false)
  | 9 => ("JobBoard$Job", "wasSealed", "Z", false)
  | 10 => ("JobBoard$Job", "state", "I", false)
  | 11 => ("JobBoard$Job", "due", "I", false)
  | 12 => ("JobBoard$Job", "worker", "I", false)
  | _ => ("JobBoard$Job", "since", "I", false)
def t_Jb : Nat → FieldType := fun k => match k with
  | 0 => .int
  | 1 => .int
  | 2 => .int
  | 3 => .int
  | 4 => .int
  | 5 => .int
  | 6 => .int
  | 7 => .int
  | 8 => .int
  | 9 => .boolean
  | 10 => .int
  | 11 => .int
  | 12 => .int
  | _ => .int
def R_Mo : String := "JobBoardModel"
def F_Mo : u_T := fun k => match k with
  | 0 => ("JobBoardModel", "strict", "Z", true)
  | 1 => ("JobBoardModel", "now", "I", false)
  | 2 => ("JobBoardModel", "weight", "[I", true)
  | 3 => ("JobBoardModel", "credit", "[I", true)
  | 4 => ("JobBoardModel", "capacity", "[I", true)
  | 5 => ("JobBoardModel", "tokens", "[I", true)
  | 6 => ("JobBoardModel", "refill", "[I", true)
  | 7 => ("JobBoardModel", "start", "[I", true)
  | 8 => ("JobBoardModel", "wanted", "I", false)
  | 9 => ("JobBoardModel", "jobs", "I", false)
  | 10 => ("JobBoardModel", "order", "I", false)
  | 11 => ("JobBoardModel", "records", "I", false)
  | 12 => ("JobBoardModel", "job", "[I", true)
  | 13 => ("JobBoardModel", "copy", "[I", true)
  | 14 => ("JobBoardModel", "copyJobs", "[I", true)
  | _ => ("JobBoardModel", "seen", "[Z", true)
def t_Mo : Nat → FieldType := fun k => match k with
  | 0 => .boolean
  | 1 => .int
  | 2 => .array (.int)
  | 3 => .array (.int)
  | 4 => .array (.int)
  | 5 => .array (.int)
  | 6 => .array (.int)
  | 7 => .array (.int)
  | 8 => .int
  | 9 => .int
  | 10 => .int
  | 11 => .int
  | 12 => .array (.int)
  | 13 => .array (.int)
  | 14 => .array (.int)
  | _ => .array (.boolean)
abbrev gx_cl : List vw_C := [(R_Bo, F_Bo, 6), (R_Qu, F_Qu, 6), (R_Jn, F_Jn, 2), (R_Ro, F_Ro, 3), (R_Jb, F_Jb, 14), (R_Mo, F_Mo, 16)]
abbrev b_Bo_init : ByteArray := prog_1_method_1_code
def y_Bo_init : MethodName := ⟨R_Bo, "<init>", "(I)V"⟩
abbrev b_Qu_init : ByteArray := prog_4_method_1_code
def y_Qu_init : MethodName := ⟨R_Qu, "<init>", "()V"⟩
abbrev b_Ro_init : ByteArray := prog_5_method_1_code
def y_Ro_init : MethodName := ⟨R_Ro, "<init>", "()V"⟩
abbrev b_Jb_init : ByteArray := prog_2_method_1_code
def y_Jb_init : MethodName := ⟨R_Jb, "<init>", "(I)V"⟩
abbrev b_Jn_init : ByteArray := prog_3_method_1_code
def y_Jn_init : MethodName := ⟨R_Jn, "<init>", "()V"⟩
abbrev b_Bo_queue : ByteArray := prog_1_method_2_code
def y_Bo_queue : MethodName := ⟨R_Bo, "queue", "(IIII)I"⟩
abbrev b_Bo_isQueue : ByteArray := prog_1_method_23_code
def y_Bo_isQueue : MethodName := ⟨R_Bo, "isQueue", "(I)Z"⟩
abbrev b_Bo_within : ByteArray := prog_1_method_22_code
def y_Bo_within : MethodName := ⟨R_Bo, "within", "(III)Z"⟩
abbrev b_Qu_set : ByteArray := prog_4_method_2_code
def y_Qu_set : MethodName := ⟨R_Qu, "set", "(IIII)V"⟩
abbrev b_Qu_restart : ByteArray := prog_4_method_3_code
def y_Qu_restart : MethodName := ⟨R_Qu, "restart", "()V"⟩
abbrev b_Bo_key : ByteArray := prog_1_method_3_code
def y_Bo_key : MethodName := ⟨R_Bo, "key", "(I)I"⟩
abbrev b_Bo_submit : ByteArray := prog_1_method_4_code
def y_Bo_submit : MethodName := ⟨R_Bo, "submit", "(IIIII)I"⟩
abbrev b_Ro_hasLiveKey : ByteArray := prog_5_method_13_code
def y_Ro_hasLiveKey : MethodName := ⟨R_Ro, "hasLiveKey", "(I)Z"⟩
abbrev b_Jb_isLive : ByteArray := prog_2_method_4_code
def y_Jb_isLive : MethodName := ⟨R_Jb, "isLive", "()Z"⟩
abbrev b_Ro_make : ByteArray := prog_5_method_4_code
def y_Ro_make : MethodName := ⟨R_Ro, "make", "(II)LJobBoard$Job;"⟩
abbrev b_Jb_begin : ByteArray := prog_2_method_2_code
def y_Jb_begin : MethodName := ⟨R_Jb, "begin", "(II)V"⟩
abbrev b_Ro_enter : ByteArray := prog_5_method_5_code
def y_Ro_enter : MethodName := ⟨R_Ro, "enter", "(LJobBoard$Job;I)V"⟩
abbrev b_Jb_waitUntil : ByteArray := prog_2_method_6_code
def y_Jb_waitUntil : MethodName := ⟨R_Jb, "waitUntil", "(II)V"⟩
abbrev b_Jn_write : ByteArray := prog_3_method_2_code
def y_Jn_write : MethodName := ⟨R_Jn, "write", "(LJobBoard$Roster;)V"⟩
abbrev b_Jn_flushAll : ByteArray := prog_3_method_3_code
def y_Jn_flushAll : MethodName := ⟨R_Jn, "flushAll", "(LJobBoard$Roster;)I"⟩
abbrev b_Ro_copyFrom : ByteArray := prog_5_method_2_code
def y_Ro_copyFrom : MethodName := ⟨R_Ro, "copyFrom", "(LJobBoard$Roster;)V"⟩
abbrev b_Jb_copyFrom : ByteArray := prog_2_method_3_code
def y_Jb_copyFrom : MethodName := ⟨R_Jb, "copyFrom", "(LJobBoard$Job;)V"⟩
abbrev b_Bo_hold : ByteArray := prog_1_method_5_code
def y_Bo_hold : MethodName := ⟨R_Bo, "hold", "(II)I"⟩
abbrev b_Bo_join : ByteArray := prog_1_method_6_code
def y_Bo_join : MethodName := ⟨R_Bo, "join", "(II)I"⟩
abbrev b_Ro_find : ByteArray := prog_5_method_3_code
def y_Ro_find : MethodName := ⟨R_Ro, "find", "(I)LJobBoard$Job;"⟩
abbrev b_Bo_seal : ByteArray := prog_1_method_7_code
def y_Bo_seal : MethodName := ⟨R_Bo, "seal", "(I)I"⟩
abbrev b_Ro_releaseIfComplete : ByteArray := prog_5_method_6_code
def y_Ro_releaseIfComplete : MethodName := ⟨R_Ro, "releaseIfComplete", "(LJobBoard$Job;)V"⟩
abbrev b_Bo_take : ByteArray := prog_1_method_8_code
def y_Bo_take : MethodName := ⟨R_Bo, "take", "(II)I"⟩
abbrev b_Bo_isWorker : ByteArray := prog_1_method_24_code
def y_Bo_isWorker : MethodName := ⟨R_Bo, "isWorker", "(I)Z"⟩
abbrev b_Ro_reservedBy : ByteArray := prog_5_method_14_code
def y_Ro_reservedBy : MethodName := ⟨R_Ro, "reservedBy", "(I)LJobBoard$Job;"⟩
abbrev b_Bo_firstOpenQueue : ByteArray := prog_1_method_27_code
def y_Bo_firstOpenQueue : MethodName := ⟨R_Bo, "firstOpenQueue", "()I"⟩
abbrev b_Bo_isOpen : ByteArray := prog_1_method_26_code
def y_Bo_isOpen : MethodName := ⟨R_Bo, "isOpen", "(I)Z"⟩
abbrev b_Qu_canGive : ByteArray := prog_4_method_4_code
def y_Qu_canGive : MethodName := ⟨R_Qu, "canGive", "()Z"⟩
abbrev b_Ro_nextInLine : ByteArray := prog_5_method_16_code
def y_Ro_nextInLine : MethodName := ⟨R_Ro, "nextInLine", "(ILJobBoard$Job;)LJobBoard$Job;"⟩
abbrev b_Jb_standsBefore : ByteArray := prog_2_method_8_code
def y_Jb_standsBefore : MethodName := ⟨R_Jb, "standsBefore", "(LJobBoard$Job;)Z"⟩
abbrev b_Bo_openQueueByCredit : ByteArray := prog_1_method_28_code
def y_Bo_openQueueByCredit : MethodName := ⟨R_Bo, "openQueueByCredit", "()I"⟩
abbrev b_Qu_spendToken : ByteArray := prog_4_method_5_code
def y_Qu_spendToken : MethodName := ⟨R_Qu, "spendToken", "()V"⟩
abbrev b_Bo_ack : ByteArray := prog_1_method_9_code
def y_Bo_ack : MethodName := ⟨R_Bo, "ack", "(I)I"⟩
abbrev b_Bo_fail : ByteArray := prog_1_method_10_code
def y_Bo_fail : MethodName := ⟨R_Bo, "fail", "(I)I"⟩
abbrev b_Ro_failReserved : ByteArray := prog_5_method_8_code
def y_Ro_failReserved : MethodName := ⟨R_Ro, "failReserved", "(LJobBoard$Job;I)V"⟩
abbrev b_Ro_bury : ByteArray := prog_5_method_9_code
def y_Ro_bury : MethodName := ⟨R_Ro, "bury", "(LJobBoard$Job;)V"⟩
abbrev b_Ro_oldestDead : ByteArray := prog_5_method_10_code
def y_Ro_oldestDead : MethodName := ⟨R_Ro, "oldestDead", "()LJobBoard$Job;"⟩
abbrev b_Ro_countIn : ByteArray := prog_5_method_17_code
def y_Ro_countIn : MethodName := ⟨R_Ro, "countIn", "(I)I"⟩
abbrev b_Jb_retryDelay : ByteArray := prog_2_method_7_code
def y_Jb_retryDelay : MethodName := ⟨R_Jb, "retryDelay", "()I"⟩
abbrev b_Bo_tick : ByteArray := prog_1_method_11_code
def y_Bo_tick : MethodName := ⟨R_Bo, "tick", "(I)I"⟩
abbrev b_Qu_refillBetween : ByteArray := prog_4_method_6_code
def y_Qu_refillBetween : MethodName := ⟨R_Qu, "refillBetween", "(II)V"⟩
abbrev b_Ro_settleDue : ByteArray := prog_5_method_11_code
def y_Ro_settleDue : MethodName := ⟨R_Ro, "settleDue", "(I)I"⟩
abbrev b_Ro_nextDue : ByteArray := prog_5_method_12_code
def y_Ro_nextDue : MethodName := ⟨R_Ro, "nextDue", "(I)LJobBoard$Job;"⟩
abbrev b_Jb_isTimed : ByteArray := prog_2_method_5_code
def y_Jb_isTimed : MethodName := ⟨R_Jb, "isTimed", "()Z"⟩
abbrev b_Bo_revive : ByteArray := prog_1_method_12_code
def y_Bo_revive : MethodName := ⟨R_Bo, "revive", "(I)I"⟩
abbrev b_Bo_kill : ByteArray := prog_1_method_13_code
def y_Bo_kill : MethodName := ⟨R_Bo, "kill", "(I)I"⟩
abbrev b_Bo_flush : ByteArray := prog_1_method_14_code
def y_Bo_flush : MethodName := ⟨R_Bo, "flush", "()I"⟩
abbrev b_Bo_crash : ByteArray := prog_1_method_15_code
def y_Bo_crash : MethodName := ⟨R_Bo, "crash", "(I)I"⟩
abbrev b_Jn_restore : ByteArray := prog_3_method_4_code
def y_Jn_restore : MethodName := ⟨R_Jn, "restore", "(LJobBoard$Roster;I)I"⟩
abbrev b_Ro_releaseReserved : ByteArray := prog_5_method_7_code
def y_Ro_releaseReserved : MethodName := ⟨R_Ro, "releaseReserved", "()V"⟩
abbrev b_Bo_state : ByteArray := prog_1_method_16_code
def y_Bo_state : MethodName := ⟨R_Bo, "state", "(I)I"⟩
abbrev b_Bo_failures : ByteArray := prog_1_method_17_code
def y_Bo_failures : MethodName := ⟨R_Bo, "failures", "(I)I"⟩
abbrev b_Bo_due : ByteArray := prog_1_method_18_code
def y_Bo_due : MethodName := ⟨R_Bo, "due", "(I)I"⟩
abbrev b_Bo_holding : ByteArray := prog_1_method_19_code
def y_Bo_holding : MethodName := ⟨R_Bo, "holding", "(I)I"⟩
abbrev b_Bo_numberOrNone : ByteArray := prog_1_method_25_code
def y_Bo_numberOrNone : MethodName := ⟨R_Bo, "numberOrNone", "(LJobBoard$Job;)I"⟩
abbrev b_Bo_line : ByteArray := prog_1_method_20_code
def y_Bo_line : MethodName := ⟨R_Bo, "line", "(II)I"⟩
abbrev b_Ro_inLine : ByteArray := prog_5_method_15_code
def y_Ro_inLine : MethodName := ⟨R_Ro, "inLine", "(II)LJobBoard$Job;"⟩
abbrev b_Bo_count : ByteArray := prog_1_method_21_code
def y_Bo_count : MethodName := ⟨R_Bo, "count", "(I)I"⟩
abbrev b_Mo_init : ByteArray := prog_7_method_1_code
def y_Mo_init : MethodName := ⟨R_Mo, "<init>", "(I)V"⟩
abbrev b_Mo_flush : ByteArray := prog_7_method_8_code
def y_Mo_flush : MethodName := ⟨R_Mo, "flush", "()I"⟩
abbrev b_Mo_store : ByteArray := prog_7_method_6_code
def y_Mo_store : MethodName := ⟨R_Mo, "store", "(I)V"⟩
abbrev b_Mo_queue : ByteArray := prog_7_method_15_code
def y_Mo_queue : MethodName := ⟨R_Mo, "queue", "(IIII)I"⟩
abbrev b_Mo_out : ByteArray := prog_7_method_2_code
def y_Mo_out : MethodName := ⟨R_Mo, "out", "(III)Z"⟩
abbrev b_Mo_key : ByteArray := prog_7_method_16_code
def y_Mo_key : MethodName := ⟨R_Mo, "key", "(I)I"⟩
abbrev b_Mo_submit : ByteArray := prog_7_method_17_code
def y_Mo_submit : MethodName := ⟨R_Mo, "submit", "(IIIII)I"⟩
abbrev b_Mo_keyTaken : ByteArray := prog_7_method_13_code
def y_Mo_keyTaken : MethodName := ⟨R_Mo, "keyTaken", "(I)Z"⟩
abbrev b_Mo_isLive : ByteArray := prog_7_method_9_code
def y_Mo_isLive : MethodName := ⟨R_Mo, "isLive", "(I)Z"⟩
abbrev b_Mo_of : ByteArray := prog_7_method_4_code
def y_Mo_of : MethodName := ⟨R_Mo, "of", "(II)I"⟩
abbrev b_Mo_make : ByteArray := prog_7_method_14_code
def y_Mo_make : MethodName := ⟨R_Mo, "make", "(IIIII)I"⟩
abbrev b_Mo_set : ByteArray := prog_7_method_5_code
def y_Mo_set : MethodName := ⟨R_Mo, "set", "(III)V"⟩
abbrev b_Mo_ready : ByteArray := prog_7_method_10_code
def y_Mo_ready : MethodName := ⟨R_Mo, "ready", "(I)V"⟩
abbrev b_Mo_note : ByteArray := prog_7_method_7_code
def y_Mo_note : MethodName := ⟨R_Mo, "note", "()V"⟩
abbrev b_Mo_hold : ByteArray := prog_7_method_18_code
def y_Mo_hold : MethodName := ⟨R_Mo, "hold", "(II)I"⟩
abbrev b_Mo_join : ByteArray := prog_7_method_19_code
def y_Mo_join : MethodName := ⟨R_Mo, "join", "(II)I"⟩
abbrev b_Mo_no : ByteArray := prog_7_method_3_code
def y_Mo_no : MethodName := ⟨R_Mo, "no", "(I)Z"⟩
abbrev b_Mo_seal : ByteArray := prog_7_method_20_code
def y_Mo_seal : MethodName := ⟨R_Mo, "seal", "(I)I"⟩
abbrev b_Mo_take : ByteArray := prog_7_method_25_code
def y_Mo_take : MethodName := ⟨R_Mo, "take", "(II)I"⟩
abbrev b_Mo_holding : ByteArray := prog_7_method_36_code
def y_Mo_holding : MethodName := ⟨R_Mo, "holding", "(I)I"⟩
abbrev b_Mo_choose : ByteArray := prog_7_method_24_code
def y_Mo_choose : MethodName := ⟨R_Mo, "choose", "()I"⟩
abbrev b_Mo_isOpen : ByteArray := prog_7_method_23_code
def y_Mo_isOpen : MethodName := ⟨R_Mo, "isOpen", "(I)Z"⟩
abbrev b_Mo_inLine : ByteArray := prog_7_method_21_code
def y_Mo_inLine : MethodName := ⟨R_Mo, "inLine", "(II)I"⟩
abbrev b_Mo_goesBefore : ByteArray := prog_7_method_22_code
def y_Mo_goesBefore : MethodName := ⟨R_Mo, "goesBefore", "(II)Z"⟩
abbrev b_Mo_ack : ByteArray := prog_7_method_26_code
def y_Mo_ack : MethodName := ⟨R_Mo, "ack", "(I)I"⟩
abbrev b_Mo_fail : ByteArray := prog_7_method_27_code
def y_Mo_fail : MethodName := ⟨R_Mo, "fail", "(I)I"⟩
abbrev b_Mo_failing : ByteArray := prog_7_method_12_code
def y_Mo_failing : MethodName := ⟨R_Mo, "failing", "(I)V"⟩
abbrev b_Mo_die : ByteArray := prog_7_method_11_code
def y_Mo_die : MethodName := ⟨R_Mo, "die", "(I)V"⟩
abbrev b_Mo_tick : ByteArray := prog_7_method_29_code
def y_Mo_tick : MethodName := ⟨R_Mo, "tick", "(I)I"⟩
abbrev b_Mo_wake : ByteArray := prog_7_method_28_code
def y_Mo_wake : MethodName := ⟨R_Mo, "wake", "(Z)I"⟩
abbrev b_Mo_revive : ByteArray := prog_7_method_30_code
def y_Mo_revive : MethodName := ⟨R_Mo, "revive", "(I)I"⟩
abbrev b_Mo_kill : ByteArray := prog_7_method_31_code
def y_Mo_kill : MethodName := ⟨R_Mo, "kill", "(I)I"⟩
abbrev b_Mo_crash : ByteArray := prog_7_method_32_code
def y_Mo_crash : MethodName := ⟨R_Mo, "crash", "(I)I"⟩
abbrev b_Mo_state : ByteArray := prog_7_method_33_code
def y_Mo_state : MethodName := ⟨R_Mo, "state", "(I)I"⟩
abbrev b_Mo_failures : ByteArray := prog_7_method_34_code
def y_Mo_failures : MethodName := ⟨R_Mo, "failures", "(I)I"⟩
abbrev b_Mo_due : ByteArray := prog_7_method_35_code
def y_Mo_due : MethodName := ⟨R_Mo, "due", "(I)I"⟩
abbrev b_Mo_line : ByteArray := prog_7_method_37_code
def y_Mo_line : MethodName := ⟨R_Mo, "line", "(II)I"⟩
abbrev b_Mo_count : ByteArray := prog_7_method_38_code
def y_Mo_count : MethodName := ⟨R_Mo, "count", "(I)I"⟩
def gx_tb : List Cond := lw_tbl.filter goodWord
theorem gx_m (i : Nat) {w : Cond} (h : tables_1[i]? = some w) (hg : goodWord w = true) : w ∈ gx_tb := List.mem_filter.mpr ⟨List.mem_append_right _ (List.mem_of_getElem? h), hg⟩
theorem gx_mp (i : Nat) {w : Cond} (h : (k2_sels lw_privs)[i]? = some w) (hg : goodWord w = true) : w ∈ gx_tb := List.mem_filter.mpr ⟨List.mem_append_left _ (List.mem_of_getElem? h), hg⟩
theorem gx_tbl {w : Cond} (h : w ∈ gx_tb) : w ∈ lw_tbl := (List.mem_filter.mp h).1
theorem gx_tbg {w : Cond} (h : w ∈ gx_tb) : goodWord w = true := (List.mem_filter.mp h).2
end
section
/-! THE WORLD: objects and arrays by numbers (0 .. 732), at addresses that never change; the ints in them are a memory -/
abbrev gx_M : Type := Nat → Nat → Int32
def gx_up (σ : gx_M) (o k : Nat) (v : Int32) : gx_M := fun a b => if a = o ∧ b = k then v else σ a b
/-- numbers: 0 board, 1 its queues' array, 2 .. 5 queues, 6 journal, 7 its pages' array, 8 .. 23 pages, 24 the roster, 25 .. 41 their jobs' arrays, 42 + 40 r + i the jobs, 722 the reference, 723 .. 732 its arrays -/
def gx_ci (o : Nat) : Option Nat := if o = 0 then some 0 else if o = 1 then none else if o < 6 then some 1 else if o = 6 then some 2 else if o = 7 then none else if o < 25 then some 3 else if o < 42 then none else if o < 722 then some 4 else if o = 722 then some 5 else none
def gx_N (ci : Nat) : Nat := match ci with
  | 0 => 6
  | 1 => 6
  | 2 => 2
  | 3 => 3
  | 4 => 14
  | _ => 16
/-- the fields that hold a reference, and to what -/
def gx_rf (o k : Nat) : Option Nat :=
  if o = 0 then (if k = 1 then some 1 else if k = 2 then some 24 else if k = 3 then some 6 else none)
  else if o = 6 then (if k = 0 then some 7 else none)
  else if o = 722 then (if 2 ≤ k ∧ k < 8 then some (721 + k) else if 12 ≤ k ∧ k < 16 then some (717 + k) else none)
  else if 8 ≤ o ∧ o < 25 then (if k = 0 then some (o + 17) else none)
  else none
def gx_fv (adr : Nat → Nat) (o k : Nat) (x : Int32) : Value := match gx_rf o k with
  | some q => .ref (adr q)
  | none => .int x
def gx_ta (o : Nat) : Nat := if o = 1 then 2 else if o = 7 then 3 else if o < 42 then 4 else if o = 732 then 1 else 0
def gx_len (o : Nat) : Nat := if o = 1 then 4 else if o = 7 then 16 else if o < 42 then 40 else if o < 729 then 4 else if o = 729 then 520 else if o = 730 then 8320 else if o = 731 then 16 else 40
def gx_el (o i : Nat) : Nat := if o = 1 then 2 + i else if o = 7 then 8 + i else 42 + 40 * (o - 25) + i
def gx_cell (dA : Nat → ClassId) (adr : Nat → Nat) (o : Nat) (r : Nat → Int32) : va_E := match gx_ci o with
  | some ci => .inr (ci, (List.range (gx_N ci)).map (fun k => gx_fv adr o k (r k)))
  | none => if o < 722 then .inl (dA (gx_ta o), gx_len o, .inr (.inr (.inr (.inr (fun i => some (adr (gx_el o i))))))) else .inl (dA (gx_ta o), gx_len o, .inl r)
def gx_ws (dA : Nat → ClassId) (adr : Nat → Nat) (σ : gx_M) : va_W := (List.range 733).map (fun o => (adr o, gx_cell dA adr o (σ o)))
def gx_A (A : Nat → Prop) (adr : Nat → Nat) : Prop := (∀ i j, i < 733 → j < 733 → adr i = adr j → i = j) ∧ ∀ o, o < 733 → A (adr o)
def gx_tys (dA : Nat → ClassId) : List (ClassId × FieldType) := [(dA 0, .int), (dA 1, .boolean), (dA 2, .object R_Qu), (dA 3, .object R_Ro), (dA 4, .object R_Jb)]
theorem gx_ws_at {dA : Nat → ClassId} {adr : Nat → Nat} {σ : gx_M} {o : Nat} (h : o < 733) : (gx_ws dA adr σ)[o]? = some (adr o, gx_cell dA adr o (σ o)) := by
  simp [gx_ws, h]
theorem gx_ws_in {dA : Nat → ClassId} {adr : Nat → Nat} {σ : gx_M} {o : Nat} {q : Nat × va_E} (h : (gx_ws dA adr σ)[o]? = some q) : o < 733 ∧ q = (adr o, gx_cell dA adr o (σ o)) := by
  have hl : o < 733 := by
    have := (List.getElem?_eq_some_iff.mp h).1
    simpa [gx_ws] using this
  rw [gx_ws_at hl] at h
  exact ⟨hl, (Option.some.inj h).symm⟩
theorem gx_ws_set {dA : Nat → ClassId} {adr : Nat → Nat} {σ σ' : gx_M} {o : Nat} {e : va_E} (h : o < 733) (he : e = gx_cell dA adr o (σ' o)) (hn : ∀ a, a ≠ o → σ' a = σ a) : (gx_ws dA adr σ).set o (adr o, e) = gx_ws dA adr σ' := by
  refine List.ext_getElem? fun i => ?_
  by_cases hi : i = o
  · subst hi
    rw [List.getElem?_set_self (by simpa [gx_ws] using h), gx_ws_at h, he]
  · rw [List.getElem?_set_ne (Ne.symm hi)]
    simp [gx_ws, List.getElem?_map]
    rcases hr : (List.range 733)[i]? with _ | j
    · rfl
    · have : j = i := by
        have := List.getElem?_eq_some_iff.mp hr
        obtain ⟨h1, h2⟩ := this
        simpa using h2.symm
      subst this
      simp [hn j hi]
theorem gx_D {dA : Nat → ClassId} {A : Nat → Prop} {adr : Nat → Nat} (h : gx_A A adr) (σ : gx_M) : va_D A (gx_ws dA adr σ) := by
  refine ⟨fun i j p q hi hj hpq => ?_, fun k q hk => ?_⟩
  · obtain ⟨h1, rfl⟩ := gx_ws_in hi
    obtain ⟨h2, rfl⟩ := gx_ws_in hj
    exact h.1 i j h1 h2 hpq
  · obtain ⟨h1, rfl⟩ := gx_ws_in hk
    exact h.2 k h1
theorem gx_ci_lt {o ci : Nat} (h : gx_ci o = some ci) : o < 733 := by
  unfold gx_ci at h
  by_cases h1 : o < 733
  · exact h1
  · rw [if_neg (by omega), if_neg (by omega), if_neg (by omega), if_neg (by omega), if_neg (by omega), if_neg (by omega), if_neg (by omega), if_neg (by omega), if_neg (by omega)] at h
    cases h
theorem gx_ci_q {o : Nat} (h : 2 ≤ o ∧ o < 6) : gx_ci o = some 1 := by
  unfold gx_ci
  rw [if_neg (by omega), if_neg (by omega), if_pos (by omega)]
theorem gx_ci_r {o : Nat} (h : 8 ≤ o ∧ o < 25) : gx_ci o = some 3 := by
  unfold gx_ci
  rw [if_neg (by omega), if_neg (by omega), if_neg (by omega), if_neg (by omega), if_neg (by omega), if_pos (by omega)]
theorem gx_ci_j {o : Nat} (h : 42 ≤ o ∧ o < 722) : gx_ci o = some 4 := by
  unfold gx_ci
  rw [if_neg (by omega), if_neg (by omega), if_neg (by omega), if_neg (by omega), if_neg (by omega), if_neg (by omega), if_neg (by omega), if_pos (by omega)]
theorem gx_ci_a {o : Nat} (h : 25 ≤ o ∧ o < 42) : gx_ci o = none := by
  unfold gx_ci
  rw [if_neg (by omega), if_neg (by omega), if_neg (by omega), if_neg (by omega), if_neg (by omega), if_neg (by omega), if_pos (by omega)]
theorem gx_rf_q {o : Nat} (h : 2 ≤ o ∧ o < 6) (k : Nat) : gx_rf o k = none := by
  unfold gx_rf
  rw [if_neg (by omega), if_neg (by omega), if_neg (by omega), if_neg (by omega)]
theorem gx_rf_j {o : Nat} (h : 42 ≤ o ∧ o < 722) (k : Nat) : gx_rf o k = none := by
  unfold gx_rf
  rw [if_neg (by omega), if_neg (by omega), if_neg (by omega), if_neg (by omega)]
theorem gx_rf_r0 {o : Nat} (h : 8 ≤ o ∧ o < 25) : gx_rf o 0 = some (o + 17) := by
  unfold gx_rf
  rw [if_neg (by omega), if_neg (by omega), if_neg (by omega), if_pos (by omega), if_pos rfl]
theorem gx_rf_r {o : Nat} (h : 8 ≤ o ∧ o < 25) {k : Nat} (hk : k ≠ 0) : gx_rf o k = none := by
  unfold gx_rf
  rw [if_neg (by omega), if_neg (by omega), if_neg (by omega), if_pos (by omega), if_neg hk]
theorem gx_cell_o {dA : Nat → ClassId} {adr : Nat → Nat} {o ci : Nat} {r : Nat → Int32} (h : gx_ci o = some ci) : gx_cell dA adr o r = .inr (ci, (List.range (gx_N ci)).map (fun k => gx_fv adr o k (r k))) := by
  unfold gx_cell
  rw [h]
theorem gx_cell_r {dA : Nat → ClassId} {adr : Nat → Nat} {o : Nat} {r : Nat → Int32} (h : gx_ci o = none) (ho : o < 722) : gx_cell dA adr o r = .inl (dA (gx_ta o), gx_len o, .inr (.inr (.inr (.inr (fun i => some (adr (gx_el o i))))))) := by
  unfold gx_cell
  rw [h]
  exact if_pos ho
theorem gx_cell_i {dA : Nat → ClassId} {adr : Nat → Nat} {o : Nat} {r : Nat → Int32} (h : gx_ci o = none) (ho : ¬ o < 722) : gx_cell dA adr o r = .inl (dA (gx_ta o), gx_len o, .inl r) := by
  unfold gx_cell
  rw [h]
  exact if_neg ho
theorem gx_fs_at {adr : Nat → Nat} {o n k : Nat} {r : Nat → Int32} (h : k < n) : ((List.range n).map (fun k => gx_fv adr o k (r k)))[k]? = some (gx_fv adr o k (r k)) := by
  simp [h]
theorem gx_fs_set {adr : Nat → Nat} {o n k : Nat} {r : Nat → Int32} {v : Int32} (hrf : gx_rf o k = none) : ((List.range n).map (fun k => gx_fv adr o k (r k))).set k (.int v) = (List.range n).map (fun j => gx_fv adr o j (upd r k v j)) := by
  refine List.ext_getElem? fun i => ?_
  by_cases hi : i = k
  · subst hi
    by_cases hn : i < n
    · rw [List.getElem?_set_self (by simpa using hn)]
      simp [hn, gx_fv, hrf, upd]
    · simp [hn]
  · rw [List.getElem?_set_ne (Ne.symm hi)]
    by_cases hn : i < n
    · simp [hn, upd, hi]
    · simp [hn]
theorem gx_up_row {σ : gx_M} {o k : Nat} {v : Int32} : gx_up σ o k v o = upd (σ o) k v := by
  funext j
  simp [gx_up, upd]
theorem gx_up_ne {σ : gx_M} {o k : Nat} {v : Int32} (a : Nat) (h : a ≠ o) : gx_up σ o k v a = σ a := by
  funext j
  simp [gx_up, h]
/-- how the pure functions are opened: a test, a name, a call -/
theorem gx_gd {α : Type} {c : Prop} [Decidable c] {x : Option α} {y : α} (h : (if c then x else none) = some y) : c ∧ x = some y := by
  by_cases hc : c
  · exact ⟨hc, by rwa [if_pos hc] at h⟩
  · rw [if_neg hc] at h; cases h
def gx_lt {α β : Type} (x : α) (k : α → β) : β := k x
theorem gx_lte {α β : Type} {x : α} {k : α → β} {y : β} (h : gx_lt x k = y) : ∃ z, z = x ∧ k z = y := ⟨x, rfl, h⟩
def gx_bd {α β γ : Type} (x : Option (α × β)) (k : α → β → Option γ) : Option γ := match x with
  | some q => k q.1 q.2
  | none => none
theorem gx_bde {α β γ : Type} {x : Option (α × β)} {k : α → β → Option γ} {y : γ} (h : gx_bd x k = some y) : ∃ a b, x = some (a, b) ∧ k a b = some y := by
  cases x with
  | none => cases h
  | some q => exact ⟨q.1, q.2, rfl, h⟩
def gx_bv {β γ : Type} (x : Option β) (k : β → Option γ) : Option γ := match x with
  | some q => k q
  | none => none
theorem gx_bve {β γ : Type} {x : Option β} {k : β → Option γ} {y : γ} (h : gx_bv x k = some y) : ∃ b, x = some b ∧ k b = some y := by
  cases x with
  | none => cases h
  | some q => exact ⟨q, rfl, h⟩
theorem gx_in {i M : Int32} {n : Nat} (h : 0 ≤ i ∧ i < M) (hM : M.toInt = n) : vp_in i n := by
  have h1 := Int32.le_iff_toInt_le.mp h.1
  have h2 := Int32.lt_iff_toInt_lt.mp h.2
  rw [hM] at h2
  exact vp_in_iff.mpr ⟨by simpa using h1, h2⟩
theorem gx_cl_lt {i M : Int32} {n : Nat} (h : 0 ≤ i ∧ i < M) (hM : M.toInt = n) : i.toNatClampNeg < n := Nat.not_le.mp fun q => gx_in h hM (Or.inr q)
def gx_mt {β : Type} (x : Option Nat) (a : β) (f : Nat → β) : β := match x with
  | none => a
  | some o => f o
theorem gx_mtn {β : Type} {a y : β} {f : Nat → β} (h : gx_mt none a f = y) : a = y := h
theorem gx_mts {β : Type} {a y : β} {f : Nat → β} {o : Nat} (h : gx_mt (some o) a f = y) : f o = y := h
theorem gx_el_q {i : Int32} (h : 0 ≤ i ∧ i < 4) : 2 ≤ gx_el 1 i.toNatClampNeg ∧ gx_el 1 i.toNatClampNeg < 6 := by
  have := gx_cl_lt (n := 4) h (by decide)
  unfold gx_el
  rw [if_pos rfl]
  omega
theorem gx_el_p {i : Int32} (h : 0 ≤ i ∧ i < 16) : 8 ≤ gx_el 7 i.toNatClampNeg ∧ gx_el 7 i.toNatClampNeg < 25 := by
  have := gx_cl_lt (n := 16) h (by decide)
  unfold gx_el
  rw [if_neg (by decide), if_pos rfl]
  omega
theorem gx_el_j {o : Nat} (ho : 8 ≤ o ∧ o < 25) {i : Int32} (h : 0 ≤ i ∧ i < 40) : 42 ≤ gx_el (o + 17) i.toNatClampNeg ∧ gx_el (o + 17) i.toNatClampNeg < 722 := by
  have := gx_cl_lt (n := 40) h (by decide)
  unfold gx_el
  rw [if_neg (by omega), if_neg (by omega)]
  omega
theorem gx_nb {v : Int32} (h : v = 0 ∨ v = 1) : narrow .boolean (.int v) = .int v := by
  rcases h with rfl | rfl <;> decide
theorem gx_fb {v : Int32} (h : v = 0 ∨ v = 1) : fits .boolean (.int v) = true := by
  rcases h with rfl | rfl <;> decide
theorem gx_sw8 {x : Int32} (a : ¬ x = 8) (b : ¬ x = 9) (c : ¬ x = 10) : x.toInt < 8 ∨ 10 < x.toInt := by
  have ha : ¬ x.toInt = 8 := fun h => a (Int32.toInt_inj.mp h)
  have hb : ¬ x.toInt = 9 := fun h => b (Int32.toInt_inj.mp h)
  have hc : ¬ x.toInt = 10 := fun h => c (Int32.toInt_inj.mp h)
  omega
end
section
/-- what the words say of a class of the world -/
def gx_Cl (Ts : List Cond) (ci : Nat) (C : String) (T : u_T) (t : Nat → FieldType) : Prop := (∀ w ∈ u_ws C T (gx_N ci), w ∈ Ts) ∧ gx_cl[ci]? = some (C, T, gx_N ci) ∧ (∀ k, k < gx_N ci → (T k).1 = C) ∧ (∀ k, k < gx_N ci → parseFieldDescriptor (T k).2.2.1 = some (t k)) ∧ ∀ a, a < gx_N ci → ∀ b, b < gx_N ci → a ≠ b → (T a).2.1 ≠ (T b).2.1
section GXR
variable {p : Program} {l : Launch} {e : Env} {R : Room} {s : State} {m : MethodId} {args : Array Value} {below : List Frame} {meth : Method} {c : Code} {H : Heap} {locs : List Loc} {cells slots : Nat} {Q : State → Prop}
variable {cc : ByteArray} {pc nL : Nat} {ls : Array Slot} {rest : List Value} {D : va_G} {dA : Nat → ClassId} {adr : Nat → Nat} {A : Nat → Prop} {σ σ' : gx_M} {H0 : Heap} {Ts : List Cond} {own C : String} {T : u_T} {t : Nat → FieldType} {ci index o : Nat}
/-- where a method stands: the machine, its code, the words, the classes -/
def gx_G (p : Program) (m : MethodId) (c : Code) (cc : ByteArray) (nL : Nat) (s : State) (args : Array Value) (Ts : List Cond) (own : String) (D : va_G) (dA : Nat → ClassId) : Prop := CallFix p m c cc nL s args Ts own ∧ va_K D gx_cl (gx_tys dA) s
def gx_I (D : va_G) (dA : Nat → ClassId) (adr : Nat → Nat) (A : Nat → Prop) (H0 : Heap) (σ : gx_M) (H : Heap) (locs : List Loc) : Prop := va_P D gx_cl (gx_ws dA adr σ) H ∧ va_S A H0 H locs
theorem gx_atO (hci : gx_ci o = some ci) : (gx_ws dA adr σ)[o]? = some (adr o, .inr (ci, (List.range (gx_N ci)).map (fun k => gx_fv adr o k (σ o k)))) := by
  rw [gx_ws_at (gx_ci_lt hci), gx_cell_o hci]
theorem gx_get (G : gx_G p m c cc nL s args Ts own D dA) (hI : gx_I D dA adr A H0 σ H locs) (X : gx_Cl Ts ci C T t) (hci : gx_ci o = some ci) (k : Nat) (hk : k < gx_N ci) (hl : Cond.fieldLink own index C (T k).2.1 (T k).2.2.1 ∈ Ts) {v : Value} (hv : gx_fv adr o k (σ o k) = v) (hdg : decode cc pc = .ok (.getfield index, 3))
    (kk : W p l e R s m args below meth c H locs cells slots Q (F0 m (pc + 3) ls (v :: rest))) : W p l e R s m args below meth c H locs cells slots Q (F0 m pc ls (.ref (adr o) :: rest)) := by
  obtain ⟨⟨hx, hb, hml, hown, hts⟩, hK⟩ := G
  obtain ⟨h1, h2, h3, h4, h5⟩ := X
  subst hv
  exact va_get (D := D) (ci := ci) (C := C) (T := T) (N := gx_N ci) hx hb hts h1 hown hK hI.1 o (gx_atO hci) h2 k hk (hts _ hl) (fun x h => by rwa [h3 k hk] at h) (gx_fs_at hk) hdg kk
theorem gx_getI (G : gx_G p m c cc nL s args Ts own D dA) (hI : gx_I D dA adr A H0 σ H locs) (X : gx_Cl Ts ci C T t) (hci : gx_ci o = some ci) (k : Nat) (hk : k < gx_N ci) (hrf : gx_rf o k = none) (hl : Cond.fieldLink own index C (T k).2.1 (T k).2.2.1 ∈ Ts) (hdg : decode cc pc = .ok (.getfield index, 3))
    (kk : W p l e R s m args below meth c H locs cells slots Q (F0 m (pc + 3) ls (.int (σ o k) :: rest))) : W p l e R s m args below meth c H locs cells slots Q (F0 m pc ls (.ref (adr o) :: rest)) :=
  gx_get G hI X hci k hk hl (by unfold gx_fv; rw [hrf]) hdg kk
theorem gx_getR (G : gx_G p m c cc nL s args Ts own D dA) (hI : gx_I D dA adr A H0 σ H locs) (X : gx_Cl Ts ci C T t) (hci : gx_ci o = some ci) (k : Nat) (hk : k < gx_N ci) {o' : Nat} (hrf : gx_rf o k = some o') (hl : Cond.fieldLink own index C (T k).2.1 (T k).2.2.1 ∈ Ts) (hdg : decode cc pc = .ok (.getfield index, 3))
    (kk : W p l e R s m args below meth c H locs cells slots Q (F0 m (pc + 3) ls (.ref (adr o') :: rest))) : W p l e R s m args below meth c H locs cells slots Q (F0 m pc ls (.ref (adr o) :: rest)) :=
  gx_get G hI X hci k hk hl (by unfold gx_fv; rw [hrf]) hdg kk
theorem gx_put (G : gx_G p m c cc nL s args Ts own D dA) (hI : gx_I D dA adr A H0 σ H locs) (hA : gx_A A adr) (X : gx_Cl Ts ci C T t) (hci : gx_ci o = some ci) (k : Nat) (hk : k < gx_N ci) (hrf : gx_rf o k = none) (hl : Cond.fieldLink own index C (T k).2.1 (T k).2.2.1 ∈ Ts) (hfin : (T k).2.2.2 = false) {v : Int32} (hn : narrow (t k) (.int v) = .int v) (hfit : fits (t k) (.int v) = true) (hσ : σ' = gx_up σ o k v) (hdg : decode cc pc = .ok (.putfield index, 3))
    (kk : ∀ (H1 : Heap) (locs1 : List Loc), gx_I D dA adr A H0 σ' H1 locs1 → W p l e R s m args below meth c H1 locs1 cells slots Q (F0 m (pc + 3) ls rest)) : W p l e R s m args below meth c H locs cells slots Q (F0 m pc ls (.int v :: .ref (adr o) :: rest)) := by
  obtain ⟨⟨hx, hb, hml, hown, hts⟩, hK⟩ := G
  obtain ⟨h1, h2, h3, h4, h5⟩ := X
  refine va_put (D := D) (ci := ci) (C := C) (T := T) (N := gx_N ci) (v := .int v) (ty := t k) hx hb hts h1 t h4 h5 hown hK hI.1 (gx_D hA σ) hI.2 o (gx_atO hci) h2 k hk (hts _ hl) (fun x h => by rwa [h3 k hk] at h) hfin (h4 k hk) hn hfit (by simpa using hk) hdg (fun H1 locs1 hP hD hS => kk H1 locs1 ⟨?_, hS⟩)
  rw [gx_fs_set hrf, gx_ws_set (σ' := σ') (gx_ci_lt hci) (by rw [gx_cell_o hci, hσ, gx_up_row]) (fun a ha => by rw [hσ, gx_up_ne a ha])] at hP
  exact hP
theorem gx_ald (G : gx_G p m c cc nL s args Ts own D dA) (hI : gx_I D dA adr A H0 σ H locs) (hci : gx_ci o = none) (ho : o < 722) {E : String} (ht : (gx_tys dA)[gx_ta o]? = some (dA (gx_ta o), .object E)) {i : Int32} (hin : vp_in i (gx_len o)) (hdg : decode cc pc = .ok (.aaload, 1))
    (kk : W p l e R s m args below meth c H locs cells slots Q (F0 m (pc + 1) ls (.ref (adr (gx_el o i.toNatClampNeg)) :: rest))) : W p l e R s m args below meth c H locs cells slots Q (F0 m pc ls (.int i :: .ref (adr o) :: rest)) := by
  obtain ⟨⟨hx, hb, hml, hown, hts⟩, hK⟩ := G
  exact va_aldq (f := fun i => some (adr (gx_el o i))) hx hb hK hI.1 o (gx_ta o) (by rw [gx_ws_at (by omega), gx_cell_r hci ho]) ht hin hdg kk
theorem gx_ild (G : gx_G p m c cc nL s args Ts own D dA) (hI : gx_I D dA adr A H0 σ H locs) (ho : 722 < o ∧ o < 732) {i : Int32} (hin : vp_in i (gx_len o)) (hdg : decode cc pc = .ok (.iaload, 1))
    (kk : W p l e R s m args below meth c H locs cells slots Q (F0 m (pc + 1) ls (.int (σ o i.toNatClampNeg) :: rest))) : W p l e R s m args below meth c H locs cells slots Q (F0 m pc ls (.int i :: .ref (adr o) :: rest)) := by
  obtain ⟨⟨hx, hb, hml, hown, hts⟩, hK⟩ := G
  have hci : gx_ci o = none := by
    unfold gx_ci
    rw [if_neg (by omega), if_neg (by omega), if_neg (by omega), if_neg (by omega), if_neg (by omega), if_neg (by omega), if_neg (by omega), if_neg (by omega), if_neg (by omega)]
  have hta : gx_ta o = 0 := by
    unfold gx_ta
    rw [if_neg (by omega), if_neg (by omega), if_neg (by omega), if_neg (by omega)]
  exact va_iald hx hb hK hI.1 o 0 (by rw [gx_ws_at (by omega), gx_cell_i hci (by omega), hta]) rfl hin hdg kk
theorem gx_ist (G : gx_G p m c cc nL s args Ts own D dA) (hI : gx_I D dA adr A H0 σ H locs) (hA : gx_A A adr) (ho : 722 < o ∧ o < 732) {i x : Int32} (hin : vp_in i (gx_len o)) (hσ : σ' = gx_up σ o i.toNatClampNeg x) (hdg : decode cc pc = .ok (.iastore, 1))
    (kk : ∀ (H1 : Heap) (locs1 : List Loc), gx_I D dA adr A H0 σ' H1 locs1 → W p l e R s m args below meth c H1 locs1 cells slots Q (F0 m (pc + 1) ls rest)) : W p l e R s m args below meth c H locs cells slots Q (F0 m pc ls (.int x :: .int i :: .ref (adr o) :: rest)) := by
  obtain ⟨⟨hx, hb, hml, hown, hts⟩, hK⟩ := G
  have hci : gx_ci o = none := by
    unfold gx_ci
    rw [if_neg (by omega), if_neg (by omega), if_neg (by omega), if_neg (by omega), if_neg (by omega), if_neg (by omega), if_neg (by omega), if_neg (by omega), if_neg (by omega)]
  have hta : gx_ta o = 0 := by
    unfold gx_ta
    rw [if_neg (by omega), if_neg (by omega), if_neg (by omega), if_neg (by omega)]
  refine va_iast hx hb hK hI.1 (gx_D hA σ) hI.2 o 0 (by rw [gx_ws_at (by omega), gx_cell_i hci (by omega), hta]) rfl hin hdg (fun H1 locs1 hP hD hS => kk H1 locs1 ⟨?_, hS⟩)
  rw [gx_ws_set (σ' := σ') (by omega) (by rw [gx_cell_i hci (by omega), hσ, gx_up_row, hta]) (fun a ha => by rw [hσ, gx_up_ne a ha])] at hP
  exact hP
theorem gx_zld (G : gx_G p m c cc nL s args Ts own D dA) (hI : gx_I D dA adr A H0 σ H locs) {i : Int32} (hin : vp_in i 40) (hdg : decode cc pc = .ok (.baload, 1))
    (kk : W p l e R s m args below meth c H locs cells slots Q (F0 m (pc + 1) ls (.int (σ 732 i.toNatClampNeg) :: rest))) : W p l e R s m args below meth c H locs cells slots Q (F0 m pc ls (.int i :: .ref (adr 732) :: rest)) := by
  obtain ⟨⟨hx, hb, hml, hown, hts⟩, hK⟩ := G
  exact va_zald hx hb hK hI.1 732 1 (by rw [gx_ws_at (by omega), gx_cell_i (by decide) (by omega)]; rfl) rfl hin hdg kk
theorem gx_zst (G : gx_G p m c cc nL s args Ts own D dA) (hI : gx_I D dA adr A H0 σ H locs) (hA : gx_A A adr) {i x : Int32} (hx1 : vp_nar .boolean x = x) (hin : vp_in i 40) (hσ : σ' = gx_up σ 732 i.toNatClampNeg x) (hdg : decode cc pc = .ok (.bastore, 1))
    (kk : ∀ (H1 : Heap) (locs1 : List Loc), gx_I D dA adr A H0 σ' H1 locs1 → W p l e R s m args below meth c H1 locs1 cells slots Q (F0 m (pc + 1) ls rest)) : W p l e R s m args below meth c H locs cells slots Q (F0 m pc ls (.int x :: .int i :: .ref (adr 732) :: rest)) := by
  obtain ⟨⟨hx, hb, hml, hown, hts⟩, hK⟩ := G
  refine va_zast hx hb hK hI.1 (gx_D hA σ) hI.2 732 1 (by rw [gx_ws_at (by omega), gx_cell_i (by decide) (by omega)]; rfl) rfl hin hdg (fun H1 locs1 hP hD hS => kk H1 locs1 ⟨?_, hS⟩)
  rw [hx1, gx_ws_set (σ' := σ') (by omega) (by rw [gx_cell_i (by decide) (by omega), hσ, gx_up_row]; rfl) (fun a ha => by rw [hσ, gx_up_ne a ha])] at hP
  exact hP
/-- a method's start and end -/
def gx_Pc (D : va_G) (dA : Nat → ClassId) (adr : Nat → Nat) (σ : gx_M) (av : List Value) : Array Value → State → Prop := va_Pc av (fun U => va_P D gx_cl (gx_ws dA adr σ) U.heap ∧ va_K D gx_cl (gx_tys dA) U)
def gx_Q (D : va_G) (dA : Nat → ClassId) (adr : Nat → Nat) (A : Nat → Prop) (v : Option Value) (σ : gx_M) : Array Value → State → Outcome → State → Prop := fun _ st oc t => oc = .returned v ∧ va_P D gx_cl (gx_ws dA adr σ) t.heap ∧ va_F A st t
theorem gx_blind {av : List Value} : FrameBlind (gx_Pc D dA adr σ av) := fun a U g mk q => by
  obtain ⟨q0, qP, qK⟩ := q
  exact ⟨q0, qP, va_K.moved (u := U) (U := U.calling g mk a) (Vm.Alike.refl U.vm) qK⟩
theorem gx_pre {av : List Value} (G : gx_G p m c cc nL s args Ts own D dA) (hI : gx_I D dA adr A H0 σ H locs) : PreS s H (gx_Pc D dA adr σ av) av :=
  ⟨gx_blind, fun U hU hW => ⟨rfl, by rw [hU]; exact hI.1, va_K.moved hW.alike G.2⟩⟩
theorem gx_preV {av : List Value} (G : gx_G p m c cc nL s args Ts own D dA) (hI : gx_I D dA adr A H0 σ H locs) (X : gx_Cl Ts ci C T t) (hci : gx_ci o = some ci) : PreV s H C (adr o) (gx_Pc D dA adr σ (.ref (adr o) :: av)) av :=
  ⟨gx_blind, va_recv G.2 hI.1 (ci := ci) (q0 := o) X.2.1 (gx_atO hci), fun U hU hW => ⟨rfl, by rw [hU]; exact hI.1, va_K.moved hW.alike G.2⟩⟩
theorem gx_go {v : Option Value} {st0 st1 : List Value} {a : Array Value} (hr : va_Run p l e R s m args below meth c H locs cells slots 0 0 (F0 m pc ls st0) rest (gx_Q D dA adr A v σ' a) A) (hI : gx_I D dA adr A H0 σ H locs) (hst : v.toList ++ rest = st1)
    (kk : ∀ (H1 : Heap) (locs1 : List Loc), gx_I D dA adr A H0 σ' H1 locs1 → W p l e R s m args below meth c H1 locs1 cells slots Q (F0 m (pc + 3) ls st1)) : W p l e R s m args below meth c H locs cells slots Q (F0 m pc ls st0) := by
  subst hst
  intro T hT X
  obtain ⟨v', st₀, t, T', L, h0, X', hL, e1, e2, ⟨hv, hP, hz, hk⟩, st⟩ := hr T hT X
  cases hv
  rw [h0] at hz hk
  have hS := hI.2
  obtain ⟨t2, a1, b1⟩ := kk T'.heap (locs ++ L) ⟨by rw [e1]; exact hP, Nat.le_trans hS.1 (by rw [e1]; exact hz), fun q h1 h2 => by rw [e1, hk q (Nat.lt_of_lt_of_le h1 hS.1) h2]; exact hS.2.1 q h1 h2, fun q hq => by
      rcases List.mem_append.mp hq with h | h
      · exact hS.2.2 q h
      · exact hL q h⟩ T' rfl X'
  exact ⟨t2, st t2 a1, b1⟩
/-- a method's end -/
theorem gx_F {v : Option Value} {a : Array Value} (hI : gx_I D dA adr A s.heap σ H locs) : ∀ t : State, t.heap = H → s.WarmedH t.vm → gx_Q D dA adr A v σ a s (.returned v) t := fun t ht _ => ⟨rfl, by rw [ht]; exact hI.1, hI.2.F ht⟩
theorem gx_aldQ (G : gx_G p m c cc nL s args Ts own D dA) (hI : gx_I D dA adr A H0 σ H locs) {i : Int32} (hi : 0 ≤ i ∧ i < 4) (hdg : decode cc pc = .ok (.aaload, 1))
    (kk : W p l e R s m args below meth c H locs cells slots Q (F0 m (pc + 1) ls (.ref (adr (gx_el 1 i.toNatClampNeg)) :: rest))) : W p l e R s m args below meth c H locs cells slots Q (F0 m pc ls (.int i :: .ref (adr 1) :: rest)) :=
  gx_ald G hI (by decide) (by decide) (E := R_Qu) rfl (gx_in hi (by decide)) hdg kk
theorem gx_aldP (G : gx_G p m c cc nL s args Ts own D dA) (hI : gx_I D dA adr A H0 σ H locs) {i : Int32} (hi : 0 ≤ i ∧ i < 16) (hdg : decode cc pc = .ok (.aaload, 1))
    (kk : W p l e R s m args below meth c H locs cells slots Q (F0 m (pc + 1) ls (.ref (adr (gx_el 7 i.toNatClampNeg)) :: rest))) : W p l e R s m args below meth c H locs cells slots Q (F0 m pc ls (.int i :: .ref (adr 7) :: rest)) :=
  gx_ald G hI (by decide) (by decide) (E := R_Ro) rfl (gx_in hi (by decide)) hdg kk
theorem gx_aldJ (G : gx_G p m c cc nL s args Ts own D dA) (hI : gx_I D dA adr A H0 σ H locs) (ho : 8 ≤ o ∧ o < 25) {i : Int32} (hi : 0 ≤ i ∧ i < 40) (hdg : decode cc pc = .ok (.aaload, 1))
    (kk : W p l e R s m args below meth c H locs cells slots Q (F0 m (pc + 1) ls (.ref (adr (gx_el (o + 17) i.toNatClampNeg)) :: rest))) : W p l e R s m args below meth c H locs cells slots Q (F0 m pc ls (.int i :: .ref (adr (o + 17)) :: rest)) := by
  have hta : gx_ta (o + 17) = 4 := by
    unfold gx_ta
    rw [if_neg (by omega), if_neg (by omega), if_pos (by omega)]
  have hln : gx_len (o + 17) = 40 := by
    unfold gx_len
    rw [if_neg (by omega), if_neg (by omega), if_pos (by omega)]
  exact gx_ald G hI (gx_ci_a (by omega)) (by omega) (E := R_Jb) (by rw [hta]; rfl) (by rw [hln]; exact gx_in hi (by decide)) hdg kk
theorem gx_top {x y : Int32} (h : y = x) (k : W p l e R s m args below meth c H locs cells slots Q (F0 m pc ls (.int y :: rest))) : W p l e R s m args below meth c H locs cells slots Q (F0 m pc ls (.int x :: rest)) := by
  subst h
  exact k
end GXR
end
section
theorem gx_gv {own C : String} {idx : Nat} {y : MethodName} {cd : Cond} (h1 : Cond.methodLink own idx y ∈ gx_tb) (h2 : Cond.instanceMethod y ∈ gx_tb) (h3 : Cond.selects C y y ∈ gx_tb) (h4 : Cond.initialized C ∈ gx_tb) (h5 : cd ∈ gx_tb) : GoodIn gx_tb (wsV own idx C y (cd :: gx_tb)) := by
  intro w hw
  have hm : w ∈ gx_tb := by
    simp only [wsV, List.mem_append, List.mem_cons, List.not_mem_nil, or_false] at hw
    rcases hw with (rfl | rfl | rfl | rfl) | rfl | hw
    · exact h1
    · exact h2
    · exact h3
    · exact h4
    · exact h5
    · exact hw
  exact ⟨hm, good_of_word (gx_tbg hm)⟩
theorem gx_gs {own : String} {idx : Nat} {y : MethodName} {cd : Cond} (h1 : Cond.methodLink own idx y ∈ gx_tb) (h2 : Cond.static y ∈ gx_tb) (h3 : Cond.initialized own ∈ gx_tb) (h4 : cd ∈ gx_tb) : GoodIn gx_tb (wsS own idx y (cd :: gx_tb)) := by
  intro w hw
  have hm : w ∈ gx_tb := by
    simp only [wsS, List.mem_append, List.mem_cons, List.not_mem_nil, or_false] at hw
    rcases hw with (rfl | rfl | rfl) | rfl | hw
    · exact h1
    · exact h2
    · exact h3
    · exact h4
    · exact hw
  exact ⟨hm, good_of_word (gx_tbg hm)⟩
theorem la_Bo_0 : u_lay R_Bo F_Bo 0 ∈ gx_tb := gx_m 156 (by decide +kernel) (by decide +kernel)
theorem la_Bo_1 : u_lay R_Bo F_Bo 1 ∈ gx_tb := gx_m 158 (by decide +kernel) (by decide +kernel)
theorem la_Bo_2 : u_lay R_Bo F_Bo 2 ∈ gx_tb := gx_m 160 (by decide +kernel) (by decide +kernel)
theorem la_Bo_3 : u_lay R_Bo F_Bo 3 ∈ gx_tb := gx_m 162 (by decide +kernel) (by decide +kernel)
theorem la_Bo_4 : u_lay R_Bo F_Bo 4 ∈ gx_tb := gx_m 164 (by decide +kernel) (by decide +kernel)
theorem la_Bo_5 : u_lay R_Bo F_Bo 5 ∈ gx_tb := gx_m 166 (by decide +kernel) (by decide +kernel)
theorem la_Bo : ∀ w ∈ u_ws R_Bo F_Bo (gx_N 0), w ∈ gx_tb := by
  intro w hw
  obtain ⟨k, hk, rfl⟩ := List.mem_map.mp hw
  have hk : k < 6 := List.mem_range.mp hk
  match k, hk with
  | 0, _ => exact la_Bo_0
  | 1, _ => exact la_Bo_1
  | 2, _ => exact la_Bo_2
  | 3, _ => exact la_Bo_3
  | 4, _ => exact la_Bo_4
  | 5, _ => exact la_Bo_5
  | k + 6, h => exact absurd h (by omega)
theorem cl_Bo : gx_Cl gx_tb 0 R_Bo F_Bo t_Bo := ⟨la_Bo, rfl, by decide +kernel, by decide +kernel, by decide +kernel⟩
theorem la_Qu_0 : u_lay R_Qu F_Qu 0 ∈ gx_tb := gx_m 32 (by decide +kernel) (by decide +kernel)
theorem la_Qu_1 : u_lay R_Qu F_Qu 1 ∈ gx_tb := gx_m 34 (by decide +kernel) (by decide +kernel)
theorem la_Qu_2 : u_lay R_Qu F_Qu 2 ∈ gx_tb := gx_m 36 (by decide +kernel) (by decide +kernel)
theorem la_Qu_3 : u_lay R_Qu F_Qu 3 ∈ gx_tb := gx_m 38 (by decide +kernel) (by decide +kernel)
theorem la_Qu_4 : u_lay R_Qu F_Qu 4 ∈ gx_tb := gx_m 40 (by decide +kernel) (by decide +kernel)
theorem la_Qu_5 : u_lay R_Qu F_Qu 5 ∈ gx_tb := gx_m 42 (by decide +kernel) (by decide +kernel)
theorem la_Qu : ∀ w ∈ u_ws R_Qu F_Qu (gx_N 1), w ∈ gx_tb := by
  intro w hw
  obtain ⟨k, hk, rfl⟩ := List.mem_map.mp hw
  have hk : k < 6 := List.mem_range.mp hk
  match k, hk with
  | 0, _ => exact la_Qu_0
  | 1, _ => exact la_Qu_1
  | 2, _ => exact la_Qu_2
  | 3, _ => exact la_Qu_3
  | 4, _ => exact la_Qu_4
  | 5, _ => exact la_Qu_5
  | k + 6, h => exact absurd h (by omega)
theorem cl_Qu : gx_Cl gx_tb 1 R_Qu F_Qu t_Qu := ⟨la_Qu, rfl, by decide +kernel, by decide +kernel, by decide +kernel⟩
theorem la_Jn_0 : u_lay R_Jn F_Jn 0 ∈ gx_tb := gx_m 145 (by decide +kernel) (by decide +kernel)
theorem la_Jn_1 : u_lay R_Jn F_Jn 1 ∈ gx_tb := gx_m 147 (by decide +kernel) (by decide +kernel)
theorem la_Jn : ∀ w ∈ u_ws R_Jn F_Jn (gx_N 2), w ∈ gx_tb := by
  intro w hw
  obtain ⟨k, hk, rfl⟩ := List.mem_map.mp hw
  have hk : k < 2 := List.mem_range.mp hk
  match k, hk with
  | 0, _ => exact la_Jn_0
  | 1, _ => exact la_Jn_1
  | k + 2, h => exact absurd h (by omega)
theorem cl_Jn : gx_Cl gx_tb 2 R_Jn F_Jn t_Jn := ⟨la_Jn, rfl, by decide +kernel, by decide +kernel, by decide +kernel⟩
theorem la_Ro_0 : u_lay R_Ro F_Ro 0 ∈ gx_tb := gx_m 126 (by decide +kernel) (by decide +kernel)
theorem la_Ro_1 : u_lay R_Ro F_Ro 1 ∈ gx_tb := gx_m 128 (by decide +kernel) (by decide +kernel)
theorem la_Ro_2 : u_lay R_Ro F_Ro 2 ∈ gx_tb := gx_m 130 (by decide +kernel) (by decide +kernel)
theorem la_Ro : ∀ w ∈ u_ws R_Ro F_Ro (gx_N 3), w ∈ gx_tb := by
  intro w hw
  obtain ⟨k, hk, rfl⟩ := List.mem_map.mp hw
  have hk : k < 3 := List.mem_range.mp hk
  match k, hk with
  | 0, _ => exact la_Ro_0
  | 1, _ => exact la_Ro_1
  | 2, _ => exact la_Ro_2
  | k + 3, h => exact absurd h (by omega)
theorem cl_Ro : gx_Cl gx_tb 3 R_Ro F_Ro t_Ro := ⟨la_Ro, rfl, by decide +kernel, by decide +kernel, by decide +kernel⟩
theorem la_Jb_0 : u_lay R_Jb F_Jb 0 ∈ gx_tb := gx_m 93 (by decide +kernel) (by decide +kernel)
theorem la_Jb_1 : u_lay R_Jb F_Jb 1 ∈ gx_tb := gx_m 95 (by decide +kernel) (by decide +kernel)
theorem la_Jb_2 : u_lay R_Jb F_Jb 2 ∈ gx_tb := gx_m 97 (by decide +kernel) (by decide +kernel)
theorem la_Jb_3 : u_lay R_Jb F_Jb 3 ∈ gx_tb := gx_m 99 (by decide +kernel) (by decide +kernel)
theorem la_Jb_4 : u_lay R_Jb F_Jb 4 ∈ gx_tb := gx_m 101 (by decide +kernel) (by decide +kernel)
theorem la_Jb_5 : u_lay R_Jb F_Jb 5 ∈ gx_tb := gx_m 103 (by decide +kernel) (by decide +kernel)
theorem la_Jb_6 : u_lay R_Jb F_Jb 6 ∈ gx_tb := gx_m 105 (by decide +kernel) (by decide +kernel)
theorem la_Jb_7 : u_lay R_Jb F_Jb 7 ∈ gx_tb := gx_m 107 (by decide +kernel) (by decide +kernel)
theorem la_Jb_8 : u_lay R_Jb F_Jb 8 ∈ gx_tb := gx_m 109 (by decide +kernel) (by decide +kernel)
theorem la_Jb_9 : u_lay R_Jb F_Jb 9 ∈ gx_tb := gx_m 111 (by decide +kernel) (by decide +kernel)
theorem la_Jb_10 : u_lay R_Jb F_Jb 10 ∈ gx_tb := gx_m 113 (by decide +kernel) (by decide +kernel)
theorem la_Jb_11 : u_lay R_Jb F_Jb 11 ∈ gx_tb := gx_m 115 (by decide +kernel) (by decide +kernel)
theorem la_Jb_12 : u_lay R_Jb F_Jb 12 ∈ gx_tb := gx_m 117 (by decide +kernel) (by decide +kernel)
theorem la_Jb_13 : u_lay R_Jb F_Jb 13 ∈ gx_tb := gx_m 119 (by decide +kernel) (by decide +kernel)
theorem la_Jb : ∀ w ∈ u_ws R_Jb F_Jb (gx_N 4), w ∈ gx_tb := by
  intro w hw
  obtain ⟨k, hk, rfl⟩ := List.mem_map.mp hw
  have hk : k < 14 := List.mem_range.mp hk
  match k, hk with
  | 0, _ => exact la_Jb_0
  | 1, _ => exact la_Jb_1
  | 2, _ => exact la_Jb_2
  | 3, _ => exact la_Jb_3
  | 4, _ => exact la_Jb_4
  | 5, _ => exact la_Jb_5
  | 6, _ => exact la_Jb_6
  | 7, _ => exact la_Jb_7
  | 8, _ => exact la_Jb_8
  | 9, _ => exact la_Jb_9
  | 10, _ => exact la_Jb_10
  | 11, _ => exact la_Jb_11
  | 12, _ => exact la_Jb_12
  | 13, _ => exact la_Jb_13
  | k + 14, h => exact absurd h (by omega)
theorem cl_Jb : gx_Cl gx_tb 4 R_Jb F_Jb t_Jb := ⟨la_Jb, rfl, by decide +kernel, by decide +kernel, by decide +kernel⟩
theorem la_Mo_0 : u_lay R_Mo F_Mo 0 ∈ gx_tb := gx_m 440 (by decide +kernel) (by decide +kernel)
theorem la_Mo_1 : u_lay R_Mo F_Mo 1 ∈ gx_tb := gx_m 442 (by decide +kernel) (by decide +kernel)
theorem la_Mo_2 : u_lay R_Mo F_Mo 2 ∈ gx_tb := gx_m 444 (by decide +kernel) (by decide +kernel)
theorem la_Mo_3 : u_lay R_Mo F_Mo 3 ∈ gx_tb := gx_m 446 (by decide +kernel) (by decide +kernel)
theorem la_Mo_4 : u_lay R_Mo F_Mo 4 ∈ gx_tb := gx_m 448 (by decide +kernel) (by decide +kernel)
theorem la_Mo_5 : u_lay R_Mo F_Mo 5 ∈ gx_tb := gx_m 450 (by decide +kernel) (by decide +kernel)
theorem la_Mo_6 : u_lay R_Mo F_Mo 6 ∈ gx_tb := gx_m 452 (by decide +kernel) (by decide +kernel)
theorem la_Mo_7 : u_lay R_Mo F_Mo 7 ∈ gx_tb := gx_m 454 (by decide +kernel) (by decide +kernel)
theorem la_Mo_8 : u_lay R_Mo F_Mo 8 ∈ gx_tb := gx_m 456 (by decide +kernel) (by decide +kernel)
theorem la_Mo_9 : u_lay R_Mo F_Mo 9 ∈ gx_tb := gx_m 458 (by decide +kernel) (by decide +kernel)
theorem la_Mo_10 : u_lay R_Mo F_Mo 10 ∈ gx_tb := gx_m 460 (by decide +kernel) (by decide +kernel)
theorem la_Mo_11 : u_lay R_Mo F_Mo 11 ∈ gx_tb := gx_m 462 (by decide +kernel) (by decide +kernel)
theorem la_Mo_12 : u_lay R_Mo F_Mo 12 ∈ gx_tb := gx_m 464 (by decide +kernel) (by decide +kernel)
theorem la_Mo_13 : u_lay R_Mo F_Mo 13 ∈ gx_tb := gx_m 466 (by decide +kernel) (by decide +kernel)
theorem la_Mo_14 : u_lay R_Mo F_Mo 14 ∈ gx_tb := gx_m 468 (by decide +kernel) (by decide +kernel)
theorem la_Mo_15 : u_lay R_Mo F_Mo 15 ∈ gx_tb := gx_m 470 (by decide +kernel) (by decide +kernel)
theorem la_Mo : ∀ w ∈ u_ws R_Mo F_Mo (gx_N 5), w ∈ gx_tb := by
  intro w hw
  obtain ⟨k, hk, rfl⟩ := List.mem_map.mp hw
  have hk : k < 16 := List.mem_range.mp hk
  match k, hk with
  | 0, _ => exact la_Mo_0
  | 1, _ => exact la_Mo_1
  | 2, _ => exact la_Mo_2
  | 3, _ => exact la_Mo_3
  | 4, _ => exact la_Mo_4
  | 5, _ => exact la_Mo_5
  | 6, _ => exact la_Mo_6
  | 7, _ => exact la_Mo_7
  | 8, _ => exact la_Mo_8
  | 9, _ => exact la_Mo_9
  | 10, _ => exact la_Mo_10
  | 11, _ => exact la_Mo_11
  | 12, _ => exact la_Mo_12
  | 13, _ => exact la_Mo_13
  | 14, _ => exact la_Mo_14
  | 15, _ => exact la_Mo_15
  | k + 16, h => exact absurd h (by omega)
theorem cl_Mo : gx_Cl gx_tb 5 R_Mo F_Mo t_Mo := ⟨la_Mo, rfl, by decide +kernel, by decide +kernel, by decide +kernel⟩
theorem fl_Bo_9 : Cond.fieldLink R_Bo 9 R_Bo (F_Bo 0).2.1 (F_Bo 0).2.2.1 ∈ gx_tb := gx_m 150 (by decide +kernel) (by decide +kernel)
theorem fl_Bo_15 : Cond.fieldLink R_Bo 15 R_Bo (F_Bo 1).2.1 (F_Bo 1).2.2.1 ∈ gx_tb := gx_m 151 (by decide +kernel) (by decide +kernel)
theorem fl_Bo_23 : Cond.fieldLink R_Bo 23 R_Bo (F_Bo 2).2.1 (F_Bo 2).2.2.1 ∈ gx_tb := gx_m 152 (by decide +kernel) (by decide +kernel)
theorem fl_Bo_30 : Cond.fieldLink R_Bo 30 R_Bo (F_Bo 3).2.1 (F_Bo 3).2.2.1 ∈ gx_tb := gx_m 153 (by decide +kernel) (by decide +kernel)
theorem fl_Bo_34 : Cond.fieldLink R_Bo 34 R_Bo (F_Bo 4).2.1 (F_Bo 4).2.2.1 ∈ gx_tb := gx_m 154 (by decide +kernel) (by decide +kernel)
theorem fl_Bo_38 : Cond.fieldLink R_Bo 38 R_Bo (F_Bo 5).2.1 (F_Bo 5).2.2.1 ∈ gx_tb := gx_m 155 (by decide +kernel) (by decide +kernel)
theorem fl_Bo_60 : Cond.fieldLink R_Bo 60 R_Jb (F_Jb 3).2.1 (F_Jb 3).2.2.1 ∈ gx_tb := gx_m 64 (by decide +kernel) (by decide +kernel)
theorem fl_Bo_65 : Cond.fieldLink R_Bo 65 R_Jb (F_Jb 4).2.1 (F_Jb 4).2.2.1 ∈ gx_tb := gx_m 67 (by decide +kernel) (by decide +kernel)
theorem fl_Bo_68 : Cond.fieldLink R_Bo 68 R_Jb (F_Jb 5).2.1 (F_Jb 5).2.2.1 ∈ gx_tb := gx_m 69 (by decide +kernel) (by decide +kernel)
theorem fl_Bo_83 : Cond.fieldLink R_Bo 83 R_Jb (F_Jb 0).2.1 (F_Jb 0).2.2.1 ∈ gx_tb := gx_m 59 (by decide +kernel) (by decide +kernel)
theorem fl_Bo_94 : Cond.fieldLink R_Bo 94 R_Jb (F_Jb 7).2.1 (F_Jb 7).2.2.1 ∈ gx_tb := gx_m 75 (by decide +kernel) (by decide +kernel)
theorem fl_Bo_97 : Cond.fieldLink R_Bo 97 R_Jb (F_Jb 10).2.1 (F_Jb 10).2.2.1 ∈ gx_tb := gx_m 84 (by decide +kernel) (by decide +kernel)
theorem fl_Bo_100 : Cond.fieldLink R_Bo 100 R_Jb (F_Jb 8).2.1 (F_Jb 8).2.2.1 ∈ gx_tb := gx_m 78 (by decide +kernel) (by decide +kernel)
theorem fl_Bo_103 : Cond.fieldLink R_Bo 103 R_Jb (F_Jb 9).2.1 (F_Jb 9).2.2.1 ∈ gx_tb := gx_m 81 (by decide +kernel) (by decide +kernel)
theorem fl_Bo_130 : Cond.fieldLink R_Bo 130 R_Jb (F_Jb 12).2.1 (F_Jb 12).2.2.1 ∈ gx_tb := gx_m 89 (by decide +kernel) (by decide +kernel)
theorem fl_Bo_143 : Cond.fieldLink R_Bo 143 R_Jb (F_Jb 6).2.1 (F_Jb 6).2.2.1 ∈ gx_tb := gx_m 73 (by decide +kernel) (by decide +kernel)
theorem fl_Bo_166 : Cond.fieldLink R_Bo 166 R_Jb (F_Jb 11).2.1 (F_Jb 11).2.2.1 ∈ gx_tb := gx_m 87 (by decide +kernel) (by decide +kernel)
theorem fl_Bo_179 : Cond.fieldLink R_Bo 179 R_Qu (F_Qu 3).2.1 (F_Qu 3).2.2.1 ∈ gx_tb := gx_m 29 (by decide +kernel) (by decide +kernel)
theorem fl_Bo_182 : Cond.fieldLink R_Bo 182 R_Ro (F_Ro 1).2.1 (F_Ro 1).2.2.1 ∈ gx_tb := gx_m 124 (by decide +kernel) (by decide +kernel)
theorem fl_Bo_185 : Cond.fieldLink R_Bo 185 R_Jn (F_Jn 1).2.1 (F_Jn 1).2.2.1 ∈ gx_tb := gx_m 144 (by decide +kernel) (by decide +kernel)
theorem fl_Bo_194 : Cond.fieldLink R_Bo 194 R_Qu (F_Qu 1).2.1 (F_Qu 1).2.2.1 ∈ gx_tb := gx_m 26 (by decide +kernel) (by decide +kernel)
theorem fl_Bo_197 : Cond.fieldLink R_Bo 197 R_Qu (F_Qu 0).2.1 (F_Qu 0).2.2.1 ∈ gx_tb := gx_m 24 (by decide +kernel) (by decide +kernel)
theorem fl_Jb_15 : Cond.fieldLink R_Jb 15 R_Jb (F_Jb 1).2.1 (F_Jb 1).2.2.1 ∈ gx_tb := gx_m 60 (by decide +kernel) (by decide +kernel)
theorem fl_Jb_18 : Cond.fieldLink R_Jb 18 R_Jb (F_Jb 2).2.1 (F_Jb 2).2.2.1 ∈ gx_tb := gx_m 62 (by decide +kernel) (by decide +kernel)
theorem fl_Jb_21 : Cond.fieldLink R_Jb 21 R_Jb (F_Jb 3).2.1 (F_Jb 3).2.2.1 ∈ gx_tb := gx_m 63 (by decide +kernel) (by decide +kernel)
theorem fl_Jb_24 : Cond.fieldLink R_Jb 24 R_Jb (F_Jb 4).2.1 (F_Jb 4).2.2.1 ∈ gx_tb := gx_m 66 (by decide +kernel) (by decide +kernel)
theorem fl_Jb_27 : Cond.fieldLink R_Jb 27 R_Jb (F_Jb 5).2.1 (F_Jb 5).2.2.1 ∈ gx_tb := gx_m 68 (by decide +kernel) (by decide +kernel)
theorem fl_Jb_30 : Cond.fieldLink R_Jb 30 R_Jb (F_Jb 6).2.1 (F_Jb 6).2.2.1 ∈ gx_tb := gx_m 71 (by decide +kernel) (by decide +kernel)
theorem fl_Jb_33 : Cond.fieldLink R_Jb 33 R_Jb (F_Jb 7).2.1 (F_Jb 7).2.2.1 ∈ gx_tb := gx_m 74 (by decide +kernel) (by decide +kernel)
theorem fl_Jb_36 : Cond.fieldLink R_Jb 36 R_Jb (F_Jb 8).2.1 (F_Jb 8).2.2.1 ∈ gx_tb := gx_m 76 (by decide +kernel) (by decide +kernel)
theorem fl_Jb_39 : Cond.fieldLink R_Jb 39 R_Jb (F_Jb 9).2.1 (F_Jb 9).2.2.1 ∈ gx_tb := gx_m 79 (by decide +kernel) (by decide +kernel)
theorem fl_Jb_43 : Cond.fieldLink R_Jb 43 R_Jb (F_Jb 10).2.1 (F_Jb 10).2.2.1 ∈ gx_tb := gx_m 82 (by decide +kernel) (by decide +kernel)
theorem fl_Jb_46 : Cond.fieldLink R_Jb 46 R_Jb (F_Jb 11).2.1 (F_Jb 11).2.2.1 ∈ gx_tb := gx_m 85 (by decide +kernel) (by decide +kernel)
theorem fl_Jb_49 : Cond.fieldLink R_Jb 49 R_Jb (F_Jb 12).2.1 (F_Jb 12).2.2.1 ∈ gx_tb := gx_m 88 (by decide +kernel) (by decide +kernel)
theorem fl_Jb_52 : Cond.fieldLink R_Jb 52 R_Jb (F_Jb 13).2.1 (F_Jb 13).2.2.1 ∈ gx_tb := gx_m 91 (by decide +kernel) (by decide +kernel)
theorem fl_Jn_11 : Cond.fieldLink R_Jn 11 R_Jn (F_Jn 0).2.1 (F_Jn 0).2.2.1 ∈ gx_tb := gx_m 142 (by decide +kernel) (by decide +kernel)
theorem fl_Jn_18 : Cond.fieldLink R_Jn 18 R_Jn (F_Jn 1).2.1 (F_Jn 1).2.2.1 ∈ gx_tb := gx_m 143 (by decide +kernel) (by decide +kernel)
theorem fl_Qu_7 : Cond.fieldLink R_Qu 7 R_Qu (F_Qu 0).2.1 (F_Qu 0).2.2.1 ∈ gx_tb := gx_m 23 (by decide +kernel) (by decide +kernel)
theorem fl_Qu_13 : Cond.fieldLink R_Qu 13 R_Qu (F_Qu 4).2.1 (F_Qu 4).2.2.1 ∈ gx_tb := gx_m 30 (by decide +kernel) (by decide +kernel)
theorem fl_Qu_16 : Cond.fieldLink R_Qu 16 R_Qu (F_Qu 2).2.1 (F_Qu 2).2.2.1 ∈ gx_tb := gx_m 27 (by decide +kernel) (by decide +kernel)
theorem fl_Qu_19 : Cond.fieldLink R_Qu 19 R_Qu (F_Qu 5).2.1 (F_Qu 5).2.2.1 ∈ gx_tb := gx_m 31 (by decide +kernel) (by decide +kernel)
theorem fl_Qu_25 : Cond.fieldLink R_Qu 25 R_Qu (F_Qu 1).2.1 (F_Qu 1).2.2.1 ∈ gx_tb := gx_m 25 (by decide +kernel) (by decide +kernel)
theorem fl_Qu_28 : Cond.fieldLink R_Qu 28 R_Qu (F_Qu 3).2.1 (F_Qu 3).2.2.1 ∈ gx_tb := gx_m 28 (by decide +kernel) (by decide +kernel)
theorem fl_Ro_11 : Cond.fieldLink R_Ro 11 R_Ro (F_Ro 0).2.1 (F_Ro 0).2.2.1 ∈ gx_tb := gx_m 122 (by decide +kernel) (by decide +kernel)
theorem fl_Ro_20 : Cond.fieldLink R_Ro 20 R_Ro (F_Ro 1).2.1 (F_Ro 1).2.2.1 ∈ gx_tb := gx_m 123 (by decide +kernel) (by decide +kernel)
theorem fl_Ro_24 : Cond.fieldLink R_Ro 24 R_Ro (F_Ro 2).2.1 (F_Ro 2).2.2.1 ∈ gx_tb := gx_m 125 (by decide +kernel) (by decide +kernel)
theorem fl_Ro_35 : Cond.fieldLink R_Ro 35 R_Jb (F_Jb 10).2.1 (F_Jb 10).2.2.1 ∈ gx_tb := gx_m 83 (by decide +kernel) (by decide +kernel)
theorem fl_Ro_38 : Cond.fieldLink R_Ro 38 R_Jb (F_Jb 13).2.1 (F_Jb 13).2.2.1 ∈ gx_tb := gx_m 92 (by decide +kernel) (by decide +kernel)
theorem fl_Ro_41 : Cond.fieldLink R_Ro 41 R_Jb (F_Jb 9).2.1 (F_Jb 9).2.2.1 ∈ gx_tb := gx_m 80 (by decide +kernel) (by decide +kernel)
theorem fl_Ro_45 : Cond.fieldLink R_Ro 45 R_Jb (F_Jb 8).2.1 (F_Jb 8).2.2.1 ∈ gx_tb := gx_m 77 (by decide +kernel) (by decide +kernel)
theorem fl_Ro_52 : Cond.fieldLink R_Ro 52 R_Jb (F_Jb 6).2.1 (F_Jb 6).2.2.1 ∈ gx_tb := gx_m 72 (by decide +kernel) (by decide +kernel)
theorem fl_Ro_55 : Cond.fieldLink R_Ro 55 R_Jb (F_Jb 3).2.1 (F_Jb 3).2.2.1 ∈ gx_tb := gx_m 65 (by decide +kernel) (by decide +kernel)
theorem fl_Ro_87 : Cond.fieldLink R_Ro 87 R_Jb (F_Jb 11).2.1 (F_Jb 11).2.2.1 ∈ gx_tb := gx_m 86 (by decide +kernel) (by decide +kernel)
theorem fl_Ro_90 : Cond.fieldLink R_Ro 90 R_Jb (F_Jb 5).2.1 (F_Jb 5).2.2.1 ∈ gx_tb := gx_m 70 (by decide +kernel) (by decide +kernel)
theorem fl_Ro_96 : Cond.fieldLink R_Ro 96 R_Jb (F_Jb 12).2.1 (F_Jb 12).2.2.1 ∈ gx_tb := gx_m 90 (by decide +kernel) (by decide +kernel)
theorem fl_Ro_103 : Cond.fieldLink R_Ro 103 R_Jb (F_Jb 1).2.1 (F_Jb 1).2.2.1 ∈ gx_tb := gx_m 61 (by decide +kernel) (by decide +kernel)
theorem fl_Mo_7 : Cond.fieldLink R_Mo 7 R_Mo (F_Mo 1).2.1 (F_Mo 1).2.2.1 ∈ gx_tb := gx_m 425 (by decide +kernel) (by decide +kernel)
theorem fl_Mo_13 : Cond.fieldLink R_Mo 13 R_Mo (F_Mo 2).2.1 (F_Mo 2).2.2.1 ∈ gx_tb := gx_m 426 (by decide +kernel) (by decide +kernel)
theorem fl_Mo_17 : Cond.fieldLink R_Mo 17 R_Mo (F_Mo 3).2.1 (F_Mo 3).2.2.1 ∈ gx_tb := gx_m 427 (by decide +kernel) (by decide +kernel)
theorem fl_Mo_20 : Cond.fieldLink R_Mo 20 R_Mo (F_Mo 4).2.1 (F_Mo 4).2.2.1 ∈ gx_tb := gx_m 428 (by decide +kernel) (by decide +kernel)
theorem fl_Mo_23 : Cond.fieldLink R_Mo 23 R_Mo (F_Mo 5).2.1 (F_Mo 5).2.2.1 ∈ gx_tb := gx_m 429 (by decide +kernel) (by decide +kernel)
theorem fl_Mo_26 : Cond.fieldLink R_Mo 26 R_Mo (F_Mo 6).2.1 (F_Mo 6).2.2.1 ∈ gx_tb := gx_m 430 (by decide +kernel) (by decide +kernel)
theorem fl_Mo_29 : Cond.fieldLink R_Mo 29 R_Mo (F_Mo 7).2.1 (F_Mo 7).2.2.1 ∈ gx_tb := gx_m 431 (by decide +kernel) (by decide +kernel)
theorem fl_Mo_32 : Cond.fieldLink R_Mo 32 R_Mo (F_Mo 8).2.1 (F_Mo 8).2.2.1 ∈ gx_tb := gx_m 432 (by decide +kernel) (by decide +kernel)
theorem fl_Mo_35 : Cond.fieldLink R_Mo 35 R_Mo (F_Mo 9).2.1 (F_Mo 9).2.2.1 ∈ gx_tb := gx_m 433 (by decide +kernel) (by decide +kernel)
theorem fl_Mo_38 : Cond.fieldLink R_Mo 38 R_Mo (F_Mo 10).2.1 (F_Mo 10).2.2.1 ∈ gx_tb := gx_m 434 (by decide +kernel) (by decide +kernel)
theorem fl_Mo_41 : Cond.fieldLink R_Mo 41 R_Mo (F_Mo 11).2.1 (F_Mo 11).2.2.1 ∈ gx_tb := gx_m 435 (by decide +kernel) (by decide +kernel)
theorem fl_Mo_44 : Cond.fieldLink R_Mo 44 R_Mo (F_Mo 12).2.1 (F_Mo 12).2.2.1 ∈ gx_tb := gx_m 436 (by decide +kernel) (by decide +kernel)
theorem fl_Mo_47 : Cond.fieldLink R_Mo 47 R_Mo (F_Mo 13).2.1 (F_Mo 13).2.2.1 ∈ gx_tb := gx_m 437 (by decide +kernel) (by decide +kernel)
theorem fl_Mo_50 : Cond.fieldLink R_Mo 50 R_Mo (F_Mo 14).2.1 (F_Mo 14).2.2.1 ∈ gx_tb := gx_m 438 (by decide +kernel) (by decide +kernel)
theorem fl_Mo_53 : Cond.fieldLink R_Mo 53 R_Mo (F_Mo 15).2.1 (F_Mo 15).2.2.1 ∈ gx_tb := gx_m 439 (by decide +kernel) (by decide +kernel)
theorem fl_Mo_57 : Cond.fieldLink R_Mo 57 R_Mo (F_Mo 0).2.1 (F_Mo 0).2.2.1 ∈ gx_tb := gx_m 424 (by decide +kernel) (by decide +kernel)
abbrev rm_Jb_isLive : Room := { frames := 0, cells := 0, slots := 0, locals := 0 }
def w_Jb_isLive : List Cond := .code y_Jb_isLive b_Jb_isLive 1 (some .boolean) :: gx_tb
abbrev rm_Jb_isTimed : Room := { frames := 0, cells := 0, slots := 0, locals := 0 }
def w_Jb_isTimed : List Cond := .code y_Jb_isTimed b_Jb_isTimed 1 (some .boolean) :: gx_tb
abbrev rm_Jb_waitUntil : Room := { frames := 0, cells := 0, slots := 0, locals := 0 }
def w_Jb_waitUntil : List Cond := .code y_Jb_waitUntil b_Jb_waitUntil 3 none :: gx_tb
abbrev rm_Jb_retryDelay : Room := { frames := 1, cells := 0, slots := 0, locals := 21 }
def w_Jb_retryDelay : List Cond := .code y_Jb_retryDelay b_Jb_retryDelay 1 (some .int) :: gx_tb
abbrev rm_Jb_standsBefore : Room := { frames := 0, cells := 0, slots := 0, locals := 0 }
def w_Jb_standsBefore : List Cond := .code y_Jb_standsBefore b_Jb_standsBefore 2 (some .boolean) :: gx_tb
abbrev rm_Jb_begin : Room := { frames := 0, cells := 0, slots := 0, locals := 0 }
def w_Jb_begin : List Cond := .code y_Jb_begin b_Jb_begin 3 none :: gx_tb
abbrev rm_Jb_copyFrom : Room := { frames := 0, cells := 0, slots := 0, locals := 0 }
def w_Jb_copyFrom : List Cond := .code y_Jb_copyFrom b_Jb_copyFrom 2 none :: gx_tb
abbrev rm_Qu_restart : Room := { frames := 0, cells := 0, slots := 0, locals := 0 }
def w_Qu_restart : List Cond := .code y_Qu_restart b_Qu_restart 1 none :: gx_tb
abbrev rm_Qu_set : Room := { frames := 1, cells := 0, slots := 0, locals := 20 }
def w_Qu_set : List Cond := .code y_Qu_set b_Qu_set 5 none :: gx_tb
abbrev rm_Qu_canGive : Room := { frames := 0, cells := 0, slots := 0, locals := 0 }
def w_Qu_canGive : List Cond := .code y_Qu_canGive b_Qu_canGive 1 (some .boolean) :: gx_tb
abbrev rm_Qu_spendToken : Room := { frames := 0, cells := 0, slots := 0, locals := 0 }
def w_Qu_spendToken : List Cond := .code y_Qu_spendToken b_Qu_spendToken 1 none :: gx_tb
abbrev rm_Qu_refillBetween : Room := { frames := 1, cells := 0, slots := 0, locals := 21 }
def w_Qu_refillBetween : List Cond := .code y_Qu_refillBetween b_Qu_refillBetween 4 none :: gx_tb
abbrev rm_Ro_copyFrom : Room := { frames := 1, cells := 0, slots := 0, locals := 21 }
def w_Ro_copyFrom : List Cond := .code y_Ro_copyFrom b_Ro_copyFrom 3 none :: gx_tb
abbrev rm_Ro_find : Room := { frames := 0, cells := 0, slots := 0, locals := 0 }
def w_Ro_find : List Cond := .code y_Ro_find b_Ro_find 2 (some (.object R_Jb)) :: gx_tb
abbrev rm_Ro_make : Room := { frames := 1, cells := 0, slots := 0, locals := 22 }
def w_Ro_make : List Cond := .code y_Ro_make b_Ro_make 4 (some (.object R_Jb)) :: gx_tb
abbrev rm_Ro_enter : Room := { frames := 0, cells := 0, slots := 0, locals := 0 }
def w_Ro_enter : List Cond := .code y_Ro_enter b_Ro_enter 3 none :: gx_tb
abbrev rm_Ro_releaseIfComplete : Room := { frames := 1, cells := 0, slots := 0, locals := 22 }
def w_Ro_releaseIfComplete : List Cond := .code y_Ro_releaseIfComplete b_Ro_releaseIfComplete 2 none :: gx_tb
abbrev rm_Ro_releaseReserved : Room := { frames := 1, cells := 0, slots := 0, locals := 22 }
def w_Ro_releaseReserved : List Cond := .code y_Ro_releaseReserved b_Ro_releaseReserved 2 none :: gx_tb
abbrev rm_Ro_countIn : Room := { frames := 0, cells := 0, slots := 0, locals := 0 }
def w_Ro_countIn : List Cond := .code y_Ro_countIn b_Ro_countIn 4 (some .int) :: gx_tb
abbrev rm_Ro_oldestDead : Room := { frames := 0, cells := 0, slots := 0, locals := 0 }
def w_Ro_oldestDead : List Cond := .code y_Ro_oldestDead b_Ro_oldestDead 3 (some (.object R_Jb)) :: gx_tb
abbrev rm_Ro_bury : Room := { frames := 1, cells := 0, slots := 0, locals := 23 }
def w_Ro_bury : List Cond := .code y_Ro_bury b_Ro_bury 3 none :: gx_tb
abbrev rm_Ro_failReserved : Room := { frames := 2, cells := 0, slots := 0, locals := 45 }
def w_Ro_failReserved : List Cond := .code y_Ro_failReserved b_Ro_failReserved 3 none :: gx_tb
abbrev rm_Ro_nextDue : Room := { frames := 1, cells := 0, slots := 0, locals := 20 }
def w_Ro_nextDue : List Cond := .code y_Ro_nextDue b_Ro_nextDue 5 (some (.object R_Jb)) :: gx_tb
abbrev rm_Ro_settleDue : Room := { frames := 3, cells := 0, slots := 0, locals := 67 }
def w_Ro_settleDue : List Cond := .code y_Ro_settleDue b_Ro_settleDue 4 (some .int) :: gx_tb
abbrev rm_Ro_hasLiveKey : Room := { frames := 1, cells := 0, slots := 0, locals := 20 }
def w_Ro_hasLiveKey : List Cond := .code y_Ro_hasLiveKey b_Ro_hasLiveKey 3 (some .boolean) :: gx_tb
abbrev rm_Ro_reservedBy : Room := { frames := 0, cells := 0, slots := 0, locals := 0 }
def w_Ro_reservedBy : List Cond := .code y_Ro_reservedBy b_Ro_reservedBy 3 (some (.object R_Jb)) :: gx_tb
abbrev rm_Ro_nextInLine : Room := { frames := 1, cells := 0, slots := 0, locals := 21 }
def w_Ro_nextInLine : List Cond := .code y_Ro_nextInLine b_Ro_nextInLine 6 (some (.object R_Jb)) :: gx_tb
abbrev rm_Ro_inLine : Room := { frames := 2, cells := 0, slots := 0, locals := 46 }
def w_Ro_inLine : List Cond := .code y_Ro_inLine b_Ro_inLine 5 (some (.object R_Jb)) :: gx_tb
abbrev rm_Jn_flushAll : Room := { frames := 2, cells := 0, slots := 0, locals := 43 }
def w_Jn_flushAll : List Cond := .code y_Jn_flushAll b_Jn_flushAll 3 (some .int) :: gx_tb
abbrev rm_Jn_write : Room := { frames := 3, cells := 0, slots := 0, locals := 65 }
def w_Jn_write : List Cond := .code y_Jn_write b_Jn_write 2 none :: gx_tb
abbrev rm_Jn_restore : Room := { frames := 2, cells := 0, slots := 0, locals := 43 }
def w_Jn_restore : List Cond := .code y_Jn_restore b_Jn_restore 4 (some .int) :: gx_tb
abbrev rm_Bo_within : Room := { frames := 0, cells := 0, slots := 0, locals := 0 }
def w_Bo_within : List Cond := .code y_Bo_within b_Bo_within 3 (some .boolean) :: gx_tb
abbrev rm_Bo_isQueue : Room := { frames := 1, cells := 0, slots := 0, locals := 22 }
def w_Bo_isQueue : List Cond := .code y_Bo_isQueue b_Bo_isQueue 1 (some .boolean) :: gx_tb
abbrev rm_Bo_isWorker : Room := { frames := 1, cells := 0, slots := 0, locals := 22 }
def w_Bo_isWorker : List Cond := .code y_Bo_isWorker b_Bo_isWorker 1 (some .boolean) :: gx_tb
abbrev rm_Bo_numberOrNone : Room := { frames := 0, cells := 0, slots := 0, locals := 0 }
def w_Bo_numberOrNone : List Cond := .code y_Bo_numberOrNone b_Bo_numberOrNone 1 (some .int) :: gx_tb
abbrev rm_Bo_isOpen : Room := { frames := 2, cells := 0, slots := 0, locals := 46 }
def w_Bo_isOpen : List Cond := .code y_Bo_isOpen b_Bo_isOpen 2 (some .boolean) :: gx_tb
abbrev rm_Bo_firstOpenQueue : Room := { frames := 3, cells := 0, slots := 0, locals := 67 }
def w_Bo_firstOpenQueue : List Cond := .code y_Bo_firstOpenQueue b_Bo_firstOpenQueue 2 (some .int) :: gx_tb
abbrev rm_Bo_openQueueByCredit : Room := { frames := 3, cells := 0, slots := 0, locals := 67 }
def w_Bo_openQueueByCredit : List Cond := .code y_Bo_openQueueByCredit b_Bo_openQueueByCredit 4 (some .int) :: gx_tb
abbrev rm_Bo_queue : Room := { frames := 2, cells := 0, slots := 0, locals := 44 }
def w_Bo_queue : List Cond := .code y_Bo_queue b_Bo_queue 5 (some .int) :: gx_tb
abbrev rm_Bo_key : Room := { frames := 1, cells := 0, slots := 0, locals := 22 }
def w_Bo_key : List Cond := .code y_Bo_key b_Bo_key 2 (some .int) :: gx_tb
abbrev rm_Bo_submit : Room := { frames := 4, cells := 0, slots := 0, locals := 86 }
def w_Bo_submit : List Cond := .code y_Bo_submit b_Bo_submit 7 (some .int) :: gx_tb
abbrev rm_Bo_hold : Room := { frames := 4, cells := 0, slots := 0, locals := 86 }
def w_Bo_hold : List Cond := .code y_Bo_hold b_Bo_hold 4 (some .int) :: gx_tb
abbrev rm_Bo_join : Room := { frames := 4, cells := 0, slots := 0, locals := 86 }
def w_Bo_join : List Cond := .code y_Bo_join b_Bo_join 5 (some .int) :: gx_tb
abbrev rm_Bo_seal : Room := { frames := 4, cells := 0, slots := 0, locals := 86 }
def w_Bo_seal : List Cond := .code y_Bo_seal b_Bo_seal 3 (some .int) :: gx_tb
abbrev rm_Bo_take : Room := { frames := 4, cells := 0, slots := 0, locals := 90 }
def w_Bo_take : List Cond := .code y_Bo_take b_Bo_take 5 (some .int) :: gx_tb
abbrev rm_Bo_ack : Room := { frames := 4, cells := 0, slots := 0, locals := 86 }
def w_Bo_ack : List Cond := .code y_Bo_ack b_Bo_ack 4 (some .int) :: gx_tb
abbrev rm_Bo_fail : Room := { frames := 4, cells := 0, slots := 0, locals := 86 }
def w_Bo_fail : List Cond := .code y_Bo_fail b_Bo_fail 3 (some .int) :: gx_tb
abbrev rm_Bo_tick : Room := { frames := 4, cells := 0, slots := 0, locals := 90 }
def w_Bo_tick : List Cond := .code y_Bo_tick b_Bo_tick 3 (some .int) :: gx_tb
abbrev rm_Bo_revive : Room := { frames := 4, cells := 0, slots := 0, locals := 86 }
def w_Bo_revive : List Cond := .code y_Bo_revive b_Bo_revive 3 (some .int) :: gx_tb
abbrev rm_Bo_kill : Room := { frames := 4, cells := 0, slots := 0, locals := 86 }
def w_Bo_kill : List Cond := .code y_Bo_kill b_Bo_kill 3 (some .int) :: gx_tb
abbrev rm_Bo_flush : Room := { frames := 3, cells := 0, slots := 0, locals := 65 }
def w_Bo_flush : List Cond := .code y_Bo_flush b_Bo_flush 1 (some .int) :: gx_tb
abbrev rm_Bo_crash : Room := { frames := 4, cells := 0, slots := 0, locals := 90 }
def w_Bo_crash : List Cond := .code y_Bo_crash b_Bo_crash 4 (some .int) :: gx_tb
abbrev rm_Bo_state : Room := { frames := 1, cells := 0, slots := 0, locals := 21 }
def w_Bo_state : List Cond := .code y_Bo_state b_Bo_state 3 (some .int) :: gx_tb
abbrev rm_Bo_failures : Room := { frames := 1, cells := 0, slots := 0, locals := 21 }
def w_Bo_failures : List Cond := .code y_Bo_failures b_Bo_failures 3 (some .int) :: gx_tb
abbrev rm_Bo_due : Room := { frames := 1, cells := 0, slots := 0, locals := 21 }
def w_Bo_due : List Cond := .code y_Bo_due b_Bo_due 3 (some .int) :: gx_tb
abbrev rm_Bo_holding : Room := { frames := 2, cells := 0, slots := 0, locals := 42 }
def w_Bo_holding : List Cond := .code y_Bo_holding b_Bo_holding 2 (some .int) :: gx_tb
abbrev rm_Bo_line : Room := { frames := 3, cells := 0, slots := 0, locals := 70 }
def w_Bo_line : List Cond := .code y_Bo_line b_Bo_line 3 (some .int) :: gx_tb
abbrev rm_Bo_count : Room := { frames := 1, cells := 0, slots := 0, locals := 23 }
def w_Bo_count : List Cond := .code y_Bo_count b_Bo_count 2 (some .int) :: gx_tb
abbrev rm_Mo_out : Room := { frames := 0, cells := 0, slots := 0, locals := 0 }
def w_Mo_out : List Cond := .code y_Mo_out b_Mo_out 4 (some .boolean) :: gx_tb
abbrev rm_Mo_no : Room := { frames := 0, cells := 0, slots := 0, locals := 0 }
def w_Mo_no : List Cond := .code y_Mo_no b_Mo_no 2 (some .boolean) :: gx_tb
abbrev rm_Mo_of : Room := { frames := 0, cells := 0, slots := 0, locals := 0 }
def w_Mo_of : List Cond := .code y_Mo_of b_Mo_of 3 (some .int) :: gx_tb
abbrev rm_Mo_set : Room := { frames := 0, cells := 0, slots := 0, locals := 0 }
def w_Mo_set : List Cond := .code y_Mo_set b_Mo_set 4 none :: gx_tb
abbrev rm_Mo_store : Room := { frames := 0, cells := 0, slots := 0, locals := 0 }
def w_Mo_store : List Cond := .code y_Mo_store b_Mo_store 3 none :: gx_tb
abbrev rm_Mo_note : Room := { frames := 1, cells := 0, slots := 0, locals := 22 }
def w_Mo_note : List Cond := .code y_Mo_note b_Mo_note 1 none :: gx_tb
abbrev rm_Mo_flush : Room := { frames := 1, cells := 0, slots := 0, locals := 22 }
def w_Mo_flush : List Cond := .code y_Mo_flush b_Mo_flush 2 (some .int) :: gx_tb
abbrev rm_Mo_isLive : Room := { frames := 1, cells := 0, slots := 0, locals := 22 }
def w_Mo_isLive : List Cond := .code y_Mo_isLive b_Mo_isLive 3 (some .boolean) :: gx_tb
abbrev rm_Mo_ready : Room := { frames := 1, cells := 0, slots := 0, locals := 23 }
def w_Mo_ready : List Cond := .code y_Mo_ready b_Mo_ready 2 none :: gx_tb
abbrev rm_Mo_die : Room := { frames := 1, cells := 0, slots := 0, locals := 23 }
def w_Mo_die : List Cond := .code y_Mo_die b_Mo_die 5 none :: gx_tb
abbrev rm_Mo_failing : Room := { frames := 2, cells := 0, slots := 0, locals := 47 }
def w_Mo_failing : List Cond := .code y_Mo_failing b_Mo_failing 4 none :: gx_tb
abbrev rm_Mo_keyTaken : Room := { frames := 2, cells := 0, slots := 0, locals := 44 }
def w_Mo_keyTaken : List Cond := .code y_Mo_keyTaken b_Mo_keyTaken 3 (some .boolean) :: gx_tb
abbrev rm_Mo_make : Room := { frames := 1, cells := 0, slots := 0, locals := 23 }
def w_Mo_make : List Cond := .code y_Mo_make b_Mo_make 8 (some .int) :: gx_tb
abbrev rm_Mo_queue : Room := { frames := 1, cells := 0, slots := 0, locals := 23 }
def w_Mo_queue : List Cond := .code y_Mo_queue b_Mo_queue 5 (some .int) :: gx_tb
abbrev rm_Mo_key : Room := { frames := 1, cells := 0, slots := 0, locals := 23 }
def w_Mo_key : List Cond := .code y_Mo_key b_Mo_key 2 (some .int) :: gx_tb
abbrev rm_Mo_submit : Room := { frames := 3, cells := 0, slots := 0, locals := 66 }
def w_Mo_submit : List Cond := .code y_Mo_submit b_Mo_submit 7 (some .int) :: gx_tb
abbrev rm_Mo_hold : Room := { frames := 2, cells := 0, slots := 0, locals := 50 }
def w_Mo_hold : List Cond := .code y_Mo_hold b_Mo_hold 4 (some .int) :: gx_tb
abbrev rm_Mo_join : Room := { frames := 2, cells := 0, slots := 0, locals := 44 }
def w_Mo_join : List Cond := .code y_Mo_join b_Mo_join 3 (some .int) :: gx_tb
abbrev rm_Mo_seal : Room := { frames := 2, cells := 0, slots := 0, locals := 44 }
def w_Mo_seal : List Cond := .code y_Mo_seal b_Mo_seal 2 (some .int) :: gx_tb
abbrev rm_Mo_goesBefore : Room := { frames := 1, cells := 0, slots := 0, locals := 22 }
def w_Mo_goesBefore : List Cond := .code y_Mo_goesBefore b_Mo_goesBefore 3 (some .boolean) :: gx_tb
abbrev rm_Mo_inLine : Room := { frames := 2, cells := 0, slots := 0, locals := 44 }
def w_Mo_inLine : List Cond := .code y_Mo_inLine b_Mo_inLine 6 (some .int) :: gx_tb
abbrev rm_Mo_isOpen : Room := { frames := 3, cells := 0, slots := 0, locals := 69 }
def w_Mo_isOpen : List Cond := .code y_Mo_isOpen b_Mo_isOpen 2 (some .boolean) :: gx_tb
abbrev rm_Mo_choose : Room := { frames := 4, cells := 0, slots := 0, locals := 90 }
def w_Mo_choose : List Cond := .code y_Mo_choose b_Mo_choose 4 (some .int) :: gx_tb
abbrev rm_Mo_holding : Room := { frames := 1, cells := 0, slots := 0, locals := 23 }
def w_Mo_holding : List Cond := .code y_Mo_holding b_Mo_holding 3 (some .int) :: gx_tb
abbrev rm_Mo_take : Room := { frames := 5, cells := 0, slots := 0, locals := 113 }
def w_Mo_take : List Cond := .code y_Mo_take b_Mo_take 5 (some .int) :: gx_tb
abbrev rm_Mo_ack : Room := { frames := 2, cells := 0, slots := 0, locals := 45 }
def w_Mo_ack : List Cond := .code y_Mo_ack b_Mo_ack 4 (some .int) :: gx_tb
abbrev rm_Mo_fail : Room := { frames := 3, cells := 0, slots := 0, locals := 70 }
def w_Mo_fail : List Cond := .code y_Mo_fail b_Mo_fail 3 (some .int) :: gx_tb
abbrev rm_Mo_wake : Room := { frames := 3, cells := 0, slots := 0, locals := 70 }
def w_Mo_wake : List Cond := .code y_Mo_wake b_Mo_wake 8 (some .int) :: gx_tb
abbrev rm_Mo_tick : Room := { frames := 4, cells := 0, slots := 0, locals := 97 }
def w_Mo_tick : List Cond := .code y_Mo_tick b_Mo_tick 4 (some .int) :: gx_tb
abbrev rm_Mo_revive : Room := { frames := 3, cells := 0, slots := 0, locals := 66 }
def w_Mo_revive : List Cond := .code y_Mo_revive b_Mo_revive 2 (some .int) :: gx_tb
abbrev rm_Mo_kill : Room := { frames := 2, cells := 0, slots := 0, locals := 47 }
def w_Mo_kill : List Cond := .code y_Mo_kill b_Mo_kill 3 (some .int) :: gx_tb
abbrev rm_Mo_crash : Room := { frames := 4, cells := 0, slots := 0, locals := 97 }
def w_Mo_crash : List Cond := .code y_Mo_crash b_Mo_crash 5 (some .int) :: gx_tb
abbrev rm_Mo_state : Room := { frames := 1, cells := 0, slots := 0, locals := 22 }
def w_Mo_state : List Cond := .code y_Mo_state b_Mo_state 2 (some .int) :: gx_tb
abbrev rm_Mo_failures : Room := { frames := 1, cells := 0, slots := 0, locals := 22 }
def w_Mo_failures : List Cond := .code y_Mo_failures b_Mo_failures 2 (some .int) :: gx_tb
abbrev rm_Mo_due : Room := { frames := 1, cells := 0, slots := 0, locals := 22 }
def w_Mo_due : List Cond := .code y_Mo_due b_Mo_due 3 (some .int) :: gx_tb
abbrev rm_Mo_line : Room := { frames := 3, cells := 0, slots := 0, locals := 69 }
def w_Mo_line : List Cond := .code y_Mo_line b_Mo_line 4 (some .int) :: gx_tb
abbrev rm_Mo_count : Room := { frames := 1, cells := 0, slots := 0, locals := 23 }
def w_Mo_count : List Cond := .code y_Mo_count b_Mo_count 4 (some .int) :: gx_tb
theorem co_Jb_isLive : Cond.code y_Jb_isLive b_Jb_isLive 1 (some .boolean) ∈ gx_tb := gx_m 202 (by decide +kernel) (by decide +kernel)
theorem co_Jb_isTimed : Cond.code y_Jb_isTimed b_Jb_isTimed 1 (some .boolean) ∈ gx_tb := gx_m 348 (by decide +kernel) (by decide +kernel)
theorem co_Jb_waitUntil : Cond.code y_Jb_waitUntil b_Jb_waitUntil 3 none ∈ gx_tb := gx_m 218 (by decide +kernel) (by decide +kernel)
theorem co_Jb_retryDelay : Cond.code y_Jb_retryDelay b_Jb_retryDelay 1 (some .int) ∈ gx_tb := gx_m 323 (by decide +kernel) (by decide +kernel)
theorem co_Jb_standsBefore : Cond.code y_Jb_standsBefore b_Jb_standsBefore 2 (some .boolean) ∈ gx_tb := gx_m 287 (by decide +kernel) (by decide +kernel)
theorem co_Jb_begin : Cond.code y_Jb_begin b_Jb_begin 3 none ∈ gx_tb := gx_m 210 (by decide +kernel) (by decide +kernel)
theorem co_Jb_copyFrom : Cond.code y_Jb_copyFrom b_Jb_copyFrom 2 none ∈ gx_tb := gx_m 234 (by decide +kernel) (by decide +kernel)
theorem co_Qu_restart : Cond.code y_Qu_restart b_Qu_restart 1 none ∈ gx_tb := gx_m 186 (by decide +kernel) (by decide +kernel)
theorem co_Qu_set : Cond.code y_Qu_set b_Qu_set 5 none ∈ gx_tb := gx_m 182 (by decide +kernel) (by decide +kernel)
theorem co_Qu_canGive : Cond.code y_Qu_canGive b_Qu_canGive 1 (some .boolean) ∈ gx_tb := gx_m 279 (by decide +kernel) (by decide +kernel)
theorem co_Qu_spendToken : Cond.code y_Qu_spendToken b_Qu_spendToken 1 none ∈ gx_tb := gx_m 295 (by decide +kernel) (by decide +kernel)
theorem co_Qu_refillBetween : Cond.code y_Qu_refillBetween b_Qu_refillBetween 4 none ∈ gx_tb := gx_m 335 (by decide +kernel) (by decide +kernel)
theorem co_Ro_copyFrom : Cond.code y_Ro_copyFrom b_Ro_copyFrom 3 none ∈ gx_tb := gx_m 230 (by decide +kernel) (by decide +kernel)
theorem co_Ro_find : Cond.code y_Ro_find b_Ro_find 2 (some (.object R_Jb)) ∈ gx_tb := gx_m 246 (by decide +kernel) (by decide +kernel)
theorem co_Ro_make : Cond.code y_Ro_make b_Ro_make 4 (some (.object R_Jb)) ∈ gx_tb := gx_m 206 (by decide +kernel) (by decide +kernel)
theorem co_Ro_enter : Cond.code y_Ro_enter b_Ro_enter 3 none ∈ gx_tb := gx_m 214 (by decide +kernel) (by decide +kernel)
theorem co_Ro_releaseIfComplete : Cond.code y_Ro_releaseIfComplete b_Ro_releaseIfComplete 2 none ∈ gx_tb := gx_m 255 (by decide +kernel) (by decide +kernel)
theorem co_Ro_releaseReserved : Cond.code y_Ro_releaseReserved b_Ro_releaseReserved 2 none ∈ gx_tb := gx_m 379 (by decide +kernel) (by decide +kernel)
theorem co_Ro_countIn : Cond.code y_Ro_countIn b_Ro_countIn 4 (some .int) ∈ gx_tb := gx_m 319 (by decide +kernel) (by decide +kernel)
theorem co_Ro_oldestDead : Cond.code y_Ro_oldestDead b_Ro_oldestDead 3 (some (.object R_Jb)) ∈ gx_tb := gx_m 315 (by decide +kernel) (by decide +kernel)
theorem co_Ro_bury : Cond.code y_Ro_bury b_Ro_bury 3 none ∈ gx_tb := gx_m 311 (by decide +kernel) (by decide +kernel)
theorem co_Ro_failReserved : Cond.code y_Ro_failReserved b_Ro_failReserved 3 none ∈ gx_tb := gx_m 307 (by decide +kernel) (by decide +kernel)
theorem co_Ro_nextDue : Cond.code y_Ro_nextDue b_Ro_nextDue 5 (some (.object R_Jb)) ∈ gx_tb := gx_m 344 (by decide +kernel) (by decide +kernel)
theorem co_Ro_settleDue : Cond.code y_Ro_settleDue b_Ro_settleDue 4 (some .int) ∈ gx_tb := gx_m 340 (by decide +kernel) (by decide +kernel)
theorem co_Ro_hasLiveKey : Cond.code y_Ro_hasLiveKey b_Ro_hasLiveKey 3 (some .boolean) ∈ gx_tb := gx_m 198 (by decide +kernel) (by decide +kernel)
theorem co_Ro_reservedBy : Cond.code y_Ro_reservedBy b_Ro_reservedBy 3 (some (.object R_Jb)) ∈ gx_tb := gx_m 267 (by decide +kernel) (by decide +kernel)
theorem co_Ro_nextInLine : Cond.code y_Ro_nextInLine b_Ro_nextInLine 6 (some (.object R_Jb)) ∈ gx_tb := gx_m 283 (by decide +kernel) (by decide +kernel)
theorem co_Ro_inLine : Cond.code y_Ro_inLine b_Ro_inLine 5 (some (.object R_Jb)) ∈ gx_tb := gx_m 408 (by decide +kernel) (by decide +kernel)
theorem co_Jn_flushAll : Cond.code y_Jn_flushAll b_Jn_flushAll 3 (some .int) ∈ gx_tb := gx_m 226 (by decide +kernel) (by decide +kernel)
theorem co_Jn_write : Cond.code y_Jn_write b_Jn_write 2 none ∈ gx_tb := gx_m 222 (by decide +kernel) (by decide +kernel)
theorem co_Jn_restore : Cond.code y_Jn_restore b_Jn_restore 4 (some .int) ∈ gx_tb := gx_m 371 (by decide +kernel) (by decide +kernel)
theorem co_Bo_within : Cond.code y_Bo_within b_Bo_within 3 (some .boolean) ∈ gx_tb := gx_m 178 (by decide +kernel) (by decide +kernel)
theorem co_Bo_isQueue : Cond.code y_Bo_isQueue b_Bo_isQueue 1 (some .boolean) ∈ gx_tb := gx_m 175 (by decide +kernel) (by decide +kernel)
theorem co_Bo_isWorker : Cond.code y_Bo_isWorker b_Bo_isWorker 1 (some .boolean) ∈ gx_tb := gx_m 263 (by decide +kernel) (by decide +kernel)
theorem co_Bo_numberOrNone : Cond.code y_Bo_numberOrNone b_Bo_numberOrNone 1 (some .int) ∈ gx_tb := gx_m 400 (by decide +kernel) (by decide +kernel)
theorem co_Bo_isOpen : Cond.code y_Bo_isOpen b_Bo_isOpen 2 (some .boolean) ∈ gx_tb := gx_m 275 (by decide +kernel) (by decide +kernel)
theorem co_Bo_firstOpenQueue : Cond.code y_Bo_firstOpenQueue b_Bo_firstOpenQueue 2 (some .int) ∈ gx_tb := gx_m 271 (by decide +kernel) (by decide +kernel)
theorem co_Bo_openQueueByCredit : Cond.code y_Bo_openQueueByCredit b_Bo_openQueueByCredit 4 (some .int) ∈ gx_tb := gx_m 291 (by decide +kernel) (by decide +kernel)
theorem co_Bo_queue : Cond.code y_Bo_queue b_Bo_queue 5 (some .int) ∈ gx_tb := gx_m 172 (by decide +kernel) (by decide +kernel)
theorem co_Bo_key : Cond.code y_Bo_key b_Bo_key 2 (some .int) ∈ gx_tb := gx_m 190 (by decide +kernel) (by decide +kernel)
theorem co_Bo_submit : Cond.code y_Bo_submit b_Bo_submit 7 (some .int) ∈ gx_tb := gx_m 194 (by decide +kernel) (by decide +kernel)
theorem co_Bo_hold : Cond.code y_Bo_hold b_Bo_hold 4 (some .int) ∈ gx_tb := gx_m 238 (by decide +kernel) (by decide +kernel)
theorem co_Bo_join : Cond.code y_Bo_join b_Bo_join 5 (some .int) ∈ gx_tb := gx_m 242 (by decide +kernel) (by decide +kernel)
theorem co_Bo_seal : Cond.code y_Bo_seal b_Bo_seal 3 (some .int) ∈ gx_tb := gx_m 251 (by decide +kernel) (by decide +kernel)
theorem co_Bo_take : Cond.code y_Bo_take b_Bo_take 5 (some .int) ∈ gx_tb := gx_m 260 (by decide +kernel) (by decide +kernel)
theorem co_Bo_ack : Cond.code y_Bo_ack b_Bo_ack 4 (some .int) ∈ gx_tb := gx_m 299 (by decide +kernel) (by decide +kernel)
theorem co_Bo_fail : Cond.code y_Bo_fail b_Bo_fail 3 (some .int) ∈ gx_tb := gx_m 303 (by decide +kernel) (by decide +kernel)
theorem co_Bo_tick : Cond.code y_Bo_tick b_Bo_tick 3 (some .int) ∈ gx_tb := gx_m 331 (by decide +kernel) (by decide +kernel)
theorem co_Bo_revive : Cond.code y_Bo_revive b_Bo_revive 3 (some .int) ∈ gx_tb := gx_m 353 (by decide +kernel) (by decide +kernel)
theorem co_Bo_kill : Cond.code y_Bo_kill b_Bo_kill 3 (some .int) ∈ gx_tb := gx_m 357 (by decide +kernel) (by decide +kernel)
theorem co_Bo_flush : Cond.code y_Bo_flush b_Bo_flush 1 (some .int) ∈ gx_tb := gx_m 362 (by decide +kernel) (by decide +kernel)
theorem co_Bo_crash : Cond.code y_Bo_crash b_Bo_crash 4 (some .int) ∈ gx_tb := gx_m 367 (by decide +kernel) (by decide +kernel)
theorem co_Bo_state : Cond.code y_Bo_state b_Bo_state 3 (some .int) ∈ gx_tb := gx_m 384 (by decide +kernel) (by decide +kernel)
theorem co_Bo_failures : Cond.code y_Bo_failures b_Bo_failures 3 (some .int) ∈ gx_tb := gx_m 388 (by decide +kernel) (by decide +kernel)
theorem co_Bo_due : Cond.code y_Bo_due b_Bo_due 3 (some .int) ∈ gx_tb := gx_m 392 (by decide +kernel) (by decide +kernel)
theorem co_Bo_holding : Cond.code y_Bo_holding b_Bo_holding 2 (some .int) ∈ gx_tb := gx_m 397 (by decide +kernel) (by decide +kernel)
theorem co_Bo_line : Cond.code y_Bo_line b_Bo_line 3 (some .int) ∈ gx_tb := gx_m 404 (by decide +kernel) (by decide +kernel)
theorem co_Bo_count : Cond.code y_Bo_count b_Bo_count 2 (some .int) ∈ gx_tb := gx_m 413 (by decide +kernel) (by decide +kernel)
theorem co_Mo_out : Cond.code y_Mo_out b_Mo_out 4 (some .boolean) ∈ gx_tb := gx_m 490 (by decide +kernel) (by decide +kernel)
theorem co_Mo_no : Cond.code y_Mo_no b_Mo_no 2 (some .boolean) ∈ gx_tb := gx_m 538 (by decide +kernel) (by decide +kernel)
theorem co_Mo_of : Cond.code y_Mo_of b_Mo_of 3 (some .int) ∈ gx_tb := gx_m 510 (by decide +kernel) (by decide +kernel)
theorem co_Mo_set : Cond.code y_Mo_set b_Mo_set 4 none ∈ gx_tb := gx_m 518 (by decide +kernel) (by decide +kernel)
theorem co_Mo_store : Cond.code y_Mo_store b_Mo_store 3 none ∈ gx_tb := gx_m 482 (by decide +kernel) (by decide +kernel)
theorem co_Mo_note : Cond.code y_Mo_note b_Mo_note 1 none ∈ gx_tb := gx_m 526 (by decide +kernel) (by decide +kernel)
theorem co_Mo_flush : Cond.code y_Mo_flush b_Mo_flush 2 (some .int) ∈ gx_tb := gx_m 478 (by decide +kernel) (by decide +kernel)
theorem co_Mo_isLive : Cond.code y_Mo_isLive b_Mo_isLive 3 (some .boolean) ∈ gx_tb := gx_m 506 (by decide +kernel) (by decide +kernel)
theorem co_Mo_ready : Cond.code y_Mo_ready b_Mo_ready 2 none ∈ gx_tb := gx_m 522 (by decide +kernel) (by decide +kernel)
theorem co_Mo_die : Cond.code y_Mo_die b_Mo_die 5 none ∈ gx_tb := gx_m 582 (by decide +kernel) (by decide +kernel)
theorem co_Mo_failing : Cond.code y_Mo_failing b_Mo_failing 4 none ∈ gx_tb := gx_m 578 (by decide +kernel) (by decide +kernel)
theorem co_Mo_keyTaken : Cond.code y_Mo_keyTaken b_Mo_keyTaken 3 (some .boolean) ∈ gx_tb := gx_m 502 (by decide +kernel) (by decide +kernel)
theorem co_Mo_make : Cond.code y_Mo_make b_Mo_make 8 (some .int) ∈ gx_tb := gx_m 514 (by decide +kernel) (by decide +kernel)
theorem co_Mo_queue : Cond.code y_Mo_queue b_Mo_queue 5 (some .int) ∈ gx_tb := gx_m 486 (by decide +kernel) (by decide +kernel)
theorem co_Mo_key : Cond.code y_Mo_key b_Mo_key 2 (some .int) ∈ gx_tb := gx_m 494 (by decide +kernel) (by decide +kernel)
theorem co_Mo_submit : Cond.code y_Mo_submit b_Mo_submit 7 (some .int) ∈ gx_tb := gx_m 498 (by decide +kernel) (by decide +kernel)
theorem co_Mo_hold : Cond.code y_Mo_hold b_Mo_hold 4 (some .int) ∈ gx_tb := gx_m 530 (by decide +kernel) (by decide +kernel)
theorem co_Mo_join : Cond.code y_Mo_join b_Mo_join 3 (some .int) ∈ gx_tb := gx_m 534 (by decide +kernel) (by decide +kernel)
theorem co_Mo_seal : Cond.code y_Mo_seal b_Mo_seal 2 (some .int) ∈ gx_tb := gx_m 542 (by decide +kernel) (by decide +kernel)
theorem co_Mo_goesBefore : Cond.code y_Mo_goesBefore b_Mo_goesBefore 3 (some .boolean) ∈ gx_tb := gx_m 566 (by decide +kernel) (by decide +kernel)
theorem co_Mo_inLine : Cond.code y_Mo_inLine b_Mo_inLine 6 (some .int) ∈ gx_tb := gx_m 562 (by decide +kernel) (by decide +kernel)
theorem co_Mo_isOpen : Cond.code y_Mo_isOpen b_Mo_isOpen 2 (some .boolean) ∈ gx_tb := gx_m 558 (by decide +kernel) (by decide +kernel)
theorem co_Mo_choose : Cond.code y_Mo_choose b_Mo_choose 4 (some .int) ∈ gx_tb := gx_m 554 (by decide +kernel) (by decide +kernel)
theorem co_Mo_holding : Cond.code y_Mo_holding b_Mo_holding 3 (some .int) ∈ gx_tb := gx_m 550 (by decide +kernel) (by decide +kernel)
theorem co_Mo_take : Cond.code y_Mo_take b_Mo_take 5 (some .int) ∈ gx_tb := gx_m 546 (by decide +kernel) (by decide +kernel)
theorem co_Mo_ack : Cond.code y_Mo_ack b_Mo_ack 4 (some .int) ∈ gx_tb := gx_m 570 (by decide +kernel) (by decide +kernel)
theorem co_Mo_fail : Cond.code y_Mo_fail b_Mo_fail 3 (some .int) ∈ gx_tb := gx_m 574 (by decide +kernel) (by decide +kernel)
theorem co_Mo_wake : Cond.code y_Mo_wake b_Mo_wake 8 (some .int) ∈ gx_tb := gx_m 590 (by decide +kernel) (by decide +kernel)
theorem co_Mo_tick : Cond.code y_Mo_tick b_Mo_tick 4 (some .int) ∈ gx_tb := gx_m 586 (by decide +kernel) (by decide +kernel)
theorem co_Mo_revive : Cond.code y_Mo_revive b_Mo_revive 2 (some .int) ∈ gx_tb := gx_m 594 (by decide +kernel) (by decide +kernel)
theorem co_Mo_kill : Cond.code y_Mo_kill b_Mo_kill 3 (some .int) ∈ gx_tb := gx_m 598 (by decide +kernel) (by decide +kernel)
theorem co_Mo_crash : Cond.code y_Mo_crash b_Mo_crash 5 (some .int) ∈ gx_tb := gx_m 602 (by decide +kernel) (by decide +kernel)
theorem co_Mo_state : Cond.code y_Mo_state b_Mo_state 2 (some .int) ∈ gx_tb := gx_m 606 (by decide +kernel) (by decide +kernel)
theorem co_Mo_failures : Cond.code y_Mo_failures b_Mo_failures 2 (some .int) ∈ gx_tb := gx_m 610 (by decide +kernel) (by decide +kernel)
theorem co_Mo_due : Cond.code y_Mo_due b_Mo_due 3 (some .int) ∈ gx_tb := gx_m 614 (by decide +kernel) (by decide +kernel)
theorem co_Mo_line : Cond.code y_Mo_line b_Mo_line 4 (some .int) ∈ gx_tb := gx_m 619 (by decide +kernel) (by decide +kernel)
theorem co_Mo_count : Cond.code y_Mo_count b_Mo_count 4 (some .int) ∈ gx_tb := gx_m 623 (by decide +kernel) (by decide +kernel)
theorem in_Bo : Cond.initialized R_Bo ∈ gx_tb := gx_m 1 (by decide +kernel) (by decide +kernel)
theorem in_Qu : Cond.initialized R_Qu ∈ gx_tb := gx_m 2 (by decide +kernel) (by decide +kernel)
theorem in_Jn : Cond.initialized R_Jn ∈ gx_tb := gx_m 5 (by decide +kernel) (by decide +kernel)
theorem in_Ro : Cond.initialized R_Ro ∈ gx_tb := gx_m 3 (by decide +kernel) (by decide +kernel)
theorem in_Jb : Cond.initialized R_Jb ∈ gx_tb := gx_m 4 (by decide +kernel) (by decide +kernel)
theorem in_Mo : Cond.initialized R_Mo ∈ gx_tb := gx_m 6 (by decide +kernel) (by decide +kernel)
theorem in_Math : Cond.initialized "java/lang/Math" ∈ gx_tb := gx_m 7 (by decide +kernel) (by decide +kernel)
theorem co_Math_min : Cond.code Lib.Math.min.name Lib.Math.min.code 2 (some .int) ∈ gx_tb := gx_m 326 (by decide +kernel) (by decide +kernel)
theorem st_Math_min : Cond.static Lib.Math.min.name ∈ gx_tb := gx_m 325 (by decide +kernel) (by decide +kernel)
theorem co_Math_max : Cond.code Lib.Math.max.name Lib.Math.max.code 2 (some .int) ∈ gx_tb := gx_m 374 (by decide +kernel) (by decide +kernel)
theorem st_Math_max : Cond.static Lib.Math.max.name ∈ gx_tb := gx_m 373 (by decide +kernel) (by decide +kernel)
theorem ml_Jb_55 : Cond.methodLink R_Jb 55 Lib.Math.min.name ∈ gx_tb := gx_m 324 (by decide +kernel) (by decide +kernel)
theorem ml_Jn_30 : Cond.methodLink R_Jn 30 Lib.Math.max.name ∈ gx_tb := gx_m 372 (by decide +kernel) (by decide +kernel)
theorem ml_Jn_36 : Cond.methodLink R_Jn 36 Lib.Math.min.name ∈ gx_tb := gx_m 375 (by decide +kernel) (by decide +kernel)
theorem ml_Qu_31 : Cond.methodLink R_Qu 31 Lib.Math.min.name ∈ gx_tb := gx_m 336 (by decide +kernel) (by decide +kernel)
theorem st_Bo_isQueue : Cond.static y_Bo_isQueue ∈ gx_tb := gx_m 174 (by decide +kernel) (by decide +kernel)
theorem gi_Bo_41 : GoodIn gx_tb (wsS R_Bo 41 y_Bo_isQueue w_Bo_isQueue) := gx_gs (gx_m 173 (by decide +kernel) (by decide +kernel)) st_Bo_isQueue in_Bo co_Bo_isQueue
theorem st_Bo_within : Cond.static y_Bo_within ∈ gx_tb := gx_m 177 (by decide +kernel) (by decide +kernel)
theorem gi_Bo_45 : GoodIn gx_tb (wsS R_Bo 45 y_Bo_within w_Bo_within) := gx_gs (gx_m 176 (by decide +kernel) (by decide +kernel)) st_Bo_within in_Bo co_Bo_within
theorem im_Qu_set : Cond.instanceMethod y_Qu_set ∈ gx_tb := gx_m 180 (by decide +kernel) (by decide +kernel)
theorem se_Qu_set : Cond.selects R_Qu y_Qu_set y_Qu_set ∈ gx_tb := gx_m 181 (by decide +kernel) (by decide +kernel)
theorem gi_Bo_49 : GoodIn gx_tb (wsV R_Bo 49 R_Qu y_Qu_set w_Qu_set) := gx_gv (gx_m 179 (by decide +kernel) (by decide +kernel)) im_Qu_set se_Qu_set in_Qu co_Qu_set
theorem im_Ro_hasLiveKey : Cond.instanceMethod y_Ro_hasLiveKey ∈ gx_tb := gx_m 196 (by decide +kernel) (by decide +kernel)
theorem se_Ro_hasLiveKey : Cond.selects R_Ro y_Ro_hasLiveKey y_Ro_hasLiveKey ∈ gx_tb := gx_m 197 (by decide +kernel) (by decide +kernel)
theorem gi_Bo_53 : GoodIn gx_tb (wsV R_Bo 53 R_Ro y_Ro_hasLiveKey w_Ro_hasLiveKey) := gx_gv (gx_m 195 (by decide +kernel) (by decide +kernel)) im_Ro_hasLiveKey se_Ro_hasLiveKey in_Ro co_Ro_hasLiveKey
theorem im_Ro_make : Cond.instanceMethod y_Ro_make ∈ gx_tb := gx_m 204 (by decide +kernel) (by decide +kernel)
theorem se_Ro_make : Cond.selects R_Ro y_Ro_make y_Ro_make ∈ gx_tb := gx_m 205 (by decide +kernel) (by decide +kernel)
theorem gi_Bo_56 : GoodIn gx_tb (wsV R_Bo 56 R_Ro y_Ro_make w_Ro_make) := gx_gv (gx_m 203 (by decide +kernel) (by decide +kernel)) im_Ro_make se_Ro_make in_Ro co_Ro_make
theorem im_Ro_enter : Cond.instanceMethod y_Ro_enter ∈ gx_tb := gx_m 212 (by decide +kernel) (by decide +kernel)
theorem se_Ro_enter : Cond.selects R_Ro y_Ro_enter y_Ro_enter ∈ gx_tb := gx_m 213 (by decide +kernel) (by decide +kernel)
theorem gi_Bo_71 : GoodIn gx_tb (wsV R_Bo 71 R_Ro y_Ro_enter w_Ro_enter) := gx_gv (gx_m 211 (by decide +kernel) (by decide +kernel)) im_Ro_enter se_Ro_enter in_Ro co_Ro_enter
theorem im_Jb_waitUntil : Cond.instanceMethod y_Jb_waitUntil ∈ gx_tb := gx_m 216 (by decide +kernel) (by decide +kernel)
theorem se_Jb_waitUntil : Cond.selects R_Jb y_Jb_waitUntil y_Jb_waitUntil ∈ gx_tb := gx_m 217 (by decide +kernel) (by decide +kernel)
theorem gi_Bo_75 : GoodIn gx_tb (wsV R_Bo 75 R_Jb y_Jb_waitUntil w_Jb_waitUntil) := gx_gv (gx_m 215 (by decide +kernel) (by decide +kernel)) im_Jb_waitUntil se_Jb_waitUntil in_Jb co_Jb_waitUntil
theorem im_Jn_write : Cond.instanceMethod y_Jn_write ∈ gx_tb := gx_m 220 (by decide +kernel) (by decide +kernel)
theorem se_Jn_write : Cond.selects R_Jn y_Jn_write y_Jn_write ∈ gx_tb := gx_m 221 (by decide +kernel) (by decide +kernel)
theorem gi_Bo_79 : GoodIn gx_tb (wsV R_Bo 79 R_Jn y_Jn_write w_Jn_write) := gx_gv (gx_m 219 (by decide +kernel) (by decide +kernel)) im_Jn_write se_Jn_write in_Jn co_Jn_write
theorem im_Ro_find : Cond.instanceMethod y_Ro_find ∈ gx_tb := gx_m 244 (by decide +kernel) (by decide +kernel)
theorem se_Ro_find : Cond.selects R_Ro y_Ro_find y_Ro_find ∈ gx_tb := gx_m 245 (by decide +kernel) (by decide +kernel)
theorem gi_Bo_86 : GoodIn gx_tb (wsV R_Bo 86 R_Ro y_Ro_find w_Ro_find) := gx_gv (gx_m 243 (by decide +kernel) (by decide +kernel)) im_Ro_find se_Ro_find in_Ro co_Ro_find
theorem im_Jb_isLive : Cond.instanceMethod y_Jb_isLive ∈ gx_tb := gx_m 200 (by decide +kernel) (by decide +kernel)
theorem se_Jb_isLive : Cond.selects R_Jb y_Jb_isLive y_Jb_isLive ∈ gx_tb := gx_m 201 (by decide +kernel) (by decide +kernel)
theorem gi_Bo_90 : GoodIn gx_tb (wsV R_Bo 90 R_Jb y_Jb_isLive w_Jb_isLive) := gx_gv (gx_m 247 (by decide +kernel) (by decide +kernel)) im_Jb_isLive se_Jb_isLive in_Jb co_Jb_isLive
theorem im_Ro_releaseIfComplete : Cond.instanceMethod y_Ro_releaseIfComplete ∈ gx_tb := gx_m 253 (by decide +kernel) (by decide +kernel)
theorem se_Ro_releaseIfComplete : Cond.selects R_Ro y_Ro_releaseIfComplete y_Ro_releaseIfComplete ∈ gx_tb := gx_m 254 (by decide +kernel) (by decide +kernel)
theorem gi_Bo_106 : GoodIn gx_tb (wsV R_Bo 106 R_Ro y_Ro_releaseIfComplete w_Ro_releaseIfComplete) := gx_gv (gx_m 252 (by decide +kernel) (by decide +kernel)) im_Ro_releaseIfComplete se_Ro_releaseIfComplete in_Ro co_Ro_releaseIfComplete
theorem st_Bo_isWorker : Cond.static y_Bo_isWorker ∈ gx_tb := gx_m 262 (by decide +kernel) (by decide +kernel)
theorem gi_Bo_110 : GoodIn gx_tb (wsS R_Bo 110 y_Bo_isWorker w_Bo_isWorker) := gx_gs (gx_m 261 (by decide +kernel) (by decide +kernel)) st_Bo_isWorker in_Bo co_Bo_isWorker
theorem im_Ro_reservedBy : Cond.instanceMethod y_Ro_reservedBy ∈ gx_tb := gx_m 265 (by decide +kernel) (by decide +kernel)
theorem se_Ro_reservedBy : Cond.selects R_Ro y_Ro_reservedBy y_Ro_reservedBy ∈ gx_tb := gx_m 266 (by decide +kernel) (by decide +kernel)
theorem gi_Bo_113 : GoodIn gx_tb (wsV R_Bo 113 R_Ro y_Ro_reservedBy w_Ro_reservedBy) := gx_gv (gx_m 264 (by decide +kernel) (by decide +kernel)) im_Ro_reservedBy se_Ro_reservedBy in_Ro co_Ro_reservedBy
theorem im_Bo_firstOpenQueue : Cond.instanceMethod y_Bo_firstOpenQueue ∈ gx_tb := gx_m 270 (by decide +kernel) (by decide +kernel)
theorem se_Bo_firstOpenQueue : Cond.selects R_Bo y_Bo_firstOpenQueue y_Bo_firstOpenQueue ∈ gx_tb := gx_mp 0 (by decide +kernel) (by decide +kernel)
theorem gi_Bo_116 : GoodIn gx_tb (wsV R_Bo 116 R_Bo y_Bo_firstOpenQueue w_Bo_firstOpenQueue) := gx_gv (gx_m 268 (by decide +kernel) (by decide +kernel)) im_Bo_firstOpenQueue se_Bo_firstOpenQueue in_Bo co_Bo_firstOpenQueue
theorem im_Bo_openQueueByCredit : Cond.instanceMethod y_Bo_openQueueByCredit ∈ gx_tb := gx_m 290 (by decide +kernel) (by decide +kernel)
theorem se_Bo_openQueueByCredit : Cond.selects R_Bo y_Bo_openQueueByCredit y_Bo_openQueueByCredit ∈ gx_tb := gx_mp 2 (by decide +kernel) (by decide +kernel)
theorem gi_Bo_120 : GoodIn gx_tb (wsV R_Bo 120 R_Bo y_Bo_openQueueByCredit w_Bo_openQueueByCredit) := gx_gv (gx_m 288 (by decide +kernel) (by decide +kernel)) im_Bo_openQueueByCredit se_Bo_openQueueByCredit in_Bo co_Bo_openQueueByCredit
theorem im_Ro_nextInLine : Cond.instanceMethod y_Ro_nextInLine ∈ gx_tb := gx_m 281 (by decide +kernel) (by decide +kernel)
theorem se_Ro_nextInLine : Cond.selects R_Ro y_Ro_nextInLine y_Ro_nextInLine ∈ gx_tb := gx_m 282 (by decide +kernel) (by decide +kernel)
theorem gi_Bo_123 : GoodIn gx_tb (wsV R_Bo 123 R_Ro y_Ro_nextInLine w_Ro_nextInLine) := gx_gv (gx_m 280 (by decide +kernel) (by decide +kernel)) im_Ro_nextInLine se_Ro_nextInLine in_Ro co_Ro_nextInLine
theorem im_Qu_spendToken : Cond.instanceMethod y_Qu_spendToken ∈ gx_tb := gx_m 293 (by decide +kernel) (by decide +kernel)
theorem se_Qu_spendToken : Cond.selects R_Qu y_Qu_spendToken y_Qu_spendToken ∈ gx_tb := gx_m 294 (by decide +kernel) (by decide +kernel)
theorem gi_Bo_127 : GoodIn gx_tb (wsV R_Bo 127 R_Qu y_Qu_spendToken w_Qu_spendToken) := gx_gv (gx_m 292 (by decide +kernel) (by decide +kernel)) im_Qu_spendToken se_Qu_spendToken in_Qu co_Qu_spendToken
theorem im_Ro_failReserved : Cond.instanceMethod y_Ro_failReserved ∈ gx_tb := gx_m 305 (by decide +kernel) (by decide +kernel)
theorem se_Ro_failReserved : Cond.selects R_Ro y_Ro_failReserved y_Ro_failReserved ∈ gx_tb := gx_m 306 (by decide +kernel) (by decide +kernel)
theorem gi_Bo_133 : GoodIn gx_tb (wsV R_Bo 133 R_Ro y_Ro_failReserved w_Ro_failReserved) := gx_gv (gx_m 304 (by decide +kernel) (by decide +kernel)) im_Ro_failReserved se_Ro_failReserved in_Ro co_Ro_failReserved
theorem im_Qu_refillBetween : Cond.instanceMethod y_Qu_refillBetween ∈ gx_tb := gx_m 333 (by decide +kernel) (by decide +kernel)
theorem se_Qu_refillBetween : Cond.selects R_Qu y_Qu_refillBetween y_Qu_refillBetween ∈ gx_tb := gx_m 334 (by decide +kernel) (by decide +kernel)
theorem gi_Bo_136 : GoodIn gx_tb (wsV R_Bo 136 R_Qu y_Qu_refillBetween w_Qu_refillBetween) := gx_gv (gx_m 332 (by decide +kernel) (by decide +kernel)) im_Qu_refillBetween se_Qu_refillBetween in_Qu co_Qu_refillBetween
theorem im_Ro_settleDue : Cond.instanceMethod y_Ro_settleDue ∈ gx_tb := gx_m 338 (by decide +kernel) (by decide +kernel)
theorem se_Ro_settleDue : Cond.selects R_Ro y_Ro_settleDue y_Ro_settleDue ∈ gx_tb := gx_m 339 (by decide +kernel) (by decide +kernel)
theorem gi_Bo_139 : GoodIn gx_tb (wsV R_Bo 139 R_Ro y_Ro_settleDue w_Ro_settleDue) := gx_gv (gx_m 337 (by decide +kernel) (by decide +kernel)) im_Ro_settleDue se_Ro_settleDue in_Ro co_Ro_settleDue
theorem im_Ro_bury : Cond.instanceMethod y_Ro_bury ∈ gx_tb := gx_m 309 (by decide +kernel) (by decide +kernel)
theorem se_Ro_bury : Cond.selects R_Ro y_Ro_bury y_Ro_bury ∈ gx_tb := gx_m 310 (by decide +kernel) (by decide +kernel)
theorem gi_Bo_146 : GoodIn gx_tb (wsV R_Bo 146 R_Ro y_Ro_bury w_Ro_bury) := gx_gv (gx_m 358 (by decide +kernel) (by decide +kernel)) im_Ro_bury se_Ro_bury in_Ro co_Ro_bury
theorem im_Jn_flushAll : Cond.instanceMethod y_Jn_flushAll ∈ gx_tb := gx_m 224 (by decide +kernel) (by decide +kernel)
theorem se_Jn_flushAll : Cond.selects R_Jn y_Jn_flushAll y_Jn_flushAll ∈ gx_tb := gx_m 225 (by decide +kernel) (by decide +kernel)
theorem gi_Bo_149 : GoodIn gx_tb (wsV R_Bo 149 R_Jn y_Jn_flushAll w_Jn_flushAll) := gx_gv (gx_m 363 (by decide +kernel) (by decide +kernel)) im_Jn_flushAll se_Jn_flushAll in_Jn co_Jn_flushAll
theorem im_Jn_restore : Cond.instanceMethod y_Jn_restore ∈ gx_tb := gx_m 369 (by decide +kernel) (by decide +kernel)
theorem se_Jn_restore : Cond.selects R_Jn y_Jn_restore y_Jn_restore ∈ gx_tb := gx_m 370 (by decide +kernel) (by decide +kernel)
theorem gi_Bo_153 : GoodIn gx_tb (wsV R_Bo 153 R_Jn y_Jn_restore w_Jn_restore) := gx_gv (gx_m 368 (by decide +kernel) (by decide +kernel)) im_Jn_restore se_Jn_restore in_Jn co_Jn_restore
theorem im_Ro_releaseReserved : Cond.instanceMethod y_Ro_releaseReserved ∈ gx_tb := gx_m 377 (by decide +kernel) (by decide +kernel)
theorem se_Ro_releaseReserved : Cond.selects R_Ro y_Ro_releaseReserved y_Ro_releaseReserved ∈ gx_tb := gx_m 378 (by decide +kernel) (by decide +kernel)
theorem gi_Bo_157 : GoodIn gx_tb (wsV R_Bo 157 R_Ro y_Ro_releaseReserved w_Ro_releaseReserved) := gx_gv (gx_m 376 (by decide +kernel) (by decide +kernel)) im_Ro_releaseReserved se_Ro_releaseReserved in_Ro co_Ro_releaseReserved
theorem im_Qu_restart : Cond.instanceMethod y_Qu_restart ∈ gx_tb := gx_m 184 (by decide +kernel) (by decide +kernel)
theorem se_Qu_restart : Cond.selects R_Qu y_Qu_restart y_Qu_restart ∈ gx_tb := gx_m 185 (by decide +kernel) (by decide +kernel)
theorem gi_Bo_160 : GoodIn gx_tb (wsV R_Bo 160 R_Qu y_Qu_restart w_Qu_restart) := gx_gv (gx_m 380 (by decide +kernel) (by decide +kernel)) im_Qu_restart se_Qu_restart in_Qu co_Qu_restart
theorem im_Jb_isTimed : Cond.instanceMethod y_Jb_isTimed ∈ gx_tb := gx_m 346 (by decide +kernel) (by decide +kernel)
theorem se_Jb_isTimed : Cond.selects R_Jb y_Jb_isTimed y_Jb_isTimed ∈ gx_tb := gx_m 347 (by decide +kernel) (by decide +kernel)
theorem gi_Bo_163 : GoodIn gx_tb (wsV R_Bo 163 R_Jb y_Jb_isTimed w_Jb_isTimed) := gx_gv (gx_m 393 (by decide +kernel) (by decide +kernel)) im_Jb_isTimed se_Jb_isTimed in_Jb co_Jb_isTimed
theorem st_Bo_numberOrNone : Cond.static y_Bo_numberOrNone ∈ gx_tb := gx_m 399 (by decide +kernel) (by decide +kernel)
theorem gi_Bo_169 : GoodIn gx_tb (wsS R_Bo 169 y_Bo_numberOrNone w_Bo_numberOrNone) := gx_gs (gx_m 398 (by decide +kernel) (by decide +kernel)) st_Bo_numberOrNone in_Bo co_Bo_numberOrNone
theorem im_Ro_inLine : Cond.instanceMethod y_Ro_inLine ∈ gx_tb := gx_m 406 (by decide +kernel) (by decide +kernel)
theorem se_Ro_inLine : Cond.selects R_Ro y_Ro_inLine y_Ro_inLine ∈ gx_tb := gx_m 407 (by decide +kernel) (by decide +kernel)
theorem gi_Bo_173 : GoodIn gx_tb (wsV R_Bo 173 R_Ro y_Ro_inLine w_Ro_inLine) := gx_gv (gx_m 405 (by decide +kernel) (by decide +kernel)) im_Ro_inLine se_Ro_inLine in_Ro co_Ro_inLine
theorem im_Ro_countIn : Cond.instanceMethod y_Ro_countIn ∈ gx_tb := gx_m 317 (by decide +kernel) (by decide +kernel)
theorem se_Ro_countIn : Cond.selects R_Ro y_Ro_countIn y_Ro_countIn ∈ gx_tb := gx_m 318 (by decide +kernel) (by decide +kernel)
theorem gi_Bo_176 : GoodIn gx_tb (wsV R_Bo 176 R_Ro y_Ro_countIn w_Ro_countIn) := gx_gv (gx_m 414 (by decide +kernel) (by decide +kernel)) im_Ro_countIn se_Ro_countIn in_Ro co_Ro_countIn
theorem im_Qu_canGive : Cond.instanceMethod y_Qu_canGive ∈ gx_tb := gx_m 277 (by decide +kernel) (by decide +kernel)
theorem se_Qu_canGive : Cond.selects R_Qu y_Qu_canGive y_Qu_canGive ∈ gx_tb := gx_m 278 (by decide +kernel) (by decide +kernel)
theorem gi_Bo_188 : GoodIn gx_tb (wsV R_Bo 188 R_Qu y_Qu_canGive w_Qu_canGive) := gx_gv (gx_m 276 (by decide +kernel) (by decide +kernel)) im_Qu_canGive se_Qu_canGive in_Qu co_Qu_canGive
theorem im_Bo_isOpen : Cond.instanceMethod y_Bo_isOpen ∈ gx_tb := gx_m 274 (by decide +kernel) (by decide +kernel)
theorem se_Bo_isOpen : Cond.selects R_Bo y_Bo_isOpen y_Bo_isOpen ∈ gx_tb := gx_mp 1 (by decide +kernel) (by decide +kernel)
theorem gi_Bo_191 : GoodIn gx_tb (wsV R_Bo 191 R_Bo y_Bo_isOpen w_Bo_isOpen) := gx_gv (gx_m 272 (by decide +kernel) (by decide +kernel)) im_Bo_isOpen se_Bo_isOpen in_Bo co_Bo_isOpen
theorem gi_Jn_22 : GoodIn gx_tb (wsV R_Jn 22 R_Jn y_Jn_flushAll w_Jn_flushAll) := gx_gv (gx_m 223 (by decide +kernel) (by decide +kernel)) im_Jn_flushAll se_Jn_flushAll in_Jn co_Jn_flushAll
theorem im_Ro_copyFrom : Cond.instanceMethod y_Ro_copyFrom ∈ gx_tb := gx_m 228 (by decide +kernel) (by decide +kernel)
theorem se_Ro_copyFrom : Cond.selects R_Ro y_Ro_copyFrom y_Ro_copyFrom ∈ gx_tb := gx_m 229 (by decide +kernel) (by decide +kernel)
theorem gi_Jn_26 : GoodIn gx_tb (wsV R_Jn 26 R_Ro y_Ro_copyFrom w_Ro_copyFrom) := gx_gv (gx_m 227 (by decide +kernel) (by decide +kernel)) im_Ro_copyFrom se_Ro_copyFrom in_Ro co_Ro_copyFrom
theorem gi_Qu_22 : GoodIn gx_tb (wsV R_Qu 22 R_Qu y_Qu_restart w_Qu_restart) := gx_gv (gx_m 183 (by decide +kernel) (by decide +kernel)) im_Qu_restart se_Qu_restart in_Qu co_Qu_restart
theorem im_Jb_copyFrom : Cond.instanceMethod y_Jb_copyFrom ∈ gx_tb := gx_m 232 (by decide +kernel) (by decide +kernel)
theorem se_Jb_copyFrom : Cond.selects R_Jb y_Jb_copyFrom y_Jb_copyFrom ∈ gx_tb := gx_m 233 (by decide +kernel) (by decide +kernel)
theorem gi_Ro_27 : GoodIn gx_tb (wsV R_Ro 27 R_Jb y_Jb_copyFrom w_Jb_copyFrom) := gx_gv (gx_m 231 (by decide +kernel) (by decide +kernel)) im_Jb_copyFrom se_Jb_copyFrom in_Jb co_Jb_copyFrom
theorem im_Jb_begin : Cond.instanceMethod y_Jb_begin ∈ gx_tb := gx_m 208 (by decide +kernel) (by decide +kernel)
theorem se_Jb_begin : Cond.selects R_Jb y_Jb_begin y_Jb_begin ∈ gx_tb := gx_m 209 (by decide +kernel) (by decide +kernel)
theorem gi_Ro_31 : GoodIn gx_tb (wsV R_Ro 31 R_Jb y_Jb_begin w_Jb_begin) := gx_gv (gx_m 207 (by decide +kernel) (by decide +kernel)) im_Jb_begin se_Jb_begin in_Jb co_Jb_begin
theorem gi_Ro_48 : GoodIn gx_tb (wsV R_Ro 48 R_Ro y_Ro_enter w_Ro_enter) := gx_gv (gx_m 256 (by decide +kernel) (by decide +kernel)) im_Ro_enter se_Ro_enter in_Ro co_Ro_enter
theorem gi_Ro_58 : GoodIn gx_tb (wsV R_Ro 58 R_Ro y_Ro_bury w_Ro_bury) := gx_gv (gx_m 308 (by decide +kernel) (by decide +kernel)) im_Ro_bury se_Ro_bury in_Ro co_Ro_bury
theorem im_Jb_retryDelay : Cond.instanceMethod y_Jb_retryDelay ∈ gx_tb := gx_m 321 (by decide +kernel) (by decide +kernel)
theorem se_Jb_retryDelay : Cond.selects R_Jb y_Jb_retryDelay y_Jb_retryDelay ∈ gx_tb := gx_m 322 (by decide +kernel) (by decide +kernel)
theorem gi_Ro_61 : GoodIn gx_tb (wsV R_Ro 61 R_Jb y_Jb_retryDelay w_Jb_retryDelay) := gx_gv (gx_m 320 (by decide +kernel) (by decide +kernel)) im_Jb_retryDelay se_Jb_retryDelay in_Jb co_Jb_retryDelay
theorem gi_Ro_65 : GoodIn gx_tb (wsV R_Ro 65 R_Jb y_Jb_waitUntil w_Jb_waitUntil) := gx_gv (gx_m 327 (by decide +kernel) (by decide +kernel)) im_Jb_waitUntil se_Jb_waitUntil in_Jb co_Jb_waitUntil
theorem im_Ro_oldestDead : Cond.instanceMethod y_Ro_oldestDead ∈ gx_tb := gx_m 314 (by decide +kernel) (by decide +kernel)
theorem se_Ro_oldestDead : Cond.selects R_Ro y_Ro_oldestDead y_Ro_oldestDead ∈ gx_tb := gx_mp 3 (by decide +kernel) (by decide +kernel)
theorem gi_Ro_68 : GoodIn gx_tb (wsV R_Ro 68 R_Ro y_Ro_oldestDead w_Ro_oldestDead) := gx_gv (gx_m 312 (by decide +kernel) (by decide +kernel)) im_Ro_oldestDead se_Ro_oldestDead in_Ro co_Ro_oldestDead
theorem gi_Ro_72 : GoodIn gx_tb (wsV R_Ro 72 R_Ro y_Ro_countIn w_Ro_countIn) := gx_gv (gx_m 316 (by decide +kernel) (by decide +kernel)) im_Ro_countIn se_Ro_countIn in_Ro co_Ro_countIn
theorem im_Ro_nextDue : Cond.instanceMethod y_Ro_nextDue ∈ gx_tb := gx_m 343 (by decide +kernel) (by decide +kernel)
theorem se_Ro_nextDue : Cond.selects R_Ro y_Ro_nextDue y_Ro_nextDue ∈ gx_tb := gx_mp 4 (by decide +kernel) (by decide +kernel)
theorem gi_Ro_76 : GoodIn gx_tb (wsV R_Ro 76 R_Ro y_Ro_nextDue w_Ro_nextDue) := gx_gv (gx_m 341 (by decide +kernel) (by decide +kernel)) im_Ro_nextDue se_Ro_nextDue in_Ro co_Ro_nextDue
theorem gi_Ro_80 : GoodIn gx_tb (wsV R_Ro 80 R_Ro y_Ro_failReserved w_Ro_failReserved) := gx_gv (gx_m 349 (by decide +kernel) (by decide +kernel)) im_Ro_failReserved se_Ro_failReserved in_Ro co_Ro_failReserved
theorem gi_Ro_83 : GoodIn gx_tb (wsV R_Ro 83 R_Jb y_Jb_isTimed w_Jb_isTimed) := gx_gv (gx_m 345 (by decide +kernel) (by decide +kernel)) im_Jb_isTimed se_Jb_isTimed in_Jb co_Jb_isTimed
theorem gi_Ro_93 : GoodIn gx_tb (wsV R_Ro 93 R_Jb y_Jb_isLive w_Jb_isLive) := gx_gv (gx_m 199 (by decide +kernel) (by decide +kernel)) im_Jb_isLive se_Jb_isLive in_Jb co_Jb_isLive
theorem gi_Ro_99 : GoodIn gx_tb (wsV R_Ro 99 R_Ro y_Ro_nextInLine w_Ro_nextInLine) := gx_gv (gx_m 409 (by decide +kernel) (by decide +kernel)) im_Ro_nextInLine se_Ro_nextInLine in_Ro co_Ro_nextInLine
theorem im_Jb_standsBefore : Cond.instanceMethod y_Jb_standsBefore ∈ gx_tb := gx_m 285 (by decide +kernel) (by decide +kernel)
theorem se_Jb_standsBefore : Cond.selects R_Jb y_Jb_standsBefore y_Jb_standsBefore ∈ gx_tb := gx_m 286 (by decide +kernel) (by decide +kernel)
theorem gi_Ro_106 : GoodIn gx_tb (wsV R_Ro 106 R_Jb y_Jb_standsBefore w_Jb_standsBefore) := gx_gv (gx_m 284 (by decide +kernel) (by decide +kernel)) im_Jb_standsBefore se_Jb_standsBefore in_Jb co_Jb_standsBefore
theorem im_Mo_store : Cond.instanceMethod y_Mo_store ∈ gx_tb := gx_m 481 (by decide +kernel) (by decide +kernel)
theorem se_Mo_store : Cond.selects R_Mo y_Mo_store y_Mo_store ∈ gx_tb := gx_mp 5 (by decide +kernel) (by decide +kernel)
theorem gi_Mo_61 : GoodIn gx_tb (wsV R_Mo 61 R_Mo y_Mo_store w_Mo_store) := gx_gv (gx_m 479 (by decide +kernel) (by decide +kernel)) im_Mo_store se_Mo_store in_Mo co_Mo_store
theorem im_Mo_of : Cond.instanceMethod y_Mo_of ∈ gx_tb := gx_m 509 (by decide +kernel) (by decide +kernel)
theorem se_Mo_of : Cond.selects R_Mo y_Mo_of y_Mo_of ∈ gx_tb := gx_mp 9 (by decide +kernel) (by decide +kernel)
theorem gi_Mo_65 : GoodIn gx_tb (wsV R_Mo 65 R_Mo y_Mo_of w_Mo_of) := gx_gv (gx_m 507 (by decide +kernel) (by decide +kernel)) im_Mo_of se_Mo_of in_Mo co_Mo_of
theorem im_Mo_set : Cond.instanceMethod y_Mo_set ∈ gx_tb := gx_m 517 (by decide +kernel) (by decide +kernel)
theorem se_Mo_set : Cond.selects R_Mo y_Mo_set y_Mo_set ∈ gx_tb := gx_mp 11 (by decide +kernel) (by decide +kernel)
theorem gi_Mo_69 : GoodIn gx_tb (wsV R_Mo 69 R_Mo y_Mo_set w_Mo_set) := gx_gv (gx_m 515 (by decide +kernel) (by decide +kernel)) im_Mo_set se_Mo_set in_Mo co_Mo_set
theorem im_Mo_die : Cond.instanceMethod y_Mo_die ∈ gx_tb := gx_m 581 (by decide +kernel) (by decide +kernel)
theorem se_Mo_die : Cond.selects R_Mo y_Mo_die y_Mo_die ∈ gx_tb := gx_mp 20 (by decide +kernel) (by decide +kernel)
theorem gi_Mo_73 : GoodIn gx_tb (wsV R_Mo 73 R_Mo y_Mo_die w_Mo_die) := gx_gv (gx_m 579 (by decide +kernel) (by decide +kernel)) im_Mo_die se_Mo_die in_Mo co_Mo_die
theorem im_Mo_isLive : Cond.instanceMethod y_Mo_isLive ∈ gx_tb := gx_m 505 (by decide +kernel) (by decide +kernel)
theorem se_Mo_isLive : Cond.selects R_Mo y_Mo_isLive y_Mo_isLive ∈ gx_tb := gx_mp 8 (by decide +kernel) (by decide +kernel)
theorem gi_Mo_76 : GoodIn gx_tb (wsV R_Mo 76 R_Mo y_Mo_isLive w_Mo_isLive) := gx_gv (gx_m 503 (by decide +kernel) (by decide +kernel)) im_Mo_isLive se_Mo_isLive in_Mo co_Mo_isLive
theorem im_Mo_out : Cond.instanceMethod y_Mo_out ∈ gx_tb := gx_m 489 (by decide +kernel) (by decide +kernel)
theorem se_Mo_out : Cond.selects R_Mo y_Mo_out y_Mo_out ∈ gx_tb := gx_mp 6 (by decide +kernel) (by decide +kernel)
theorem gi_Mo_80 : GoodIn gx_tb (wsV R_Mo 80 R_Mo y_Mo_out w_Mo_out) := gx_gv (gx_m 487 (by decide +kernel) (by decide +kernel)) im_Mo_out se_Mo_out in_Mo co_Mo_out
theorem im_Mo_keyTaken : Cond.instanceMethod y_Mo_keyTaken ∈ gx_tb := gx_m 501 (by decide +kernel) (by decide +kernel)
theorem se_Mo_keyTaken : Cond.selects R_Mo y_Mo_keyTaken y_Mo_keyTaken ∈ gx_tb := gx_mp 7 (by decide +kernel) (by decide +kernel)
theorem gi_Mo_84 : GoodIn gx_tb (wsV R_Mo 84 R_Mo y_Mo_keyTaken w_Mo_keyTaken) := gx_gv (gx_m 499 (by decide +kernel) (by decide +kernel)) im_Mo_keyTaken se_Mo_keyTaken in_Mo co_Mo_keyTaken
theorem im_Mo_make : Cond.instanceMethod y_Mo_make ∈ gx_tb := gx_m 513 (by decide +kernel) (by decide +kernel)
theorem se_Mo_make : Cond.selects R_Mo y_Mo_make y_Mo_make ∈ gx_tb := gx_mp 10 (by decide +kernel) (by decide +kernel)
theorem gi_Mo_87 : GoodIn gx_tb (wsV R_Mo 87 R_Mo y_Mo_make w_Mo_make) := gx_gv (gx_m 511 (by decide +kernel) (by decide +kernel)) im_Mo_make se_Mo_make in_Mo co_Mo_make
theorem im_Mo_ready : Cond.instanceMethod y_Mo_ready ∈ gx_tb := gx_m 521 (by decide +kernel) (by decide +kernel)
theorem se_Mo_ready : Cond.selects R_Mo y_Mo_ready y_Mo_ready ∈ gx_tb := gx_mp 12 (by decide +kernel) (by decide +kernel)
theorem gi_Mo_91 : GoodIn gx_tb (wsV R_Mo 91 R_Mo y_Mo_ready w_Mo_ready) := gx_gv (gx_m 519 (by decide +kernel) (by decide +kernel)) im_Mo_ready se_Mo_ready in_Mo co_Mo_ready
theorem im_Mo_note : Cond.instanceMethod y_Mo_note ∈ gx_tb := gx_m 525 (by decide +kernel) (by decide +kernel)
theorem se_Mo_note : Cond.selects R_Mo y_Mo_note y_Mo_note ∈ gx_tb := gx_mp 13 (by decide +kernel) (by decide +kernel)
theorem gi_Mo_94 : GoodIn gx_tb (wsV R_Mo 94 R_Mo y_Mo_note w_Mo_note) := gx_gv (gx_m 523 (by decide +kernel) (by decide +kernel)) im_Mo_note se_Mo_note in_Mo co_Mo_note
theorem im_Mo_no : Cond.instanceMethod y_Mo_no ∈ gx_tb := gx_m 537 (by decide +kernel) (by decide +kernel)
theorem se_Mo_no : Cond.selects R_Mo y_Mo_no y_Mo_no ∈ gx_tb := gx_mp 14 (by decide +kernel) (by decide +kernel)
theorem gi_Mo_97 : GoodIn gx_tb (wsV R_Mo 97 R_Mo y_Mo_no w_Mo_no) := gx_gv (gx_m 535 (by decide +kernel) (by decide +kernel)) im_Mo_no se_Mo_no in_Mo co_Mo_no
theorem im_Mo_goesBefore : Cond.instanceMethod y_Mo_goesBefore ∈ gx_tb := gx_m 565 (by decide +kernel) (by decide +kernel)
theorem se_Mo_goesBefore : Cond.selects R_Mo y_Mo_goesBefore y_Mo_goesBefore ∈ gx_tb := gx_mp 18 (by decide +kernel) (by decide +kernel)
theorem gi_Mo_100 : GoodIn gx_tb (wsV R_Mo 100 R_Mo y_Mo_goesBefore w_Mo_goesBefore) := gx_gv (gx_m 563 (by decide +kernel) (by decide +kernel)) im_Mo_goesBefore se_Mo_goesBefore in_Mo co_Mo_goesBefore
theorem im_Mo_inLine : Cond.instanceMethod y_Mo_inLine ∈ gx_tb := gx_m 561 (by decide +kernel) (by decide +kernel)
theorem se_Mo_inLine : Cond.selects R_Mo y_Mo_inLine y_Mo_inLine ∈ gx_tb := gx_mp 17 (by decide +kernel) (by decide +kernel)
theorem gi_Mo_104 : GoodIn gx_tb (wsV R_Mo 104 R_Mo y_Mo_inLine w_Mo_inLine) := gx_gv (gx_m 559 (by decide +kernel) (by decide +kernel)) im_Mo_inLine se_Mo_inLine in_Mo co_Mo_inLine
theorem im_Mo_isOpen : Cond.instanceMethod y_Mo_isOpen ∈ gx_tb := gx_m 557 (by decide +kernel) (by decide +kernel)
theorem se_Mo_isOpen : Cond.selects R_Mo y_Mo_isOpen y_Mo_isOpen ∈ gx_tb := gx_mp 16 (by decide +kernel) (by decide +kernel)
theorem gi_Mo_107 : GoodIn gx_tb (wsV R_Mo 107 R_Mo y_Mo_isOpen w_Mo_isOpen) := gx_gv (gx_m 555 (by decide +kernel) (by decide +kernel)) im_Mo_isOpen se_Mo_isOpen in_Mo co_Mo_isOpen
theorem im_Mo_holding : Cond.instanceMethod y_Mo_holding ∈ gx_tb := gx_m 548 (by decide +kernel) (by decide +kernel)
theorem se_Mo_holding : Cond.selects R_Mo y_Mo_holding y_Mo_holding ∈ gx_tb := gx_m 549 (by decide +kernel) (by decide +kernel)
theorem gi_Mo_110 : GoodIn gx_tb (wsV R_Mo 110 R_Mo y_Mo_holding w_Mo_holding) := gx_gv (gx_m 547 (by decide +kernel) (by decide +kernel)) im_Mo_holding se_Mo_holding in_Mo co_Mo_holding
theorem im_Mo_choose : Cond.instanceMethod y_Mo_choose ∈ gx_tb := gx_m 553 (by decide +kernel) (by decide +kernel)
theorem se_Mo_choose : Cond.selects R_Mo y_Mo_choose y_Mo_choose ∈ gx_tb := gx_mp 15 (by decide +kernel) (by decide +kernel)
theorem gi_Mo_114 : GoodIn gx_tb (wsV R_Mo 114 R_Mo y_Mo_choose w_Mo_choose) := gx_gv (gx_m 551 (by decide +kernel) (by decide +kernel)) im_Mo_choose se_Mo_choose in_Mo co_Mo_choose
theorem im_Mo_failing : Cond.instanceMethod y_Mo_failing ∈ gx_tb := gx_m 577 (by decide +kernel) (by decide +kernel)
theorem se_Mo_failing : Cond.selects R_Mo y_Mo_failing y_Mo_failing ∈ gx_tb := gx_mp 19 (by decide +kernel) (by decide +kernel)
theorem gi_Mo_118 : GoodIn gx_tb (wsV R_Mo 118 R_Mo y_Mo_failing w_Mo_failing) := gx_gv (gx_m 575 (by decide +kernel) (by decide +kernel)) im_Mo_failing se_Mo_failing in_Mo co_Mo_failing
theorem im_Mo_wake : Cond.instanceMethod y_Mo_wake ∈ gx_tb := gx_m 589 (by decide +kernel) (by decide +kernel)
theorem se_Mo_wake : Cond.selects R_Mo y_Mo_wake y_Mo_wake ∈ gx_tb := gx_mp 21 (by decide +kernel) (by decide +kernel)
theorem gi_Mo_121 : GoodIn gx_tb (wsV R_Mo 121 R_Mo y_Mo_wake w_Mo_wake) := gx_gv (gx_m 587 (by decide +kernel) (by decide +kernel)) im_Mo_wake se_Mo_wake in_Mo co_Mo_wake
end
section
theorem d_Jb_isLive_0 : decode b_Jb_isLive 0 = .ok (.aload_n 0, 1) := by decide +kernel
theorem d_Jb_isLive_1 : decode b_Jb_isLive 1 = .ok (.getfield 43, 3) := by decide +kernel
theorem d_Jb_isLive_4 : decode b_Jb_isLive 4 = .ok (.iconst 4, 1) := by decide +kernel
theorem d_Jb_isLive_5 : decode b_Jb_isLive 5 = .ok (.if_icmp .eq 24, 3) := by decide +kernel
theorem d_Jb_isLive_8 : decode b_Jb_isLive 8 = .ok (.aload_n 0, 1) := by decide +kernel
theorem d_Jb_isLive_9 : decode b_Jb_isLive 9 = .ok (.getfield 43, 3) := by decide +kernel
theorem d_Jb_isLive_12 : decode b_Jb_isLive 12 = .ok (.iconst 5, 1) := by decide +kernel
theorem d_Jb_isLive_13 : decode b_Jb_isLive 13 = .ok (.if_icmp .eq 16, 3) := by decide +kernel
theorem d_Jb_isLive_16 : decode b_Jb_isLive 16 = .ok (.aload_n 0, 1) := by decide +kernel
theorem d_Jb_isLive_17 : decode b_Jb_isLive 17 = .ok (.getfield 43, 3) := by decide +kernel
theorem d_Jb_isLive_20 : decode b_Jb_isLive 20 = .ok (.bipush 7, 2) := by decide +kernel
theorem d_Jb_isLive_22 : decode b_Jb_isLive 22 = .ok (.if_icmp .eq 7, 3) := by decide +kernel
theorem d_Jb_isLive_25 : decode b_Jb_isLive 25 = .ok (.iconst 1, 1) := by decide +kernel
theorem d_Jb_isLive_26 : decode b_Jb_isLive 26 = .ok (.goto 4, 3) := by decide +kernel
theorem d_Jb_isLive_29 : decode b_Jb_isLive 29 = .ok (.iconst 0, 1) := by decide +kernel
theorem d_Jb_isLive_30 : decode b_Jb_isLive 30 = .ok (.ireturn, 1) := by decide +kernel
theorem d_Jb_isTimed_0 : decode b_Jb_isTimed 0 = .ok (.aload_n 0, 1) := by decide +kernel
theorem d_Jb_isTimed_1 : decode b_Jb_isTimed 1 = .ok (.getfield 43, 3) := by decide +kernel
theorem d_Jb_isTimed_4 : decode b_Jb_isTimed 4 = .ok (.ifCond .eq 19, 3) := by decide +kernel
theorem d_Jb_isTimed_7 : decode b_Jb_isTimed 7 = .ok (.aload_n 0, 1) := by decide +kernel
theorem d_Jb_isTimed_8 : decode b_Jb_isTimed 8 = .ok (.getfield 43, 3) := by decide +kernel
theorem d_Jb_isTimed_11 : decode b_Jb_isTimed 11 = .ok (.iconst 3, 1) := by decide +kernel
theorem d_Jb_isTimed_12 : decode b_Jb_isTimed 12 = .ok (.if_icmp .eq 11, 3) := by decide +kernel
theorem d_Jb_isTimed_15 : decode b_Jb_isTimed 15 = .ok (.aload_n 0, 1) := by decide +kernel
theorem d_Jb_isTimed_16 : decode b_Jb_isTimed 16 = .ok (.getfield 43, 3) := by decide +kernel
theorem d_Jb_isTimed_19 : decode b_Jb_isTimed 19 = .ok (.iconst 2, 1) := by decide +kernel
theorem d_Jb_isTimed_20 : decode b_Jb_isTimed 20 = .ok (.if_icmp .ne 7, 3) := by decide +kernel
theorem d_Jb_isTimed_23 : decode b_Jb_isTimed 23 = .ok (.iconst 1, 1) := by decide +kernel
theorem d_Jb_isTimed_24 : decode b_Jb_isTimed 24 = .ok (.goto 4, 3) := by decide +kernel
theorem d_Jb_isTimed_27 : decode b_Jb_isTimed 27 = .ok (.iconst 0, 1) := by decide +kernel
theorem d_Jb_isTimed_28 : decode b_Jb_isTimed 28 = .ok (.ireturn, 1) := by decide +kernel
theorem d_Jb_waitUntil_0 : decode b_Jb_waitUntil 0 = .ok (.aload_n 0, 1) := by decide +kernel
theorem d_Jb_waitUntil_1 : decode b_Jb_waitUntil 1 = .ok (.iload_n 1, 1) := by decide +kernel
theorem d_Jb_waitUntil_2 : decode b_Jb_waitUntil 2 = .ok (.putfield 43, 3) := by decide +kernel
theorem d_Jb_waitUntil_5 : decode b_Jb_waitUntil 5 = .ok (.aload_n 0, 1) := by decide +kernel
theorem d_Jb_waitUntil_6 : decode b_Jb_waitUntil 6 = .ok (.iload_n 2, 1) := by decide +kernel
theorem d_Jb_waitUntil_7 : decode b_Jb_waitUntil 7 = .ok (.putfield 46, 3) := by decide +kernel
theorem d_Jb_waitUntil_10 : decode b_Jb_waitUntil 10 = .ok (.return_, 1) := by decide +kernel
theorem d_Jb_retryDelay_0 : decode b_Jb_retryDelay 0 = .ok (.sipush 500, 3) := by decide +kernel
theorem d_Jb_retryDelay_3 : decode b_Jb_retryDelay 3 = .ok (.aload_n 0, 1) := by decide +kernel
theorem d_Jb_retryDelay_4 : decode b_Jb_retryDelay 4 = .ok (.getfield 24, 3) := by decide +kernel
theorem d_Jb_retryDelay_7 : decode b_Jb_retryDelay 7 = .ok (.aload_n 0, 1) := by decide +kernel
theorem d_Jb_retryDelay_8 : decode b_Jb_retryDelay 8 = .ok (.getfield 30, 3) := by decide +kernel
theorem d_Jb_retryDelay_11 : decode b_Jb_retryDelay 11 = .ok (.iconst 1, 1) := by decide +kernel
theorem d_Jb_retryDelay_12 : decode b_Jb_retryDelay 12 = .ok (.isub, 1) := by decide +kernel
theorem d_Jb_retryDelay_13 : decode b_Jb_retryDelay 13 = .ok (.ishl, 1) := by decide +kernel
theorem d_Jb_retryDelay_14 : decode b_Jb_retryDelay 14 = .ok (.invokestatic 55, 3) := by decide +kernel
theorem d_Jb_retryDelay_17 : decode b_Jb_retryDelay 17 = .ok (.ireturn, 1) := by decide +kernel
theorem d_Jb_standsBefore_0 : decode b_Jb_standsBefore 0 = .ok (.aload_n 0, 1) := by decide +kernel
theorem d_Jb_standsBefore_1 : decode b_Jb_standsBefore 1 = .ok (.getfield 18, 3) := by decide +kernel
theorem d_Jb_standsBefore_4 : decode b_Jb_standsBefore 4 = .ok (.aload_n 1, 1) := by decide +kernel
theorem d_Jb_standsBefore_5 : decode b_Jb_standsBefore 5 = .ok (.getfield 18, 3) := by decide +kernel
theorem d_Jb_standsBefore_8 : decode b_Jb_standsBefore 8 = .ok (.if_icmp .gt 25, 3) := by decide +kernel
theorem d_Jb_standsBefore_11 : decode b_Jb_standsBefore 11 = .ok (.aload_n 0, 1) := by decide +kernel
theorem d_Jb_standsBefore_12 : decode b_Jb_standsBefore 12 = .ok (.getfield 18, 3) := by decide +kernel
theorem d_Jb_standsBefore_15 : decode b_Jb_standsBefore 15 = .ok (.aload_n 1, 1) := by decide +kernel
theorem d_Jb_standsBefore_16 : decode b_Jb_standsBefore 16 = .ok (.getfield 18, 3) := by decide +kernel
theorem d_Jb_standsBefore_19 : decode b_Jb_standsBefore 19 = .ok (.if_icmp .ne 18, 3) := by decide +kernel
theorem d_Jb_standsBefore_22 : decode b_Jb_standsBefore 22 = .ok (.aload_n 0, 1) := by decide +kernel
theorem d_Jb_standsBefore_23 : decode b_Jb_standsBefore 23 = .ok (.getfield 52, 3) := by decide +kernel
theorem d_Jb_standsBefore_26 : decode b_Jb_standsBefore 26 = .ok (.aload_n 1, 1) := by decide +kernel
theorem d_Jb_standsBefore_27 : decode b_Jb_standsBefore 27 = .ok (.getfield 52, 3) := by decide +kernel
theorem d_Jb_standsBefore_30 : decode b_Jb_standsBefore 30 = .ok (.if_icmp .ge 7, 3) := by decide +kernel
theorem d_Jb_standsBefore_33 : decode b_Jb_standsBefore 33 = .ok (.iconst 1, 1) := by decide +kernel
theorem d_Jb_standsBefore_34 : decode b_Jb_standsBefore 34 = .ok (.goto 4, 3) := by decide +kernel
theorem d_Jb_standsBefore_37 : decode b_Jb_standsBefore 37 = .ok (.iconst 0, 1) := by decide +kernel
theorem d_Jb_standsBefore_38 : decode b_Jb_standsBefore 38 = .ok (.ireturn, 1) := by decide +kernel
theorem d_Jb_begin_0 : decode b_Jb_begin 0 = .ok (.aload_n 0, 1) := by decide +kernel
theorem d_Jb_begin_1 : decode b_Jb_begin 1 = .ok (.iload_n 1, 1) := by decide +kernel
theorem d_Jb_begin_2 : decode b_Jb_begin 2 = .ok (.putfield 15, 3) := by decide +kernel
theorem d_Jb_begin_5 : decode b_Jb_begin 5 = .ok (.aload_n 0, 1) := by decide +kernel
theorem d_Jb_begin_6 : decode b_Jb_begin 6 = .ok (.iload_n 2, 1) := by decide +kernel
theorem d_Jb_begin_7 : decode b_Jb_begin 7 = .ok (.putfield 18, 3) := by decide +kernel
theorem d_Jb_begin_10 : decode b_Jb_begin 10 = .ok (.aload_n 0, 1) := by decide +kernel
theorem d_Jb_begin_11 : decode b_Jb_begin 11 = .ok (.iconst 0, 1) := by decide +kernel
theorem d_Jb_begin_12 : decode b_Jb_begin 12 = .ok (.putfield 21, 3) := by decide +kernel
theorem d_Jb_begin_15 : decode b_Jb_begin 15 = .ok (.aload_n 0, 1) := by decide +kernel
theorem d_Jb_begin_16 : decode b_Jb_begin 16 = .ok (.iconst 1, 1) := by decide +kernel
theorem d_Jb_begin_17 : decode b_Jb_begin 17 = .ok (.putfield 24, 3) := by decide +kernel
theorem d_Jb_begin_20 : decode b_Jb_begin 20 = .ok (.aload_n 0, 1) := by decide +kernel
theorem d_Jb_begin_21 : decode b_Jb_begin 21 = .ok (.iconst (-1), 1) := by decide +kernel
theorem d_Jb_begin_22 : decode b_Jb_begin 22 = .ok (.putfield 27, 3) := by decide +kernel
theorem d_Jb_begin_25 : decode b_Jb_begin 25 = .ok (.aload_n 0, 1) := by decide +kernel
theorem d_Jb_begin_26 : decode b_Jb_begin 26 = .ok (.iconst 0, 1) := by decide +kernel
theorem d_Jb_begin_27 : decode b_Jb_begin 27 = .ok (.putfield 30, 3) := by decide +kernel
theorem d_Jb_begin_30 : decode b_Jb_begin 30 = .ok (.aload_n 0, 1) := by decide +kernel
theorem d_Jb_begin_31 : decode b_Jb_begin 31 = .ok (.iconst (-1), 1) := by decide +kernel
theorem d_Jb_begin_32 : decode b_Jb_begin 32 = .ok (.putfield 33, 3) := by decide +kernel
theorem d_Jb_begin_35 : decode b_Jb_begin 35 = .ok (.aload_n 0, 1) := by decide +kernel
theorem d_Jb_begin_36 : decode b_Jb_begin 36 = .ok (.iconst 0, 1) := by decide +kernel
theorem d_Jb_begin_37 : decode b_Jb_begin 37 = .ok (.putfield 36, 3) := by decide +kernel
theorem d_Jb_begin_40 : decode b_Jb_begin 40 = .ok (.aload_n 0, 1) := by decide +kernel
theorem d_Jb_begin_41 : decode b_Jb_begin 41 = .ok (.iconst 0, 1) := by decide +kernel
theorem d_Jb_begin_42 : decode b_Jb_begin 42 = .ok (.putfield 39, 3) := by decide +kernel
theorem d_Jb_begin_45 : decode b_Jb_begin 45 = .ok (.aload_n 0, 1) := by decide +kernel
theorem d_Jb_begin_46 : decode b_Jb_begin 46 = .ok (.bipush 6, 2) := by decide +kernel
theorem d_Jb_begin_48 : decode b_Jb_begin 48 = .ok (.putfield 43, 3) := by decide +kernel
theorem d_Jb_begin_51 : decode b_Jb_begin 51 = .ok (.aload_n 0, 1) := by decide +kernel
theorem d_Jb_begin_52 : decode b_Jb_begin 52 = .ok (.iconst 0, 1) := by decide +kernel
theorem d_Jb_begin_53 : decode b_Jb_begin 53 = .ok (.putfield 46, 3) := by decide +kernel
theorem d_Jb_begin_56 : decode b_Jb_begin 56 = .ok (.aload_n 0, 1) := by decide +kernel
theorem d_Jb_begin_57 : decode b_Jb_begin 57 = .ok (.iconst 0, 1) := by decide +kernel
theorem d_Jb_begin_58 : decode b_Jb_begin 58 = .ok (.putfield 49, 3) := by decide +kernel
theorem d_Jb_begin_61 : decode b_Jb_begin 61 = .ok (.aload_n 0, 1) := by decide +kernel
theorem d_Jb_begin_62 : decode b_Jb_begin 62 = .ok (.iconst 0, 1) := by decide +kernel
theorem d_Jb_begin_63 : decode b_Jb_begin 63 = .ok (.putfield 52, 3) := by decide +kernel
theorem d_Jb_begin_66 : decode b_Jb_begin 66 = .ok (.return_, 1) := by decide +kernel
theorem d_Jb_copyFrom_0 : decode b_Jb_copyFrom 0 = .ok (.aload_n 0, 1) := by decide +kernel
theorem d_Jb_copyFrom_1 : decode b_Jb_copyFrom 1 = .ok (.aload_n 1, 1) := by decide +kernel
theorem d_Jb_copyFrom_2 : decode b_Jb_copyFrom 2 = .ok (.getfield 15, 3) := by decide +kernel
theorem d_Jb_copyFrom_5 : decode b_Jb_copyFrom 5 = .ok (.putfield 15, 3) := by decide +kernel
theorem d_Jb_copyFrom_8 : decode b_Jb_copyFrom 8 = .ok (.aload_n 0, 1) := by decide +kernel
theorem d_Jb_copyFrom_9 : decode b_Jb_copyFrom 9 = .ok (.aload_n 1, 1) := by decide +kernel
theorem d_Jb_copyFrom_10 : decode b_Jb_copyFrom 10 = .ok (.getfield 18, 3) := by decide +kernel
theorem d_Jb_copyFrom_13 : decode b_Jb_copyFrom 13 = .ok (.putfield 18, 3) := by decide +kernel
theorem d_Jb_copyFrom_16 : decode b_Jb_copyFrom 16 = .ok (.aload_n 0, 1) := by decide +kernel
theorem d_Jb_copyFrom_17 : decode b_Jb_copyFrom 17 = .ok (.aload_n 1, 1) := by decide +kernel
theorem d_Jb_copyFrom_18 : decode b_Jb_copyFrom 18 = .ok (.getfield 21, 3) := by decide +kernel
theorem d_Jb_copyFrom_21 : decode b_Jb_copyFrom 21 = .ok (.putfield 21, 3) := by decide +kernel
theorem d_Jb_copyFrom_24 : decode b_Jb_copyFrom 24 = .ok (.aload_n 0, 1) := by decide +kernel
theorem d_Jb_copyFrom_25 : decode b_Jb_copyFrom 25 = .ok (.aload_n 1, 1) := by decide +kernel
theorem d_Jb_copyFrom_26 : decode b_Jb_copyFrom 26 = .ok (.getfield 24, 3) := by decide +kernel
theorem d_Jb_copyFrom_29 : decode b_Jb_copyFrom 29 = .ok (.putfield 24, 3) := by decide +kernel
theorem d_Jb_copyFrom_32 : decode b_Jb_copyFrom 32 = .ok (.aload_n 0, 1) := by decide +kernel
theorem d_Jb_copyFrom_33 : decode b_Jb_copyFrom 33 = .ok (.aload_n 1, 1) := by decide +kernel
theorem d_Jb_copyFrom_34 : decode b_Jb_copyFrom 34 = .ok (.getfield 27, 3) := by decide +kernel
theorem d_Jb_copyFrom_37 : decode b_Jb_copyFrom 37 = .ok (.putfield 27, 3) := by decide +kernel
theorem d_Jb_copyFrom_40 : decode b_Jb_copyFrom 40 = .ok (.aload_n 0, 1) := by decide +kernel
theorem d_Jb_copyFrom_41 : decode b_Jb_copyFrom 41 = .ok (.aload_n 1, 1) := by decide +kernel
theorem d_Jb_copyFrom_42 : decode b_Jb_copyFrom 42 = .ok (.getfield 30, 3) := by decide +kernel
theorem d_Jb_copyFrom_45 : decode b_Jb_copyFrom 45 = .ok (.putfield 30, 3) := by decide +kernel
theorem d_Jb_copyFrom_48 : decode b_Jb_copyFrom 48 = .ok (.aload_n 0, 1) := by decide +kernel
theorem d_Jb_copyFrom_49 : decode b_Jb_copyFrom 49 = .ok (.aload_n 1, 1) := by decide +kernel
theorem d_Jb_copyFrom_50 : decode b_Jb_copyFrom 50 = .ok (.getfield 33, 3) := by decide +kernel
theorem d_Jb_copyFrom_53 : decode b_Jb_copyFrom 53 = .ok (.putfield 33, 3) := by decide +kernel
theorem d_Jb_copyFrom_56 : decode b_Jb_copyFrom 56 = .ok (.aload_n 0, 1) := by decide +kernel
theorem d_Jb_copyFrom_57 : decode b_Jb_copyFrom 57 = .ok (.aload_n 1, 1) := by decide +kernel
theorem d_Jb_copyFrom_58 : decode b_Jb_copyFrom 58 = .ok (.getfield 36, 3) := by decide +kernel
theorem d_Jb_copyFrom_61 : decode b_Jb_copyFrom 61 = .ok (.putfield 36, 3) := by decide +kernel
theorem d_Jb_copyFrom_64 : decode b_Jb_copyFrom 64 = .ok (.aload_n 0, 1) := by decide +kernel
theorem d_Jb_copyFrom_65 : decode b_Jb_copyFrom 65 = .ok (.aload_n 1, 1) := by decide +kernel
theorem d_Jb_copyFrom_66 : decode b_Jb_copyFrom 66 = .ok (.getfield 39, 3) := by decide +kernel
theorem d_Jb_copyFrom_69 : decode b_Jb_copyFrom 69 = .ok (.putfield 39, 3) := by decide +kernel
theorem d_Jb_copyFrom_72 : decode b_Jb_copyFrom 72 = .ok (.aload_n 0, 1) := by decide +kernel
theorem d_Jb_copyFrom_73 : decode b_Jb_copyFrom 73 = .ok (.aload_n 1, 1) := by decide +kernel
theorem d_Jb_copyFrom_74 : decode b_Jb_copyFrom 74 = .ok (.getfield 43, 3) := by decide +kernel
theorem d_Jb_copyFrom_77 : decode b_Jb_copyFrom 77 = .ok (.putfield 43, 3) := by decide +kernel
theorem d_Jb_copyFrom_80 : decode b_Jb_copyFrom 80 = .ok (.aload_n 0, 1) := by decide +kernel
theorem d_Jb_copyFrom_81 : decode b_Jb_copyFrom 81 = .ok (.aload_n 1, 1) := by decide +kernel
theorem d_Jb_copyFrom_82 : decode b_Jb_copyFrom 82 = .ok (.getfield 46, 3) := by decide +kernel
theorem d_Jb_copyFrom_85 : decode b_Jb_copyFrom 85 = .ok (.putfield 46, 3) := by decide +kernel
theorem d_Jb_copyFrom_88 : decode b_Jb_copyFrom 88 = .ok (.aload_n 0, 1) := by decide +kernel
theorem d_Jb_copyFrom_89 : decode b_Jb_copyFrom 89 = .ok (.aload_n 1, 1) := by decide +kernel
theorem d_Jb_copyFrom_90 : decode b_Jb_copyFrom 90 = .ok (.getfield 49, 3) := by decide +kernel
theorem d_Jb_copyFrom_93 : decode b_Jb_copyFrom 93 = .ok (.putfield 49, 3) := by decide +kernel
theorem d_Jb_copyFrom_96 : decode b_Jb_copyFrom 96 = .ok (.aload_n 0, 1) := by decide +kernel
theorem d_Jb_copyFrom_97 : decode b_Jb_copyFrom 97 = .ok (.aload_n 1, 1) := by decide +kernel
theorem d_Jb_copyFrom_98 : decode b_Jb_copyFrom 98 = .ok (.getfield 52, 3) := by decide +kernel
theorem d_Jb_copyFrom_101 : decode b_Jb_copyFrom 101 = .ok (.putfield 52, 3) := by decide +kernel
theorem d_Jb_copyFrom_104 : decode b_Jb_copyFrom 104 = .ok (.return_, 1) := by decide +kernel
def fn_Jb_isLive (N : Nat) (o0 : Nat) (σ : gx_M) : Option (Int32 × gx_M) := if 42 ≤ o0 ∧ o0 < 722 then (if (σ o0 10) = ((4 : Int32)) then (some ((0 : Int32), σ)) else (if (σ o0 10) = ((5 : Int32)) then (some ((0 : Int32), σ)) else (if (σ o0 10) = ((7 : Int32)) then (some ((0 : Int32), σ)) else (some ((1 : Int32), σ))))) else none
set_option maxHeartbeats 4000000 in
set_option maxRecDepth 100000 in
theorem ct_Jb_isLive (l : Launch) (D : va_G) (dA : Nat → ClassId) (adr : Nat → Nat) (A : Nat → Prop) (hA : gx_A A adr) (N : Nat) (o0 : Nat) (σ : gx_M) (r : Int32) (σ' : gx_M) (hf : fn_Jb_isLive N o0 σ = some (r, σ')) : Met l y_Jb_isLive w_Jb_isLive rm_Jb_isLive (gx_Pc D dA adr σ [.ref (adr o0)]) (gx_Q D dA adr A (some (.int r)) σ') 0 0 A := by
  refine Met.ofW (cc := b_Jb_isLive) (maxL := 1) (ret := some .boolean) (by decide) rfl ?_
  intro p e s m args below meth c s₁ B hml hv
  obtain ⟨rfl, hP, hK⟩ := hv
  have hx := B.exec
  have hb := B.bytes
  have hr := B.returns
  have hlocks := B.notSynchronized
  have ht : ∀ w ∈ gx_tb, w.before _ s = true := fun w h => atoms_spec (ws := w_Jb_isLive) B.pre w (List.mem_cons_of_mem _ h)
  have hown : s.vm.findClass R_Jb = some m.cls := findClass_of_methodNamed B.named
  have G : gx_G p m c b_Jb_isLive 1 s _ gx_tb R_Jb D dA := ⟨⟨hx, hb, hml, hown, ht⟩, hK⟩
  have hI : gx_I D dA adr A s.heap σ s.heap [] := ⟨hP, va_S.rf⟩
  have hl := lv_entry ([.ref (adr o0)]) (n := 1) (Nat.le_of_ble_eq_true rfl)
  rw [lg_entry_eq]
  generalize (lg_sl ([.ref (adr o0)]) ++ List.replicate (1 - (lg_sl ([.ref (adr o0)])).length) Slot.unset).toArray = ls at hl ⊢
  have hl : lv_has ls 1 [(0, .ref (adr o0))] := hl
  rw [fn_Jb_isLive] at hf
  obtain ⟨ho0, hf⟩ := gx_gd hf
  refine lv_aload_n hx hb d_Jb_isLive_0 rfl (lv_at hl 0 rfl) ?_
  refine gx_getI G hI cl_Jb (gx_ci_j ho0) 10 (by decide) (gx_rf_j ho0 10) fl_Jb_43 d_Jb_isLive_1 ?_
  refine lv_iconst (v := 4) hx hb d_Jb_isLive_4 (by decide) ?_
  refine lv_icmp_eq (tgt := 29) hx hb d_Jb_isLive_5 (by decide) (fun c_1 => ?_) (fun c_1 => ?_)
  · replace hf := (if_pos c_1).symm.trans hf
    refine lv_iconst (v := 0) hx hb d_Jb_isLive_29 (by decide) ?_
    cases hf
    exact W.zret (v := (0 : Int32)) hx hb hr (by decide) (gx_F hI) hI.2.2.2 d_Jb_isLive_30
  · replace hf := (if_neg c_1).symm.trans hf
    refine lv_aload_n hx hb d_Jb_isLive_8 rfl (lv_at hl 0 rfl) ?_
    refine gx_getI G hI cl_Jb (gx_ci_j ho0) 10 (by decide) (gx_rf_j ho0 10) fl_Jb_43 d_Jb_isLive_9 ?_
    refine lv_iconst (v := 5) hx hb d_Jb_isLive_12 (by decide) ?_
    refine lv_icmp_eq (tgt := 29) hx hb d_Jb_isLive_13 (by decide) (fun c_2 => ?_) (fun c_2 => ?_)
    · replace hf := (if_pos c_2).symm.trans hf
      refine lv_iconst (v := 0) hx hb d_Jb_isLive_29 (by decide) ?_
      cases hf
      exact W.zret (v := (0 : Int32)) hx hb hr (by decide) (gx_F hI) hI.2.2.2 d_Jb_isLive_30
    · replace hf := (if_neg c_2).symm.trans hf
      refine lv_aload_n hx hb d_Jb_isLive_16 rfl (lv_at hl 0 rfl) ?_
      refine gx_getI G hI cl_Jb (gx_ci_j ho0) 10 (by decide) (gx_rf_j ho0 10) fl_Jb_43 d_Jb_isLive_17 ?_
      refine lv_bipush (v := 7) hx hb d_Jb_isLive_20 (by decide) ?_
      refine lv_icmp_eq (tgt := 29) hx hb d_Jb_isLive_22 (by decide) (fun c_3 => ?_) (fun c_3 => ?_)
      · replace hf := (if_pos c_3).symm.trans hf
        refine lv_iconst (v := 0) hx hb d_Jb_isLive_29 (by decide) ?_
        cases hf
        exact W.zret (v := (0 : Int32)) hx hb hr (by decide) (gx_F hI) hI.2.2.2 d_Jb_isLive_30
      · replace hf := (if_neg c_3).symm.trans hf
        refine lv_iconst (v := 1) hx hb d_Jb_isLive_25 (by decide) ?_
        refine lv_goto (tgt := 30) hx hb d_Jb_isLive_26 (by decide) ?_
        cases hf
        exact W.zret (v := (1 : Int32)) hx hb hr (by decide) (gx_F hI) hI.2.2.2 d_Jb_isLive_30
def fn_Jb_isTimed (N : Nat) (o0 : Nat) (σ : gx_M) : Option (Int32 × gx_M) := if 42 ≤ o0 ∧ o0 < 722 then (if (σ o0 10) = 0 then (some ((1 : Int32), σ)) else (if (σ o0 10) = ((3 : Int32)) then (some ((1 : Int32), σ)) else (if (σ o0 10) = ((2 : Int32)) then (some ((1 : Int32), σ)) else (some ((0 : Int32), σ))))) else none
set_option maxHeartbeats 4000000 in
set_option maxRecDepth 100000 in
theorem ct_Jb_isTimed (l : Launch) (D : va_G) (dA : Nat → ClassId) (adr : Nat → Nat) (A : Nat → Prop) (hA : gx_A A adr) (N : Nat) (o0 : Nat) (σ : gx_M) (r : Int32) (σ' : gx_M) (hf : fn_Jb_isTimed N o0 σ = some (r, σ')) : Met l y_Jb_isTimed w_Jb_isTimed rm_Jb_isTimed (gx_Pc D dA adr σ [.ref (adr o0)]) (gx_Q D dA adr A (some (.int r)) σ') 0 0 A := by
  refine Met.ofW (cc := b_Jb_isTimed) (maxL := 1) (ret := some .boolean) (by decide) rfl ?_
  intro p e s m args below meth c s₁ B hml hv
  obtain ⟨rfl, hP, hK⟩ := hv
  have hx := B.exec
  have hb := B.bytes
  have hr := B.returns
  have hlocks := B.notSynchronized
  have ht : ∀ w ∈ gx_tb, w.before _ s = true := fun w h => atoms_spec (ws := w_Jb_isTimed) B.pre w (List.mem_cons_of_mem _ h)
  have hown : s.vm.findClass R_Jb = some m.cls := findClass_of_methodNamed B.named
  have G : gx_G p m c b_Jb_isTimed 1 s _ gx_tb R_Jb D dA := ⟨⟨hx, hb, hml, hown, ht⟩, hK⟩
  have hI : gx_I D dA adr A s.heap σ s.heap [] := ⟨hP, va_S.rf⟩
  have hl := lv_entry ([.ref (adr o0)]) (n := 1) (Nat.le_of_ble_eq_true rfl)
  rw [lg_entry_eq]
  generalize (lg_sl ([.ref (adr o0)]) ++ List.replicate (1 - (lg_sl ([.ref (adr o0)])).length) Slot.unset).toArray = ls at hl ⊢
  have hl : lv_has ls 1 [(0, .ref (adr o0))] := hl
  rw [fn_Jb_isTimed] at hf
  obtain ⟨ho0, hf⟩ := gx_gd hf
  refine lv_aload_n hx hb d_Jb_isTimed_0 rfl (lv_at hl 0 rfl) ?_
  refine gx_getI G hI cl_Jb (gx_ci_j ho0) 10 (by decide) (gx_rf_j ho0 10) fl_Jb_43 d_Jb_isTimed_1 ?_
  refine lv_if_eq (tgt := 23) hx hb d_Jb_isTimed_4 (by decide) (fun c_1 => ?_) (fun c_1 => ?_)
  · replace hf := (if_pos c_1).symm.trans hf
    refine lv_iconst (v := 1) hx hb d_Jb_isTimed_23 (by decide) ?_
    refine lv_goto (tgt := 28) hx hb d_Jb_isTimed_24 (by decide) ?_
    cases hf
    exact W.zret (v := (1 : Int32)) hx hb hr (by decide) (gx_F hI) hI.2.2.2 d_Jb_isTimed_28
  · replace hf := (if_neg c_1).symm.trans hf
    refine lv_aload_n hx hb d_Jb_isTimed_7 rfl (lv_at hl 0 rfl) ?_
    refine gx_getI G hI cl_Jb (gx_ci_j ho0) 10 (by decide) (gx_rf_j ho0 10) fl_Jb_43 d_Jb_isTimed_8 ?_
    refine lv_iconst (v := 3) hx hb d_Jb_isTimed_11 (by decide) ?_
    refine lv_icmp_eq (tgt := 23) hx hb d_Jb_isTimed_12 (by decide) (fun c_2 => ?_) (fun c_2 => ?_)
    · replace hf := (if_pos c_2).symm.trans hf
      refine lv_iconst (v := 1) hx hb d_Jb_isTimed_23 (by decide) ?_
      refine lv_goto (tgt := 28) hx hb d_Jb_isTimed_24 (by decide) ?_
      cases hf
      exact W.zret (v := (1 : Int32)) hx hb hr (by decide) (gx_F hI) hI.2.2.2 d_Jb_isTimed_28
    · replace hf := (if_neg c_2).symm.trans hf
      refine lv_aload_n hx hb d_Jb_isTimed_15 rfl (lv_at hl 0 rfl) ?_
      refine gx_getI G hI cl_Jb (gx_ci_j ho0) 10 (by decide) (gx_rf_j ho0 10) fl_Jb_43 d_Jb_isTimed_16 ?_
      refine lv_iconst (v := 2) hx hb d_Jb_isTimed_19 (by decide) ?_
      refine lv_icmp_ne (tgt := 27) hx hb d_Jb_isTimed_20 (by decide) (fun c_3 => ?_) (fun c_3 => ?_)
      · replace hf := (if_neg c_3).symm.trans hf
        refine lv_iconst (v := 0) hx hb d_Jb_isTimed_27 (by decide) ?_
        cases hf
        exact W.zret (v := (0 : Int32)) hx hb hr (by decide) (gx_F hI) hI.2.2.2 d_Jb_isTimed_28
      · replace hf := (if_pos c_3).symm.trans hf
        refine lv_iconst (v := 1) hx hb d_Jb_isTimed_23 (by decide) ?_
        refine lv_goto (tgt := 28) hx hb d_Jb_isTimed_24 (by decide) ?_
        cases hf
        exact W.zret (v := (1 : Int32)) hx hb hr (by decide) (gx_F hI) hI.2.2.2 d_Jb_isTimed_28
def fn_Jb_waitUntil (N : Nat) (o0 : Nat) (p0 : Int32) (p1 : Int32) (σ : gx_M) : Option gx_M := if 42 ≤ o0 ∧ o0 < 722 then (gx_lt (gx_up σ o0 10 p0) (fun σ_1 => gx_lt (gx_up σ_1 o0 11 p1) (fun σ_2 => some σ_2))) else none
set_option maxHeartbeats 4000000 in
set_option maxRecDepth 100000 in
theorem ct_Jb_waitUntil (l : Launch) (D : va_G) (dA : Nat → ClassId) (adr : Nat → Nat) (A : Nat → Prop) (hA : gx_A A adr) (N : Nat) (o0 : Nat) (p0 : Int32) (p1 : Int32) (σ : gx_M) (σ' : gx_M) (hf : fn_Jb_waitUntil N o0 p0 p1 σ = some σ') : Met l y_Jb_waitUntil w_Jb_waitUntil rm_Jb_waitUntil (gx_Pc D dA adr σ [.ref (adr o0), .int p0, .int p1]) (gx_Q D dA adr A none σ') 0 0 A := by
  refine Met.ofW (cc := b_Jb_waitUntil) (maxL := 3) (ret := none) (by decide) rfl ?_
  intro p e s m args below meth c s₁ B hml hv
  obtain ⟨rfl, hP, hK⟩ := hv
  have hx := B.exec
  have hb := B.bytes
  have hr := B.returns
  have hlocks := B.notSynchronized
  have ht : ∀ w ∈ gx_tb, w.before _ s = true := fun w h => atoms_spec (ws := w_Jb_waitUntil) B.pre w (List.mem_cons_of_mem _ h)
  have hown : s.vm.findClass R_Jb = some m.cls := findClass_of_methodNamed B.named
  have G : gx_G p m c b_Jb_waitUntil 3 s _ gx_tb R_Jb D dA := ⟨⟨hx, hb, hml, hown, ht⟩, hK⟩
  have hI : gx_I D dA adr A s.heap σ s.heap [] := ⟨hP, va_S.rf⟩
  have hl := lv_entry ([.ref (adr o0), .int p0, .int p1]) (n := 3) (Nat.le_of_ble_eq_true rfl)
  rw [lg_entry_eq]
  generalize (lg_sl ([.ref (adr o0), .int p0, .int p1]) ++ List.replicate (3 - (lg_sl ([.ref (adr o0), .int p0, .int p1])).length) Slot.unset).toArray = ls at hl ⊢
  have hl : lv_has ls 3 [(0, .ref (adr o0)), (1, .int p0), (2, .int p1)] := hl
  rw [fn_Jb_waitUntil] at hf
  obtain ⟨ho0, hf⟩ := gx_gd hf
  refine lv_aload_n hx hb d_Jb_waitUntil_0 rfl (lv_at hl 0 rfl) ?_
  refine lv_iload_n hx hb d_Jb_waitUntil_1 rfl (lv_at hl 1 rfl) ?_
  obtain ⟨σ_1, eσ_1, hf⟩ := gx_lte hf
  refine gx_put G hI hA cl_Jb (gx_ci_j ho0) 10 (by decide) (gx_rf_j ho0 10) fl_Jb_43 rfl rfl rfl eσ_1 d_Jb_waitUntil_2 (fun H locs hI => ?_)
  refine lv_aload_n hx hb d_Jb_waitUntil_5 rfl (lv_at hl 0 rfl) ?_
  refine lv_iload_n hx hb d_Jb_waitUntil_6 rfl (lv_at hl 2 rfl) ?_
  obtain ⟨σ_2, eσ_2, hf⟩ := gx_lte hf
  refine gx_put G hI hA cl_Jb (gx_ci_j ho0) 11 (by decide) (gx_rf_j ho0 11) fl_Jb_46 rfl rfl rfl eσ_2 d_Jb_waitUntil_7 (fun H locs hI => ?_)
  cases hf
  exact W.vret hx hb hr (gx_F hI) hI.2.2.2 d_Jb_waitUntil_10
def fn_Jb_retryDelay (N : Nat) (o0 : Nat) (σ : gx_M) : Option (Int32 × gx_M) := if 42 ≤ o0 ∧ o0 < 722 then (some (if ((σ o0 4) <<< (((σ o0 6) - ((1 : Int32))) &&& 31)) < ((500 : Int32)) then ((σ o0 4) <<< (((σ o0 6) - ((1 : Int32))) &&& 31)) else ((500 : Int32)), σ)) else none
set_option maxHeartbeats 4000000 in
set_option maxRecDepth 100000 in
theorem ct_Jb_retryDelay (l : Launch) (D : va_G) (dA : Nat → ClassId) (adr : Nat → Nat) (A : Nat → Prop) (hA : gx_A A adr) (N : Nat) (o0 : Nat) (σ : gx_M) (r : Int32) (σ' : gx_M) (hf : fn_Jb_retryDelay N o0 σ = some (r, σ')) : Met l y_Jb_retryDelay w_Jb_retryDelay rm_Jb_retryDelay (gx_Pc D dA adr σ [.ref (adr o0)]) (gx_Q D dA adr A (some (.int r)) σ') 0 0 A := by
  refine Met.ofW (cc := b_Jb_retryDelay) (maxL := 1) (ret := some .int) (by decide) rfl ?_
  intro p e s m args below meth c s₁ B hml hv
  obtain ⟨rfl, hP, hK⟩ := hv
  have hx := B.exec
  have hb := B.bytes
  have hr := B.returns
  have hlocks := B.notSynchronized
  have ht : ∀ w ∈ gx_tb, w.before _ s = true := fun w h => atoms_spec (ws := w_Jb_retryDelay) B.pre w (List.mem_cons_of_mem _ h)
  have hown : s.vm.findClass R_Jb = some m.cls := findClass_of_methodNamed B.named
  have G : gx_G p m c b_Jb_retryDelay 1 s _ gx_tb R_Jb D dA := ⟨⟨hx, hb, hml, hown, ht⟩, hK⟩
  have hI : gx_I D dA adr A s.heap σ s.heap [] := ⟨hP, va_S.rf⟩
  have hl := lv_entry ([.ref (adr o0)]) (n := 1) (Nat.le_of_ble_eq_true rfl)
  rw [lg_entry_eq]
  generalize (lg_sl ([.ref (adr o0)]) ++ List.replicate (1 - (lg_sl ([.ref (adr o0)])).length) Slot.unset).toArray = ls at hl ⊢
  have hl : lv_has ls 1 [(0, .ref (adr o0))] := hl
  rw [fn_Jb_retryDelay] at hf
  obtain ⟨ho0, hf⟩ := gx_gd hf
  refine lv_sipush (v := 500) hx hb d_Jb_retryDelay_0 (by decide) ?_
  refine lv_aload_n hx hb d_Jb_retryDelay_3 rfl (lv_at hl 0 rfl) ?_
  refine gx_getI G hI cl_Jb (gx_ci_j ho0) 4 (by decide) (gx_rf_j ho0 4) fl_Jb_24 d_Jb_retryDelay_4 ?_
  refine lv_aload_n hx hb d_Jb_retryDelay_7 rfl (lv_at hl 0 rfl) ?_
  refine gx_getI G hI cl_Jb (gx_ci_j ho0) 6 (by decide) (gx_rf_j ho0 6) fl_Jb_30 d_Jb_retryDelay_8 ?_
  refine lv_iconst (v := 1) hx hb d_Jb_retryDelay_11 (by decide) ?_
  refine lv_isub hx hb d_Jb_retryDelay_12 ?_
  refine lv_ishl hx hb d_Jb_retryDelay_13 ?_
  refine va_mmin hx hb (hml.trans hl.1.symm) hown (ht _ ml_Jb_55) (ht _ st_Math_min) (ht _ in_Math) (ht _ co_Math_min) (Nat.le_of_ble_eq_true rfl) (Nat.le_of_ble_eq_true rfl) (Nat.zero_le _) (Nat.zero_le _) d_Jb_retryDelay_14 ?_
  cases hf
  exact W.iret (v := if ((σ o0 4) <<< (((σ o0 6) - ((1 : Int32))) &&& 31)) < ((500 : Int32)) then ((σ o0 4) <<< (((σ o0 6) - ((1 : Int32))) &&& 31)) else ((500 : Int32))) hx hb hr (gx_F hI) hI.2.2.2 d_Jb_retryDelay_17
def fn_Jb_standsBefore (N : Nat) (o0 : Nat) (q0 : Nat) (σ : gx_M) : Option (Int32 × gx_M) := if 42 ≤ o0 ∧ o0 < 722 then (if 42 ≤ q0 ∧ q0 < 722 then (if (σ q0 2) < (σ o0 2) then (some ((1 : Int32), σ)) else (if (σ o0 2) = (σ q0 2) then (if (σ q0 13) ≤ (σ o0 13) then (some ((0 : Int32), σ)) else (some ((1 : Int32), σ))) else (some ((0 : Int32), σ)))) else none) else none
set_option maxHeartbeats 4000000 in
set_option maxRecDepth 100000 in
theorem ct_Jb_standsBefore (l : Launch) (D : va_G) (dA : Nat → ClassId) (adr : Nat → Nat) (A : Nat → Prop) (hA : gx_A A adr) (N : Nat) (o0 : Nat) (q0 : Nat) (σ : gx_M) (r : Int32) (σ' : gx_M) (hf : fn_Jb_standsBefore N o0 q0 σ = some (r, σ')) : Met l y_Jb_standsBefore w_Jb_standsBefore rm_Jb_standsBefore (gx_Pc D dA adr σ [.ref (adr o0), .ref (adr q0)]) (gx_Q D dA adr A (some (.int r)) σ') 0 0 A := by
  refine Met.ofW (cc := b_Jb_standsBefore) (maxL := 2) (ret := some .boolean) (by decide) rfl ?_
  intro p e s m args below meth c s₁ B hml hv
  obtain ⟨rfl, hP, hK⟩ := hv
  have hx := B.exec
  have hb := B.bytes
  have hr := B.returns
  have hlocks := B.notSynchronized
  have ht : ∀ w ∈ gx_tb, w.before _ s = true := fun w h => atoms_spec (ws := w_Jb_standsBefore) B.pre w (List.mem_cons_of_mem _ h)
  have hown : s.vm.findClass R_Jb = some m.cls := findClass_of_methodNamed B.named
  have G : gx_G p m c b_Jb_standsBefore 2 s _ gx_tb R_Jb D dA := ⟨⟨hx, hb, hml, hown, ht⟩, hK⟩
  have hI : gx_I D dA adr A s.heap σ s.heap [] := ⟨hP, va_S.rf⟩
  have hl := lv_entry ([.ref (adr o0), .ref (adr q0)]) (n := 2) (Nat.le_of_ble_eq_true rfl)
  rw [lg_entry_eq]
  generalize (lg_sl ([.ref (adr o0), .ref (adr q0)]) ++ List.replicate (2 - (lg_sl ([.ref (adr o0), .ref (adr q0)])).length) Slot.unset).toArray = ls at hl ⊢
  have hl : lv_has ls 2 [(0, .ref (adr o0)), (1, .ref (adr q0))] := hl
  rw [fn_Jb_standsBefore] at hf
  obtain ⟨ho0, hf⟩ := gx_gd hf
  obtain ⟨hq0, hf⟩ := gx_gd hf
  refine lv_aload_n hx hb d_Jb_standsBefore_0 rfl (lv_at hl 0 rfl) ?_
  refine gx_getI G hI cl_Jb (gx_ci_j ho0) 2 (by decide) (gx_rf_j ho0 2) fl_Jb_18 d_Jb_standsBefore_1 ?_
  refine lv_aload_n hx hb d_Jb_standsBefore_4 rfl (lv_at hl 1 rfl) ?_
  refine gx_getI G hI cl_Jb (gx_ci_j hq0) 2 (by decide) (gx_rf_j hq0 2) fl_Jb_18 d_Jb_standsBefore_5 ?_
  refine lv_icmp_gt (tgt := 33) hx hb d_Jb_standsBefore_8 (by decide) (fun c_1 => ?_) (fun c_1 => ?_)
  · replace hf := (if_pos c_1).symm.trans hf
    refine lv_iconst (v := 1) hx hb d_Jb_standsBefore_33 (by decide) ?_
    refine lv_goto (tgt := 38) hx hb d_Jb_standsBefore_34 (by decide) ?_
    cases hf
    exact W.zret (v := (1 : Int32)) hx hb hr (by decide) (gx_F hI) hI.2.2.2 d_Jb_standsBefore_38
  · replace hf := (if_neg c_1).symm.trans hf
    refine lv_aload_n hx hb d_Jb_standsBefore_11 rfl (lv_at hl 0 rfl) ?_
    refine gx_getI G hI cl_Jb (gx_ci_j ho0) 2 (by decide) (gx_rf_j ho0 2) fl_Jb_18 d_Jb_standsBefore_12 ?_
    refine lv_aload_n hx hb d_Jb_standsBefore_15 rfl (lv_at hl 1 rfl) ?_
    refine gx_getI G hI cl_Jb (gx_ci_j hq0) 2 (by decide) (gx_rf_j hq0 2) fl_Jb_18 d_Jb_standsBefore_16 ?_
    refine lv_icmp_ne (tgt := 37) hx hb d_Jb_standsBefore_19 (by decide) (fun c_2 => ?_) (fun c_2 => ?_)
    · replace hf := (if_neg c_2).symm.trans hf
      refine lv_iconst (v := 0) hx hb d_Jb_standsBefore_37 (by decide) ?_
      cases hf
      exact W.zret (v := (0 : Int32)) hx hb hr (by decide) (gx_F hI) hI.2.2.2 d_Jb_standsBefore_38
    · replace hf := (if_pos c_2).symm.trans hf
      refine lv_aload_n hx hb d_Jb_standsBefore_22 rfl (lv_at hl 0 rfl) ?_
      refine gx_getI G hI cl_Jb (gx_ci_j ho0) 13 (by decide) (gx_rf_j ho0 13) fl_Jb_52 d_Jb_standsBefore_23 ?_
      refine lv_aload_n hx hb d_Jb_standsBefore_26 rfl (lv_at hl 1 rfl) ?_
      refine gx_getI G hI cl_Jb (gx_ci_j hq0) 13 (by decide) (gx_rf_j hq0 13) fl_Jb_52 d_Jb_standsBefore_27 ?_
      refine lv_icmp_ge (tgt := 37) hx hb d_Jb_standsBefore_30 (by decide) (fun c_3 => ?_) (fun c_3 => ?_)
      · replace hf := (if_pos c_3).symm.trans hf
        refine lv_iconst (v := 0) hx hb d_Jb_standsBefore_37 (by decide) ?_
        cases hf
        exact W.zret (v := (0 : Int32)) hx hb hr (by decide) (gx_F hI) hI.2.2.2 d_Jb_standsBefore_38
      · replace hf := (if_neg c_3).symm.trans hf
        refine lv_iconst (v := 1) hx hb d_Jb_standsBefore_33 (by decide) ?_
        refine lv_goto (tgt := 38) hx hb d_Jb_standsBefore_34 (by decide) ?_
        cases hf
        exact W.zret (v := (1 : Int32)) hx hb hr (by decide) (gx_F hI) hI.2.2.2 d_Jb_standsBefore_38
def fn_Jb_begin (N : Nat) (o0 : Nat) (p0 : Int32) (p1 : Int32) (σ : gx_M) : Option gx_M := if 42 ≤ o0 ∧ o0 < 722 then (gx_lt (gx_up σ o0 1 p0) (fun σ_1 => gx_lt (gx_up σ_1 o0 2 p1) (fun σ_2 => gx_lt (gx_up σ_2 o0 3 ((0 : Int32))) (fun σ_3 => gx_lt (gx_up σ_3 o0 4 ((1 : Int32))) (fun σ_4 => gx_lt (gx_up σ_4 o0 5 ((-1 : Int32))) (fun σ_5 => gx_lt (gx_up σ_5 o0 6 ((0 : Int32))) (fun σ_6 => gx_lt (gx_up σ_6 o0 7 ((-1 : Int32))) (fun σ_7 => gx_lt (gx_up σ_7 o0 8 ((0 : Int32))) (fun σ_8 => gx_lt (gx_up σ_8 o0 9 ((0 : Int32))) (fun σ_9 => gx_lt (gx_up σ_9 o0 10 ((6 : Int32))) (fun σ_10 => gx_lt (gx_up σ_10 o0 11 ((0 : Int32))) (fun σ_11 => gx_lt (gx_up σ_11 o0 12 ((0 : Int32))) (fun σ_12 => gx_lt (gx_up σ_12 o0 13 ((0 : Int32))) (fun σ_13 => some σ_13)))))))))))))) else none
set_option maxHeartbeats 4000000 in
set_option maxRecDepth 100000 in
theorem ct_Jb_begin (l : Launch) (D : va_G) (dA : Nat → ClassId) (adr : Nat → Nat) (A : Nat → Prop) (hA : gx_A A adr) (N : Nat) (o0 : Nat) (p0 : Int32) (p1 : Int32) (σ : gx_M) (σ' : gx_M) (hf : fn_Jb_begin N o0 p0 p1 σ = some σ') : Met l y_Jb_begin w_Jb_begin rm_Jb_begin (gx_Pc D dA adr σ [.ref (adr o0), .int p0, .int p1]) (gx_Q D dA adr A none σ') 0 0 A := by
  refine Met.ofW (cc := b_Jb_begin) (maxL := 3) (ret := none) (by decide) rfl ?_
  intro p e s m args below meth c s₁ B hml hv
  obtain ⟨rfl, hP, hK⟩ := hv
  have hx := B.exec
  have hb := B.bytes
  have hr := B.returns
  have hlocks := B.notSynchronized
  have ht : ∀ w ∈ gx_tb, w.before _ s = true := fun w h => atoms_spec (ws := w_Jb_begin) B.pre w (List.mem_cons_of_mem _ h)
  have hown : s.vm.findClass R_Jb = some m.cls := findClass_of_methodNamed B.named
  have G : gx_G p m c b_Jb_begin 3 s _ gx_tb R_Jb D dA := ⟨⟨hx, hb, hml, hown, ht⟩, hK⟩
  have hI : gx_I D dA adr A s.heap σ s.heap [] := ⟨hP, va_S.rf⟩
  have hl := lv_entry ([.ref (adr o0), .int p0, .int p1]) (n := 3) (Nat.le_of_ble_eq_true rfl)
  rw [lg_entry_eq]
  generalize (lg_sl ([.ref (adr o0), .int p0, .int p1]) ++ List.replicate (3 - (lg_sl ([.ref (adr o0), .int p0, .int p1])).length) Slot.unset).toArray = ls at hl ⊢
  have hl : lv_has ls 3 [(0, .ref (adr o0)), (1, .int p0), (2, .int p1)] := hl
  rw [fn_Jb_begin] at hf
  obtain ⟨ho0, hf⟩ := gx_gd hf
  refine lv_aload_n hx hb d_Jb_begin_0 rfl (lv_at hl 0 rfl) ?_
  refine lv_iload_n hx hb d_Jb_begin_1 rfl (lv_at hl 1 rfl) ?_
  obtain ⟨σ_1, eσ_1, hf⟩ := gx_lte hf
  refine gx_put G hI hA cl_Jb (gx_ci_j ho0) 1 (by decide) (gx_rf_j ho0 1) fl_Jb_15 rfl rfl rfl eσ_1 d_Jb_begin_2 (fun H locs hI => ?_)
  refine lv_aload_n hx hb d_Jb_begin_5 rfl (lv_at hl 0 rfl) ?_
  refine lv_iload_n hx hb d_Jb_begin_6 rfl (lv_at hl 2 rfl) ?_
  obtain ⟨σ_2, eσ_2, hf⟩ := gx_lte hf
  refine gx_put G hI hA cl_Jb (gx_ci_j ho0) 2 (by decide) (gx_rf_j ho0 2) fl_Jb_18 rfl rfl rfl eσ_2 d_Jb_begin_7 (fun H locs hI => ?_)
  refine lv_aload_n hx hb d_Jb_begin_10 rfl (lv_at hl 0 rfl) ?_
  refine lv_iconst (v := 0) hx hb d_Jb_begin_11 (by decide) ?_
  obtain ⟨σ_3, eσ_3, hf⟩ := gx_lte hf
  refine gx_put G hI hA cl_Jb (gx_ci_j ho0) 3 (by decide) (gx_rf_j ho0 3) fl_Jb_21 rfl rfl rfl eσ_3 d_Jb_begin_12 (fun H locs hI => ?_)
  refine lv_aload_n hx hb d_Jb_begin_15 rfl (lv_at hl 0 rfl) ?_
  refine lv_iconst (v := 1) hx hb d_Jb_begin_16 (by decide) ?_
  obtain ⟨σ_4, eσ_4, hf⟩ := gx_lte hf
  refine gx_put G hI hA cl_Jb (gx_ci_j ho0) 4 (by decide) (gx_rf_j ho0 4) fl_Jb_24 rfl rfl rfl eσ_4 d_Jb_begin_17 (fun H locs hI => ?_)
  refine lv_aload_n hx hb d_Jb_begin_20 rfl (lv_at hl 0 rfl) ?_
  refine lv_iconst (v := (-1)) hx hb d_Jb_begin_21 (by decide) ?_
  obtain ⟨σ_5, eσ_5, hf⟩ := gx_lte hf
  refine gx_put G hI hA cl_Jb (gx_ci_j ho0) 5 (by decide) (gx_rf_j ho0 5) fl_Jb_27 rfl rfl rfl eσ_5 d_Jb_begin_22 (fun H locs hI => ?_)
  refine lv_aload_n hx hb d_Jb_begin_25 rfl (lv_at hl 0 rfl) ?_
  refine lv_iconst (v := 0) hx hb d_Jb_begin_26 (by decide) ?_
  obtain ⟨σ_6, eσ_6, hf⟩ := gx_lte hf
  refine gx_put G hI hA cl_Jb (gx_ci_j ho0) 6 (by decide) (gx_rf_j ho0 6) fl_Jb_30 rfl rfl rfl eσ_6 d_Jb_begin_27 (fun H locs hI => ?_)
  refine lv_aload_n hx hb d_Jb_begin_30 rfl (lv_at hl 0 rfl) ?_
  refine lv_iconst (v := (-1)) hx hb d_Jb_begin_31 (by decide) ?_
  obtain ⟨σ_7, eσ_7, hf⟩ := gx_lte hf
  refine gx_put G hI hA cl_Jb (gx_ci_j ho0) 7 (by decide) (gx_rf_j ho0 7) fl_Jb_33 rfl rfl rfl eσ_7 d_Jb_begin_32 (fun H locs hI => ?_)
  refine lv_aload_n hx hb d_Jb_begin_35 rfl (lv_at hl 0 rfl) ?_
  refine lv_iconst (v := 0) hx hb d_Jb_begin_36 (by decide) ?_
  obtain ⟨σ_8, eσ_8, hf⟩ := gx_lte hf
  refine gx_put G hI hA cl_Jb (gx_ci_j ho0) 8 (by decide) (gx_rf_j ho0 8) fl_Jb_36 rfl rfl rfl eσ_8 d_Jb_begin_37 (fun H locs hI => ?_)
  refine lv_aload_n hx hb d_Jb_begin_40 rfl (lv_at hl 0 rfl) ?_
  refine lv_iconst (v := 0) hx hb d_Jb_begin_41 (by decide) ?_
  obtain ⟨σ_9, eσ_9, hf⟩ := gx_lte hf
  refine gx_put G hI hA cl_Jb (gx_ci_j ho0) 9 (by decide) (gx_rf_j ho0 9) fl_Jb_39 rfl (by decide) (by decide) eσ_9 d_Jb_begin_42 (fun H locs hI => ?_)
  refine lv_aload_n hx hb d_Jb_begin_45 rfl (lv_at hl 0 rfl) ?_
  refine lv_bipush (v := 6) hx hb d_Jb_begin_46 (by decide) ?_
  obtain ⟨σ_10, eσ_10, hf⟩ := gx_lte hf
  refine gx_put G hI hA cl_Jb (gx_ci_j ho0) 10 (by decide) (gx_rf_j ho0 10) fl_Jb_43 rfl rfl rfl eσ_10 d_Jb_begin_48 (fun H locs hI => ?_)
  refine lv_aload_n hx hb d_Jb_begin_51 rfl (lv_at hl 0 rfl) ?_
  refine lv_iconst (v := 0) hx hb d_Jb_begin_52 (by decide) ?_
  obtain ⟨σ_11, eσ_11, hf⟩ := gx_lte hf
  refine gx_put G hI hA cl_Jb (gx_ci_j ho0) 11 (by decide) (gx_rf_j ho0 11) fl_Jb_46 rfl rfl rfl eσ_11 d_Jb_begin_53 (fun H locs hI => ?_)
  refine lv_aload_n hx hb d_Jb_begin_56 rfl (lv_at hl 0 rfl) ?_
  refine lv_iconst (v := 0) hx hb d_Jb_begin_57 (by decide) ?_
  obtain ⟨σ_12, eσ_12, hf⟩ := gx_lte hf
  refine gx_put G hI hA cl_Jb (gx_ci_j ho0) 12 (by decide) (gx_rf_j ho0 12) fl_Jb_49 rfl rfl rfl eσ_12 d_Jb_begin_58 (fun H locs hI => ?_)
  refine lv_aload_n hx hb d_Jb_begin_61 rfl (lv_at hl 0 rfl) ?_
  refine lv_iconst (v := 0) hx hb d_Jb_begin_62 (by decide) ?_
  obtain ⟨σ_13, eσ_13, hf⟩ := gx_lte hf
  refine gx_put G hI hA cl_Jb (gx_ci_j ho0) 13 (by decide) (gx_rf_j ho0 13) fl_Jb_52 rfl rfl rfl eσ_13 d_Jb_begin_63 (fun H locs hI => ?_)
  cases hf
  exact W.vret hx hb hr (gx_F hI) hI.2.2.2 d_Jb_begin_66
def fn_Jb_copyFrom (N : Nat) (o0 : Nat) (q0 : Nat) (σ : gx_M) : Option gx_M := if 42 ≤ o0 ∧ o0 < 722 then (if 42 ≤ q0 ∧ q0 < 722 then (gx_lt (gx_up σ o0 1 (σ q0 1)) (fun σ_1 => gx_lt (gx_up σ_1 o0 2 (σ_1 q0 2)) (fun σ_2 => gx_lt (gx_up σ_2 o0 3 (σ_2 q0 3)) (fun σ_3 => gx_lt (gx_up σ_3 o0 4 (σ_3 q0 4)) (fun σ_4 => gx_lt (gx_up σ_4 o0 5 (σ_4 q0 5)) (fun σ_5 => gx_lt (gx_up σ_5 o0 6 (σ_5 q0 6)) (fun σ_6 => gx_lt (gx_up σ_6 o0 7 (σ_6 q0 7)) (fun σ_7 => gx_lt (gx_up σ_7 o0 8 (σ_7 q0 8)) (fun σ_8 => if (σ_8 q0 9) = 0 ∨ (σ_8 q0 9) = 1 then (gx_lt (gx_up σ_8 o0 9 (σ_8 q0 9)) (fun σ_9 => gx_lt (gx_up σ_9 o0 10 (σ_9 q0 10)) (fun σ_11 => gx_lt (gx_up σ_11 o0 11 (σ_11 q0 11)) (fun σ_12 => gx_lt (gx_up σ_12 o0 12 (σ_12 q0 12)) (fun σ_13 => gx_lt (gx_up σ_13 o0 13 (σ_13 q0 13)) (fun σ_14 => some σ_14)))))) else none))))))))) else none) else none
set_option maxHeartbeats 4000000 in
set_option maxRecDepth 100000 in
theorem ct_Jb_copyFrom (l : Launch) (D : va_G) (dA : Nat → ClassId) (adr : Nat → Nat) (A : Nat → Prop) (hA : gx_A A adr) (N : Nat) (o0 : Nat) (q0 : Nat) (σ : gx_M) (σ' : gx_M) (hf : fn_Jb_copyFrom N o0 q0 σ = some σ') : Met l y_Jb_copyFrom w_Jb_copyFrom rm_Jb_copyFrom (gx_Pc D dA adr σ [.ref (adr o0), .ref (adr q0)]) (gx_Q D dA adr A none σ') 0 0 A := by
  refine Met.ofW (cc := b_Jb_copyFrom) (maxL := 2) (ret := none) (by decide) rfl ?_
  intro p e s m args below meth c s₁ B hml hv
  obtain ⟨rfl, hP, hK⟩ := hv
  have hx := B.exec
  have hb := B.bytes
  have hr := B.returns
  have hlocks := B.notSynchronized
  have ht : ∀ w ∈ gx_tb, w.before _ s = true := fun w h => atoms_spec (ws := w_Jb_copyFrom) B.pre w (List.mem_cons_of_mem _ h)
  have hown : s.vm.findClass R_Jb = some m.cls := findClass_of_methodNamed B.named
  have G : gx_G p m c b_Jb_copyFrom 2 s _ gx_tb R_Jb D dA := ⟨⟨hx, hb, hml, hown, ht⟩, hK⟩
  have hI : gx_I D dA adr A s.heap σ s.heap [] := ⟨hP, va_S.rf⟩
  have hl := lv_entry ([.ref (adr o0), .ref (adr q0)]) (n := 2) (Nat.le_of_ble_eq_true rfl)
  rw [lg_entry_eq]
  generalize (lg_sl ([.ref (adr o0), .ref (adr q0)]) ++ List.replicate (2 - (lg_sl ([.ref (adr o0), .ref (adr q0)])).length) Slot.unset).toArray = ls at hl ⊢
  have hl : lv_has ls 2 [(0, .ref (adr o0)), (1, .ref (adr q0))] := hl
  rw [fn_Jb_copyFrom] at hf
  obtain ⟨ho0, hf⟩ := gx_gd hf
  obtain ⟨hq0, hf⟩ := gx_gd hf
  refine lv_aload_n hx hb d_Jb_copyFrom_0 rfl (lv_at hl 0 rfl) ?_
  refine lv_aload_n hx hb d_Jb_copyFrom_1 rfl (lv_at hl 1 rfl) ?_
  refine gx_getI G hI cl_Jb (gx_ci_j hq0) 1 (by decide) (gx_rf_j hq0 1) fl_Jb_15 d_Jb_copyFrom_2 ?_
  obtain ⟨σ_1, eσ_1, hf⟩ := gx_lte hf
  refine gx_put G hI hA cl_Jb (gx_ci_j ho0) 1 (by decide) (gx_rf_j ho0 1) fl_Jb_15 rfl rfl rfl eσ_1 d_Jb_copyFrom_5 (fun H locs hI => ?_)
  refine lv_aload_n hx hb d_Jb_copyFrom_8 rfl (lv_at hl 0 rfl) ?_
  refine lv_aload_n hx hb d_Jb_copyFrom_9 rfl (lv_at hl 1 rfl) ?_
  refine gx_getI G hI cl_Jb (gx_ci_j hq0) 2 (by decide) (gx_rf_j hq0 2) fl_Jb_18 d_Jb_copyFrom_10 ?_
  obtain ⟨σ_2, eσ_2, hf⟩ := gx_lte hf
  refine gx_put G hI hA cl_Jb (gx_ci_j ho0) 2 (by decide) (gx_rf_j ho0 2) fl_Jb_18 rfl rfl rfl eσ_2 d_Jb_copyFrom_13 (fun H locs hI => ?_)
  refine lv_aload_n hx hb d_Jb_copyFrom_16 rfl (lv_at hl 0 rfl) ?_
  refine lv_aload_n hx hb d_Jb_copyFrom_17 rfl (lv_at hl 1 rfl) ?_
  refine gx_getI G hI cl_Jb (gx_ci_j hq0) 3 (by decide) (gx_rf_j hq0 3) fl_Jb_21 d_Jb_copyFrom_18 ?_
  obtain ⟨σ_3, eσ_3, hf⟩ := gx_lte hf
  refine gx_put G hI hA cl_Jb (gx_ci_j ho0) 3 (by decide) (gx_rf_j ho0 3) fl_Jb_21 rfl rfl rfl eσ_3 d_Jb_copyFrom_21 (fun H locs hI => ?_)
  refine lv_aload_n hx hb d_Jb_copyFrom_24 rfl (lv_at hl 0 rfl) ?_
  refine lv_aload_n hx hb d_Jb_copyFrom_25 rfl (lv_at hl 1 rfl) ?_
  refine gx_getI G hI cl_Jb (gx_ci_j hq0) 4 (by decide) (gx_rf_j hq0 4) fl_Jb_24 d_Jb_copyFrom_26 ?_
  obtain ⟨σ_4, eσ_4, hf⟩ := gx_lte hf
  refine gx_put G hI hA cl_Jb (gx_ci_j ho0) 4 (by decide) (gx_rf_j ho0 4) fl_Jb_24 rfl rfl rfl eσ_4 d_Jb_copyFrom_29 (fun H locs hI => ?_)
  refine lv_aload_n hx hb d_Jb_copyFrom_32 rfl (lv_at hl 0 rfl) ?_
  refine lv_aload_n hx hb d_Jb_copyFrom_33 rfl (lv_at hl 1 rfl) ?_
  refine gx_getI G hI cl_Jb (gx_ci_j hq0) 5 (by decide) (gx_rf_j hq0 5) fl_Jb_27 d_Jb_copyFrom_34 ?_
  obtain ⟨σ_5, eσ_5, hf⟩ := gx_lte hf
  refine gx_put G hI hA cl_Jb (gx_ci_j ho0) 5 (by decide) (gx_rf_j ho0 5) fl_Jb_27 rfl rfl rfl eσ_5 d_Jb_copyFrom_37 (fun H locs hI => ?_)
  refine lv_aload_n hx hb d_Jb_copyFrom_40 rfl (lv_at hl 0 rfl) ?_
  refine lv_aload_n hx hb d_Jb_copyFrom_41 rfl (lv_at hl 1 rfl) ?_
  refine gx_getI G hI cl_Jb (gx_ci_j hq0) 6 (by decide) (gx_rf_j hq0 6) fl_Jb_30 d_Jb_copyFrom_42 ?_
  obtain ⟨σ_6, eσ_6, hf⟩ := gx_lte hf
  refine gx_put G hI hA cl_Jb (gx_ci_j ho0) 6 (by decide) (gx_rf_j ho0 6) fl_Jb_30 rfl rfl rfl eσ_6 d_Jb_copyFrom_45 (fun H locs hI => ?_)
  refine lv_aload_n hx hb d_Jb_copyFrom_48 rfl (lv_at hl 0 rfl) ?_
  refine lv_aload_n hx hb d_Jb_copyFrom_49 rfl (lv_at hl 1 rfl) ?_
  refine gx_getI G hI cl_Jb (gx_ci_j hq0) 7 (by decide) (gx_rf_j hq0 7) fl_Jb_33 d_Jb_copyFrom_50 ?_
  obtain ⟨σ_7, eσ_7, hf⟩ := gx_lte hf
  refine gx_put G hI hA cl_Jb (gx_ci_j ho0) 7 (by decide) (gx_rf_j ho0 7) fl_Jb_33 rfl rfl rfl eσ_7 d_Jb_copyFrom_53 (fun H locs hI => ?_)
  refine lv_aload_n hx hb d_Jb_copyFrom_56 rfl (lv_at hl 0 rfl) ?_
  refine lv_aload_n hx hb d_Jb_copyFrom_57 rfl (lv_at hl 1 rfl) ?_
  refine gx_getI G hI cl_Jb (gx_ci_j hq0) 8 (by decide) (gx_rf_j hq0 8) fl_Jb_36 d_Jb_copyFrom_58 ?_
  obtain ⟨σ_8, eσ_8, hf⟩ := gx_lte hf
  refine gx_put G hI hA cl_Jb (gx_ci_j ho0) 8 (by decide) (gx_rf_j ho0 8) fl_Jb_36 rfl rfl rfl eσ_8 d_Jb_copyFrom_61 (fun H locs hI => ?_)
  refine lv_aload_n hx hb d_Jb_copyFrom_64 rfl (lv_at hl 0 rfl) ?_
  refine lv_aload_n hx hb d_Jb_copyFrom_65 rfl (lv_at hl 1 rfl) ?_
  refine gx_getI G hI cl_Jb (gx_ci_j hq0) 9 (by decide) (gx_rf_j hq0 9) fl_Jb_39 d_Jb_copyFrom_66 ?_
  obtain ⟨hb_10, hf⟩ := gx_gd hf
  obtain ⟨σ_9, eσ_9, hf⟩ := gx_lte hf
  refine gx_put G hI hA cl_Jb (gx_ci_j ho0) 9 (by decide) (gx_rf_j ho0 9) fl_Jb_39 rfl (gx_nb hb_10) (gx_fb hb_10) eσ_9 d_Jb_copyFrom_69 (fun H locs hI => ?_)
  refine lv_aload_n hx hb d_Jb_copyFrom_72 rfl (lv_at hl 0 rfl) ?_
  refine lv_aload_n hx hb d_Jb_copyFrom_73 rfl (lv_at hl 1 rfl) ?_
  refine gx_getI G hI cl_Jb (gx_ci_j hq0) 10 (by decide) (gx_rf_j hq0 10) fl_Jb_43 d_Jb_copyFrom_74 ?_
  obtain ⟨σ_11, eσ_11, hf⟩ := gx_lte hf
  refine gx_put G hI hA cl_Jb (gx_ci_j ho0) 10 (by decide) (gx_rf_j ho0 10) fl_Jb_43 rfl rfl rfl eσ_11 d_Jb_copyFrom_77 (fun H locs hI => ?_)
  refine lv_aload_n hx hb d_Jb_copyFrom_80 rfl (lv_at hl 0 rfl) ?_
  refine lv_aload_n hx hb d_Jb_copyFrom_81 rfl (lv_at hl 1 rfl) ?_
  refine gx_getI G hI cl_Jb (gx_ci_j hq0) 11 (by decide) (gx_rf_j hq0 11) fl_Jb_46 d_Jb_copyFrom_82 ?_
  obtain ⟨σ_12, eσ_12, hf⟩ := gx_lte hf
  refine gx_put G hI hA cl_Jb (gx_ci_j ho0) 11 (by decide) (gx_rf_j ho0 11) fl_Jb_46 rfl rfl rfl eσ_12 d_Jb_copyFrom_85 (fun H locs hI => ?_)
  refine lv_aload_n hx hb d_Jb_copyFrom_88 rfl (lv_at hl 0 rfl) ?_
  refine lv_aload_n hx hb d_Jb_copyFrom_89 rfl (lv_at hl 1 rfl) ?_
  refine gx_getI G hI cl_Jb (gx_ci_j hq0) 12 (by decide) (gx_rf_j hq0 12) fl_Jb_49 d_Jb_copyFrom_90 ?_
  obtain ⟨σ_13, eσ_13, hf⟩ := gx_lte hf
  refine gx_put G hI hA cl_Jb (gx_ci_j ho0) 12 (by decide) (gx_rf_j ho0 12) fl_Jb_49 rfl rfl rfl eσ_13 d_Jb_copyFrom_93 (fun H locs hI => ?_)
  refine lv_aload_n hx hb d_Jb_copyFrom_96 rfl (lv_at hl 0 rfl) ?_
  refine lv_aload_n hx hb d_Jb_copyFrom_97 rfl (lv_at hl 1 rfl) ?_
  refine gx_getI G hI cl_Jb (gx_ci_j hq0) 13 (by decide) (gx_rf_j hq0 13) fl_Jb_52 d_Jb_copyFrom_98 ?_
  obtain ⟨σ_14, eσ_14, hf⟩ := gx_lte hf
  refine gx_put G hI hA cl_Jb (gx_ci_j ho0) 13 (by decide) (gx_rf_j ho0 13) fl_Jb_52 rfl rfl rfl eσ_14 d_Jb_copyFrom_101 (fun H locs hI => ?_)
  cases hf
  exact W.vret hx hb hr (gx_F hI) hI.2.2.2 d_Jb_copyFrom_104
end
